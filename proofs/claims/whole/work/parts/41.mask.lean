/-! masks of programs *)  -/
theorem x_ushr_nI {k j : Nat} (hk : k < 2 ^ 31) (hj : j < 32) : x_ushr (nI k) (nI j) = nI (k >>> j) := by
  have hs : k >>> j ≤ k := by
    rw [Nat.shiftRight_eq_div_pow]
    exact Nat.div_le_self _ _
  have e2 : UInt32.ofNat k >>> (UInt32.ofNat j &&& Int32.toUInt32 31) = UInt32.ofNat (k >>> j) := by
    apply UInt32.toNat_inj.1
    have h1 : (UInt32.ofNat k).toNat = k := Nat.mod_eq_of_lt (by omega)
    have h2 : (UInt32.ofNat (k >>> j)).toNat = k >>> j := Nat.mod_eq_of_lt (by omega)
    rw [UInt32.toNat_shiftRight, nx_cnt ⟨j, hj⟩, h1, h2]
  show (UInt32.ofNat k >>> (UInt32.ofNat j &&& Int32.toUInt32 31)).toInt32 = _
  rw [e2]
  rfl
theorem bit_nI {m : Nat} (h : m < 65536) : F_J6_bitCount (nI m) = nI (pcN m) := by
  rw [← bc_pc h]
  have sl : ∀ k j : Nat, k >>> j ≤ k := fun k j => by
    rw [Nat.shiftRight_eq_div_pow]
    exact Nat.div_le_self _ _
  unfold F_J6_bitCount bcN
  have a1 : (m >>> 1) &&& 1431655765 ≤ m := Nat.le_trans Nat.and_le_left (sl _ _)
  have hA : nI m - (x_ushr (nI m) 1 &&& (1431655765 : Int32)) = nI (m - ((m >>> 1) &&& 1431655765)) := by
    rw [show (1 : Int32) = nI 1 from rfl, x_ushr_nI (by omega) (by decide), show (1431655765 : Int32) = nI 1431655765 from rfl, nx_and, pk_sub a1]
  rw [hA]
  simp only
  generalize hq : m - ((m >>> 1) &&& 1431655765) = a
  have ha : a < 65536 := by omega
  have b1 : a &&& 858993459 ≤ a := Nat.and_le_left
  have b2 : (a >>> 2) &&& 858993459 ≤ a := Nat.le_trans Nat.and_le_left (sl _ _)
  have hB : (nI a &&& (858993459 : Int32)) + (x_ushr (nI a) 2 &&& (858993459 : Int32)) = nI ((a &&& 858993459) + ((a >>> 2) &&& 858993459)) := by
    rw [show (2 : Int32) = nI 2 from rfl, x_ushr_nI (by omega) (by decide), show (858993459 : Int32) = nI 858993459 from rfl, nx_and, nx_and, nI_add]
  rw [hB]
  generalize hq2 : (a &&& 858993459) + ((a >>> 2) &&& 858993459) = b
  have hb : b < 131072 := by omega
  have c1 : b >>> 4 ≤ b := sl _ _
  have c2 : (b + (b >>> 4)) &&& 252645135 ≤ b + (b >>> 4) := Nat.and_le_left
  have hC : (nI b + x_ushr (nI b) 4) &&& (252645135 : Int32) = nI ((b + (b >>> 4)) &&& 252645135) := by
    rw [show (4 : Int32) = nI 4 from rfl, x_ushr_nI (by omega) (by decide), show (252645135 : Int32) = nI 252645135 from rfl, nI_add, nx_and]
  rw [hC]
  generalize hq3 : (b + (b >>> 4)) &&& 252645135 = c
  have hc : c < 262144 := by omega
  have d1 : c >>> 8 ≤ c := sl _ _
  have hD : nI c + x_ushr (nI c) 8 = nI (c + (c >>> 8)) := by
    rw [show (8 : Int32) = nI 8 from rfl, x_ushr_nI (by omega) (by decide), nI_add]
  rw [hD]
  generalize hq4 : c + (c >>> 8) = d
  have hd : d < 524288 := by omega
  rw [show (16 : Int32) = nI 16 from rfl, x_ushr_nI (by omega) (by decide), show (63 : Int32) = nI 63 from rfl, nI_add, nx_and]
theorem pc_ct (m : Nat) : pcN m = fb_ct m.testBit 16 := by
  have tb : ∀ i, (if m.testBit i then 1 else 0) = m / 2 ^ i % 2 := fun i => by
    rw [Nat.testBit_eq_decide_div_mod_eq]
    by_cases q : m / 2 ^ i % 2 = 1
    · rw [decide_eq_true q, q]
      rfl
    · rw [decide_eq_false q, if_neg (by decide)]
      omega
  simp only [fb_ct, tb]
  unfold pcN
  simp
theorem set_bit (m p k : Nat) : (m ||| 2 ^ p).testBit k = if k = p then true else m.testBit k := by
  rw [Nat.testBit_or, Nat.testBit_two_pow]
  by_cases q : k = p
  · rw [if_pos q, q]
    simp
  · rw [if_neg q, decide_eq_false (fun e => q e.symm), Bool.or_false]
theorem pc_set {m p : Nat} (hp : p < 16) : pcN (m ||| 2 ^ p) = pcN m + if m.testBit p then 0 else 1 := by
  rw [pc_ct, pc_ct, fb_ct_cong (q := fun k => if k = p then true else m.testBit k) (fun k _ => set_bit m p k)]
  have := fb_ct_upd m.testBit true (i := p) (n := 16) hp
  cases h : m.testBit p with
  | true =>
    rw [h] at this
    simp only [if_true] at this ⊢
    omega
  | false =>
    rw [h] at this
    simp at this ⊢
    omega
theorem set_lt {m p : Nat} (hm : m < 65536) (hp : p < 16) : m ||| 2 ^ p < 65536 := by
  have h1 : m < 2 ^ 16 := hm
  have h2 : 2 ^ p < 2 ^ 16 := Nat.pow_lt_pow_right (by decide) hp
  exact Nat.or_lt_two_pow h1 h2
theorem set_nI {m p : Nat} (hp : p < 16) : nI m ||| ((1 : Int32) <<< (nI p &&& 31)) = nI (m ||| 2 ^ p) := by
  apply Int32.toBitVec_inj.1
  rw [Int32.toBitVec_or, nf_sh p (by omega)]
  show BitVec.ofNat 32 m ||| BitVec.twoPow 32 p = BitVec.ofNat 32 (m ||| 2 ^ p)
  apply BitVec.eq_of_getLsbD_eq
  intro i hi
  rw [BitVec.getLsbD_or, BitVec.getLsbD_ofNat, BitVec.getLsbD_ofNat, BitVec.getLsbD_twoPow, Nat.testBit_or, Nat.testBit_two_pow, decide_eq_true hi, Bool.true_and, Bool.true_and, decide_eq_true (show p < 32 by omega), Bool.true_and]
theorem bt_nI (k i : Nat) (hi : i < 32) : bt (nI k) i = k.testBit i := by
  show (BitVec.ofNat 32 k).getLsbD i = _
  rw [BitVec.getLsbD_ofNat, decide_eq_true hi, Bool.true_and]
theorem test_nI {m p : Nat} (hm : m < 65536) (hp : p < 16) : ((nI m >>> (nI p &&& 31)) &&& 1) = 0 ↔ m.testBit p = false := by
  have big : ∀ i, 16 ≤ i → m.testBit i = false := fun i hi => Nat.testBit_lt_two_pow (Nat.lt_of_lt_of_le (show m < 2 ^ 16 from hm) (Nat.pow_le_pow_right (by decide) hi))
  have e : nI m >>> (nI p &&& 31) = nI (m >>> p) := by
    apply b_ext
    intro i hi
    rw [b_sshr p (by omega) _ hi, bt_nI _ _ hi, Nat.testBit_shiftRight]
    by_cases q : p + i < 32
    · rw [if_pos q, bt_nI _ _ q]
    · rw [if_neg q, bt_nI _ _ (by decide), big _ (by omega), big _ (by omega)]
  have hs : m >>> p ≤ m := by
    rw [Nat.shiftRight_eq_div_pow]
    exact Nat.div_le_self _ _
  rw [e]
  show nI (m >>> p) &&& nI 1 = 0 ↔ _
  rw [nx_and, Nat.and_one_is_mod, ← nI_0, nI_eq (by omega) (by omega), Nat.testBit_eq_decide_div_mod_eq, Nat.shiftRight_eq_div_pow, decide_eq_false_iff_not]
  generalize m / 2 ^ p = z
  omega
