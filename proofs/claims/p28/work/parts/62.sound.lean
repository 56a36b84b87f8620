/-! the law's soundness holds *)  -/
theorem x_remN {l s : Nat} (hl : l < 2 ^ 31) (h0 : 0 < s) (hs : s < 2 ^ 31) : x_rem (nI l) (nI s) = nI (l % s) := pk_rem hl h0 hs
theorem kIdx_at {L : List xR} {i l : Nat} {r : xR} (hn : (L.map (fun r => r 0)).Nodup) (h : L[i]? = some r) (e : r 0 = nI l) : kIdx L (nI l) = i := by
  have hk : kIdx L (nI l) < L.length := kIdx_in.mpr ⟨r, List.mem_of_getElem? h, e⟩
  have e1 : L[kIdx L (nI l)]? = some (L[kIdx L (nI l)]) := List.getElem?_eq_getElem hk
  have e2 : (L[kIdx L (nI l)]) 0 = nI l := of_decide_eq_true (List.findIdx_getElem (xs := L) (p := fun r : xR => decide (r 0 = nI l)) (w := hk))
  exact nd_key hn e1 h (by rw [e2, e])
theorem nI_p {k : Nat} (hk : k < 2 ^ 31) : (0 : Int32) < nI k ↔ 0 < k := nI_ltI (a := 0) (by omega) hk
theorem int_swap (x y z : Int32) : x - y + z = x + z - y := by
  rw [Int32.sub_eq_add_neg, Int32.sub_eq_add_neg, Int32.add_assoc, Int32.add_assoc, Int32.add_comm (-y) z]
section E
variable {B n : Nat} {σ : xM} {a : xA} {tp sn : Option xA}
theorem H_1 (R : PRel B σ a tp sn) (hn : 400 < n) {h : Nat} (hh : h < aC a 2) (w : Nat) {v : Int32} (hw : w < 16) (e : oH a h w = v) : F_X4_helper n σ (nI h) (nI w) = some v := by rw [E_helper R hn hh hw, e]
theorem S_218 (R : PRel B σ a tp sn) (hn : 400 < n) {h : Nat} (hh : h < aC a 2) (K9 : Int32 → Int32 → Int32 → Int32 → Option Int32) (l1 l2 l3 s0 : Int32) : B_L_isSound_218 n σ K9 l1 l2 l3 (nI h) s0 s0 = K9 (l1 + nI (aH a h 6)) (l2 + nI (aH a h 7)) (l3 + nI (nN a h)) (nI (h + 1)) := by
  unfold B_L_isSound_218
  rw [if_pos rfl, show F_X4_helper n σ (nI h) 7 = some (nI (aH a h 6)) from H_1 R hn hh 7 (by decide) rfl, Option.bind_some, show F_X4_helper n σ (nI h) 8 = some (nI (aH a h 7)) from H_1 R hn hh 8 (by decide) rfl, Option.bind_some, show F_X4_helper n σ (nI h) 10 = some (nI (nN a h)) from H_1 R hn hh 10 (by decide) rfl, Option.bind_some, nI_1]
theorem S_147 (R : PRel B σ a tp sn) (hn : 400 < n) {h : Nat} (hh : h < aC a 2) (K9 : Int32 → Int32 → Int32 → Int32 → Option Int32) (l1 l2 l3 : Int32) : B_L_isSound_147 n σ K9 l1 l2 l3 (nI h) (nI (aH a h 3)) (nI (aH a h 4)) (nI (aH a h 5)) (if aH a h 3 = 2 then 1 else 0) = K9 (l1 + nI (aH a h 6)) (l2 + nI (aH a h 7)) (l3 + nI (nN a h)) (nI (h + 1)) := by
  obtain ⟨j1, j2, j3⟩ := (R.jnv.2.1 h hh).1
  have i9 := R.inv.2.2.2.1 h hh
  have hb := R.inv.b
  have e6 : F_X4_helper n σ (nI h) 6 = some (nI (sReach a h)) := H_1 R hn hh 6 (by decide) rfl
  have e1 : F_X4_helper n σ (nI h) 1 = some (nI (aH a h 1)) := H_1 R hn hh 1 (by decide) rfl
  rcases (show aH a h 3 = 0 ∨ aH a h 3 = 1 ∨ aH a h 3 = 2 by omega) with e | e | e
  · have h4 : ¬ (0 : Int32) < nI (aH a h 4) := fun z => by have := (nI_p (by omega)).mp z; omega
    have h5 : ¬ (0 : Int32) < nI (aH a h 5) := fun z => by have := (nI_p (by omega)).mp z; omega
    have er : sReach a h = aH a h 1 := by unfold sReach; rw [if_pos e]
    unfold B_L_isSound_147 B_L_isSound_157 B_L_isSound_171
    simp only [if_neg h4, if_neg h5]
    rw [e]
    unfold B_L_isSound_181
    show ((F_X4_helper n σ (nI h) 6).bind fun q29 => (F_X4_helper n σ (nI h) 1).bind fun q30 => B_L_isSound_218 n σ K9 l1 l2 l3 (nI h) q29 q30) = _
    rw [e6, Option.bind_some, e1, Option.bind_some, er]
    exact S_218 R hn hh K9 l1 l2 l3 _
  · have h4 : ¬ (0 : Int32) < nI (aH a h 4) := fun z => by have := (nI_p (by omega)).mp z; omega
    have h5 : (0 : Int32) < nI (aH a h 5) := (nI_p (by omega)).mpr (by omega)
    have er : sReach a h = 1 := by unfold sReach; rw [if_neg (by omega), if_pos e]
    unfold B_L_isSound_147 B_L_isSound_157 B_L_isSound_171
    simp only [if_neg h4, if_pos h5]
    rw [e]
    unfold B_L_isSound_181
    show ((F_X4_helper n σ (nI h) 6).bind fun q29 => B_L_isSound_218 n σ K9 l1 l2 l3 (nI h) q29 1) = _
    rw [e6, Option.bind_some, er]
    exact S_218 R hn hh K9 l1 l2 l3 _
  · have h4 : (0 : Int32) < nI (aH a h 4) := (nI_p (by omega)).mpr (by omega)
    have h5 : ¬ (0 : Int32) < nI (aH a h 5) := fun z => by have := (nI_p (by omega)).mp z; omega
    have er : sReach a h = 0 := by unfold sReach; rw [if_neg (by omega), if_neg (by omega)]
    unfold B_L_isSound_147 B_L_isSound_157 B_L_isSound_171
    simp only [if_pos h4, if_neg h5]
    rw [e]
    unfold B_L_isSound_181
    show ((F_X4_helper n σ (nI h) 6).bind fun q29 => B_L_isSound_218 n σ K9 l1 l2 l3 (nI h) q29 0) = _
    rw [e6, Option.bind_some, er]
    exact S_218 R hn hh K9 l1 l2 l3 _
theorem S_9 (R : PRel B σ a tp sn) (hn : 400 < n) : ∀ (f i : Nat), i ≤ aC a 2 → aC a 2 - i < f → B_L_isSound_9 n σ f (nI (sumH (aH a) 6 i)) (nI (sumH (aH a) 7 i)) (nI (sNewAll a i)) (nI i) = B_L_isSound_268 n σ n (nI (sumH (aH a) 6 (aC a 2))) (nI (sumH (aH a) 7 (aC a 2))) (nI (sNewAll a (aC a 2))) 0 0 := by
  intro f
  have h6 := R.h6
  induction f with
  | zero => intro i _ h; omega
  | succ f ih =>
    intro i hi hf
    show ((F_X4_count n σ (nI 10)).bind fun q1 => if nI i < q1 then _ else _) = _
    rw [E_count R hn (k := 10) (by decide) (by decide), Option.bind_some, show oC a 10 = nI (aC a 2) from rfl]
    by_cases q : i < aC a 2
    · have J := R.jnv.2.1 i q
      have fl : aH a i 6 = aH a i 7 + aH a i 8 + nN a i := J.2
      have j1 := J.1.1
      have i9 := R.inv.2.2.2.1 i q
      rw [if_pos (nI_lt q (by omega)), ← ih (i + 1) q (by omega)]
      rw [show F_X4_helper n σ (nI i) 3 = some (nI (aH a i 3)) from H_1 R hn q 3 (by decide) rfl, Option.bind_some, show F_X4_helper n σ (nI i) 4 = some (nI (aH a i 4)) from H_1 R hn q 4 (by decide) rfl, Option.bind_some, show F_X4_helper n σ (nI i) 5 = some (nI (aH a i 5)) from H_1 R hn q 5 (by decide) rfl, Option.bind_some, show F_X4_helper n σ (nI i) 7 = some (nI (aH a i 6)) from H_1 R hn q 7 (by decide) rfl, Option.bind_some, show F_X4_helper n σ (nI i) 8 = some (nI (aH a i 7)) from H_1 R hn q 8 (by decide) rfl, Option.bind_some, show F_X4_helper n σ (nI i) 9 = some (nI (aH a i 8)) from H_1 R hn q 9 (by decide) rfl, Option.bind_some, show F_X4_helper n σ (nI i) 10 = some (nI (nN a i)) from H_1 R hn q 10 (by decide) rfl, Option.bind_some, nI_add, nI_add, if_pos (congrArg nI fl)]
      rw [show F_X4_helper n σ (nI i) 12 = some (nI (aH a i 10)) from H_1 R hn q 12 (by decide) rfl, Option.bind_some, show F_X4_helper n σ (nI i) 13 = some (nI (aH a i 11)) from H_1 R hn q 13 (by decide) rfl, Option.bind_some, show F_X4_helper n σ (nI i) 2 = some (nI (aH a i 2)) from H_1 R hn q 2 (by decide) rfl, Option.bind_some, Option.bind_some, show F_X4_helper n σ (nI i) 11 = some (nI (aH a i 9)) from H_1 R hn q 11 (by decide) rfl, Option.bind_some, nI_add, nI_add, pk_mul, show (2 : Int32) * nI (aH a i 9) = nI (2 * aH a i 9) from pk_mul 2 _, nI_add, if_pos (congrArg nI j1)]
      have e : ∀ x y : Option Int32, (∀ v : Int32, v = (if aH a i 3 = 2 then 1 else 0) → True) → True := fun _ _ _ => trivial
      have key := S_147 R hn q (fun l1 l2 l3 l4 => B_L_isSound_9 n σ f l1 l2 l3 l4) (nI (sumH (aH a) 6 i)) (nI (sumH (aH a) 7 i)) (nI (sNewAll a i))
      rw [nI_add, nI_add, nI_add] at key
      by_cases c : aH a i 3 = 2
      · rw [if_pos c] at key
        rw [if_pos (show nI (aH a i 3) = (2 : Int32) from congrArg nI c)]
        exact key
      · rw [if_neg c] at key
        rw [if_neg (show ¬ nI (aH a i 3) = (2 : Int32) from fun e => c ((nI_eq (b := 2) (by omega) (by omega)).mp e))]
        exact key
    · rw [if_neg (nI_nlt (by omega) (by omega)), show i = aC a 2 by omega]
theorem L_1 (R : PRel B σ a tp sn) (hn : 400 < n) {l : Nat} (hl : l < 10000) (w : Nat) {v : Int32} (hw : w < 6) (e : oL a l w = v) : F_X4_line n σ (nI l) (nI w) = some v := by rw [E_line R hn hl hw, e]
theorem S_282 (R : PRel B σ a tp sn) (hn : 400 < n) {s : Nat} (hs : s < aC a 0) (K268 : Int32 → Int32 → Int32 → Int32 → Int32 → Option Int32) (l1 l2 l3 : Int32) : ∀ (f i : Nat), i ≤ 5 → 5 - i < f → B_L_isSound_282 n σ K268 f l1 l2 l3 (nI (sLines a s + min i (aS a s).length)) (nI s) (nI i) = K268 l1 l2 l3 (nI (sLines a (s + 1))) (nI (s + 1)) := by
  intro f
  have h8 := R.inv.1.2.1
  have w4 := R.inv.1.2.2.2.1
  have iS := R.inv.2.1 s
  have l4 := iS.2.1
  induction f with
  | zero => intro i _ h; omega
  | succ f ih =>
    intro i hi hf
    show (if nI i < (5 : Int32) then _ else _) = _
    by_cases q : i < 5
    · rw [if_pos (show nI i < (5 : Int32) from nI_lt (b := 5) q (by omega)), ← ih (i + 1) q (by omega), E_inSet R hs (by omega), Option.bind_some]
      by_cases c : i < (aS a s).length
      · obtain ⟨r, hr⟩ := get_of c
        have hm := List.mem_of_getElem? hr
        obtain ⟨⟨l, hl, e0, em⟩, -, -⟩ := iS.2.2.1 r hm
        have ek : kIdx (aS a s) (nI l) = i := kIdx_at iS.2.2.2 hr e0
        have et : ¬ kIdx (aT a) (nI l) < (aT a).length := fun z => by
          obtain ⟨t, ht, e9⟩ := kIdx_in.mp z
          exact R.inv.2.2.1.2.2.2 s r t hm ht (by rw [e0, e9])
        have e3 : oL a l 3 = nI i := by
          show (if kIdx (aS a (l % aC a 0)) (nI l) < (aS a (l % aC a 0)).length then nI (kIdx (aS a (l % aC a 0)) (nI l)) else -100005) = _
          rw [em, ek, if_pos c]
        have e4 : oL a l 4 = -100005 := if_neg et
        rw [oR_in hr, e0, if_neg (nI_pos (by omega))]
        unfold B_L_isSound_308
        rw [if_neg (show ¬ (1 : Int32) = 0 by decide)]
        unfold B_L_isSound_322
        rw [if_neg (show ¬ (1 : Int32) = 0 by decide), show F_X4_count n σ 7 = some (nI (aC a 1)) from E_count R hn (k := 7) (by decide) (by decide), Option.bind_some, if_pos (nI_lt (by omega) (by omega)), show F_X4_count n σ 6 = some (nI (aC a 0)) from E_count R hn (k := 6) (by decide) (by decide), Option.bind_some, if_neg (nI_ne0 (by omega) (by omega)), x_remN (by omega) (by omega) (by omega), em, if_pos rfl, show F_X4_line n σ (nI l) 3 = some (nI i) from L_1 R hn hl 3 (by decide) e3, Option.bind_some, if_pos rfl, show F_X4_line n σ (nI l) 4 = some (-100005) from L_1 R hn hl 4 (by decide) e4, Option.bind_some, if_pos rfl]
        unfold B_L_isSound_381
        rw [nI_1, nI_1, show sLines a s + min (i + 1) (aS a s).length = sLines a s + min i (aS a s).length + 1 by omega]
      · rw [oR_out c, if_pos (show (-100005 : Int32) < 0 by decide)]
        unfold B_L_isSound_308
        rw [if_pos rfl]
        unfold B_L_isSound_322
        rw [if_pos rfl]
        unfold B_L_isSound_381
        rw [nI_1, Int32.add_zero, show sLines a s + min (i + 1) (aS a s).length = sLines a s + min i (aS a s).length by omega]
    · have e : i = 5 := by omega
      subst e
      show K268 l1 l2 l3 _ (nI s + 1) = _
      rw [nI_1, show min 5 (aS a s).length = (aS a s).length by omega]
      rfl
theorem S_268 (R : PRel B σ a tp sn) (hn : 400 < n) (l1 l2 l3 : Int32) : ∀ (f s : Nat), s ≤ aC a 0 → aC a 0 - s < f → B_L_isSound_268 n σ f l1 l2 l3 (nI (sLines a s)) (nI s) = B_L_isSound_396 n σ n l1 l2 l3 (nI (sLines a (aC a 0))) 0 := by
  intro f
  have h8 := R.inv.1.2.1
  induction f with
  | zero => intro i _ h; omega
  | succ f ih =>
    intro s hs hf
    show ((F_X4_count n σ (nI 6)).bind fun q1 => if nI s < q1 then _ else _) = _
    rw [E_count R hn (k := 6) (by decide) (by decide), Option.bind_some, show oC a 6 = nI (aC a 0) from rfl]
    by_cases q : s < aC a 0
    · rw [if_pos (nI_lt q (by omega)), ← ih (s + 1) q (by omega)]
      have key := S_282 R hn q (fun l1 l2 l3 l4 l5 => B_L_isSound_268 n σ f l1 l2 l3 l4 l5) l1 l2 l3 n 0 (by omega) (by omega)
      rw [Nat.zero_min, Nat.add_zero] at key
      exact key
    · rw [if_neg (nI_nlt (by omega) (by omega)), show s = aC a 0 by omega]
theorem lines_all (R : PRel B σ a tp sn) : sLines a (aC a 0) = sLines a 8 := by
  have h8 := R.inv.1.2.1
  have h : ∀ k, aC a 0 + k ≤ 8 → sLines a (aC a 0 + k) = sLines a (aC a 0) := by
    intro k
    induction k with
    | zero => intro _; rfl
    | succ k ih =>
      intro hk
      show sLines a (aC a 0 + k) + (aS a (aC a 0 + k)).length = _
      rw [ih (by omega), (R.inv.2.1 (aC a 0 + k)).1 (by omega)]
      rfl
  have := h (8 - aC a 0) (by omega)
  rw [show aC a 0 + (8 - aC a 0) = 8 by omega] at this
  exact this.symm
theorem S_396 (R : PRel B σ a tp sn) (hn : 400 < n) : ∀ (f k : Nat), k ≤ 8 → 8 - k < f → B_L_isSound_396 n σ f (nI (sumH (aH a) 6 (aC a 2))) (nI (sumH (aH a) 7 (aC a 2))) (nI (sNewAll a (aC a 2))) (nI (sLines a 8)) (nI k) = some 1 := by
  intro f
  obtain ⟨iT1, iT2, iT3, iT4⟩ := R.inv.2.2.1
  obtain ⟨-, J2, J3, J4⟩ := R.jnv.2
  induction f with
  | zero => intro i _ h; omega
  | succ f ih =>
    intro k hk hf
    show (if nI k < (8 : Int32) then _ else _) = _
    by_cases q : k < 8
    · rw [if_pos (show nI k < (8 : Int32) from nI_lt (b := 8) q (by omega)), ← ih (k + 1) q (by omega), E_thrown R (by omega), Option.bind_some]
      have e13 : F_X4_count n σ 13 = some (nI (aT a).length) := E_count R hn (k := 13) (by decide) (by decide)
      by_cases c : k < (aT a).length
      · obtain ⟨r, hr⟩ := get_of c
        have hm := List.mem_of_getElem? hr
        obtain ⟨⟨l, hl, e0⟩, -⟩ := iT2 r hm
        have ek : kIdx (aT a) (nI l) = k := kIdx_at iT3 hr e0
        have es : ¬ kIdx (aS a (l % aC a 0)) (nI l) < (aS a (l % aC a 0)).length := fun z => by
          obtain ⟨t, ht, e9⟩ := kIdx_in.mp z
          exact iT4 _ t r ht hm (by rw [e0, e9])
        have e4 : oL a l 4 = nI k := by
          show (if kIdx (aT a) (nI l) < (aT a).length then nI (kIdx (aT a) (nI l)) else -100005) = _
          rw [ek, if_pos c]
        have e1 : oL a l 0 = 0 := if_neg es
        rw [oR_in hr, e0, if_neg (nI_pos (by omega))]
        unfold B_L_isSound_421
        rw [e13, Option.bind_some, if_pos (nI_lt c (by omega))]
        unfold B_L_isSound_437
        rw [if_pos rfl, if_neg (nI_pos (by omega)), show F_X4_line n σ (nI l) 4 = some (nI k) from L_1 R hn hl 4 (by decide) e4, Option.bind_some, if_pos rfl, show F_X4_line n σ (nI l) 0 = some 0 from L_1 R hn hl 0 (by decide) e1, Option.bind_some, if_neg (by decide)]
        unfold B_L_isSound_470
        rw [nI_1]
      · rw [oR_out c, if_pos (show (-100005 : Int32) < 0 by decide)]
        unfold B_L_isSound_421
        rw [e13, Option.bind_some, if_neg (nI_nlt (by omega) (by omega))]
        unfold B_L_isSound_437
        rw [if_pos rfl, if_pos (by decide)]
        unfold B_L_isSound_470
        rw [nI_1]
    · have e : k = 8 := by omega
      subst e
      rw [if_neg (show ¬ nI 8 < (8 : Int32) by decide)]
      have c0 : F_X4_count n σ 0 = some (nI (aC a 4)) := E_count R hn (k := 0) (by decide) (by decide)
      have c1 : F_X4_count n σ 1 = some (nI (aC a 5)) := E_count R hn (k := 1) (by decide) (by decide)
      have c2 : F_X4_count n σ 2 = some (nI (aC a 6)) := E_count R hn (k := 2) (by decide) (by decide)
      have c3 : F_X4_count n σ 3 = some (nI (aC a 4) - nI (aC a 5)) := E_count R hn (k := 3) (by decide) (by decide)
      have c4 : F_X4_count n σ 4 = some (nI (aC a 7)) := E_count R hn (k := 4) (by decide) (by decide)
      have c5 : F_X4_count n σ 5 = some (nI (aC a 8)) := E_count R hn (k := 5) (by decide) (by decide)
      have c8 : F_X4_count n σ 8 = some (nI (sLines a 8)) := E_count R hn (k := 8) (by decide) (by decide)
      have c9 : F_X4_count n σ 9 = some (nI (sNewAll a (aC a 2))) := E_count R hn (k := 9) (by decide) (by decide)
      have sum : nI (aC a 4) - nI (aC a 5) + nI (aC a 7) = nI (sLines a 8) + nI (aC a 8) := by
        rw [int_swap, nI_add, nI_add, sLines_nA, show aC a 4 + aC a 7 = nA a + aC a 8 + aC a 5 from J4, ← nI_add (nA a + aC a 8) (aC a 5), Int32.add_sub_cancel]
      rw [c3, Option.bind_some, c4, Option.bind_some, c8, Option.bind_some, c5, Option.bind_some, if_pos sum]
      unfold B_L_isSound_507
      rw [if_neg (by decide), c0, Option.bind_some, c1, Option.bind_some, c3, Option.bind_some, if_pos (by rw [Int32.add_comm, Int32.sub_add_cancel]), c4, Option.bind_some, if_pos (congrArg nI (show aC a 7 = sumH (aH a) 6 (aC a 2) by omega)), c2, Option.bind_some, if_pos (congrArg nI (show aC a 6 = sumH (aH a) 7 (aC a 2) by omega)), c9, Option.bind_some, if_pos rfl, c8, Option.bind_some, if_pos rfl]
theorem E_sound (R : PRel B σ a tp sn) (hn : 400 < n) : F_L_isSound n σ = some 1 := by
  have h6 := R.h6
  have h8 := R.inv.1.2.1
  refine (S_9 R hn n 0 (by omega) (by omega)).trans ?_
  refine (S_268 R hn _ _ _ n 0 (by omega) (by omega)).trans ?_
  rw [lines_all R]
  exact S_396 R hn n 0 (by omega) (by omega)
end E
