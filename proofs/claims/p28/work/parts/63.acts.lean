/-! the law's acts *)  -/
def lowN (x : Int32) (m : Nat) : Nat := (x &&& (2147483647 : Int32)).toNatClampNeg % m
theorem lowN_lt (x : Int32) {m : Nat} (h : 0 < m) : lowN x m < m := Nat.mod_lt _ h
theorem lowE (n : Nat) (σ : xM) (x : Int32) {m : Nat} (h0 : 0 < m) (hm : m < 2 ^ 31) : F_L_low n σ x (nI m) = some (nI (lowN x m)) := by
  unfold F_L_low lowN
  obtain ⟨j, hj, e⟩ := pk_andE x (m := (2147483647 : Int32)) 31 (by decide)
  rw [if_neg (nI_ne0 h0 hm), e, x_remN hj h0 hm, nI_clamp hj]
theorem PA.eta {B : Nat} {a : xA} {tp sn : Option xA} {f : Option (Int32 × xM)} (h : PA B a tp sn f) : PA B a tp sn (f.bind fun q => some (q.1, q.2)) := by
  obtain ⟨v, σ', e, h⟩ := h
  exact ⟨v, σ', by rw [e]; rfl, h⟩
theorem P_acts {B n : Nat} {σ : xM} {a : xA} {tp sn : Option xA} (R : PRel B σ a tp sn) (hn : 400 < n) (hB : B + 30000 < 2 ^ 30) (y : Int32) : PA (B + 30000) a tp sn (F_L_acts n σ y) := by
  have l2 : ∀ x, F_L_low n σ x 2 = some (nI (lowN x 2)) := fun x => lowE n σ x (m := 2) (by decide) (by decide)
  have l3 : ∀ x, F_L_low n σ x 3 = some (nI (lowN x 3)) := fun x => lowE n σ x (m := 3) (by decide) (by decide)
  have l4 : ∀ x, F_L_low n σ x 4 = some (nI (lowN x 4)) := fun x => lowE n σ x (m := 4) (by decide) (by decide)
  have l5 : ∀ x, F_L_low n σ x 5 = some (nI (lowN x 5)) := fun x => lowE n σ x (m := 5) (by decide) (by decide)
  have l6 : ∀ x, F_L_low n σ x 6 = some (nI (lowN x 6)) := fun x => lowE n σ x (m := 6) (by decide) (by decide)
  have l8 : ∀ x, F_L_low n σ x 8 = some (nI (lowN x 8)) := fun x => lowE n σ x (m := 8) (by decide) (by decide)
  have l9 : ∀ x, F_L_low n σ x 9 = some (nI (lowN x 9)) := fun x => lowE n σ x (m := 9) (by decide) (by decide)
  have l12 : ∀ x, F_L_low n σ x 12 = some (nI (lowN x 12)) := fun x => lowE n σ x (m := 12) (by decide) (by decide)
  have l16 : ∀ x, F_L_low n σ x 16 = some (nI (lowN x 16)) := fun x => lowE n σ x (m := 16) (by decide) (by decide)
  have l40 : ∀ x, F_L_low n σ x 40 = some (nI (lowN x 40)) := fun x => lowE n σ x (m := 40) (by decide) (by decide)
  have key : ∀ (x h p s s1 : Int32) (r : Nat), F_L_low n σ s s1 = some (nI r) → PA (B + 30000) a tp sn (B_L_acts_37 n σ x h p s s1) := by
    intro x h p s s1 r hr
    unfold B_L_acts_37
    rw [hr, Option.bind_some]
    simp only [l3, l4, l5, l6, l8, l9, l16, Option.bind_some]
    split
    · exact (P_shape R hn hB _ _).eta
    split
    · exact (P_flush R hn hB).eta
    split
    · exact (P_addHelper R hn hB _ _ _).eta
    split
    · exact (P_setDegree R hn hB _ _).eta
    split
    · exact (P_setTrial R hn hB _).eta
    split
    · exact (P_pardon R hn hB _).eta
    split
    · exact (P_forget R hn hB _).eta
    split
    · exact (P_walk R hn hB _ _ _ _).eta
    split
    · exact (P_walk R hn hB _ _ _ _).eta
    split
    · exact (P_walk R hn hB _ _ _ _).eta
    · exact (P_access R hn hB _ _).eta
  unfold F_L_acts
  rw [l4, Option.bind_some, l3, Option.bind_some]
  split
  · exact key _ _ _ _ _ _ (l40 _)
  · exact key _ _ _ _ _ _ (l12 _)
/-! what is foretold comes about *)  -/
theorem walk_yes {p l c : Nat} {st : Int32} (hp : p < 16) (hl : l < 10000) (c1 : 1 ≤ c) (c30 : c ≤ 30) (h1 : -999 ≤ st.toInt) (h2 : st.toInt ≤ 999) (h3 : 0 ≤ (l : Int) + ((c - 1 : Nat) : Int) * st.toInt) (h4 : (l : Int) + ((c - 1 : Nat) : Int) * st.toInt ≤ 9999) : F_X4_isWalk (nI p) (nI l) st (nI c) = 1 ∧ ∀ k, k < c → ∃ y, y < 10000 ∧ nI l + nI k * st = nI y := by
  obtain ⟨d, rfl⟩ : ∃ d, c = d + 1 := ⟨c - 1, by omega⟩
  rw [Nat.add_sub_cancel] at h3 h4
  have e := lin_toInt (k := d) hl (by omega) h1 h2
  have o1 : F_X4_isOutside (nI p) 0 15 = 0 := C_outside (lo := 0) (hi := 15) (by omega) (by omega) (by decide)
  have o2 : F_X4_isOutside (nI l) 0 9999 = 0 := C_outside (lo := 0) (hi := 9999) (by omega) (by omega) (by decide)
  have o4 : F_X4_isOutside (nI (d + 1)) 1 30 = 0 := C_outside (lo := 1) (hi := 30) (by omega) (by omega) (by decide)
  have o3 : F_X4_isOutside st (-999) 999 = 0 := by
    rcases io_s (x := st) with ⟨o, -⟩ | o
    · exact o
    · exfalso
      unfold F_X4_isOutside at o
      have t1 : (-999 : Int32).toInt = -999 := by decide
      have t2 : (999 : Int32).toInt = 999 := by decide
      rw [if_neg (show ¬ st < -999 from fun z => by rw [Int32.lt_iff_toInt_lt] at z; omega), if_neg (show ¬ 999 < st from fun z => by rw [Int32.lt_iff_toInt_lt] at z; omega)] at o
      exact absurd o (by decide)
  have hw := walk_ok (c := d) hl (by omega) h1 h2 (by rw [e]; exact h3) (by rw [e]; exact h4)
  obtain ⟨y, hy, ey⟩ := hw d (by omega)
  have ec : nI l + st * (nI (d + 1) - 1) = nI y := by rw [nI_pred, Int32.mul_comm, ey]
  have o5 : F_X4_isOutside (nI y) 0 9999 = 0 := C_outside (lo := 0) (hi := 9999) (by omega) (by omega) (by decide)
  refine ⟨?_, hw⟩
  unfold F_X4_isWalk
  rw [ec, o1, o2, o3, o4, o5, z00, z00, z00, z00, z00]
theorem fold_le (h1 : Nat) : ∀ (ls : List Nat) (q : Nat × xA), (ls.foldl (sFetch1 h1) q).1 ≤ q.1 + ls.length := by
  intro ls
  induction ls with
  | nil => intro q; exact Nat.le_refl _
  | cons l ls ih =>
    intro q
    have hl : (l :: ls).length = ls.length + 1 := rfl
    have h := ih (sFetch1 h1 q l)
    have e : (sFetch1 h1 q l).1 ≤ q.1 + 1 := by
      unfold sFetch1
      split
      · omega
      · exact Nat.le_refl _
    rw [List.foldl_cons]
    omega
theorem help_le (a : xA) (h p l o : Nat) : (sHelp a h p l o).1 ≤ (sAsk a h p l o).length := by
  have := fold_le h (sAsk a h p l o) (0, (sLearn a h p l o).2)
  show (sFetches (sLearn a h p l o).2 h (sAsk a h p l o)).1 ≤ _
  unfold sFetches
  omega
/-- how many lines are asked for by the first k helpers -/
def asked (a : xA) (p l : Nat) : Nat → Nat
  | 0 => 0
  | k + 1 => asked a p l k + (goAsk a p l k).length
def ahead (a : xA) (p l : Nat) (k : Nat) : Nat := (sHelps p l (sServe (sWork (aC a 2) a) l).1 k (sServe (sWork (aC a 2) a) l).2).1
theorem ahead_le (a : xA) (p l : Nat) : ∀ k, ahead a p l k ≤ asked a p l k := by
  intro k
  induction k with
  | zero => exact Nat.le_refl _
  | succ k ih => exact Nat.add_le_add ih (help_le _ _ _ _ _)
theorem goAsk_le {B : Nat} {a : xA} (I : Inv B a) (hB : B + 1000 < 2 ^ 30) {h p l : Nat} (hh : h < aC a 2) (hp : p < 16) (hl : l < 10000) : (goAsk a p l h).length ≤ 4 := by
  have h6 := I.hn
  have I1 := Inv_serve (l := l) (Inv_work I (aC a 2)) hl (by omega)
  have e2 : aC (sServe (sWork (aC a 2) a) l).2 2 = aC a 2 := by rw [sServe_C _ _ _ (by decide), (sWork_r a _).2.2.2.2]
  have I3 := Inv_helps (l := l) (o := (sServe (sWork (aC a 2) a) l).1) I1 hp h (by omega) (by omega)
  exact (sAsk_ok I3 (by rw [sHelps_C _ _ _ _ (by decide)]; omega) hp).1
theorem asked_lt {B : Nat} {a : xA} (I : Inv B a) (hB : B + 1000 < 2 ^ 30) {p l : Nat} (hp : p < 16) (hl : l < 10000) : ∀ k, k ≤ aC a 2 → asked a p l k ≤ 4 * k := by
  intro k
  induction k with
  | zero => intro _; exact Nat.le_refl _
  | succ k ih =>
    intro hk
    have := goAsk_le I hB (show k < aC a 2 by omega) hp hl
    have := ih (by omega)
    show asked a p l k + (goAsk a p l k).length ≤ _
    omega
theorem go_log (a : xA) (p l : Nat) : ∃ L r, aL (sGo a p l).2 = L ++ [r] ∧ r 3 = nI (ahead a p l (aC a 2)) := ⟨_, _, rfl, rfl⟩
theorem go_7 (a : xA) (p l : Nat) : aC (sGo a p l).2 7 = aC a 7 + ahead a p l (aC a 2) := by
  have e : aC (sHelps p l (sServe (sWork (aC a 2) a) l).1 (aC a 2) (sServe (sWork (aC a 2) a) l).2).2 7 = aC a 7 := by
    rw [sHelps_C _ _ _ _ (by decide), sServe_C _ _ _ (by decide), (sWork_r a _).2.2.2.2]
  show aC (sHelps p l (sServe (sWork (aC a 2) a) l).1 (aC a 2) (sServe (sWork (aC a 2) a) l).2).2 7 + ahead a p l (aC a 2) = _
  rw [e]
