/-! the fitting numbers: thrown out, fetched, harm, used *)  -/
theorem sOut1_S (a : xA) (s : Nat) (r : xR) (l : List xR) (b : Int32) : aS (sOut1 a s r l b) = va_up (aS a) s l := rfl
theorem sOut1_H (a : xA) (s : Nat) (r : xR) (l : List xR) (b : Int32) : aH (sOut1 a s r l b) = aH a := rfl
theorem sOut1_C (a : xA) (s : Nat) (r : xR) (l : List xR) (b : Int32) (i : Nat) (h : i ≠ 8) : aC (sOut1 a s r l b) i = aC a i := va_up_off h
theorem sOut1_8 (a : xA) (s : Nat) (r : xR) (l : List xR) (b : Int32) : aC (sOut1 a s r l b) 8 = aC a 8 + 1 := by
  show va_up (aC a) 8 (aC a 8 + 1) 8 = _
  rw [va_up_eq]
theorem J_out {B : Nat} {a : xA} {s : Nat} {b : Int32} {g d : Nat → Nat} {t u x : Nat} (I : Inv B a) (J : Jx a g d t u x) (hs : s < 8) : Jx (sOut a s b) g d t u x := by
  unfold sOut
  cases hS : aS a s with
  | nil => exact J
  | cons r l =>
    have hr : r ∈ aS a s := by rw [hS]; exact List.mem_cons_self
    have cn : ∀ P : xR → Bool, cntP P (sOut1 a s r l b) 8 + (if P r then 1 else 0) = cntP P a 8 := fun P => by
      have := cntP_set P hs (sOut1_S a s r l b)
      rw [hS, List.countP_cons] at this
      omega
    have cA := cn (fun _ => true)
    show Jx (if r 2 = 1 then _ else _) g d t u x
    rcases row_io I hr with ⟨q, h1, hh1, e1, eb, en⟩ | ⟨q, en⟩
    · rw [if_pos q, eb]
      have J1 : Jx (sOut1 a s r l b) g (fun h => d h + if h = h1 then 1 else 0) t u x := by
        refine J.rows (sOut1_H a s r l b) (sOut1_C a s r l b) (fun h hh => ?_) ?_
        · have := cn (newBy (nI h))
          rw [en h hh] at this
          show g h + d h + cntP (newBy (nI h)) a 8 = g h + (d h + if h = h1 then 1 else 0) + cntP (newBy (nI h)) (sOut1 a s r l b) 8
          by_cases c : h = h1
          · rw [if_pos c]
            simp only [c, decide_true, if_true] at this ⊢
            omega
          · rw [if_neg c]
            rw [decide_eq_false c] at this
            simp only [Bool.false_eq_true, if_false] at this
            omega
        · rw [sOut1_8]
          unfold nA
          simp only [if_true] at cA
          omega
      have i9 := I.2.2.2.1 h1 hh1
      obtain ⟨j1, j2, j3⟩ := (J.1 h1 hh1).1
      have hh' : h1 < aC (sOut1 a s r l b) 2 := by rw [sOut1_C a s r l b 2 (by decide)]; exact hh1
      show Jx (wH (sOut1 a s r l b) (hu (hu (hu (hu (aH a) h1 8 (aH a h1 8 + 1)) h1 4 (hu (aH a) h1 8 (aH a h1 8 + 1) h1 4 + aH a h1 2)) h1 3 2) h1 5 0)) g d t u x
      refine J1.setH hh' (fun h c => ⟨fun k => ?_, rfl, ?_⟩) ?_ (fun fl => ?_) ?_ ?_
      · rw [sOut1_H]
        simp [hu, c]
      · rw [if_neg c]
        rfl
      · have em : aH a h1 2 * (aH a h1 8 + 1) = aH a h1 2 * aH a h1 8 + aH a h1 2 := Nat.mul_succ _ _
        refine ⟨?_, ?_, ?_⟩
        · simp [hu]
          omega
        · simp [hu]
          omega
        · simp [hu]
      · rw [sOut1_H] at fl
        simp only [if_true] at fl
        simp only [hu, true_and, and_true, if_true, Nat.reduceEqDiff, if_false, and_false, and_self]
        omega
      · rw [sOut1_H]
        simp only [hu, true_and, and_true, if_true, Nat.reduceEqDiff, if_false, and_false, and_self]
      · rw [sOut1_H]
        simp only [hu, true_and, and_true, if_true, Nat.reduceEqDiff, if_false, and_false, and_self]
    · rw [if_neg q]
      refine J.rows (sOut1_H a s r l b) (sOut1_C a s r l b) (fun h hh => ?_) ?_
      · have := cn (newBy (nI h))
        rw [en h] at this
        simp only [Bool.false_eq_true, if_false] at this
        unfold nN
        omega
      · rw [sOut1_8]
        unfold nA
        simp only [if_true] at cA
        omega
theorem J_erase {a : xA} {l : Nat} {g d : Nat → Nat} {t u x : Nat} (J : Jx a g d t u x) : Jx (sErase a l) g d t u x := J.same rfl rfl rfl
theorem J_put0 {a : xA} {s l : Nat} {g d : Nat → Nat} {t u x : Nat} (J : Jx a g d t u x) (hs : s < 8) : Jx (sPut a s l (-100005)) g d t u (x + 1) := by
  have cn : ∀ P : xR → Bool, cntP P (sPut a s l (-100005)) 8 = cntP P a 8 + if P (row3 (nI l) (-100005) 0) then 1 else 0 := fun P => by
    have := cntP_set (a := a) (a' := sPut a s l (-100005)) P hs rfl
    rw [List.countP_append, List.countP_singleton] at this
    simp only [if_true] at this
    omega
  refine J.rows rfl (fun i _ => rfl) (fun h hh => ?_) ?_
  · unfold nN
    rw [cn]
    have : newBy (nI h) (row3 (nI l) (-100005) 0) = false := decide_eq_false (fun z => absurd (show (0 : Int32) = 1 from z.1) (by decide))
    rw [this]
    simp
  · unfold nA
    rw [cn]
    simp only [if_true]
    show _ + aC a 8 + x = _
    omega
theorem J_put1 {a : xA} {s l h1 : Nat} {g d : Nat → Nat} {t u x : Nat} (J : Jx a g d t u x) (hs : s < 8) (h6 : aC a 2 ≤ 6) (hh : h1 < aC a 2) : Jx (sPut a s l (nI h1)) (fun h => g h + if h = h1 then 1 else 0) d t u (x + 1) := by
  have e0 : ¬ nI h1 = (-100005 : Int32) := fun e => by
    have := bid_nI (h := h1) (by omega)
    unfold bid at this
    rw [if_pos e] at this
    cases this
  have cn : ∀ P : xR → Bool, cntP P (sPut a s l (nI h1)) 8 = cntP P a 8 + if P (row3 (nI l) (nI h1) 1) then 1 else 0 := fun P => by
    have := cntP_set (a := a) (a' := sPut a s l (nI h1)) P hs rfl
    rw [List.countP_append, List.countP_singleton, if_neg e0] at this
    omega
  refine J.rows rfl (fun i _ => rfl) (fun h hl => ?_) ?_
  · unfold nN
    rw [cn]
    have : newBy (nI h) (row3 (nI l) (nI h1) 1) = decide (h = h1) := by
      unfold newBy
      by_cases c : h = h1
      · rw [decide_eq_true c, c]
        exact decide_eq_true ⟨rfl, rfl⟩
      · rw [decide_eq_false c]
        exact decide_eq_false (fun z => c ((nI_eq (by omega) (by omega)).mp (show nI h1 = nI h from z.2)).symm)
    rw [this]
    by_cases c : h = h1
    · simp only [c, decide_true, if_true]
      omega
    · simp only [c, decide_false, if_false, Bool.false_eq_true]
      omega
  · unfold nA
    rw [cn]
    simp only [if_true]
    show _ + aC a 8 + x = _
    omega
/-- a fetch's state ahead of the line's coming in -/
theorem J_room {B : Nat} {a : xA} {l : Nat} {b : Int32} {g d : Nat → Nat} {t u x : Nat} (I : Inv B a) (J : Jx a g d t u x) (hs : l % aC a 0 < 8) : Jx (if (aS a (l % aC a 0)).length < aC a 1 then sErase a l else sOut (sErase a l) (l % aC a 0) b) g d t u x := by
  by_cases q : (aS a (l % aC a 0)).length < aC a 1
  · rw [if_pos q]
    exact J_erase J
  · rw [if_neg q]
    exact J_out (Inv_erase I l) (J_erase J) hs
theorem set_lt {B : Nat} {a : xA} (I : Inv B a) (l : Nat) : l % aC a 0 < 8 := Nat.lt_of_lt_of_le (Nat.mod_lt _ (by have := I.1.1; omega)) I.1.2.1
theorem J_fetch0 {B : Nat} {a : xA} {l : Nat} {g d : Nat → Nat} {t u x : Nat} (I : Inv B a) (J : Jx a g d t u x) : Jx (sFetch a l (-100005)) g d t u (x + 1) :=
  J_put0 (J_room I J (set_lt I l)) (set_lt I l)
theorem J_fetch1 {B : Nat} {a : xA} {l h1 : Nat} {g d : Nat → Nat} {t u x : Nat} (I : Inv B a) (J : Jx a g d t u x) (hh : h1 < aC a 2) : Jx (sFetch a l (nI h1)) (fun h => g h + if h = h1 then 1 else 0) d t u (x + 1) := by
  have e2 : aC (if (aS a (l % aC a 0)).length < aC a 1 then sErase a l else sOut (sErase a l) (l % aC a 0) (nI h1)) 2 = aC a 2 := by
    by_cases q : (aS a (l % aC a 0)).length < aC a 1
    · rw [if_pos q]; rfl
    · rw [if_neg q, sOut_C0 _ _ _ _ (by decide)]; rfl
  exact J_put1 (J_room I J (set_lt I l)) (set_lt I l) (by rw [e2]; exact I.hn) (by rw [e2]; exact hh)
theorem J_punish {B : Nat} {a : xA} {l : Nat} {g d : Nat → Nat} {t u x : Nat} (I : Inv B a) (J : Jx a g d t u x) : Jx (sPunish a l) g d t u x := by
  unfold sPunish
  cases hr : (aT a)[kIdx (aT a) (nI l)]? with
  | none => exact J
  | some r =>
    have o := (I.2.2.1.2.1 r (List.mem_of_getElem? hr)).2
    show Jx (match bid (r 1) with | none => a | some h => sHarm a h) g d t u x
    cases hb : bid (r 1) with
    | none => exact J
    | some h1 =>
      have hh := bid_ok I.hn o hb
      obtain ⟨j1, j2, j3⟩ := (J.1 h1 hh).1
      show Jx (wH a (hu (hu (hu (hu (aH a) h1 9 (aH a h1 9 + 1)) h1 4 (hu (aH a) h1 9 (aH a h1 9 + 1) h1 4 + 2)) h1 3 2) h1 5 0)) g d t u x
      refine J.setH hh (fun h c => ⟨fun k => ?_, rfl, rfl⟩) ?_ (fun fl => ?_) ?_ ?_
      · simp [hu, c]
      · refine ⟨?_, ?_, ?_⟩
        · simp [hu]
          omega
        · simp [hu]
        · simp [hu]
      · simp only [hu, true_and, and_true, if_true, Nat.reduceEqDiff, if_false, and_false, and_self]
        omega
      · simp only [hu, true_and, and_true, if_true, Nat.reduceEqDiff, if_false, and_false, and_self]
      · simp only [hu, true_and, and_true, if_true, Nat.reduceEqDiff, if_false, and_false, and_self]
