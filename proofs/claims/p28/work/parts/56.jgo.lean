/-! the fitting numbers: used, served, work, an access *)  -/
theorem J_hit {B : Nat} {a : xA} {s w : Nat} {r : xR} {g d : Nat → Nat} {t u x : Nat} (I : Inv B a) (J : Jx a g d t u x) (hs : s < 8) (hw : (aS a s)[w]? = some r) : Jx (sHit a s w r) g (fun h => d h + if newBy (nI h) r = true then 1 else 0) t u x := by
  have cn : ∀ P : xR → Bool, cntP P (sHit a s w r) 8 + (if P r = true then 1 else 0) = cntP P a 8 + if P (row3 (r 0) (r 1) 0) = true then 1 else 0 := fun P => by
    have := cntP_set (a := a) (a' := sHit a s w r) P hs rfl
    rw [List.countP_append, List.countP_singleton] at this
    have e : (aS a s).countP P = ((aS a s).eraseIdx w).countP P + if P r = true then 1 else 0 := by
      have hl : w < (aS a s).length := lt_of_get hw
      have e1 : aS a s = (aS a s).take w ++ r :: (aS a s).drop (w + 1) := by
        have e2 : (aS a s)[w] = r := by
          rw [List.getElem?_eq_getElem hl] at hw
          exact Option.some.inj hw
        rw [← e2, List.getElem_cons_drop, List.take_append_drop]
      have e3 : (aS a s).eraseIdx w = (aS a s).take w ++ (aS a s).drop (w + 1) := List.eraseIdx_eq_take_drop_succ _ _
      have e4 := congrArg (List.countP P) e1
      rw [e3, e4, List.countP_append, List.countP_append, List.countP_cons]
      omega
    omega
  refine J.rows rfl (fun i _ => rfl) (fun h hh => ?_) ?_
  · have := cn (newBy (nI h))
    have e0 : newBy (nI h) (row3 (r 0) (r 1) 0) = false := decide_eq_false (fun z => absurd (show (0 : Int32) = 1 from z.1) (by decide))
    rw [e0] at this
    simp only [Bool.false_eq_true, if_false] at this
    unfold nN
    omega
  · have := cn (fun _ => true)
    simp only [if_true] at this
    show nA (sHit a s w r) + aC a 8 + x = _
    unfold nA
    omega
theorem J_use {a : xA} {h1 : Nat} {g d : Nat → Nat} {t u x : Nat} (J : Jx a g (fun h => d h + if h = h1 then 1 else 0) t u x) (hh : h1 < aC a 2) : Jx (sUse a h1) g d t (u + 1) x := by
  obtain ⟨j1, j2, j3⟩ := (J.1 h1 hh).1
  unfold sUse
  by_cases q : aH a h1 3 = 1
  · rw [if_pos q]
    by_cases q2 : aH a h1 5 < 2
    · rw [if_pos q2]
      refine J.setH hh (fun h c => ⟨fun k => ?_, rfl, ?_⟩) ?_ (fun fl => ?_) ?_ ?_
      · simp [hu, c]
      · rw [if_neg c]
        rfl
      · refine ⟨?_, ?_, ?_⟩
        · simp [hu]
          omega
        · simp [hu]
          omega
        · simp [hu]
      · simp only [if_true] at fl
        simp [hu]
        omega
      · simp [hu]
      · simp [hu]
        omega
    · rw [if_neg q2]
      refine J.setH hh (fun h c => ⟨fun k => ?_, rfl, ?_⟩) ?_ (fun fl => ?_) ?_ ?_
      · simp [hu, c]
      · rw [if_neg c]
        rfl
      · refine ⟨?_, ?_, ?_⟩
        · simp [hu]
          omega
        · simp [hu]
          omega
        · simp [hu]
          omega
      · simp only [if_true] at fl
        simp [hu]
        omega
      · simp [hu]
      · simp [hu]
        omega
  · rw [if_neg q]
    refine J.setH hh (fun h c => ⟨fun k => ?_, rfl, ?_⟩) ?_ (fun fl => ?_) ?_ ?_
    · simp [hu, c]
    · rw [if_neg c]
      rfl
    · refine ⟨?_, ?_, ?_⟩
      · simp [hu]
        omega
      · simp [hu]
        omega
      · simp [hu]
        omega
    · simp only [if_true] at fl
      simp [hu]
      omega
    · simp [hu]
    · simp [hu]
      omega
theorem J_serve {B : Nat} {a : xA} {l : Nat} {g d : Nat → Nat} {t u x : Nat} (I : Inv B a) (J : Jx a g d t u x) (hb' : B + 11 < 2 ^ 30) : Jx (sServe a l).2 g d t (u + if (sServe a l).1 = 2 then 1 else 0) (x + if (sServe a l).1 = 0 then 1 else 0) := by
  unfold sServe
  cases hr : (aS a (l % aC a 0))[kIdx (aS a (l % aC a 0)) (nI l)]? with
  | none => exact J_fetch0 (Inv_punish I l (by omega)) (J_punish I J)
  | some r =>
    have J1 := J_hit I J (set_lt I l) hr
    show Jx (if r 2 = 1 then _ else _ : Nat × xA).2 g d t (u + if (if r 2 = 1 then _ else _ : Nat × xA).1 = 2 then 1 else 0) (x + if (if r 2 = 1 then _ else _ : Nat × xA).1 = 0 then 1 else 0)
    rcases row_io I (List.mem_of_getElem? hr) with ⟨q, h1, hh1, e1, eb, en⟩ | ⟨q, en⟩
    · simp only [if_pos q, eb]
      refine J_use (J1.ext (fun h hh => ⟨rfl, ?_⟩) rfl rfl rfl) hh1
      rw [en h hh]
      by_cases c2 : h = h1
      · rw [if_pos c2, if_pos (decide_eq_true c2)]
      · rw [if_neg c2, if_neg (by rw [decide_eq_false c2]; decide)]
    · simp only [if_neg q]
      refine J1.ext (fun h hh => ⟨rfl, ?_⟩) rfl rfl rfl
      rw [en h]
      rfl
theorem J_work1 {B : Nat} {a : xA} {h1 : Nat} {g d : Nat → Nat} {t u x : Nat} (I : Inv B a) (J : Jx a g d t u x) (hh : h1 < aC a 2) : Jx (sWork1 a h1) g d t u x := by
  obtain ⟨j1, j2, j3⟩ := (J.1 h1 hh).1
  have i3 := I.1.2.2.2.2.2.1
  unfold sWork1
  by_cases q : aH a h1 3 = 2
  · have j2' : 0 < aH a h1 4 := j2.mp q
    rw [if_pos q]
    by_cases q2 : aH a h1 4 < 2
    · rw [if_pos q2]
      refine J.setH hh (fun h c => ⟨fun k => ?_, rfl, rfl⟩) ?_ (fun fl => ?_) ?_ ?_
      · simp [hu, c]
      · refine ⟨?_, ?_, ?_⟩
        · simp [hu]
          omega
        · simp [hu]
        · simp [hu]
          omega
      · simp [hu]
        omega
      · simp [hu]
      · simp [hu]
    · rw [if_neg q2]
      refine J.setH hh (fun h c => ⟨fun k => ?_, rfl, rfl⟩) ?_ (fun fl => ?_) ?_ ?_
      · simp [hu, c]
      · refine ⟨?_, ?_, ?_⟩
        · simp [hu]
          omega
        · simp [hu]
          omega
        · simp [hu]
          omega
      · simp [hu]
        omega
      · simp [hu]
      · simp [hu]
  · rw [if_neg q]
    exact J
theorem J_work {B : Nat} {a : xA} {g d : Nat → Nat} {t u x : Nat} (I : Inv B a) (J : Jx a g d t u x) : ∀ k, k ≤ aC a 2 → Jx (sWork k a) g d t u x := by
  intro k
  induction k with
  | zero => intro _; exact J
  | succ k ih =>
    intro hk
    exact J_work1 (Inv_work I k) (ih (by omega)) (by rw [(sWork_r a k).2.2.2.2]; omega)
theorem J_learn {a : xA} {h p l o : Nat} {g d : Nat → Nat} {t u x : Nat} (J : Jx a g d t u x) : Jx (sLearn a h p l o).2 g d t u x := by
  obtain ⟨e1, -, e3, -, e5⟩ := sLearn_r a h p l o
  exact J.same e3 e5 e1
theorem J_fold (h1 : Nat) {g d : Nat → Nat} {t u x : Nat} : ∀ (ls : List Nat) (B : Nat) (q : Nat × xA), Inv B q.2 → h1 < aC q.2 2 → (∀ x, x ∈ ls → x < 10000) → B + 9 * ls.length < 2 ^ 30 → Jx q.2 (fun h => g h + if h = h1 then q.1 else 0) d t u (x + q.1) → Jx (ls.foldl (sFetch1 h1) q).2 (fun h => g h + if h = h1 then (ls.foldl (sFetch1 h1) q).1 else 0) d t u (x + (ls.foldl (sFetch1 h1) q).1) := by
  intro ls
  induction ls with
  | nil => intro B q _ _ _ _ J; exact J
  | cons l ls ih =>
    intro B q I hh hx hB J
    have hl : (l :: ls).length = ls.length + 1 := rfl
    rw [List.foldl_cons]
    refine ih (B + 9) _ (Inv_fetch1 I hh (hx l List.mem_cons_self) (by omega)) (by rw [sFetch1_C _ _ _ _ (by decide)]; exact hh) (fun y hy => hx y (List.mem_cons_of_mem _ hy)) (by omega) ?_
    unfold sFetch1
    by_cases c : kIdx (aS q.2 (l % aC q.2 0)) (nI l) < (aS q.2 (l % aC q.2 0)).length
    · rw [if_pos c]
      exact J
    · rw [if_neg c]
      refine (J_fetch1 I J hh).ext (fun h _ => ⟨?_, rfl⟩) rfl rfl ?_
      · by_cases c2 : h = h1
        · rw [if_pos c2, if_pos c2, if_pos c2]
          omega
        · rw [if_neg c2, if_neg c2, if_neg c2]
      · show x + (q.1 + 1) = x + q.1 + 1
        omega
theorem J_help {B : Nat} {a : xA} {h1 p l o : Nat} {g d : Nat → Nat} {t u x : Nat} (I : Inv B a) (J : Jx a g d t u x) (hh : h1 < aC a 2) (hp : p < 16) (hb : B + 36 < 2 ^ 30) : Jx (sHelp a h1 p l o).2 g d (t + (sHelp a h1 p l o).1) u (x + (sHelp a h1 p l o).1) := by
  obtain ⟨a1, a2⟩ := sAsk_ok I hh hp (l := l) (o := o)
  have I1 := Inv_learn (o := o) (l := l) I hh hp
  have J1 : Jx (sLearn a h1 p l o).2 (fun h => g h + if h = h1 then 0 else 0) d t u (x + 0) := (J_learn J).ext (fun h _ => ⟨by split <;> rfl, rfl⟩) rfl rfl rfl
  have h2 : h1 < aC (sLearn a h1 p l o).2 2 := by rw [(sLearn_r a h1 p l o).2.2.2.2]; exact hh
  have J2 := J_fold h1 (sAsk a h1 p l o) B (0, (sLearn a h1 p l o).2) I1 h2 a2 (by omega) J1
  have e2 : aC (sFetches (sLearn a h1 p l o).2 h1 (sAsk a h1 p l o)).2 2 = aC (sLearn a h1 p l o).2 2 := foldC h1 _ _ 2 (by decide)
  show Jx (wH (sFetches (sLearn a h1 p l o).2 h1 (sAsk a h1 p l o)).2 (hu (aH (sFetches (sLearn a h1 p l o).2 h1 (sAsk a h1 p l o)).2) h1 6 (aH (sFetches (sLearn a h1 p l o).2 h1 (sAsk a h1 p l o)).2 h1 6 + (sFetches (sLearn a h1 p l o).2 h1 (sAsk a h1 p l o)).1))) g d (t + (sFetches (sLearn a h1 p l o).2 h1 (sAsk a h1 p l o)).1) u (x + (sFetches (sLearn a h1 p l o).2 h1 (sAsk a h1 p l o)).1)
  have J3 : Jx (sFetches (sLearn a h1 p l o).2 h1 (sAsk a h1 p l o)).2 (fun h => g h + if h = h1 then (sFetches (sLearn a h1 p l o).2 h1 (sAsk a h1 p l o)).1 else 0) d t u (x + (sFetches (sLearn a h1 p l o).2 h1 (sAsk a h1 p l o)).1) := J2
  have h3 : h1 < aC (sFetches (sLearn a h1 p l o).2 h1 (sAsk a h1 p l o)).2 2 := by rw [e2]; exact h2
  generalize sFetches (sLearn a h1 p l o).2 h1 (sAsk a h1 p l o) = q at *
  obtain ⟨j1, j2, j3⟩ := (J3.1 h1 h3).1
  refine J3.setH h3 (fun h c => ⟨fun k => ?_, ?_, rfl⟩) ?_ (fun fl => ?_) ?_ ?_
  · simp [hu, c]
  · rw [if_neg c]
    rfl
  · refine ⟨?_, ?_, ?_⟩
    · simp [hu]
      omega
    · simp [hu]
      omega
    · simp [hu]
      omega
  · simp only [if_true] at fl
    simp [hu]
    omega
  · simp [hu]
    omega
  · simp [hu]
theorem J_helps {B : Nat} {a : xA} {p l o : Nat} {g d : Nat → Nat} {t u x : Nat} (I : Inv B a) (J : Jx a g d t u x) (hp : p < 16) : ∀ k, k ≤ aC a 2 → B + 36 * k < 2 ^ 30 → Jx (sHelps p l o k a).2 g d (t + (sHelps p l o k a).1) u (x + (sHelps p l o k a).1) := by
  intro k
  induction k with
  | zero => intro _ _; exact J
  | succ k ih =>
    intro hk hB
    have J1 := ih (by omega) (by omega)
    have I1 := Inv_helps (l := l) (o := o) I hp k (by omega) (by omega)
    refine (J_help (l := l) (o := o) I1 J1 (by rw [sHelps_C _ _ _ _ (by decide)]; omega) hp (by omega)).ext (fun h _ => ⟨rfl, rfl⟩) ?_ rfl ?_
    · show t + ((sHelps p l o k a).1 + (sHelp (sHelps p l o k a).2 k p l o).1) = _
      omega
    · show x + ((sHelps p l o k a).1 + (sHelp (sHelps p l o k a).2 k p l o).1) = _
      omega
def z0 : Nat → Nat := fun _ => 0
theorem J_log {a : xA} {p l o n : Nat} (J : Jx a z0 z0 n (if o = 2 then 1 else 0) (n + if o = 0 then 1 else 0)) : Jx (sLog a p l o n) z0 z0 0 0 0 := by
  obtain ⟨J1, J2, J3, J4⟩ := J
  have e5 : aC (sLog a p l o n) 5 = if o = 0 then aC a 5 else aC a 5 + 1 := rfl
  have e6 : aC (sLog a p l o n) 6 = if o = 2 then aC a 6 + 1 else aC a 6 := rfl
  refine ⟨J1, ?_, ?_, ?_⟩
  · show sumH (aH a) 6 (aC a 2) = aC a 7 + n + 0
    omega
  · rw [e6]
    show sumH (aH a) 7 (aC a 2) = _
    rw [J3]
    split <;> omega
  · rw [e5]
    show aC a 4 + 1 + (aC a 7 + n) + 0 = nA a + aC a 8 + _
    by_cases c : o = 0
    · rw [if_pos c] at J4 ⊢
      omega
    · rw [if_neg c] at J4 ⊢
      omega
def Jnv (B : Nat) (a : xA) : Prop := Inv B a ∧ Jx a z0 z0 0 0 0
theorem Jnv.mono {B B' : Nat} {a : xA} (J : Jnv B a) (hb : B ≤ B') (hb' : B' < 2 ^ 30) : Jnv B' a := ⟨J.1.mono hb hb', J.2⟩
theorem J_go {B : Nat} {a : xA} {p l : Nat} (J : Jnv B a) (hp : p < 16) (hl : l < 10000) (hb : B + 300 < 2 ^ 30) : Jnv (B + 300) (sGo a p l).2 := by
  obtain ⟨I, J⟩ := J
  refine ⟨Inv_go I hp hl hb, ?_⟩
  have J1 := J_work I J (aC a 2) (Nat.le_refl _)
  have I1 := Inv_work I (aC a 2)
  have J2 := J_serve (l := l) I1 J1 (by omega)
  have I2 := Inv_serve (l := l) I1 hl (by omega)
  have e2 : aC (sServe (sWork (aC a 2) a) l).2 2 = aC a 2 := by rw [sServe_C _ _ _ (by decide), (sWork_r a _).2.2.2.2]
  have h6 := I.hn
  have J3 := J_helps (l := l) (o := (sServe (sWork (aC a 2) a) l).1) I2 J2 hp (aC a 2) (by omega) (by omega)
  refine J_log (J3.ext (fun h _ => ⟨rfl, rfl⟩) ?_ ?_ ?_)
  · omega
  · omega
  · omega
