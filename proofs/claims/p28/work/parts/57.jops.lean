/-! the fitting numbers: a walk, all lines out, shape, a new helper, degree, trial, pardon, forget, the start *)  -/
theorem J_walk {B : Nat} {a : xA} (J : Jnv B a) {p l c : Nat} {st : Int32} (hp : p < 16) (hv : ∀ k, k < c → ∃ y, y < 10000 ∧ nI l + nI k * st = nI y) (hB : B + 300 * c < 2 ^ 30) : ∀ k, k ≤ c → Jnv (B + 300 * k) (sWalk p l st k a).2 := by
  intro k
  induction k with
  | zero => intro _; exact J
  | succ k ih =>
    intro hk
    obtain ⟨y, hy, ey⟩ := hv k (by omega)
    have J1 := ih (by omega)
    show Jnv _ (sGo (sWalk p l st k a).2 p (nI l + nI k * st).toNatClampNeg).2
    rw [ey, nI_clamp (by omega)]
    exact (J_go J1 hp hy (by omega)).mono (by omega) (by omega)
theorem J_outs {B : Nat} {a : xA} {s : Nat} (I : Inv B a) (J : Jx a z0 z0 0 0 0) (hs : s < 8) : ∀ k, B + 9 * k < 2 ^ 30 → Jx (sOuts s k a) z0 z0 0 0 0 := by
  intro k
  induction k with
  | zero => intro _; exact J
  | succ k ih =>
    intro h
    exact J_out (Inv_outs I s k (by omega)) (ih (by omega)) hs
theorem J_empty {B : Nat} {a : xA} (J : Jnv B a) (hB : B + 9 * 32 < 2 ^ 30) : ∀ s, s ≤ 8 → Jnv (B + 36 * s) (sEmpty s a) := by
  intro s
  induction s with
  | zero => intro _; exact J
  | succ s ih =>
    intro hs
    have J1 := ih (by omega)
    refine ⟨Inv_empty J.1 hB (s + 1) hs, ?_⟩
    have h4 : (aS (sEmpty s a) s).length ≤ 4 := Nat.le_trans (J1.1.2.1 s).2.1 J1.1.1.2.2.2.1
    exact J_outs J1.1 J1.2 (by omega) _ (by omega)
theorem J_shape {B s w : Nat} {b : xA} (J : Jnv B b) (hS : ∀ k, aS b k = []) (s1 : 1 ≤ s) (s2 : s ≤ 8) (w1 : 1 ≤ w) (w2 : w ≤ 4) : Jnv B (wC (wT b []) (va_up (va_up (aC b) 0 s) 1 w)) := by
  refine ⟨Inv_shape J.1 hS s1 s2 w1 w2, ?_⟩
  obtain ⟨J1, J2, J3, J4⟩ := J.2
  exact ⟨J1, J2, J3, J4⟩
theorem J_deg {B : Nat} {a : xA} {h0 v : Nat} (J : Jnv B a) (hh : h0 < aC a 2) (h1 : 1 ≤ v) (h4 : v ≤ 4) : Jnv B (wH a (hu (aH a) h0 1 v)) := by
  refine ⟨Inv_deg J.1 h1 h4, ?_⟩
  obtain ⟨j1, j2, j3⟩ := (J.2.1 h0 hh).1
  refine J.2.setH hh (fun h c => ⟨fun k => ?_, rfl, rfl⟩) ?_ (fun fl => ?_) ?_ ?_
  · simp [hu, c]
  · refine ⟨?_, ?_, ?_⟩
    · simp [hu]
      omega
    · simp [hu]
      omega
    · simp [hu]
      omega
  · simp [hu]
    omega
  · simp [hu]
  · simp [hu]
theorem J_trial {B : Nat} {a : xA} {v : Nat} (J : Jnv B a) (h1 : 1 ≤ v) (h4 : v ≤ 9) : Jnv B (wC a (va_up (aC a) 3 v)) := by
  refine ⟨Inv_trial J.1 h1 h4, ?_⟩
  obtain ⟨J1, J2, J3, J4⟩ := J.2
  exact ⟨J1, J2, J3, J4⟩
theorem J_free {B : Nat} {a : xA} {h0 : Nat} (J : Jnv B a) (hh : h0 < aC a 2) : Jnv B (wH a (hu (hu (hu (hu (aH a) h0 11 (aH a h0 11 + aH a h0 4)) h0 4 0) h0 5 0) h0 3 0)) := by
  refine ⟨Inv_free J.1, ?_⟩
  obtain ⟨j1, j2, j3⟩ := (J.2.1 h0 hh).1
  refine J.2.setH hh (fun h c => ⟨fun k => ?_, rfl, rfl⟩) ?_ (fun fl => ?_) ?_ ?_
  · simp [hu, c]
  · refine ⟨?_, ?_, ?_⟩
    · simp [hu]
      omega
    · simp [hu]
    · simp [hu]
  · simp [hu]
    omega
  · simp [hu]
  · simp [hu]
theorem J_forget {B : Nat} {a : xA} {h0 : Nat} (J : Jnv B a) : Jnv B (wG a (va_up (aG a) h0 [])) := ⟨Inv_forget J.1, J.2.same rfl rfl rfl⟩
theorem cntP_none {P : xR → Bool} {a : xA} (h : ∀ s r, r ∈ aS a s → P r = false) : ∀ m, cntP P a m = 0 := by
  intro m
  induction m with
  | zero => rfl
  | succ m ih =>
    show cntP P a m + (aS a m).countP P = 0
    rw [ih, List.countP_eq_zero.mpr (fun r hr => by rw [h m r hr]; decide)]
theorem J_hire {B : Nat} {a : xA} {k d p : Nat} (J : Jnv B a) (h6 : aC a 2 < 6) (hk : k ≤ 2) (d1 : 1 ≤ d) (d4 : d ≤ 4) (p1 : 1 ≤ p) (p9 : p ≤ 9) : Jnv B (sHire a k d p) := by
  refine ⟨Inv_hire J.1 h6 hk d1 d4 p1 p9, ?_⟩
  obtain ⟨J1, J2, J3, J4⟩ := J.2
  have e : ∀ i, aH (sHire a k d p) (aC a 2) i = hN k d p i := fun i => if_pos rfl
  have eo : ∀ h, h ≠ aC a 2 → ∀ i, aH (sHire a k d p) h i = aH a h i := fun h q i => if_neg q
  have e0 : nN a (aC a 2) = 0 := by
    refine cntP_none (fun s r hr => ?_) 8
    unfold newBy
    refine decide_eq_false (fun z => ?_)
    obtain ⟨-, o2, o3⟩ := (J.1.2.1 s).2.2.1 r hr
    rcases o2 with e9 | ⟨h, hh, e9⟩
    · rcases o3 with e3 | ⟨-, e3⟩
      · rw [z.1] at e3
        exact absurd e3 (by decide)
      · exact e3 e9
    · rw [e9] at z
      have := (nI_eq (by omega) (by omega)).mp z.2
      omega
  refine ⟨fun h hh => ?_, ?_, ?_, J4⟩
  · have hh : h < aC a 2 + 1 := hh
    by_cases q : h = aC a 2
    · subst q
      unfold Jh
      simp only [e]
      show (_ ∧ _ ∧ _) ∧ _ + 0 = _ + _ + nN a (aC a 2) + 0
      rw [e0]
      simp [hN]
    · unfold Jh
      simp only [eo h q]
      exact J1 h (by omega)
  · show sumH (aH (sHire a k d p)) 6 (aC a 2) + aH (sHire a k d p) (aC a 2) 6 = aC a 7 + 0
    rw [sumH_congr (H := aH a) (aC a 2) (fun h hh => eo h (by omega) 6), e]
    exact J2
  · show sumH (aH (sHire a k d p)) 7 (aC a 2) + aH (sHire a k d p) (aC a 2) 7 = aC a 6 + 0
    rw [sumH_congr (H := aH a) (aC a 2) (fun h hh => eo h (by omega) 7), e]
    exact J3
theorem aI_J : Jnv 0 aI := ⟨aI_inv, fun h hh => absurd hh (Nat.not_lt_zero _), rfl, rfl, rfl⟩
