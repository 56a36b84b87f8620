/-! the object's copy of a helper *)  -/
def cpF (σ : xM) (x y k : Nat) : xM := fun r j => if r = x ∧ 3 ≤ j ∧ j < k then σ y j else σ r j
theorem cpF_0 (σ : xM) (x y : Nat) : cpF σ x y 3 = σ := by
  funext r j
  simp only [cpF]
  rw [if_neg (by omega)]
theorem cpF_s {σ : xM} {x y : Nat} (h : y ≠ x) {k : Nat} (hk : 3 ≤ k) : x_up (cpF σ x y k) x k (cpF σ x y k y k) = cpF σ x y (k + 1) := by
  funext r j
  simp only [x_up, cpF]
  rw [if_neg (show ¬ (y = x ∧ 3 ≤ k ∧ k < k) from fun e => h e.1)]
  by_cases c : r = x ∧ j = k
  · rw [if_pos c, if_pos ⟨c.1, by omega, by omega⟩, c.2]
  · rw [if_neg c]
    by_cases c2 : r = x ∧ 3 ≤ j ∧ j < k
    · rw [if_pos c2, if_pos ⟨c2.1, c2.2.1, by omega⟩]
    · rw [if_neg c2, if_neg (fun e => c2 ⟨e.1, e.2.1, by
        have : ¬ j = k := fun e2 => c ⟨e.1, e2⟩
        omega⟩)]
theorem C_copy0 {σ : xM} {n o o2 h0 : Nat} {l : List xR} (hn : 100 < n) (ho : o + 47 ≤ o2 ∨ o2 + 47 ≤ o) (hh : h0 < 6) (hS : CR (x_sh o2 σ) (22 + 4 * h0) 4 4 l) (hT0 : σ (o + (22 + 4 * h0)) 0 = nI 4) (hT1 : σ (o + (22 + 4 * h0)) 1 = nI 4) : ∃ σ', F_X0_copyFrom n σ o (21 + 4 * h0) o2 (21 + 4 * h0) = some σ' ∧ CR (x_sh o σ') (22 + 4 * h0) 4 4 l ∧ (∀ k, k < 13 → σ' (o + (21 + 4 * h0)) (3 + k) = σ (o2 + (21 + 4 * h0)) (3 + k)) ∧ ∀ r, r ≠ o + (21 + 4 * h0) → r ≠ o + (22 + 4 * h0) → r ≠ o + (22 + 4 * h0 + 1) → σ' r = σ r := by
  obtain ⟨g1, g2, g3⟩ := gr_G h0 hh
  have hne : o2 + (21 + 4 * h0) ≠ o + (21 + 4 * h0) := by omega
  have fr : ∀ r, r ≠ o + (21 + 4 * h0) → cpF σ (o + (21 + 4 * h0)) (o2 + (21 + 4 * h0)) 16 r = σ r := fun r hr => by
    funext j
    simp only [cpF]
    rw [if_neg (fun e => hr e.1)]
  have hS' : CR (x_sh o2 (cpF σ (o + (21 + 4 * h0)) (o2 + (21 + 4 * h0)) 16)) (22 + 4 * h0) 4 4 l := hS.fr (fr _ (by omega)) (fr _ (by omega))
  obtain ⟨σ', e, c1, f1⟩ := C_copy1 hn (SF_G h0 hh) ho (by omega) hS' (by rw [fr _ (by omega)]; exact hT0) (by rw [fr _ (by omega)]; exact hT1)
  refine ⟨σ', ?_, c1, fun k hk => ?_, fun r h1 h2 h3 => (f1 r h2 h3).trans (fr r h1)⟩
  · unfold F_X0_copyFrom
    have s := fun k (hk : 3 ≤ k) => cpF_s (σ := σ) hne hk
    have s3 := s 3 (by decide)
    rw [cpF_0] at s3
    simp only [s3, s 4 (by decide), s 5 (by decide), s 6 (by decide), s 7 (by decide), s 8 (by decide), s 9 (by decide), s 10 (by decide), s 11 (by decide), s 12 (by decide), s 13 (by decide), s 14 (by decide), s 15 (by decide)]
    rw [g1, Option.bind_some, Option.bind_some, e, Option.bind_some]
  · rw [f1 _ (by omega) (by omega)]
    exact if_pos ⟨rfl, by omega, by omega⟩
