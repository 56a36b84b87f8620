/-! the object's copy of a state *)  -/
theorem ite_ok2 {α : Type} {k N : Nat} {u v : α} (hk : k < N) (hN : N < 2 ^ 31) : (if nI k < 0 ∨ N ≤ k then u else v) = v := if_neg (fun e => e.elim (nI_pos (by omega)) (by omega))
theorem C_sets {σ : xM} {n o o2 : Nat} {a b : xA} (hn : 100 < n) (ho : o + 47 ≤ o2 ∨ o2 + 47 ≤ o) (hS : CRep (x_sh o2 σ) a) (hT : CRep (x_sh o σ) b) : ∀ (f k : Nat) (σ1 : xM), k ≤ 8 → 8 - k < f → (∀ r, r < o + 2 ∨ o + 2 + 2 * k ≤ r → σ1 r = σ r) → (∀ s, s < k → CR (x_sh o σ1) (2 + 2 * s) 4 3 (aS a s)) → ∃ σ2, B_X2_copyFrom_2 n o o2 f σ1 (nI k) = (F_X1_copyFrom n σ2 o 18 o2 18).bind (fun q4 => B_X2_copyFrom_42 n o o2 n q4 0) ∧ (∀ r, r < o + 2 ∨ o + 18 ≤ r → σ2 r = σ r) ∧ ∀ s, s < 8 → CR (x_sh o σ2) (2 + 2 * s) 4 3 (aS a s) := by
  intro f
  induction f with
  | zero => intro k σ1 _ h; omega
  | succ f ih =>
    intro k σ1 hk hf fr hc
    show ∃ σ2, (if nI k < (8 : Int32) then _ else _) = _ ∧ _
    by_cases q : k < 8
    · obtain ⟨t0, t1, -⟩ := hT.2.1 k q
      obtain ⟨σ2, e, c1, f1⟩ := C_copy1 (σ := σ1) hn (SF_S k q) ho (by omega) ((hS.2.1 k q).fr (fr _ (by omega)) (fr _ (by omega))) (by rw [fr _ (by omega)]; exact t0) (by rw [fr _ (by omega)]; exact t1)
      rw [if_pos (show nI k < (8 : Int32) from nI_lt (b := 8) q (by omega)), ite_ok (by omega) (by omega), nI_clamp (by omega), gr_S k q, Option.bind_some, ite_ok2 (by omega) (by omega), Option.bind_some, e, Option.bind_some, nI_1]
      refine ih (k + 1) σ2 q (by omega) (fun r hr => (f1 r (by omega) (by omega)).trans (fr r (by omega))) (fun s hs => ?_)
      by_cases c : s = k
      · rw [c]
        exact c1
      · exact (hc s (by omega)).fr (f1 _ (by omega) (by omega)) (f1 _ (by omega) (by omega))
    · have ek : k = 8 := by omega
      subst ek
      rw [if_neg (show ¬ nI 8 < (8 : Int32) by decide)]
      exact ⟨σ1, rfl, fr, hc⟩
theorem C_copy2 {σ : xM} {n o o2 : Nat} {a b : xA} (hn : 100 < n) (ho : o + 47 ≤ o2 ∨ o2 + 47 ≤ o) (hS : CRep (x_sh o2 σ) a) (h6 : aC a 2 ≤ 6) (hT : CRep (x_sh o σ) b) : ∃ σ', F_X2_copyFrom n σ o o2 = some σ' ∧ CRep (x_sh o σ') a ∧ ∀ r, r < o ∨ o + 47 ≤ r → σ' r = σ r := by
  obtain ⟨σ2, e2, f2, c2⟩ := C_sets hn ho hS hT n 0 σ (by decide) (by omega) (fun _ _ => rfl) (fun s hs => absurd hs (Nat.not_lt_zero _))
  obtain ⟨t0, t1, -⟩ := hT.2.2.1
  obtain ⟨σ3, e3, c3, f3⟩ := C_copy1 (σ := σ2) hn SF_T ho (by decide) (hS.2.2.1.fr (f2 _ (by omega)) (f2 _ (by omega))) (by rw [f2 _ (by omega)]; exact t0) (by rw [f2 _ (by omega)]; exact t1)
  have loop : ∀ (f k : Nat) (σ1 : xM), k ≤ 6 → 6 - k < f → (∀ r, r < o + 21 ∨ o + 21 + 4 * k ≤ r → σ1 r = σ3 r) → (∀ h, h < k → CR (x_sh o σ1) (22 + 4 * h) 4 4 (aG a h) ∧ ∀ j, j < 13 → σ1 (o + (21 + 4 * h)) (3 + j) = σ (o2 + (21 + 4 * h)) (3 + j)) → ∃ σ4, B_X2_copyFrom_42 n o o2 f σ1 (nI k) = B_X2_copyFrom_42 n o o2 1 σ4 6 ∧ (∀ r, r < o + 21 ∨ o + 45 ≤ r → σ4 r = σ3 r) ∧ ∀ h, h < 6 → CR (x_sh o σ4) (22 + 4 * h) 4 4 (aG a h) ∧ ∀ j, j < 13 → σ4 (o + (21 + 4 * h)) (3 + j) = σ (o2 + (21 + 4 * h)) (3 + j) := by
    intro f
    induction f with
    | zero => intro k σ1 _ h; omega
    | succ f ih =>
      intro k σ1 hk hf fr hc
      show ∃ σ4, (if nI k < (6 : Int32) then _ else _) = _ ∧ _
      by_cases q : k < 6
      · have all : ∀ r, (r < o ∨ o + 47 ≤ r ∨ (o + 21 + 4 * k ≤ r)) → σ1 r = σ r := fun r hr => (fr r (by omega)).trans ((f3 r (by omega) (by omega)).trans (f2 r (by omega)))
        obtain ⟨u0, u1, -⟩ := hT.2.2.2.2.1 k q
        obtain ⟨σ5, e5, c5, x5, f5⟩ := C_copy0 (σ := σ1) hn ho q ((hS.2.2.2.2.1 k q).fr (all _ (by omega)) (all _ (by omega))) (by rw [all _ (by omega)]; exact u0) (by rw [all _ (by omega)]; exact u1)
        rw [if_pos (show nI k < (6 : Int32) from nI_lt (b := 6) q (by omega)), ite_ok (by omega) (by omega), nI_clamp (by omega), gr_H k q, Option.bind_some, ite_ok2 (by omega) (by omega), Option.bind_some, e5, Option.bind_some, nI_1]
        refine ih (k + 1) σ5 q (by omega) (fun r hr => (f5 r (by omega) (by omega) (by omega)).trans (fr r (by omega))) (fun h hh => ?_)
        by_cases c : h = k
        · rw [c]
          refine ⟨c5, fun j hj => (x5 j hj).trans ?_⟩
          rw [all _ (by omega)]
        · obtain ⟨y1, y2⟩ := hc h (by omega)
          refine ⟨y1.fr (f5 _ (by omega) (by omega) (by omega)) (f5 _ (by omega) (by omega) (by omega)), fun j hj => ?_⟩
          rw [f5 _ (by omega) (by omega) (by omega)]
          exact y2 j hj
      · have ek : k = 6 := by omega
        subst ek
        rw [if_neg (show ¬ nI 6 < (6 : Int32) by decide)]
        refine ⟨σ1, ?_, fr, hc⟩
        show _ = (if (6 : Int32) < 6 then _ else _)
        rw [if_neg (show ¬ (6 : Int32) < 6 by decide)]
  sorry
