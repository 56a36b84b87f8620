/-! the object's copy of a state *)  -/
theorem ite_ok2 {α : Type} {k N : Nat} {u v : α} (hk : k < N) (hN : N < 2 ^ 31) : (if nI k < 0 ∨ N ≤ k then u else v) = v := if_neg (fun e => e.elim (nI_pos (by omega)) (by omega))
theorem C_sets {σ : xM} {n o o2 : Nat} {a b : xA} (hn : 100 < n) (ho : o + 47 ≤ o2 ∨ o2 + 47 ≤ o) (hS : CRep (x_sh o2 σ) a) (hT : CRep (x_sh o σ) b) : ∀ (f k : Nat) (σ1 : xM), k ≤ 8 → 8 - k < f → (∀ r, r < o + 2 ∨ o + 2 + 2 * k ≤ r → σ1 r = σ r) → (∀ s, s < k → CR (x_sh o σ1) (2 + 2 * s) 4 3 (aS a s)) → ∃ σ2, B_X2_copyFrom_2 n o o2 f σ1 (nI k) = (F_X1_copyFrom n σ2 o 18 o2 18).bind (fun q4 => B_X2_copyFrom_42 n o o2 n q4 0) ∧ (∀ r, r < o + 2 ∨ o + 18 ≤ r → σ2 r = σ r) ∧ ∀ s, s < 8 → CR (x_sh o σ2) (2 + 2 * s) 4 3 (aS a s) := by
  intro f
  induction f with
  | zero => intro k σ1 _ h; omega
  | succ f ih =>
    intro k σ1 hk hf fr hc
    show ∃ σ2, (if nI k < (8 : Int32) then _ else _) = _ ∧ _
    by_cases q : k < 8
    · obtain ⟨t0, t1, -⟩ := hT.2.1 k q
      obtain ⟨σ2, e, c1, f1⟩ := C_copy1 (σ := σ1) hn (SF_S k q) ho (by omega) ((hS.2.1 k q).fr (fr _ (by omega)) (fr _ (by omega))) (by rw [fr _ (by omega)]; exact t0) (by rw [fr _ (by omega)]; exact t1)
      rw [if_pos (show nI k < (8 : Int32) from nI_lt (b := 8) q (by omega)), ite_ok (by omega) (by omega), nI_clamp (by omega), gr_S k q, Option.bind_some, ite_ok2 (by omega) (by omega), Option.bind_some, e, Option.bind_some, nI_1]
      refine ih (k + 1) σ2 q (by omega) (fun r hr => (f1 r (by omega) (by omega)).trans (fr r (by omega))) (fun s hs => ?_)
      by_cases c : s = k
      · rw [c]
        exact c1
      · exact (hc s (by omega)).fr (f1 _ (by omega) (by omega)) (f1 _ (by omega) (by omega))
    · have ek : k = 8 := by omega
      subst ek
      rw [if_neg (show ¬ nI 8 < (8 : Int32) by decide)]
      exact ⟨σ1, rfl, fr, hc⟩
def cpG (σ : xM) (x y k : Nat) : xM := fun r j => if r = x ∧ 4 ≤ j ∧ j < k then σ y j else σ r j
theorem cpG_0 (σ : xM) (x y : Nat) : cpG σ x y 4 = σ := by
  funext r j
  simp only [cpG]
  rw [if_neg (by omega)]
theorem cpG_s {σ : xM} {x y : Nat} (h : y ≠ x) {k : Nat} (hk : 4 ≤ k) : x_up (cpG σ x y k) x k (cpG σ x y k y k) = cpG σ x y (k + 1) := by
  funext r j
  simp only [x_up, cpG]
  rw [if_neg (show ¬ (y = x ∧ 4 ≤ k ∧ k < k) from fun e => h e.1)]
  by_cases c : r = x ∧ j = k
  · rw [if_pos c, if_pos ⟨c.1, by omega, by omega⟩, c.2]
  · rw [if_neg c]
    by_cases c2 : r = x ∧ 4 ≤ j ∧ j < k
    · rw [if_pos c2, if_pos ⟨c2.1, c2.2.1, by omega⟩]
    · rw [if_neg c2, if_neg (fun e => c2 ⟨e.1, e.2.1, by
        have : ¬ j = k := fun e2 => c ⟨e.1, e2⟩
        omega⟩)]
theorem C_copy2 {σ : xM} {n o o2 : Nat} {a b : xA} (hn : 100 < n) (ho : o + 47 ≤ o2 ∨ o2 + 47 ≤ o) (hS : CRep (x_sh o2 σ) a) (h6 : aC a 2 ≤ 6) (hT : CRep (x_sh o σ) b) : ∃ σ', F_X2_copyFrom n σ o o2 = some σ' ∧ CRep (x_sh o σ') a ∧ ∀ r, r < o ∨ o + 47 ≤ r → σ' r = σ r := by
  obtain ⟨σ2, e2, f2, c2⟩ := C_sets hn ho hS hT n 0 σ (by decide) (by omega) (fun _ _ => rfl) (fun s hs => absurd hs (Nat.not_lt_zero _))
  obtain ⟨t0, t1, -⟩ := hT.2.2.1
  obtain ⟨σ3, e3, c3, f3⟩ := C_copy1 (σ := σ2) hn SF_T ho (by decide) (hS.2.2.1.fr (f2 _ (by omega)) (f2 _ (by omega))) (by rw [f2 _ (by omega)]; exact t0) (by rw [f2 _ (by omega)]; exact t1)
  have loop : ∀ (f k : Nat) (σ1 : xM), k ≤ 6 → 6 - k < f → (∀ r, r < o + 21 ∨ o + 21 + 4 * k ≤ r → σ1 r = σ3 r) → (∀ h, h < k → CR (x_sh o σ1) (22 + 4 * h) 4 4 (aG a h) ∧ ∀ j, j < 13 → σ1 (o + (21 + 4 * h)) (3 + j) = σ (o2 + (21 + 4 * h)) (3 + j)) → ∃ σ4, B_X2_copyFrom_42 n o o2 f σ1 (nI k) = B_X2_copyFrom_42 n o o2 1 σ4 6 ∧ (∀ r, r < o + 21 ∨ o + 45 ≤ r → σ4 r = σ3 r) ∧ ∀ h, h < 6 → CR (x_sh o σ4) (22 + 4 * h) 4 4 (aG a h) ∧ ∀ j, j < 13 → σ4 (o + (21 + 4 * h)) (3 + j) = σ (o2 + (21 + 4 * h)) (3 + j) := by
    intro f
    induction f with
    | zero => intro k σ1 _ h; omega
    | succ f ih =>
      intro k σ1 hk hf fr hc
      show ∃ σ4, (if nI k < (6 : Int32) then _ else _) = _ ∧ _
      by_cases q : k < 6
      · have all : ∀ r, (r < o ∨ o + 47 ≤ r ∨ (o + 21 + 4 * k ≤ r)) → σ1 r = σ r := fun r hr => (fr r (by omega)).trans ((f3 r (by omega) (by omega)).trans (f2 r (by omega)))
        obtain ⟨u0, u1, -⟩ := hT.2.2.2.2.1 k q
        obtain ⟨σ5, e5, c5, x5, f5⟩ := C_copy0 (σ := σ1) hn ho q ((hS.2.2.2.2.1 k q).fr (all _ (by omega)) (all _ (by omega))) (by rw [all _ (by omega)]; exact u0) (by rw [all _ (by omega)]; exact u1)
        rw [if_pos (show nI k < (6 : Int32) from nI_lt (b := 6) q (by omega)), ite_ok (by omega) (by omega), nI_clamp (by omega), gr_H k q, Option.bind_some, ite_ok2 (by omega) (by omega), Option.bind_some, e5, Option.bind_some, nI_1]
        refine ih (k + 1) σ5 q (by omega) (fun r hr => (f5 r (by omega) (by omega) (by omega)).trans (fr r (by omega))) (fun h hh => ?_)
        by_cases c : h = k
        · rw [c]
          refine ⟨c5, fun j hj => (x5 j hj).trans ?_⟩
          rw [all _ (by omega)]
        · obtain ⟨y1, y2⟩ := hc h (by omega)
          refine ⟨y1.fr (f5 _ (by omega) (by omega) (by omega)) (f5 _ (by omega) (by omega) (by omega)), fun j hj => ?_⟩
          rw [f5 _ (by omega) (by omega) (by omega)]
          exact y2 j hj
      · have ek : k = 6 := by omega
        subst ek
        rw [if_neg (show ¬ nI 6 < (6 : Int32) by decide)]
        refine ⟨σ1, ?_, fr, hc⟩
        show _ = (if (6 : Int32) < 6 then _ else _)
        rw [if_neg (show ¬ (6 : Int32) < 6 by decide)]
  obtain ⟨σ4, e4, f4, c4⟩ := loop n 0 σ3 (by decide) (by omega) (fun _ _ => rfl) (fun h hh => absurd hh (Nat.not_lt_zero _))
  have f3' : ∀ r, (r < o ∨ o + 20 ≤ r) → σ3 r = σ r := fun r hr => (f3 r (by omega) (by omega)).trans (f2 r (by omega))
  have f4' : ∀ r, (r < o ∨ o + 45 ≤ r) → σ4 r = σ r := fun r hr => (f4 r (by omega)).trans (f3' r (by omega))
  obtain ⟨v0, v1, -⟩ := hT.2.2.2.2.2
  obtain ⟨σ6, e6, c6, f6⟩ := C_copy1 (σ := σ4) hn SF_L ho (by decide) (hS.2.2.2.2.2.fr (f4' _ (by omega)) (f4' _ (by omega))) (by rw [f4' _ (by omega)]; exact v0) (by rw [f4' _ (by omega)]; exact v1)
  have hne : o2 + 0 ≠ o + 0 := by omega
  have s := fun k (hk : 4 ≤ k) => cpG_s (σ := σ6) hne hk
  have s4 := s 4 (by decide)
  rw [cpG_0] at s4
  have low : ∀ r, r ≠ o + 0 → cpG σ6 (o + 0) (o2 + 0) 13 r = σ6 r := fun r hr => by
    funext j
    simp only [cpG]
    rw [if_neg (fun e => hr e.1)]
  have f6' : ∀ r, r < o + 45 ∨ o + 47 ≤ r → σ6 r = σ4 r := fun r hr => f6 r (by omega) (by omega)
  refine ⟨cpG σ6 (o + 0) (o2 + 0) 13, ?_, ⟨fun i hi => ?_, fun s hs => ?_, ?_, fun h hh k hk => ?_, fun h hh => ?_, ?_⟩, fun r hr => (low r (by omega)).trans ((f6' r (by omega)).trans (f4' r (by omega)))⟩
  · unfold F_X2_copyFrom
    rw [show B_X2_copyFrom_2 n o o2 n σ 0 = _ from e2, e3, Option.bind_some, show B_X2_copyFrom_42 n o o2 n σ3 0 = _ from e4]
    show (if (6 : Int32) < 6 then _ else _) = _
    rw [if_neg (show ¬ (6 : Int32) < 6 by decide), e6, Option.bind_some]
    simp only [s4, s 5 (by decide), s 6 (by decide), s 7 (by decide), s 8 (by decide), s 9 (by decide), s 10 (by decide), s 11 (by decide), s 12 (by decide)]
  · show cpG σ6 (o + 0) (o2 + 0) 13 (o + 0) (4 + i) = _
    have e : cpG σ6 (o + 0) (o2 + 0) 13 (o + 0) (4 + i) = σ6 (o2 + 0) (4 + i) := if_pos ⟨rfl, by omega, by omega⟩
    rw [e, f6' _ (by omega), f4' _ (by omega)]
    exact hS.1 i hi
  · refine (c2 s hs).fr ?_ ?_
    · exact (low _ (by omega)).trans ((f6' _ (by omega)).trans ((f4 _ (by omega)).trans (f3 _ (by omega) (by omega))))
    · exact (low _ (by omega)).trans ((f6' _ (by omega)).trans ((f4 _ (by omega)).trans (f3 _ (by omega) (by omega))))
  · refine c3.fr ?_ ?_
    · exact (low _ (by omega)).trans ((f6' _ (by omega)).trans (f4 _ (by omega)))
    · exact (low _ (by omega)).trans ((f6' _ (by omega)).trans (f4 _ (by omega)))
  · show cpG σ6 (o + 0) (o2 + 0) 13 (o + (21 + 4 * h)) (3 + k) = _
    rw [low _ (by omega), f6' _ (by omega), (c4 h (by omega)).2 k hk]
    exact hS.2.2.2.1 h hh k hk
  · exact (c4 h hh).1.fr ((low _ (by omega)).trans (f6' _ (by omega))) ((low _ (by omega)).trans (f6' _ (by omega)))
  · exact c6.fr (low _ (by omega)) (low _ (by omega))
