/-! both sides perform a text alike *)  -/
theorem CRep.low {τ τ' : xM} {a : xA} (h : CRep τ a) (h6 : aC a 2 ≤ 6) (e : ∀ r, r < 47 → τ' r = τ r) : CRep τ' a :=
  h.wish (e 0 (by decide)) (fun s hs => ⟨e _ (by omega), e _ (by omega)⟩) ⟨e _ (by decide), e _ (by decide)⟩ (fun h9 hh k hk => by rw [e (21 + 4 * h9) (by omega)]) (fun h9 hh => ⟨e _ (by omega), e _ (by omega)⟩) ⟨e _ (by decide), e _ (by decide)⟩
theorem cD_n {c : Int32} (h : cD c = true) : ∃ d, d < 10 ∧ c = nI (48 + d) := by
  unfold cD at h
  rw [Bool.and_eq_true] at h
  have h1 : ¬ c < 48 := by simpa using h.1
  have h2 : ¬ 57 < c := by simpa using h.2
  obtain ⟨j, hj, rfl⟩ := nI_of (x := c) (fun e => h1 (Int32.lt_trans e (by decide)))
  rw [show (48 : Int32) = nI 48 from rfl, nI_ltI hj (by decide)] at h1
  rw [show (57 : Int32) = nI 57 from rfl, nI_ltI (by decide) hj] at h2
  exact ⟨j - 48, by omega, by congr 1; omega⟩
theorem cA_n {c : Int32} (h : cA c = true) : ∃ p, p < 16 ∧ c = nI (97 + p) := by
  unfold cA at h
  rw [Bool.and_eq_true] at h
  have h1 : ¬ c < 97 := by simpa using h.1
  have h2 : ¬ 112 < c := by simpa using h.2
  obtain ⟨j, hj, rfl⟩ := nI_of (x := c) (fun e => h1 (Int32.lt_trans e (by decide)))
  rw [show (97 : Int32) = nI 97 from rfl, nI_ltI hj (by decide)] at h1
  rw [show (112 : Int32) = nI 112 from rfl, nI_ltI (by decide) hj] at h2
  exact ⟨j - 97, by omega, by congr 1; omega⟩
abbrev xQ : Type := Nat × Nat × Nat × xA
def rS (c : Int32) (q : xQ) : xQ :=
  if c = 44 then (q.1 + (if (sGo q.2.2.2 q.2.1 q.2.2.1).1 = 0 then 0 else 1), q.2.1, 0, (sGo q.2.2.2 q.2.1 q.2.2.1).2)
  else if cD c = true then (q.1, q.2.1, 10 * q.2.2.1 + (c - 48).toNatClampNeg, q.2.2.2)
  else (q.1, (c - 97).toNatClampNeg, q.2.2.1, q.2.2.2)
def rQ (t : Nat → Int32) (a : xA) : Nat → xQ
  | 0 => (0, 0, 0, a)
  | k + 1 => rS (t k) (rQ t a k)
def pL (s : Nat) : Nat := if s < 2 then 1 else if s = 2 then 10 else if s = 3 then 100 else if s = 4 then 1000 else 10000
theorem rQ_inv {t : Nat → Int32} {a : xA} {B : Nat} (I : Inv B a) : ∀ k s, B + 300 * k < 2 ^ 30 → sAt t k = some s → s < 7 ∧ (rQ t a k).2.1 < 16 ∧ (rQ t a k).2.2.1 < pL s ∧ (rQ t a k).1 ≤ k ∧ Inv (B + 300 * k) (rQ t a k).2.2.2 := by
  intro k
  induction k with
  | zero =>
    intro s _ h
    cases h
    exact ⟨by decide, (by decide : 0 < 16), (by decide : 0 < 1), Nat.le_refl _, I⟩
  | succ k ih =>
    intro s' hB h
    have hb1 : (B + 300 * k) + 300 < 2 ^ 30 := by
      rw [Nat.add_assoc, ← Nat.mul_succ]
      exact hB
    cases hs : sAt t k with
    | none =>
      have h' : (sAt t k).bind (fun s => stp s (cA (t k)) (cD (t k)) (decide (t k = 48)) (decide (t k = 44))) = some s' := h
      rw [hs] at h'
      cases h'
    | some s =>
      have h' : (sAt t k).bind (fun s => stp s (cA (t k)) (cD (t k)) (decide (t k = 48)) (decide (t k = 44))) = some s' := h
      rw [hs, Option.bind_some] at h'
      obtain ⟨i1, i2, i3, i4, i5⟩ := ih s (by omega) hs
      have s7 := stp_lt i1 cA_D c44_D h'
      have l4 : pL s ≤ 10000 := by
        unfold pL
        split
        · decide
        · split
          · decide
          · split
            · decide
            · split <;> decide
      refine ⟨s7, ?_⟩
      show (rS (t k) (rQ t a k)).2.1 < 16 ∧ (rS (t k) (rQ t a k)).2.2.1 < pL s' ∧ (rS (t k) (rQ t a k)).1 ≤ k + 1 ∧ Inv (B + 300 * (k + 1)) (rS (t k) (rQ t a k)).2.2.2
      unfold rS
      by_cases c4 : t k = 44
      · have I9 := Inv_go (p := (rQ t a k).2.1) (l := (rQ t a k).2.2.1) i5 i2 (Nat.lt_of_lt_of_le i3 l4) hb1
        rw [if_pos c4]
        refine ⟨i2, ?_, ?_, I9.mono (by omega) hB⟩
        · show 0 < pL s'
          unfold pL
          split
          · decide
          · split
            · decide
            · split
              · decide
              · split <;> decide
        · show (rQ t a k).1 + (if _ then 0 else 1) ≤ k + 1
          split <;> omega
      · rw [if_neg c4]
        have d4 : decide (t k = 44) = false := decide_eq_false c4
        rw [d4] at h'
        by_cases cd : cD (t k) = true
        · obtain ⟨d, hd, ed⟩ := cD_n cd
          have ev : (t k - 48).toNatClampNeg = d := by
            rw [ed, show (48 : Int32) = nI 48 from rfl, pk_sub (by omega), nI_clamp (by omega)]
            omega
          rw [if_pos cd, ev]
          refine ⟨i2, ?_, by omega, i5.mono (by omega) hB⟩
          show 10 * (rQ t a k).2.2.1 + d < pL s'
          have ca : cA (t k) = false := by
            have := cA_D (c := t k)
            rw [cd, Bool.and_true] at this
            exact this
          rw [cd, ca] at h'
          rcases (show s = 0 ∨ s = 1 ∨ s = 2 ∨ s = 3 ∨ s = 4 ∨ s = 5 ∨ s = 6 by omega) with rfl | rfl | rfl | rfl | rfl | rfl | rfl
          · cases h'
          · have l1 : (rQ t a k).2.2.1 < 1 := i3
            by_cases z : t k = 48
            · rw [decide_eq_true z] at h'
              cases h'
              show _ < 10000
              omega
            · rw [decide_eq_false z] at h'
              cases h'
              show _ < 10
              omega
          · cases h'
            have l1 : (rQ t a k).2.2.1 < 10 := i3
            show _ < 100
            omega
          · cases h'
            have l1 : (rQ t a k).2.2.1 < 100 := i3
            show _ < 1000
            omega
          · cases h'
            have l1 : (rQ t a k).2.2.1 < 1000 := i3
            show _ < 10000
            omega
          · cases h'
          · cases h'
        · rw [if_neg cd]
          have cd' : cD (t k) = false := by simpa using cd
          rw [cd'] at h'
          rcases (show s = 0 ∨ s = 1 ∨ s = 2 ∨ s = 3 ∨ s = 4 ∨ s = 5 ∨ s = 6 by omega) with rfl | rfl | rfl | rfl | rfl | rfl | rfl
          · cases ca : cA (t k) with
            | false =>
              rw [ca] at h'
              cases h'
            | true =>
              rw [ca] at h'
              cases h'
              obtain ⟨p, hp, ep⟩ := cA_n ca
              have ev : (t k - 97).toNatClampNeg = p := by
                rw [ep, show (97 : Int32) = nI 97 from rfl, pk_sub (by omega), nI_clamp (by omega)]
                omega
              rw [ev]
              exact ⟨hp, i3, by omega, i5.mono (by omega) hB⟩
          · cases h'
          · cases h'
          · cases h'
          · cases h'
          · cases h'
          · cases h'
