/-! the object's copy of a list of rows *)  -/
theorem C_copy1 {σ : xM} {n o o2 a cap c : Nat} {l : List xR} (hn : 100 < n) (hs : SF a cap c) (ho : o + 47 ≤ o2 ∨ o2 + 47 ≤ o) (ha : a + 1 < 47) (hS : CR (x_sh o2 σ) a cap c l) (hT0 : σ (o + a) 0 = nI cap) (hT1 : σ (o + a) 1 = nI c) : ∃ σ', F_X1_copyFrom n σ o a o2 a = some σ' ∧ CR (x_sh o σ') a cap c l ∧ ∀ r, r ≠ o + a → r ≠ o + (a + 1) → σ' r = σ r := by
  obtain ⟨g1, g2, g3, g4, g5, g6⟩ := hs
  have sz : cap * c ≤ 60 := Nat.mul_le_mul g5 g4
  obtain ⟨c0, c1, c3, c4, c5⟩ := hS
  have e3 : σ (o2 + a) 3 = nI l.length := c3
  have loop : ∀ (f k : Nat) (σ1 : xM), k ≤ cap * c → cap * c - k < f → σ1 (o2 + (a + 1)) = σ (o2 + (a + 1)) → (∀ j, j < k → σ1 (o + (a + 1)) j = σ (o2 + (a + 1)) j) → ∃ σ', B_X1_copyFrom_17 n o a o2 a f σ1 (nI k) = some σ' ∧ (∀ j, j < cap * c → σ' (o + (a + 1)) j = σ (o2 + (a + 1)) j) ∧ ∀ r, r ≠ o + (a + 1) → σ' r = σ1 r := by
    intro f
    induction f with
    | zero => intro k σ1 _ h; omega
    | succ f ih =>
      intro k σ1 hk hf h1 h2
      show ∃ σ', (gr a 2).bind _ = _ ∧ _
      rw [g1, Option.bind_some, g2]
      by_cases q : k < cap * c
      · rw [if_pos (show nI k < Int32.ofNat (cap * c) from nI_lt q (by omega)), Option.bind_some, g2, if_pos (show nI k < Int32.ofNat (cap * c) from nI_lt q (by omega)), Option.bind_some, Option.bind_some, g2, ite_ok q (by omega), ite_ok q (by omega), nI_clamp (by omega), nI_1]
        have hne : o2 + (a + 1) ≠ o + (a + 1) := by omega
        obtain ⟨σ', e, x1, x2⟩ := ih (k + 1) (x_up σ1 (o + (a + 1)) k (σ1 (o2 + (a + 1)) k)) q (by omega) (by rw [x_up_row' hne]; exact h1) (fun j hj => by
          by_cases c9 : j = k
          · rw [c9, x_up_at, h1]
          · rw [x_up_off (by omega)]
            exact h2 j (by omega))
        exact ⟨σ', e, x1, fun r hr => (x2 r hr).trans (x_up_row' hr)⟩
      · have ek : k = cap * c := by omega
        subst ek
        rw [if_neg (show ¬ nI (cap * c) < Int32.ofNat (cap * c) from nI_nlt (Nat.le_refl _) (by omega))]
        exact ⟨σ1, rfl, h2, fun _ _ => rfl⟩
  have hm : jmin (σ (o2 + a) 3) (σ (o + a) 0) = nI l.length := by
    rw [e3, hT0]
    unfold jmin
    rw [if_neg (nI_nlt c4 (by omega))]
  obtain ⟨σ', e, x1, x2⟩ := loop n 0 (x_up σ (o + a) 3 (nI l.length)) (Nat.zero_le _) (by omega) (x_up_row' (by omega)) (fun j hj => absurd hj (Nat.not_lt_zero _))
  refine ⟨σ', ?_, ⟨?_, ?_, ?_, c4, ?_⟩, fun r h1 h2 => (x2 r h2).trans (x_up_row' h1)⟩
  · unfold F_X1_copyFrom
    rw [hm]
    exact e
  · show σ' (o + a) 0 = _
    rw [x2 _ (by omega), x_up_off (by omega)]
    exact hT0
  · show σ' (o + a) 1 = _
    rw [x2 _ (by omega), x_up_off (by omega)]
    exact hT1
  · show σ' (o + a) 3 = _
    rw [x2 _ (by omega), x_up_at]
  · intro w r hw j hj
    have hi : 0 + w * c + j < cap * c := by
      have := ix_lt (Nat.lt_of_lt_of_le (lt_of_get hw) c4) hj
      omega
    show σ' (o + (a + 1)) (0 + w * c + j) = _
    rw [x1 _ hi]
    exact c5 w r hw j hj
