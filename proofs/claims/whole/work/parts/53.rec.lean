/-! the check's record *)  -/
theorem R_cp {μ : xM} {n : Nat} (hn : 400 < n) {b d : Nat} (hb : b + 358 ≤ 2506) (hd : d + 358 ≤ 2506) (hs : b + 358 ≤ d ∨ d + 358 ≤ b) : F_X5_copy n μ (nI b) (nI d) = some (xr μ (cpB (μ 1) b d 358)) := by
  have h := R_copy (ρ := μ 1) hn μ hb hd hs
  rw [xr_self] at h
  exact h
theorem xr_11 (μ : xM) (ρ : Nat → Int32) : xr μ ρ 1 = ρ := rfl
theorem R_rec49 {μ : xM} {m n : Nat} (hn : 400 < n) (hm : m < 4) (h1 : μ 0 1 = nI m) : B_X5_record_49 n μ = some (x_up (xr μ (cpB (μ 1) 0 (358 + 358 * m) 358)) 0 1 (nI (m + 1))) := by
  unfold B_X5_record_49
  rw [h1, show (358 : Int32) + 358 * nI m = nI (358 + 358 * m) from (by
    show nI 358 + nI 358 * nI m = _
    rw [pk_mul, nI_add]), show (0 : Int32) = nI 0 from rfl, R_cp hn (by omega) (by omega) (by omega), Option.bind_some]
  show some (x_up _ 0 1 (μ 0 1 + 1)) = _
  rw [h1, nI_1]
theorem R_record {μ : xM} {m n : Nat} (hn : 400 < n) (hm : m ≤ 4) (h1 : μ 0 1 = nI m) : ∃ μ', F_X5_record n μ = some μ' ∧ μ' 0 1 = nI (min m 3 + 1) ∧ (∀ k, k ≠ 1 → μ' 0 k = μ 0 k) ∧ (∀ r, r ≠ 0 → r ≠ 1 → μ' r = μ r) ∧ (∀ i, i < 358 ∨ 1790 ≤ i → μ' 1 i = μ 1 i) ∧ ∀ k, k < 4 → ∀ i, i < 358 → blk (μ' 1) (358 + 358 * k) i = if k = min m 3 then μ 1 i else if m = 4 then blk (μ 1) (358 + 358 * (k + 1)) i else blk (μ 1) (358 + 358 * k) i := by
  unfold F_X5_record
  rw [h1]
  by_cases q : m < 4
  · rw [if_neg (show ¬ nI m = (4 : Int32) from fun e => by
      have := (nI_eq (b := 4) (by omega) (by omega)).mp e
      omega), R_rec49 hn q h1]
    refine ⟨_, rfl, ?_, fun k hk => by rw [x_up_off hk, xr_ne (by decide)], fun r h0 h1 => by rw [x_up_row' h0, xr_ne h1], fun i hi => ?_, fun k hk i hi => ?_⟩
    · rw [x_up_at, show min m 3 = m by omega]
    · rw [x_up_row' (by decide), xr_1]
      unfold cpB
      rw [if_neg (by omega)]
    · rw [x_up_row' (by decide), show min m 3 = m by omega, if_neg (show ¬ m = 4 by omega)]
      show cpB (μ 1) 0 (358 + 358 * m) 358 (358 + 358 * k + i) = _
      unfold cpB
      by_cases c : k = m
      · subst c
        rw [if_pos (by omega), if_pos rfl]
        refine congrArg (μ 1) ?_
        omega
      · rw [if_neg (by omega), if_neg c]
        rfl
  · have em : m = 4 := by omega
    subst em
    have step : ∀ (f k b d : Nat) (μ1 : xM), 1 ≤ k → k < 4 → b = 358 + 358 * k → d = 358 * k → B_X5_record_10 n (f + 1) μ1 (nI k) = B_X5_record_10 n f (xr μ1 (cpB (μ1 1) b d 358)) (nI (k + 1)) := by
      intro f k b d μ1 h1 hk hb hd
      subst hb
      subst hd
      show (if nI k < (4 : Int32) then _ else _) = _
      rw [if_pos (show nI k < (4 : Int32) from nI_lt (b := 4) hk (by omega)), show (358 : Int32) * nI k = nI (358 * k) from pk_mul 358 k, show (358 : Int32) + nI (358 * k) = nI (358 + 358 * k) from nI_add 358 _, R_cp hn (by omega) (by omega) (by omega), Option.bind_some, nI_1]
    have fin : ∀ (f : Nat) (μ1 : xM), μ1 0 1 = nI 4 → B_X5_record_10 n (f + 1) μ1 (nI 4) = B_X5_record_49 n (x_up μ1 0 1 (nI 3)) := by
      intro f μ1 e
      show (if nI 4 < (4 : Int32) then _ else _) = _
      rw [if_neg (show ¬ nI 4 < (4 : Int32) by decide), e]
      rfl
    obtain ⟨f, hf⟩ : ∃ f, n = f + 4 := ⟨n - 4, by omega⟩
    have e : B_X5_record_10 n n μ 1 = B_X5_record_49 n (x_up (xr (xr (xr μ (cpB (μ 1) 716 358 358)) (cpB (cpB (μ 1) 716 358 358) 1074 716 358)) (cpB (cpB (cpB (μ 1) 716 358 358) 1074 716 358) 1432 1074 358)) 0 1 (nI 3)) := by
      have e1 : B_X5_record_10 n n μ 1 = B_X5_record_10 n (f + 4) μ (nI 1) := by rw [← hf]; rfl
      rw [e1, step (f + 3) 1 716 358 μ (by decide) (by decide) (by decide) (by decide), step (f + 2) 2 1074 716 _ (by decide) (by decide) (by decide) (by decide), step (f + 1) 3 1432 1074 _ (by decide) (by decide) (by decide) (by decide), fin f _ (by rw [xr_ne (by decide), xr_ne (by decide), xr_ne (by decide)]; exact h1), xr_11, xr_11]
    rw [if_pos (show nI 4 = (4 : Int32) from rfl), e, R_rec49 (m := 3) hn (by decide) x_up_at]
    have row : ∀ i, (x_up (xr (xr (xr μ (cpB (μ 1) 716 358 358)) (cpB (cpB (μ 1) 716 358 358) 1074 716 358)) (cpB (cpB (cpB (μ 1) 716 358 358) 1074 716 358) 1432 1074 358)) 0 1 (nI 3)) 1 i = cpB (cpB (cpB (μ 1) 716 358 358) 1074 716 358) 1432 1074 358 i := fun i => rfl
    refine ⟨_, rfl, x_up_at, fun k hk => ?_, fun r h0 h1 => ?_, fun i hi => ?_, fun k hk i hi => ?_⟩
    · rw [x_up_off hk, xr_ne (by decide), x_up_off hk, xr_ne (by decide), xr_ne (by decide), xr_ne (by decide)]
    · rw [x_up_row' h0, xr_ne h1, x_up_row' h0, xr_ne h1, xr_ne h1, xr_ne h1]
    · rw [x_up_row' (by decide), xr_1]
      simp only [cpB, row]
      rw [if_neg (by omega), if_neg (by omega), if_neg (by omega), if_neg (by omega)]
    · rw [x_up_row' (by decide), show min 4 3 = 3 from rfl, if_pos rfl]
      show cpB _ 0 (358 + 358 * 3) 358 (358 + 358 * k + i) = _
      rcases (show k = 0 ∨ k = 1 ∨ k = 2 ∨ k = 3 by omega) with rfl | rfl | rfl | rfl
      · simp only [cpB, row, blk]
        rw [if_neg (by omega), if_neg (by omega), if_neg (by omega), if_pos (by omega), if_neg (by decide)]
        refine congrArg (μ 1) ?_
        omega
      · simp only [cpB, row, blk]
        rw [if_neg (by omega), if_neg (by omega), if_pos (by omega), if_neg (by omega), if_neg (by decide)]
        refine congrArg (μ 1) ?_
        omega
      · simp only [cpB, row, blk]
        rw [if_neg (by omega), if_pos (by omega), if_neg (by omega), if_neg (by omega), if_neg (by decide)]
        refine congrArg (μ 1) ?_
        omega
      · simp only [cpB, row, blk]
        rw [if_pos (by omega), if_neg (by omega), if_neg (by omega), if_neg (by omega), if_pos trivial]
        refine congrArg (μ 1) ?_
        omega
