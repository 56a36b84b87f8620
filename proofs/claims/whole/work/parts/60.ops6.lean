/-! undo, keep, restore *)  -/
theorem M_undo {B n : Nat} {σ μ : xM} {a : xA} (R : Rel B σ μ a) (hn : 400 < n) (hB : B + 30000 < 2 ^ 30) : OK2 (B + 30000) (F_X4_undo n σ) (F_X5_undo n μ) := by
  have no := fun v => R.no (B' := B + 30000) (by omega) hB v
  obtain ⟨⟨c1, c2, c3⟩, ⟨hs, oo, m, p1, p2, p3, p4, p5⟩, ⟨sc, sn, kp, s1, s2, s3, s4, s5, s6⟩, ⟨tl, t1, t2, t3, t4⟩, w⟩ := R
  unfold F_X4_undo F_X5_undo
  rw [p4, p5]
  cases m with
  | zero =>
    rw [if_pos (show nI 0 < (1 : Int32) by decide), if_pos (show nI 0 = (0 : Int32) from rfl)]
    exact no _
  | succ m =>
    rw [if_neg (show ¬ nI (m + 1) < (1 : Int32) from nI_nlt (b := 1) (by omega) (by omega)), if_neg (show ¬ (4 : Int32) < nI (m + 1) from nI_nlt (a := 4) (b := m + 1) p3 (by omega)), if_neg (nI_ne0 (by omega) (by omega)), nI_pred]
    obtain ⟨e1, q1⟩ := p1.1 m (by omega)
    have g1 := hsO_ge e1
    obtain ⟨r1, I1⟩ := p2 m (by omega)
    have q1' : CR6 (x_sh (oo m) (x_up σ 0 6 (nI m))) (hs m) := q1.low (fun r hr => by
      show x_up σ 0 6 (nI m) (oo m + r) = σ (oo m + r)
      exact x_up_row' (by omega))
    have c1' : CRep (x_sh 4 (x_up σ 0 6 (nI m))) a := c1.low c3.hn (fun r hr => by
      show x_up σ 0 6 (nI m) (4 + r) = σ (4 + r)
      exact x_up_row' (by omega))
    obtain ⟨σ2, e2, d2, f2⟩ := C_copy2 (σ := x_up σ 0 6 (nI m)) (n := n) (o := 4) (o2 := oo m) (a := hs m) (b := a) (by omega) (Or.inl (by omega)) q1'.1 q1'.2 c1'
    have e3 := R_cp (μ := x_up μ 0 1 (nI m)) (n := n) (b := 358 + 358 * m) (d := 0) hn (by omega) (by omega) (by omega)
    show OK2 _ (if x_up σ 0 6 (nI m) 0 6 < 0 ∨ 4 ≤ (x_up σ 0 6 (nI m) 0 6).toNatClampNeg then none else (hsO (x_up σ 0 6 (nI m) 1 (x_up σ 0 6 (nI m) 0 6).toNatClampNeg)).bind fun o2 => (F_X2_copyFrom n (x_up σ 0 6 (nI m)) 4 o2).bind fun q3 => some ((q3 0 6), q3)) ((F_X5_copy n (x_up μ 0 1 (nI m)) ((358 : Int32) + ((358 : Int32) * (x_up μ 0 1 (nI m) 0 1))) (0 : Int32)).bind fun q2 => some ((q2 0 1), q2))
    rw [x_up_at, x_up_at, ite_ok (by omega) (by omega), nI_clamp (by omega), x_up_row' (show 1 ≠ 0 by decide), e1, Option.bind_some, e2, Option.bind_some, show (358 : Int32) * nI m = nI (358 * m) from pk_mul 358 m, show (358 : Int32) + nI (358 * m) = nI (358 + 358 * m) from nI_add 358 _, show (0 : Int32) = nI 0 from rfl, e3, Option.bind_some]
    have x0 : σ2 0 = x_up σ 0 6 (nI m) 0 := f2 0 (by omega)
    rw [x0, x_up_at, show xr (x_up μ 0 1 (nI m)) (cpB (x_up μ 0 1 (nI m) 1) (358 + 358 * m) 0 358) 0 1 = nI m from by rw [xr_ne (by decide), x_up_at]]
    rw [x_up_row' (show 1 ≠ 0 by decide)]
    have row : ∀ i, 358 ≤ i → cpB (μ 1) (358 + 358 * m) 0 358 i = μ 1 i := fun i hi => by
      unfold cpB
      rw [if_neg (by omega)]
    have fo : ∀ r, r ≠ 0 → (r < 4 ∨ 51 ≤ r) → σ2 r = σ r := fun r h0 hr => (f2 r (by omega)).trans (x_up_row' h0)
    refine ⟨_, _, _, hs m, rfl, rfl, ⟨d2, r1.low I1.sz (fun i hi => ?_), I1.mono (by omega) hB⟩, ⟨hs, oo, m, p1.low (fo 1 (by decide) (by decide)) (fun r hr => fo r (by omega) (by omega)), fun k hk => ?_, by omega, by rw [x0, x_up_at], by rw [xr_ne (by decide), x_up_at]⟩, ⟨sc, sn, kp, s1.low (fun r hr => fo (51 + r) (by omega) (by omega)), s2.low (fun r hr => fo (98 + r) (by omega) (by omega)), fun hk => ?_, s4, by rw [x0, x_up_off (by decide)]; exact s5, by rw [xr_ne (by decide), x_up_off (by decide)]; exact s6⟩, ⟨tl, t1, by rw [fo 2 (by decide) (by decide)]; exact t2, by rw [xr_ne (by decide), x_up_off (by decide)]; exact t3, fun k hk => by rw [fo 3 (by decide) (by decide), xr_ne (by decide), x_up_row' (by decide)]; exact t4 k hk⟩, by rw [xr_ne (by decide), x_up_off (by decide)]; exact w⟩
    · show cpB (μ 1) (358 + 358 * m) 0 358 i = _
      unfold cpB blk
      rw [if_pos (by omega), Nat.sub_zero]
    · obtain ⟨y1, y2⟩ := p2 k (by omega)
      exact ⟨y1.low y2.sz (fun i hi => row _ (by omega)), y2.mono (by omega) hB⟩
    · obtain ⟨y1, y2⟩ := s3 hk
      exact ⟨y1.low y2.sz (fun i hi => row _ (by omega)), y2.mono (by omega) hB⟩
theorem M_keep {B n : Nat} {σ μ : xM} {a : xA} (R : Rel B σ μ a) (hn : 400 < n) (hB : B + 30000 < 2 ^ 30) : OK2 (B + 30000) (F_X4_keep n σ) (F_X5_keep n μ) := by
  obtain ⟨⟨c1, c2, c3⟩, ⟨hs, oo, m, p1, p2, p3, p4, p5⟩, ⟨sc, sn, kp, s1, s2, s3, s4, s5, s6⟩, ⟨tl, t1, t2, t3, t4⟩, w⟩ := R
  unfold F_X4_keep F_X5_keep
  obtain ⟨σ2, e2, d2, f2⟩ := C_copy2 (n := n) (o := 98) (o2 := 4) (by omega) (Or.inr (by omega)) c1 c3.hn s2.1
  have e3 := R_cp (μ := μ) (n := n) (b := 0) (d := 1790) hn (by omega) (by omega) (by omega)
  rw [e2, Option.bind_some, show (0 : Int32) = nI 0 from rfl, show (1790 : Int32) = nI 1790 from rfl, e3, Option.bind_some]
  simp only [← show (0 : Int32) = nI 0 from rfl, g353, t353, g353b]
  have low : ∀ i, i < 1790 → cpB (μ 1) 0 1790 358 i = μ 1 i := fun i hi => by
    unfold cpB
    rw [if_neg (by omega)]
  have fo : ∀ r, (r < 98 ∨ 145 ≤ r) → σ2 r = σ r := fun r hr => f2 r (by omega)
  have f3 : ∀ r, r ≠ 0 → (r < 98 ∨ 145 ≤ r) → x_up σ2 0 5 1 r = σ r := fun r h0 hr => by rw [x_up_row' h0, fo r hr]
  have ea : x_up σ2 0 5 1 (4 + 0) 8 = nI (aC a 4) := by
    rw [f3 (4 + 0) (by decide) (by decide)]
    exact c1.c 4 (by decide)
  have eb : x_up (xr μ (cpB (μ 1) 0 1790 358)) 0 2 1 1 353 = nI (aC a 4) := by
    rw [x_up_row' (show 1 ≠ 0 by decide), xr_1, low _ (by decide)]
    exact c2.c 4 (by decide)
  rw [ea, eb]
  refine ⟨_, _, _, a, rfl, rfl, ⟨c1.low c3.hn (fun r hr => f3 (4 + r) (by omega) (by omega)), c2.low c3.sz (fun i hi => ?_), c3.mono (by omega) hB⟩, ⟨hs, oo, m, p1.low (f3 1 (by decide) (by decide)) (fun r hr => f3 r (by omega) (by omega)), fun k hk => ?_, p3, by rw [x_up_off (by decide), fo 0 (by decide)]; exact p4, by rw [x_up_off (by decide), xr_ne (by decide)]; exact p5⟩, ⟨sc, a, 1, s1.low (fun r hr => f3 (51 + r) (by omega) (by omega)), CR6.low ⟨d2, c3.hn⟩ (fun r hr => x_up_row' (by omega)), fun _ => ⟨c2.low c3.sz (fun i hi => ?_), c3.mono (by omega) hB⟩, Nat.le_refl _, x_up_at, x_up_at⟩, ⟨tl, t1, by rw [f3 2 (by decide) (by decide)]; exact t2, by rw [x_up_off (by decide), xr_ne (by decide)]; exact t3, fun k hk => by rw [f3 3 (by decide) (by decide), x_up_row' (by decide), xr_ne (by decide)]; exact t4 k hk⟩, by rw [x_up_off (by decide), xr_ne (by decide)]; exact w⟩
  · rw [x_up_row' (show 1 ≠ 0 by decide), xr_1]
    exact low i (by omega)
  · obtain ⟨y1, y2⟩ := p2 k hk
    refine ⟨y1.low y2.sz (fun i hi => ?_), y2.mono (by omega) hB⟩
    rw [x_up_row' (show 1 ≠ 0 by decide)]
    exact low _ (by omega)
  · rw [x_up_row' (show 1 ≠ 0 by decide)]
    show cpB (μ 1) 0 1790 358 (1790 + i) = _
    unfold cpB
    rw [if_pos (by omega)]
    refine congrArg (μ 1) ?_
    omega
theorem M_restore {B n : Nat} {σ μ : xM} {a : xA} (R : Rel B σ μ a) (hn : 400 < n) (hB : B + 30000 < 2 ^ 30) : OK2 (B + 30000) (F_X4_restore n σ) (F_X5_restore n μ) := by
  have no := fun v => R.no (B' := B + 30000) (by omega) hB v
  obtain ⟨σ1, μ1, f1, f2, R1, x1, -, -, x4, -⟩ := R.rec2 hn
  obtain ⟨-, -, ⟨-, -, kp0, -, -, -, q4, q5, q6⟩, -, -⟩ := R
  obtain ⟨⟨c1, c2, c3⟩, ⟨hs, oo, m, p1, p2, p3, p4, p5⟩, ⟨sc, sn, kp, s1, s2, s3, s4, s5, s6⟩, ⟨tl, t1, t2, t3, t4⟩, w⟩ := R1
  have ek : kp = kp0 := by
    have := x1 5 (by decide)
    rw [s5, q5, nI_eq (by omega) (by omega)] at this
    exact this
  subst ek
  unfold F_X4_restore F_X5_restore
  rw [q5, q6]
  by_cases k0 : kp = 0
  · rw [k0, if_pos (show nI 0 = (0 : Int32) from rfl), if_pos (show nI 0 = (0 : Int32) from rfl)]
    exact no _
  · obtain ⟨r1, I1⟩ := s3 (by omega)
    rw [if_neg (nI_ne0 (by omega) (by omega)), if_neg (nI_ne0 (by omega) (by omega)), f1, f2, Option.bind_some, Option.bind_some]
    obtain ⟨σ2, e2, d2, y2⟩ := C_copy2 (n := n) (o := 4) (o2 := 98) (by omega) (Or.inl (by omega)) s2.1 s2.2 c1
    have e3 := R_cp (μ := μ1) (n := n) (b := 1790) (d := 0) hn (by omega) (by omega) (by omega)
    rw [e2, Option.bind_some, show (0 : Int32) = nI 0 from rfl, show (1790 : Int32) = nI 1790 from rfl, e3, Option.bind_some]
    simp only [← show (0 : Int32) = nI 0 from rfl, g353, t353, g353b]
    have row : ∀ i, 358 ≤ i → cpB (μ1 1) 1790 0 358 i = μ1 1 i := fun i hi => by
      unfold cpB
      rw [if_neg (by omega)]
    have new : ∀ i, i < 358 → cpB (μ1 1) 1790 0 358 i = blk (μ1 1) 1790 i := fun i hi => by
      unfold cpB blk
      rw [if_pos (by omega), Nat.sub_zero]
    have ea : σ2 (4 + 0) 8 = nI (aC sn 4) := d2.c 4 (by decide)
    have eb : xr μ1 (cpB (μ1 1) 1790 0 358) 1 353 = nI (aC sn 4) := by
      rw [xr_1, new _ (by decide)]
      exact r1.c 4 (by decide)
    rw [ea, eb]
    have fo : ∀ r, (r < 4 ∨ 51 ≤ r) → σ2 r = σ1 r := fun r hr => y2 r (by omega)
    refine ⟨_, _, _, sn, rfl, rfl, ⟨d2, r1.low I1.sz new, I1.mono (by omega) hB⟩, ⟨hs, oo, m, p1.low (fo 1 (by decide)) (fun r hr => fo r (by omega)), fun k hk => ?_, p3, by rw [fo 0 (by decide)]; exact p4, by rw [xr_ne (by decide)]; exact p5⟩, ⟨sc, sn, kp, s1.low (fun r hr => fo (51 + r) (by omega)), s2.low (fun r hr => fo (98 + r) (by omega)), fun hk => ?_, s4, by rw [fo 0 (by decide)]; exact s5, by rw [xr_ne (by decide)]; exact s6⟩, ⟨tl, t1, by rw [fo 2 (by decide)]; exact t2, by rw [xr_ne (by decide)]; exact t3, fun k hk => by rw [fo 3 (by decide), xr_ne (by decide)]; exact t4 k hk⟩, by rw [xr_ne (by decide)]; exact w⟩
    · obtain ⟨y1, y2⟩ := p2 k hk
      exact ⟨y1.low y2.sz (fun i hi => row _ (by omega)), y2.mono (by omega) hB⟩
    · exact ⟨r1.low I1.sz (fun i hi => row _ (by omega)), I1.mono (by omega) hB⟩
