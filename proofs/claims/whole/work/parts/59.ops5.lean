/-! the text: type, clearText, run *)  -/
theorem Rel.txt {B : Nat} {σ μ σ' μ' : xM} {a : xA} (R : Rel B σ μ a) (h1 : ∀ r, r ≠ 2 → r ≠ 3 → σ' r = σ r) (h2 : ∀ k, k ≠ 4 → μ' 0 k = μ 0 k) (h3 : μ' 1 = μ 1) (t : ∃ tl, tl ≤ 80 ∧ σ' 2 1 = nI tl ∧ μ' 0 4 = nI tl ∧ ∀ k, k < tl → σ' 3 k = μ' 2 k) : Rel B σ' μ' a := by
  obtain ⟨⟨c1, c2, c3⟩, ⟨hs, oo, m, p1, p2, p3, p4, p5⟩, ⟨sc, sn, kp, s1, s2, s3, s4, s5, s6⟩, -, w⟩ := R
  refine ⟨⟨c1.low c3.hn (fun r hr => h1 (4 + r) (by omega) (by omega)), by rw [h3]; exact c2, c3⟩, ⟨hs, oo, m, p1.low (h1 1 (by decide) (by decide)) (fun r hr => h1 r (by omega) (by omega)), by rw [h3]; exact p2, p3, by rw [h1 0 (by decide) (by decide)]; exact p4, by rw [h2 1 (by decide)]; exact p5⟩, ⟨sc, sn, kp, s1.low (fun r hr => h1 (51 + r) (by omega) (by omega)), s2.low (fun r hr => h1 (98 + r) (by omega) (by omega)), by rw [h3]; exact s3, s4, by rw [h1 0 (by decide) (by decide)]; exact s5, by rw [h2 2 (by decide)]; exact s6⟩, t, by rw [h2 6 (by decide)]; exact w⟩
theorem M_type {B n : Nat} {σ μ : xM} {a : xA} (R : Rel B σ μ a) (hB : B + 30000 < 2 ^ 30) {x : Int32} (hx : vp_nar .char x = x) : OK2 (B + 30000) (F_X4_type n σ x) (F_X5_type n μ x) := by
  have no := fun v => R.no (B' := B + 30000) (by omega) hB v
  obtain ⟨tl, t1, t2, t3, t4⟩ := R.2.2.2.1
  unfold F_X4_type F_X5_type F_X3_append
  rw [t2, t3]
  by_cases q : tl < 80
  · rcases io (x := nI tl) (L := 0) (H := 79) 0 79 rfl rfl (by decide) (by decide) with ⟨o1, -⟩ | ⟨o1, -⟩
    · rw [o1, z00, ite_ok q (by omega), ite_ok q (by omega), nI_clamp (by omega), if_neg (show ¬ nI tl = (80 : Int32) from fun e => by
        have := (nI_eq (b := 80) (by omega) (by omega)).mp e
        omega), hx]
      show OK2 _ (if (1 : Int32) = 0 then some ((-100003 : Int32), x_up (x_up σ 3 tl x) 2 1 (σ 2 1 + 1)) else some (x_up (x_up σ 3 tl x) 2 1 (σ 2 1 + 1) 2 1, x_up (x_up σ 3 tl x) 2 1 (σ 2 1 + 1))) (some (x_up (x_up μ 2 tl x) 0 4 (μ 0 4 + 1) 0 4, x_up (x_up μ 2 tl x) 0 4 (μ 0 4 + 1)))
      rw [z10, x_up_at, x_up_at, t2, t3, nI_1]
      refine ⟨_, _, _, a, rfl, rfl, ?_⟩
      refine (R.mono (by omega) hB).txt (fun r h2 h3 => by rw [x_up_row' h2, x_up_row' h3]) (fun k hk => by rw [x_up_off hk, x_up_row' (by decide)]) (by rw [x_up_row' (by decide), x_up_row' (by decide)]) ⟨tl + 1, by omega, x_up_at, x_up_at, fun k hk => ?_⟩
      rw [x_up_row' (show 3 ≠ 2 by decide), x_up_row' (show 2 ≠ 0 by decide)]
      by_cases c : k = tl
      · rw [c, x_up_at, x_up_at]
      · rw [x_up_off c, x_up_off c]
        exact t4 k (by omega)
    · exfalso
      unfold F_X4_isOutside at o1
      rw [if_neg (nI_pos (by omega)), if_neg (show ¬ (79 : Int32) < nI tl from nI_nlt (b := tl) (a := 79) (by omega) (by omega))] at o1
      exact absurd o1 (by decide)
  · have e : tl = 80 := by omega
    rw [e, show F_X4_isOutside (nI 80) 0 79 = 1 from by decide, z10, if_pos (show nI 80 = (80 : Int32) from rfl)]
    show OK2 _ (if (0 : Int32) = 0 then some ((-100003 : Int32), σ) else some (σ 2 1, σ)) _
    rw [z00]
    exact no _
theorem M_clearText {B n : Nat} {σ μ : xM} {a : xA} (R : Rel B σ μ a) (hB : B + 30000 < 2 ^ 30) : OK2 (B + 30000) (F_X4_clearText n σ) (F_X5_clearText n μ) := by
  obtain ⟨tl, t1, t2, t3, t4⟩ := R.2.2.2.1
  unfold F_X4_clearText F_X5_clearText
  rw [t2, t3]
  refine ⟨_, _, _, a, rfl, rfl, (R.mono (by omega) hB).txt (fun r h2 h3 => by rw [x_up_row' h2]) (fun k hk => by rw [x_up_off hk]) (by rw [x_up_row' (by decide)]) ⟨0, by decide, x_up_at, x_up_at, fun k hk => absurd hk (Nat.not_lt_zero _)⟩⟩
theorem rS_C (c : Int32) (q : xQ) (i : Nat) (hi : 9 ≤ i) : aC (rS c q).2.2.2 i = aC q.2.2.2 i := by
  unfold rS
  by_cases h1 : c = 44
  · rw [if_pos h1]
    exact sGo_C _ _ _ _ hi
  · rw [if_neg h1]
    by_cases h2 : cD c = true
    · rw [if_pos h2]
    · rw [if_neg h2]
theorem rQ_C (t : Nat → Int32) (a : xA) (i : Nat) (hi : 9 ≤ i) : ∀ k, aC (rQ t a k).2.2.2 i = aC a i := by
  intro k
  induction k with
  | zero => rfl
  | succ k ih => exact (rS_C _ _ _ hi).trans ih
theorem pL_le (s : Nat) : pL s ≤ 10000 := by
  unfold pL
  split
  · decide
  · split
    · decide
    · split
      · decide
      · split <;> decide
theorem M_run {B n : Nat} {σ μ : xM} {a : xA} (R : Rel B σ μ a) (hn : 400 < n) (hB : B + 30000 < 2 ^ 30) : OK2 (B + 30000) (F_X4_run n σ) (F_X5_run n μ) := by
  have no := fun v => R.no (B' := B + 30000) (by omega) hB v
  obtain ⟨tl, t1, t2, t3, t4⟩ := R.2.2.2.1
  unfold F_X4_run F_X5_run
  rcases fault_same (τ := σ) (σ := μ) (t := μ 2) (m := tl) (n := n) (by omega) t1 t2 t4 t3 (fun _ _ => rfl) with ⟨j, hj, e1, e2⟩ | ⟨e1, e2, s, s2, hs⟩
  · rw [e1, e2, Option.bind_some, Option.bind_some, if_neg (nI_pos (by omega)), if_neg (nI_pos (by omega))]
    exact no _
  · rw [e1, e2, Option.bind_some, Option.bind_some, if_pos (show (-100005 : Int32) < 0 by decide), if_pos (show (-1 : Int32) < 0 by decide)]
    obtain ⟨σ1, μ1, f1, f2, R1, x1, x2, x3, x4, x5⟩ := R.rec2 hn
    obtain ⟨g1, g2, g3⟩ := R1.gh
    obtain ⟨σ2, y1, y2, y3⟩ := T_run (n := n) (m := tl) (t := μ 2) (by omega) t1 g1 g3 (by omega) (by rw [x2]; exact t2) (by rw [x3]; exact t4) ⟨s, hs⟩
    obtain ⟨μ2, ρ2, w1, w2, w3⟩ := R_run (n := n) (m := tl) (t := μ 2) (μ := μ1) (by omega) t1 g2 g3 (by omega) R1.w (by rw [x4 4 (by decide)]; exact t3) (fun k _ => by rw [x5]) ⟨s, hs⟩
    rw [xr_self] at w1
    rw [f1, f2, Option.bind_some, Option.bind_some, y1, w1, Option.bind_some]
    obtain ⟨i1, i2, i3, i4, i5⟩ := rQ_inv (t := μ 2) g3 tl s (by omega) hs
    have hl : (rQ (μ 2) (tla a (μ1 1)) tl).2.2.1 < 10000 := Nat.lt_of_lt_of_le i3 (pL_le s)
    have I2 : Inv (B + 300 * tl + 300) (rS 44 (rQ (μ 2) (tla a (μ1 1)) tl)).2.2.2 := Inv_go i5 i2 hl (by omega)
    have g : ∀ i, 9 ≤ i → aC (rS 44 (rQ (μ 2) (tla a (μ1 1)) tl)).2.2.2 i = aC (tla a (μ1 1)) i := fun i hi => (rS_C _ _ _ hi).trans (rQ_C _ _ _ hi _)
    have R2 := R1.act (B' := B + 30000) (by omega) y2 w2 (I2.mono (by omega) hB) g (fun k hk => w3.1 k (by omega)) (w3.2 2 (by decide) (by decide))
    refine ⟨_, _, _, (rS 44 (rQ (μ 2) (tla a (μ1 1)) tl)).2.2.2, rfl, rfl, ?_⟩
    show Rel _ σ2 _ _
    refine R2.cur (Nat.le_refl _) ?_ (fun r hr => ?_) (fun _ _ => rfl) (fun _ _ _ => rfl) rfl y2 R2.rr R2.inv
    · rw [y3 0 (by decide)]
      funext k
      simp only [x_pt]
      rw [if_neg (by omega)]
    · rw [y3 r (by omega)]
      funext k
      simp only [x_pt]
      rw [if_neg (by omega)]
