/-! wouldHit, wouldAsk *)  -/
theorem Rel.scr {B : Nat} {σ μ σ' μ' : xM} {a sc' : xA} (R : Rel B σ μ a) (h : ∀ r, r < 51 ∨ 98 ≤ r → σ' r = σ r) (hs : CR6 (x_sh 51 σ') sc') (h0 : ∀ k, k < 5 ∨ k = 6 → μ' 0 k = μ 0 k) (h1 : ∀ i, i < 2148 → μ' 1 i = μ 1 i) (h2 : μ' 2 = μ 2) : Rel B σ' μ' a := by
  obtain ⟨⟨c1, c2, c3⟩, ⟨hs, oo, m, p1, p2, p3, p4, p5⟩, ⟨sc, sn, kp, s1, s2, s3, s4, s5, s6⟩, ⟨tl, t1, t2, t3, t4⟩, w⟩ := R
  refine ⟨⟨c1.low c3.hn (fun r hr => h (4 + r) (by omega)), c2.low c3.sz (fun i hi => h1 i (by omega)), c3⟩, ⟨hs, oo, m, p1.low (h 1 (by decide)) (fun r hr => h r (by omega)), fun k hk => ?_, p3, by rw [h 0 (by decide)]; exact p4, by rw [h0 1 (by decide)]; exact p5⟩, ⟨sc', sn, kp, by assumption, s2.low (fun r hr => h (98 + r) (by omega)), fun hk => ?_, s4, by rw [h 0 (by decide)]; exact s5, by rw [h0 2 (by decide)]; exact s6⟩, ⟨tl, t1, by rw [h 2 (by decide)]; exact t2, by rw [h0 4 (by decide)]; exact t3, fun k hk => by rw [h 3 (by decide), h2]; exact t4 k hk⟩, by rw [h0 6 (by decide)]; exact w⟩
  · obtain ⟨y1, y2⟩ := p2 k hk
    exact ⟨y1.low y2.sz (fun i hi => h1 (358 + 358 * k + i) (by omega)), y2⟩
  · obtain ⟨y1, y2⟩ := s3 hk
    exact ⟨y1.low y2.sz (fun i hi => h1 (1790 + i) (by omega)), y2⟩
/-- both copy what stands now, to try -/
theorem both_try {B n : Nat} {σ μ : xM} {a : xA} (R : Rel B σ μ a) (hn : 400 < n) : ∃ σ1 b, F_X2_copyFrom n σ 51 4 = some σ1 ∧ (∀ r, r < 51 ∨ 98 ≤ r → σ1 r = σ r) ∧ F_X5_copy n μ 0 2148 = some (xr μ (cpB (μ 1) 0 2148 358)) ∧ CRep (x_sh 51 σ1) b ∧ RRep (cpB (μ 1) 0 2148 358) b ∧ Inv B b ∧ aC b 2 = aC a 2 ∧ ∀ ρ' b', RRep ρ' b' → (∀ i, 9 ≤ i → aC b' i = aC b i) → ∀ i, i < 2148 → cpB ρ' 2148 0 358 i = μ 1 i := by
  obtain ⟨-, -, ⟨sc, -, -, s1, -⟩, -⟩ := id R
  obtain ⟨σ1, e1, d1, f1⟩ := C_copy2 (n := n) (o := 51) (o2 := 4) (by omega) (Or.inr (by omega)) R.cr R.h6 s1.1
  have rr : RR0 (cpB (μ 1) 0 2148 358) a := R.rr.low R.inv.sz (fun i hi => by
    unfold cpB
    rw [if_neg (by omega)])
  refine ⟨σ1, tla a (cpB (μ 1) 0 2148 358), e1, fun r hr => f1 r (by omega), R_cp (b := 0) (d := 2148) hn (by omega) (by omega) (by omega), d1.tail tlC_lo, rr.tail, R.inv.tail tlC_lo, rfl, fun ρ' b' r' g i hi => ?_⟩
  have keep : ∀ j, 358 ≤ j → j < 2506 → ρ' j = cpB (μ 1) 0 2148 358 j := fun j h1 h2 => by
    have y1 := r'.1 (j - 349) (by omega)
    have y2 := rr.tail.1 (j - 349) (by omega)
    rw [show 349 + (j - 349) = j by omega] at y1 y2
    rw [y1, g _ (by omega), ← y2]
  by_cases q : i < 358
  · have e : cpB ρ' 2148 0 358 i = ρ' (2148 + i) := by
      unfold cpB
      rw [if_pos (by omega), Nat.sub_zero]
    rw [e, keep _ (by omega) (by omega)]
    unfold cpB
    rw [if_pos (by omega)]
    refine congrArg (μ 1) ?_
    omega
  · have e : cpB ρ' 2148 0 358 i = ρ' i := by
      unfold cpB
      rw [if_neg (by omega)]
    rw [e, keep _ (by omega) (by omega)]
    unfold cpB
    rw [if_neg (by omega)]
theorem x_pt_row {o : Nat} {τ σ : xM} {r : Nat} (h : r < o ∨ o + 47 ≤ r) : x_pt o τ σ r = σ r := by
  funext k
  simp only [x_pt]
  rw [if_neg (by omega)]
theorem M_wouldHit {B n : Nat} {σ μ : xM} {a : xA} (R : Rel B σ μ a) (hn : 400 < n) (hB : B + 30000 < 2 ^ 30) (x y z u : Int32) : OK2 (B + 30000) (F_X4_wouldHit n σ x y z u) (F_X5_wouldHit n μ x y z u) := by
  have no := fun v => R.no (B' := B + 30000) (by omega) hB v
  unfold F_X4_wouldHit F_X5_wouldHit
  rcases walk_io x y z u with ⟨w1, w2, p, l, c, hp, hl, hc, rfl, rfl, rfl, hv⟩ | ⟨w1, w2⟩
  · rw [w1, w2, z10, z10]
    obtain ⟨σ1, b, e1, f1, e2, g1, g2, g3, g4, kp⟩ := both_try R hn
    obtain ⟨τ', u1, u2⟩ := C_walk g1 g3 (n := n) hp (by omega) (by omega) hv (by omega)
    obtain ⟨μ', ρ', v1, v2, m5⟩ := R_goOn (μ := μ) g2 g3 (n := n) hp (by omega) (by omega) hv (by omega) R.w
    have I2 := Inv_walk g3 hp hv (by omega) c (Nat.le_refl _)
    have e3 := R_cp (μ := xr μ' ρ') (n := n) (b := 2148) (d := 0) hn (by omega) (by omega) (by omega)
    rw [e1, Option.bind_some, u1, Option.bind_some, e2, Option.bind_some, v1, Option.bind_some, show (2148 : Int32) = nI 2148 from rfl, show (0 : Int32) = nI 0 from rfl, e3, Option.bind_some]
    refine ⟨_, _, _, a, rfl, rfl, (R.mono (by omega) hB).scr (sc' := (sWalk p l z c b).2) (fun r hr => (x_pt_row (by omega)).trans (f1 r hr)) (CR6.low ⟨u2, I2.hn⟩ (fun r hr => x_sh_pt hr)) (fun k hk => ?_) (fun i hi => ?_) ?_⟩
    · rw [xr_ne (by decide), xr_ne (by decide)]
      exact m5.1 k (by omega)
    · exact kp ρ' _ v2 (fun i hi => sWalk_C _ _ _ _ i hi _) i hi
    · rw [xr_ne (by decide), xr_ne (by decide)]
      exact m5.2 2 (by decide) (by decide)
  · rw [w1, w2, z00, z00]
    exact no _
theorem C_helps_2 (a : xA) (p l : Nat) : aC (sGo a p l).2 2 = aC a 2 := by
  show aC (sHelps p l (sServe (sWork (aC a 2) a) l).1 (aC a 2) (sServe (sWork (aC a 2) a) l).2).2 2 = _
  rw [sHelps_C _ _ _ _ (by decide), sServe_C _ _ _ (by decide), (sWork_r a _).2.2.2.2]
theorem M_wouldAsk {B n : Nat} {σ μ : xM} {a : xA} (R : Rel B σ μ a) (hn : 400 < n) (hB : B + 30000 < 2 ^ 30) (x y z u : Int32) : OK2 (B + 30000) (F_X4_wouldAsk n σ x y z u) (F_X5_wouldAsk n μ x y z u) := by
  have no := fun v => R.no (B' := B + 30000) (by omega) hB v
  have h6 := R.h6
  unfold F_X4_wouldAsk F_X5_wouldAsk F_X5_isAccess F_X5_isLine
  rcases hp_io R.cr R.rr R.inv.1 n x with ⟨h, hh, rfl, e1, e2⟩ | ⟨e1, e2⟩
  · rw [e1, Option.bind_some, e2, Option.bind_some, z10]
    show OK2 _ (if F_X4_isOutside y 0 15 = 0 then _ else _) _
    rcases io (x := y) (L := 0) (H := 15) 0 15 rfl rfl (by decide) (by decide) with ⟨o1, i1, p, -, p2, rfl⟩ | ⟨o1, i1⟩
    · rcases io (x := z) (L := 0) (H := 9999) 0 9999 rfl rfl (by decide) (by decide) with ⟨o2, i2, l, -, l2, rfl⟩ | ⟨o2, i2⟩
      · rw [o1, i1, o2, i2]
        simp only [z00, z10]
        by_cases q : u < 0
        · rw [if_pos q, if_pos q]
          exact no _
        · rw [if_neg q, if_neg q]
          obtain ⟨j, hj, rfl⟩ := nI_of q
          obtain ⟨σ1, b, c1, f1, c2, g1, g2, g3, g4, kp⟩ := both_try R hn
          have hb : h < aC b 2 := by rw [g4]; exact hh
          obtain ⟨τ', u1, u2, u3⟩ := C_perform g1 g3 (n := n) (by omega) (show p < 16 by omega) (show l < 10000 by omega) (by omega)
          have hw : ∀ k, k < 6 → x_up (x_up μ 0 6 (nI h)) 0 8 0 0 6 = nI k → x_up (x_up μ 0 6 (nI h)) 0 8 0 0 8 = 0 := fun _ _ _ => x_up_at
          obtain ⟨μ', ρ', v1, v2, mw⟩ := R_go (μ := x_up (x_up μ 0 6 (nI h)) 0 8 0) g2 g3 (n := n) (by omega) (show p < 16 by omega) (show l < 10000 by omega) (by omega) hw
          have I2 := Inv_go g3 (show p < 16 by omega) (show l < 10000 by omega) (by omega)
          have e6 : x_up (x_up μ 0 6 (nI h)) 0 8 0 0 6 = nI h := by rw [x_up_off (by decide), x_up_at]
          obtain ⟨m1, m2, m3, m4⟩ := mw
          obtain ⟨k1, k2⟩ := m4 h hb e6
          have e3 := R_cp (μ := x_up (xr μ' ρ') 0 6 (-1)) (n := n) (b := 2148) (d := 0) hn (by omega) (by omega) (by omega)
          have e0 : x_up (x_up (xr μ (cpB (μ 1) 0 2148 358)) 0 6 (nI h)) 0 8 0 = xr (x_up (x_up μ 0 6 (nI h)) 0 8 0) (cpB (μ 1) 0 2148 358) := by rw [xr_up0 _ _ (by decide), xr_up0 _ _ (by decide)]
          rw [c1, Option.bind_some, u1, Option.bind_some, c2, Option.bind_some]
          show OK2 _ ((F_X2_helperAt n (x_sh 51 (x_pt 51 τ' σ1)) (nI h)).bind _) ((F_X5_go n (x_up (x_up (xr μ (cpB (μ 1) 0 2148 358)) 0 6 (nI h)) 0 8 0) (nI p) (nI l)).bind _)
          have u2' : CRep (x_sh 51 (x_pt 51 τ' σ1)) (sGo b p l).2 := CRep.low u2 I2.hn (fun r hr => x_sh_pt hr)
          have hb2 : h < aC (sGo b p l).2 2 := by
            have e := (C_helps_2 b p l)
            rw [e]
            exact hb
          rw [e0, v1, Option.bind_some, C_helperAt u2' I2.1 n hb2, Option.bind_some, show (2148 : Int32) = nI 2148 from rfl, show (0 : Int32) = nI 0 from rfl]
          show OK2 _ ((F_X0_wishAt n (x_sh 51 (x_pt 51 τ' σ1)) (21 + 4 * h) (nI j)).bind _) ((F_X5_copy n (x_up (xr μ' ρ') 0 6 (-1)) (nI 2148) (nI 0)).bind _)
          rw [e3, Option.bind_some]
          have R2 : Rel (B + 30000) (x_pt 51 τ' σ1) (xr (x_up (xr μ' ρ') 0 6 (-1)) (cpB (x_up (xr μ' ρ') 0 6 (-1) 1) 2148 0 358)) a := by
            refine (R.mono (by omega) hB).scr (sc' := (sGo b p l).2) (fun r hr => (x_pt_row (by omega)).trans (f1 r hr)) (CR6.low ⟨u2, I2.hn⟩ (fun r hr => x_sh_pt hr)) (fun k hk => ?_) (fun i hi => ?_) ?_
            · rw [xr_ne (by decide)]
              by_cases k6 : k = 6
              · rw [k6, x_up_at]
                exact R.w.symm
              · rw [x_up_off k6, xr_ne (by decide), m1 k (by omega) (by omega), x_up_off (by omega), x_up_off k6]
            · rw [xr_1, x_up_row' (show 1 ≠ 0 by decide)]
              exact kp ρ' _ v2 (fun i hi => sGo_C _ _ _ i hi) i hi
            · rw [xr_ne (by decide), x_up_row' (by decide), xr_ne (by decide), m2 2 (by decide) (by decide) (by decide), x_up_row' (by decide), x_up_row' (by decide)]
          have w0 := u3 h hb
          have w1 : WR (x_sh 51 (x_pt 51 τ' σ1)) h (goAsk b p l h) := w0.keep (by rw [x_sh_pt (by omega)]) (x_sh_pt (by omega))
          obtain ⟨w2, w3, w4⟩ := w1
          have q8 : xr (x_up (xr μ' ρ') 0 6 (-1)) (cpB (x_up (xr μ' ρ') 0 6 (-1) 1) 2148 0 358) 0 8 = nI (goAsk b p l h).length := by
            rw [xr_ne (by decide), x_up_off (by decide), xr_ne (by decide)]
            exact k1
          have q3 : ∀ k, xr (x_up (xr μ' ρ') 0 6 (-1)) (cpB (x_up (xr μ' ρ') 0 6 (-1) 1) 2148 0 358) 3 k = μ' 3 k := fun k => by
            rw [xr_ne (by decide), x_up_row' (by decide), xr_ne (by decide)]
          generalize xr (x_up (xr μ' ρ') 0 6 (-1)) (cpB (x_up (xr μ' ρ') 0 6 (-1) 1) 2148 0 358) = μ9 at *
          have gg := gr_G h (by omega)
          unfold F_X0_wishAt
          rw [if_neg q, w2, q8]
          by_cases c : j < (goAsk b p l h).length
          · obtain ⟨v, hv⟩ : ∃ v, (goAsk b p l h)[j]? = some v := ⟨_, List.getElem?_eq_getElem c⟩
            rw [if_pos (nI_lt c (by omega)), if_pos (nI_lt c (by omega)), gg.2.1, Option.bind_some, gg.2.2, if_pos (show nI j < Int32.ofNat 4 from nI_lt (b := 4) (by omega) (by decide)), Option.bind_some, gg.2.2, ite_ok (by omega) (by decide), nI_clamp (by omega), w4 j v hv, Option.bind_some, if_neg (show ¬ (nI j < nI 0 ∨ 4 ≤ j) from fun e => e.elim (nI_pos (by omega)) (by omega)), q3, k2 j v hv]
            exact ⟨_, _, _, a, rfl, rfl, R2⟩
          · rw [if_neg (nI_nlt (by omega) (by omega)), if_neg (nI_nlt (by omega) (by omega)), Option.bind_some]
            exact ⟨_, _, _, a, rfl, rfl, R2⟩
      · rw [o1, i1, o2, i2]
        simp only [z00, z10]
        exact no _
    · rw [o1, i1]
      simp only [z00, z10]
      exact no _
  · rw [e1, Option.bind_some, e2, Option.bind_some, z00]
    exact no _
