/-! bestHelper, logged, count *)  -/
theorem M_bestHelper {B n : Nat} {σ μ : xM} {a : xA} (R : Rel B σ μ a) (hn : 400 < n) : OK1 (F_X4_bestHelper n σ) (F_X5_bestHelper n μ) := by
  have h6 := R.h6
  have c2 : σ (4 + 0) 6 = nI (aC a 2) := R.cr.c 2 (by decide)
  have r2 : μ 1 351 = nI (aC a 2) := R.rr.c 2 (by decide)
  have loop : ∀ (f i : Nat) (l1 l2 : Int32), i ≤ aC a 2 → aC a 2 - i < f → OK1 (B_X4_bestHelper_7 n σ f l1 l2 (nI i)) (B_X5_bestHelper_7 n μ f l1 l2 (nI i)) := by
    intro f
    induction f with
    | zero => intro i l1 l2 _ h; omega
    | succ f ih =>
      intro i l1 l2 hi hf
      show OK1 (if nI i < σ (4 + 0) 6 then _ else _) (if (351 : Int32) < 0 ∨ 2506 ≤ (351 : Int32).toNatClampNeg then none else if nI i < μ 1 (351 : Int32).toNatClampNeg then _ else _)
      rw [c2, g351, t351, r2]
      by_cases q : i < aC a 2
      · rw [if_pos (nI_lt q (by omega)), if_pos (nI_lt q (by omega))]
        have u : σ (4 + (21 + 4 * i)) 10 = nI (aH a i 7) := R.cf q 7 (by decide)
        have v : σ (4 + (21 + 4 * i)) 11 = nI (aH a i 8) := R.cf q 8 (by decide)
        simp (disch := omega) only [of7, of8, gd, gd2, cl, R.rr.f q 7 (by decide), R.rr.f q 8 (by decide), ite_ok (show i < 6 by omega) (show 6 < 2 ^ 31 by decide), ite_ok2 (show i < 6 by omega) (show 6 < 2 ^ 31 by decide), gr_H i (by omega), Option.bind_some, u, v]
        unfold B_X4_bestHelper_57 B_X4_bestHelper_62 B_X5_bestHelper_56 B_X5_bestHelper_61
        rw [nI_1]
        by_cases k1 : l1 = (-100005 : Int32)
        · rw [if_pos k1, if_pos k1]
          exact ih (i + 1) _ _ q (by omega)
        · rw [if_neg k1, if_neg k1]
          by_cases k2 : l2 < nI (aH a i 7) - nI (aH a i 8)
          · rw [if_pos k2, if_pos k2]
            exact ih (i + 1) _ _ q (by omega)
          · rw [if_neg k2, if_neg k2]
            exact ih (i + 1) _ _ q (by omega)
      · have e : i = aC a 2 := by omega
        subst e
        rw [if_neg (nI_nlt (Nat.le_refl _) (by omega)), if_neg (nI_nlt (Nat.le_refl _) (by omega))]
        exact ⟨_, rfl, rfl⟩
  exact loop n 0 _ _ (Nat.zero_le _) (by omega)
theorem M_logged {B n : Nat} {σ μ : xM} {a : xA} (R : Rel B σ μ a) (x y : Int32) : OK1 (F_X4_logged n σ x y) (F_X5_logged n μ x y) := by
  have I := R.inv
  have hb := I.b
  obtain ⟨IL1, IL2, IL3⟩ := I.2.2.2.2.2.1
  unfold F_X4_logged F_X5_logged
  by_cases q : x < 0
  · rw [if_pos q, if_pos q]
    exact ⟨_, rfl, rfl⟩
  · rw [if_neg q, if_neg q]
    obtain ⟨j, hj, rfl⟩ := nI_of q
    rcases io (x := y) (L := 0) (H := 4) 0 4 rfl rfl (by decide) (by decide) with ⟨o2, i2, w, -, w2, rfl⟩ | ⟨o2, i2⟩
    · have cL := R.cr.2.2.2.2.2
      have el : σ (4 + 45) 3 = nI (aL a).length := cL.2.2.1
      have e1 := R_many R.rr.tail (R.inv.tail tlC_lo) n μ
      rw [xr_self] at e1
      have e1' : F_X5_loggedMany n μ = some (nI (aL a).length) := e1
      rw [o2, i2, z00, z10, e1', Option.bind_some, el]
      have r4 : μ 1 353 = nI (aC a 4) := R.rr.c 4 (by decide)
      by_cases c : j < (aL a).length
      · have e2 : nI (aL a).length - 1 - nI j = nI ((aL a).length - 1 - j) := by
          show nI _ - nI 1 - nI j = _
          rw [pk_sub (by omega), pk_sub (by omega)]
        have e3 : nI (aC a 4) - 1 - nI j = nI (aC a 4 - 1 - j) := by
          show nI _ - nI 1 - nI j = _
          rw [pk_sub (by omega), pk_sub (by omega)]
        obtain ⟨r, hr⟩ := get_of (show (aL a).length - 1 - j < (aL a).length by omega)
        rw [e2, C_get cL SF_L n hr (show w < 5 by omega), Option.bind_some, if_pos (nI_lt c (by omega)), g353, t353, r4, e3]
        refine ⟨r w, rfl, ?_⟩
        by_cases w4 : w = 4
        · subst w4
          rw [if_pos (show nI 4 = (4 : Int32) from rfl), (IL3 _ r hr).1]
          congr 2
          omega
        · have hm : (aC a 4 - 1 - j) % 12 < 12 := Nat.mod_lt _ (by decide)
          have h5 := R.rr.2.2.2.2 _ r hr w (by omega)
          rw [show aC a 4 - (aL a).length + ((aL a).length - 1 - j) = aC a 4 - 1 - j by omega] at h5
          have e5 : (300 : Int32) + 4 * x_rem (nI (aC a 4 - 1 - j)) 12 + nI w = nI (300 + 4 * ((aC a 4 - 1 - j) % 12) + w) := by
            rw [show (12 : Int32) = nI 12 from rfl, x_remN (by omega) (by decide) (by decide)]
            show nI 300 + nI 4 * nI _ + nI w = _
            rw [pk_mul, nI_add, nI_add]
          rw [if_neg (show ¬ nI w = (4 : Int32) from fun e => w4 ((nI_eq (b := 4) (by omega) (by omega)).mp e)), if_neg (show ¬ (12 : Int32) = 0 by decide), e5, gd (by omega), cl (by omega), h5]
      · rw [if_neg (nI_nlt (by omega) (by omega)), C_get_no cL n, Option.bind_some]
        · exact ⟨_, rfl, rfl⟩
        · refine Or.inl ?_
          have e9 : nI (aL a).length - 1 - nI j = nI (aL a).length - (1 + nI j) := Int32.sub_sub _ _ _
          rw [Int32.lt_iff_toInt_lt, Int32.toInt_sub, show nI (aL a).length - 1 = nI (aL a).length - nI 1 from rfl, pk_sub_toInt (by omega) (by decide), nI_toInt hj, show (0 : Int32).toInt = 0 from rfl, Int.bmod_eq_of_le (by omega) (by omega)]
          omega
    · rw [o2, i2, z10, z00]
      exact ⟨_, rfl, rfl⟩
theorem lits17 {y : Int32} (h : F_X5_in y 0 16 = 0) : ∀ k, k < 17 → ¬ y = nI k := fun k hk e => by
  rw [e] at h
  unfold F_X5_in at h
  rw [if_neg (nI_pos (by omega)), if_neg (show ¬ (16 : Int32) < nI k from nI_nlt (a := 16) (by omega) (by omega))] at h
  exact absurd h (by decide)
theorem M_count {B n : Nat} {σ μ : xM} {a : xA} (R : Rel B σ μ a) (hn : 400 < n) (x : Int32) : OK1 (F_X4_count n σ x) (F_X5_count n μ x) := by
  have I := R.inv
  have h6 := R.h6
  have It := R.inv.tail (C := tlC a (μ 1)) tlC_lo
  have tv : ∀ i, i < 9 → some (σ (4 + 0) (4 + i)) = some (nI (aC a i)) := fun i hi => congrArg some (R.cr.c i hi)
  have rv : ∀ i, i < 9 → some (μ 1 (349 + i)) = some (nI (aC a i)) := fun i hi => congrArg some (R.rr.c i hi)
  unfold F_X4_count F_X5_count
  rcases io (x := x) (L := 0) (H := 16) 0 16 rfl rfl (by decide) (by decide) with ⟨-, i2, w, -, w2, rfl⟩ | ⟨-, i2⟩
  · rcases (show w = 0 ∨ w = 1 ∨ w = 2 ∨ w = 3 ∨ w = 4 ∨ w = 5 ∨ w = 6 ∨ w = 7 ∨ w = 8 ∨ w = 9 ∨ w = 10 ∨ w = 11 ∨ w = 12 ∨ w = 13 ∨ w = 14 ∨ w = 15 ∨ w = 16 by omega) with rfl | rfl | rfl | rfl | rfl | rfl | rfl | rfl | rfl | rfl | rfl | rfl | rfl | rfl | rfl | rfl | rfl
    · exact ⟨_, tv 4 (by decide), rv 4 (by decide)⟩
    · exact ⟨_, tv 5 (by decide), rv 5 (by decide)⟩
    · exact ⟨_, tv 6 (by decide), rv 6 (by decide)⟩
    · show OK1 (some (σ (4 + 0) 8 - σ (4 + 0) 9)) (some (μ 1 353 - μ 1 354))
      rw [show σ (4 + 0) 8 = nI (aC a 4) from R.cr.c 4 (by decide), show σ (4 + 0) 9 = nI (aC a 5) from R.cr.c 5 (by decide), show μ 1 353 = nI (aC a 4) from R.rr.c 4 (by decide), show μ 1 354 = nI (aC a 5) from R.rr.c 5 (by decide)]
      exact ⟨_, rfl, rfl⟩
    · exact ⟨_, tv 7 (by decide), rv 7 (by decide)⟩
    · exact ⟨_, tv 8 (by decide), rv 8 (by decide)⟩
    · exact ⟨_, tv 0 (by decide), rv 0 (by decide)⟩
    · exact ⟨_, tv 1 (by decide), rv 1 (by decide)⟩
    · have e2 := R_lines R.rr.tail (by omega : 20 < n) μ
      rw [xr_self] at e2
      have es : F_X5_linesIn n μ = some (nI (sLines a 8)) := e2
      show OK1 ((F_X2_linesInCache n (x_sh 4 σ)).bind fun q1 => some q1) ((F_X5_linesIn n μ).bind fun q1 => some q1)
      rw [C_lines R.cr (by omega : 20 < n), es]
      exact ⟨_, rfl, rfl⟩
    · have e2 := R_newOf R.rr.tail It.sz It.1.2.1 (n := n) (by omega) μ (-1)
      rw [xr_self] at e2
      have e1 := C_newAll (R.cr.tail (C := tlC a (μ 1)) tlC_lo) It.hn (n := n) (by omega)
      have e3 := sNewAll_eq It
      show OK1 ((F_X2_newLines n (x_sh 4 σ)).bind fun q1 => some q1) ((F_X5_newOf n μ (-1)).bind fun q1 => some q1)
      have e4 : F_X5_newOf n μ (-1) = some (nI (sNewAll (wC a (tlC a (μ 1))) (aC (wC a (tlC a (μ 1))) 2))) := e2.trans (congrArg (fun v => some (nI v)) e3.symm)
      rw [e1, e4]
      exact ⟨_, rfl, rfl⟩
    · exact ⟨_, tv 2 (by decide), rv 2 (by decide)⟩
    · exact ⟨_, tv 3 (by decide), rv 3 (by decide)⟩
    · have e2 := R_hoursAll R.rr.tail It.hn (n := n) (by omega) μ
      rw [xr_self] at e2
      have e1 := C_hours (R.cr.tail (C := tlC a (μ 1)) tlC_lo) It.hn (n := n) (by omega)
      show OK1 ((F_X2_allHours n (x_sh 4 σ)).bind fun q1 => some q1) ((F_X5_hoursOfAll n μ).bind fun q1 => some q1)
      exact ⟨_, congrArg (fun o => o.bind some) e1, congrArg (fun o => o.bind some) e2⟩
    · have e1 : σ (4 + 18) 3 = nI (aT a).length := R.cr.2.2.1.2.2.1
      have e2 : μ 1 348 = nI (aT a).length := R.rr.2.2.1.1
      exact ⟨_, congrArg some e1, congrArg some e2⟩
    · obtain ⟨-, ⟨hs, oo, m, p1, p2, p3, p4, p5⟩, -⟩ := R
      exact ⟨_, congrArg some p4, congrArg some p5⟩
    · obtain ⟨-, -, -, ⟨tl, t1, t2, t3, t4⟩, -⟩ := R
      exact ⟨_, congrArg some t2, congrArg some t3⟩
    · have e1 := C_progs R.cr R.inv (n := n) (by omega)
      have e2 := R_progs R.rr.tail It (n := n) (by omega) μ
      rw [xr_self] at e2
      have es : F_X5_programsLogged n μ = some (nI (pcN (mf (prL (aL a)) (aL a).length))) := e2
      show OK1 ((F_X2_programsInLog n (x_sh 4 σ)).bind fun q1 => some q1) ((F_X5_programsLogged n μ).bind fun q1 => some q1)
      rw [e1, es]
      exact ⟨_, rfl, rfl⟩
  · have L := lits17 i2
    have l0 : ¬ x = 0 := L 0 (by decide)
    have l1 : ¬ x = 1 := L 1 (by decide)
    have l2 : ¬ x = 2 := L 2 (by decide)
    have l3 : ¬ x = 3 := L 3 (by decide)
    have l4 : ¬ x = 4 := L 4 (by decide)
    have l5 : ¬ x = 5 := L 5 (by decide)
    have l6 : ¬ x = 6 := L 6 (by decide)
    have l7 : ¬ x = 7 := L 7 (by decide)
    have l8 : ¬ x = 8 := L 8 (by decide)
    have l9 : ¬ x = 9 := L 9 (by decide)
    have l10 : ¬ x = 10 := L 10 (by decide)
    have l11 : ¬ x = 11 := L 11 (by decide)
    have l12 : ¬ x = 12 := L 12 (by decide)
    have l13 : ¬ x = 13 := L 13 (by decide)
    have l14 : ¬ x = 14 := L 14 (by decide)
    have l15 : ¬ x = 15 := L 15 (by decide)
    have l16 : ¬ x = 16 := L 16 (by decide)
    simp only [if_neg l0, if_neg l1, if_neg l2, if_neg l3, if_neg l4, if_neg l5, if_neg l6, if_neg l7, if_neg l8, if_neg l9, if_neg l10, if_neg l11, if_neg l12, if_neg l13, if_neg l14, if_neg l15, if_neg l16]
    exact ⟨_, rfl, rfl⟩
