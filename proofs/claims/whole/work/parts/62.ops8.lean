/-! inSet, thrownOut, helper, table *)  -/
theorem M_inSet {B n : Nat} {σ μ : xM} {a : xA} (R : Rel B σ μ a) (hn : 400 < n) (x y : Int32) : OK1 (F_X4_inSet n σ x y) (F_X5_inSet n μ x y) := by
  have I := R.inv
  have h1 := I.1.1
  have h8 := I.1.2.1
  have z := I.sz
  unfold F_X4_inSet F_X5_inSet
  rw [g349, t349, show σ (4 + 0) 4 = nI (aC a 0) from R.cr.c 0 (by decide), show μ 1 349 = nI (aC a 0) from R.rr.c 0 (by decide)]
  obtain ⟨m, hm⟩ : ∃ m, aC a 0 = m + 1 := ⟨aC a 0 - 1, by omega⟩
  rw [hm, nI_pred]
  rcases io (x := x) (L := 0) (H := nI m) 0 m rfl rfl (by omega) (Nat.zero_le _) with ⟨o1, i1, s, -, s2, rfl⟩ | ⟨o1, i1⟩
  · rw [o1, i1, z00, z10]
    by_cases q : y < 0
    · rw [if_pos q, if_pos q]
      exact ⟨_, rfl, rfl⟩
    · rw [if_neg q, if_neg q]
      obtain ⟨j, hj, rfl⟩ := nI_of q
      have cS := R.cr.2.1 s (by omega)
      obtain ⟨l1, l2⟩ := R.rr.2.1 s (by omega)
      have zS := z.1 s (by omega)
      rw [show (0 : Int32) + nI s = nI s from Int32.zero_add _, gd (by omega), cl (by omega), l1, C_setAt n (by omega), Option.bind_some, Option.bind_some, R_cell]
      by_cases c : j < (aS a s).length
      · obtain ⟨r, hr⟩ := get_of c
        rw [if_pos (nI_lt c (by omega)), gd (by omega), cl (by omega), show F_X1_get n (x_sh 4 σ) (2 + 2 * s) (nI j) 0 = some (r 0) from C_get (j := 0) cS (SF_S s (by omega)) n hr (by decide), Option.bind_some]
        exact ⟨r 0, rfl, congrArg some (l2 j r hr 0 (by decide))⟩
      · rw [if_neg (nI_nlt (by omega) (by omega)), C_get_no cS n (Or.inr (nI_nlt (by omega) (by omega))), Option.bind_some]
        exact ⟨_, rfl, rfl⟩
  · rw [o1, i1, z00, z10]
    exact ⟨_, rfl, rfl⟩
theorem M_thrownOut {B n : Nat} {σ μ : xM} {a : xA} (R : Rel B σ μ a) (x : Int32) : OK1 (F_X4_thrownOut n σ x) (F_X5_thrownOut n μ x) := by
  have I := R.inv
  have z := I.sz
  unfold F_X4_thrownOut F_X5_thrownOut
  by_cases q : x < 0
  · rw [if_pos q, if_pos q]
    exact ⟨_, rfl, rfl⟩
  · rw [if_neg q, if_neg q]
    obtain ⟨j, hj, rfl⟩ := nI_of q
    have cT := R.cr.2.2.1
    obtain ⟨l1, l2⟩ := R.rr.2.2.1
    have zT := z.2.1
    rw [g348, t348, l1]
    by_cases c : j < (aT a).length
    · obtain ⟨r, hr⟩ := get_of c
      have e : (104 : Int32) + 2 * nI j = nI (104 + 2 * j) := by
        show nI 104 + nI 2 * nI j = _
        rw [pk_mul, nI_add]
      rw [if_pos (nI_lt c (by omega)), e, gd (by omega), cl (by omega), show F_X1_get n (x_sh 4 σ) 18 (nI j) 0 = some (r 0) from C_get (j := 0) cT SF_T n hr (by decide), Option.bind_some]
      refine ⟨r 0, rfl, congrArg some ?_⟩
      have := l2 j r hr 0 (by decide)
      rw [Nat.mul_comm j 2] at this
      exact this
    · rw [if_neg (nI_nlt (by omega) (by omega)), C_get_no cT n (Or.inr (nI_nlt (by omega) (by omega))), Option.bind_some]
      exact ⟨_, rfl, rfl⟩
theorem lits16 {y : Int32} (h : F_X5_in y 0 15 = 0) : ∀ k, k < 16 → ¬ y = nI k := fun k hk e => by
  rw [e] at h
  unfold F_X5_in at h
  rw [if_neg (nI_pos (by omega)), if_neg (show ¬ (15 : Int32) < nI k from nI_nlt (a := 15) (by omega) (by omega))] at h
  exact absurd h (by decide)
theorem R_val {μ : xM} {a : xA} {h k : Nat} (r : RR0 (μ 1) a) (hh : h < aC a 2) (h6 : aC a 2 ≤ 6) (hk : k < 13) : (if F_X5_of (nI h) (nI k) < 0 ∨ 2506 ≤ (F_X5_of (nI h) (nI k)).toNatClampNeg then none else some (μ 1 (F_X5_of (nI h) (nI k)).toNatClampNeg)) = some (nI (aH a h k)) := by
  rw [R_of, gd (by omega), cl (by omega), r.f hh k hk]
theorem M_helper {B n : Nat} {σ μ : xM} {a : xA} (R : Rel B σ μ a) (hn : 400 < n) (x y : Int32) : OK1 (F_X4_helper n σ x y) (F_X5_helper n μ x y) := by
  have I := R.inv
  have h6 := R.h6
  have z := I.sz
  unfold F_X4_helper F_X5_helper
  rcases hp_io R.cr R.rr R.inv.1 n x with ⟨h, hh, rfl, e1, e2⟩ | ⟨e1, e2⟩
  · have tv : ∀ k, k < 13 → some (σ (4 + (21 + 4 * h)) (3 + k)) = some (nI (aH a h k)) := fun k hk => congrArg some (R.cf hh k hk)
    have rv : ∀ k, k < 13 → _ := fun k hk => R_val (μ := μ) R.rr hh h6 hk
    rw [e1, Option.bind_some, e2, Option.bind_some, z10]
    show OK1 (if y = 0 then _ else _) _
    rcases io (x := y) (L := 0) (H := 15) 0 15 rfl rfl (by decide) (by decide) with ⟨-, i2, w, -, w2, rfl⟩ | ⟨-, i2⟩
    · rcases (show w = 0 ∨ w = 1 ∨ w = 2 ∨ w = 3 ∨ w = 4 ∨ w = 5 ∨ w = 6 ∨ w = 7 ∨ w = 8 ∨ w = 9 ∨ w = 10 ∨ w = 11 ∨ w = 12 ∨ w = 13 ∨ w = 14 ∨ w = 15 by omega) with rfl | rfl | rfl | rfl | rfl | rfl | rfl | rfl | rfl | rfl | rfl | rfl | rfl | rfl | rfl | rfl
      · exact ⟨_, tv 0 (by decide), rv 0 (by decide)⟩
      · exact ⟨_, tv 1 (by decide), rv 1 (by decide)⟩
      · exact ⟨_, tv 2 (by decide), rv 2 (by decide)⟩
      · exact ⟨_, tv 3 (by decide), rv 3 (by decide)⟩
      · exact ⟨_, tv 4 (by decide), rv 4 (by decide)⟩
      · exact ⟨_, tv 5 (by decide), rv 5 (by decide)⟩
      · have c1 := C_reach R.cr I hh n
        have c2 := R_reach R.rr.tail (h0 := h) hh h6 (I.2.2.2.1 h hh).2.2.2.2.2.1 n μ
        rw [xr_self] at c2
        show OK1 ((F_X0_reach n (x_sh 4 σ) (21 + 4 * h)).bind fun q3 => some q3) ((F_X5_reachOf n μ (nI h)).bind fun q2 => some q2)
        rw [c1, c2]
        exact ⟨_, rfl, rfl⟩
      · exact ⟨_, tv 6 (by decide), rv 6 (by decide)⟩
      · exact ⟨_, tv 7 (by decide), rv 7 (by decide)⟩
      · exact ⟨_, tv 8 (by decide), rv 8 (by decide)⟩
      · have c1 := C_newOf R.cr (n := n) (by omega) (nI h)
        have c2 := R_newOf R.rr.tail (R.inv.tail tlC_lo).sz (R.inv.tail tlC_lo).1.2.1 (n := n) (by omega) μ (nI h)
        rw [xr_self] at c2
        have c3 := new_same (R.inv.tail (C := tlC a (μ 1)) tlC_lo) (h := h) (by omega)
        show OK1 ((F_X2_newLinesOf n (x_sh 4 σ) (nI h)).bind fun q3 => some q3) ((F_X5_newOf n μ (nI h)).bind fun q2 => some q2)
        have c4 : F_X5_newOf n μ (nI h) = some (nI (cntP (newBy (nI h)) a 8)) := c2.trans (congrArg (fun v => some (nI v)) c3.symm)
        rw [c1, c4]
        exact ⟨_, rfl, rfl⟩
      · exact ⟨_, tv 9 (by decide), rv 9 (by decide)⟩
      · exact ⟨_, tv 10 (by decide), rv 10 (by decide)⟩
      · exact ⟨_, tv 11 (by decide), rv 11 (by decide)⟩
      · have c1 : σ (4 + (22 + 4 * h)) 3 = nI (aG a h).length := (R.cr.2.2.2.2.1 h (by omega)).2.2.1
        show OK1 ((gr (21 + 4 * h) 0).bind fun c5 => some (σ (4 + c5) 3)) (if F_X5_of (nI h) (nI 13) < 0 ∨ 2506 ≤ (F_X5_of (nI h) (nI 13)).toNatClampNeg then none else some (μ 1 (F_X5_of (nI h) (nI 13)).toNatClampNeg))
        rw [(gr_G h (by omega)).1, Option.bind_some, c1, R_of, gd (by omega), cl (by omega), R.rr.g hh]
        exact ⟨_, rfl, rfl⟩
      · exact ⟨_, tv 12 (by decide), rv 12 (by decide)⟩
    · have L := lits16 i2
      have l0 : ¬ y = 0 := L 0 (by decide)
      have l1 : ¬ y = 1 := L 1 (by decide)
      have l2 : ¬ y = 2 := L 2 (by decide)
      have l3 : ¬ y = 3 := L 3 (by decide)
      have l4 : ¬ y = 4 := L 4 (by decide)
      have l5 : ¬ y = 5 := L 5 (by decide)
      have l6 : ¬ y = 6 := L 6 (by decide)
      have l7 : ¬ y = 7 := L 7 (by decide)
      have l8 : ¬ y = 8 := L 8 (by decide)
      have l9 : ¬ y = 9 := L 9 (by decide)
      have l10 : ¬ y = 10 := L 10 (by decide)
      have l11 : ¬ y = 11 := L 11 (by decide)
      have l12 : ¬ y = 12 := L 12 (by decide)
      have l13 : ¬ y = 13 := L 13 (by decide)
      have l14 : ¬ y = 14 := L 14 (by decide)
      have l15 : ¬ y = 15 := L 15 (by decide)
      simp only [if_neg l0, if_neg l1, if_neg l2, if_neg l3, if_neg l4, if_neg l5, if_neg l6, if_neg l7, if_neg l8, if_neg l9, if_neg l10, if_neg l11, if_neg l12, if_neg l13, if_neg l14, if_neg l15]
      exact ⟨_, rfl, rfl⟩
  · rw [e1, Option.bind_some, e2, Option.bind_some, z00]
    exact ⟨_, rfl, rfl⟩
theorem M_table {B n : Nat} {σ μ : xM} {a : xA} (R : Rel B σ μ a) (x y z : Int32) : OK1 (F_X4_table n σ x y z) (F_X5_table n μ x y z) := by
  have I := R.inv
  have h6 := R.h6
  have zz := I.sz
  unfold F_X4_table F_X5_table
  rcases hp_io R.cr R.rr R.inv.1 n x with ⟨h, hh, rfl, e1, e2⟩ | ⟨e1, e2⟩
  · rw [e1, Option.bind_some, e2, Option.bind_some, z10]
    show OK1 (if y < 0 then _ else _) _
    by_cases q : y < 0
    · rw [if_pos q, if_pos q]
      exact ⟨_, rfl, rfl⟩
    · rw [if_neg q, if_neg q]
      obtain ⟨j, hj, rfl⟩ := nI_of q
      rcases io (x := z) (L := 0) (H := 3) 0 3 rfl rfl (by decide) (by decide) with ⟨o2, i2, w, -, w2, rfl⟩ | ⟨o2, i2⟩
      · have cG := R.cr.2.2.2.2.1 h (by omega)
        obtain ⟨-, l1, l2⟩ := R.rr.2.2.2.1 h hh
        have zG := zz.2.2.2 h hh
        simp (disch := omega) only [o2, i2, z00, z10, of13, of0, gd, gd2, cl, l1, R.rr.f hh 0 (by decide), (gr_G h (by omega)).1, Option.bind_some]
        by_cases c : j < (aG a h).length
        · obtain ⟨r, hr⟩ := get_of c
          have hw := l2 j r hr w (by omega)
          rw [if_pos (nI_lt c (by omega)), C_get cG (SF_G h (by omega)) n hr (show w < 4 by omega), Option.bind_some]
          have e68 : B_X5_table_68 n μ (nI h) (nI j) (nI w) = some (tG (aH a h 0) w (r w)) := by
            unfold B_X5_table_68
            rw [R_row, nI_add, gd (by omega), cl (by omega), hw]
          have iG := I.2.2.2.2.1 h hh
          by_cases w0 : w = 0
          · subst w0
            rw [if_pos (show nI 0 = (0 : Int32) from rfl)]
            by_cases k1 : aH a h 0 = 1
            · rw [k1, if_pos (show nI 1 = (1 : Int32) from rfl)]
              exact ⟨_, congrArg some ((iG.2.1 k1).2 r (List.mem_of_getElem? hr)).1, rfl⟩
            · have k0 : aH a h 0 = 0 := by
                have := (I.2.2.2.1 h hh).1
                by_cases k2 : aH a h 0 = 2
                · rw [iG.2.2 k2] at c
                  exact absurd c (Nat.not_lt_zero _)
                · omega
              rw [k0, if_neg (show ¬ nI 0 = (1 : Int32) by decide), e68, k0]
              exact ⟨_, rfl, rfl⟩
          · rw [if_neg (nI_ne0 (by omega) (by omega)), e68]
            refine ⟨_, rfl, ?_⟩
            unfold tG
            rw [if_neg w0]
        · rw [if_neg (nI_nlt (by omega) (by omega)), C_get_no cG n (Or.inr (nI_nlt (by omega) (by omega))), Option.bind_some]
          exact ⟨_, rfl, rfl⟩
      · rw [o2, i2, z10, z00]
        exact ⟨_, rfl, rfl⟩
  · rw [e1, Option.bind_some, e2, Option.bind_some, z00]
    exact ⟨_, rfl, rfl⟩
