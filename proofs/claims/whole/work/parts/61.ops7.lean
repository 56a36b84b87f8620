/-! line, inSet, thrownOut *)  -/
theorem by_same {m : Nat} {x : Int32} (hm : m ≤ 6) (h : okBy m x) : (if uc x = (-1 : Int32) then (-100005 : Int32) else uc x) = x := by
  rcases h with rfl | ⟨k, hk, rfl⟩
  · rfl
  · rw [uc_nI (by omega), if_neg (nI_m1 (by omega))]
theorem lits6 {y : Int32} (h : F_X5_in y 0 5 = 0) : ¬ y = 0 ∧ ¬ y = 1 ∧ ¬ y = 2 ∧ ¬ y = 3 ∧ ¬ y = 4 ∧ ¬ y = 5 := by
  refine ⟨fun e => ?_, fun e => ?_, fun e => ?_, fun e => ?_, fun e => ?_, fun e => ?_⟩ <;> (rw [e] at h; exact absurd h (by decide))
theorem get_of {L : List xR} {k : Nat} (h : k < L.length) : ∃ r, L[k]? = some r := ⟨_, List.getElem?_eq_getElem h⟩
theorem T_line {B n : Nat} {τ : xM} {b : xA} (c : CRep τ b) (I : Inv B b) (hn : 20 < n) {l : Nat} (hl : l < 10000) : ∃ pl po bs bo nw : Int32, F_X2_setOf n τ (nI l) = some (some (2 + 2 * (l % aC b 0))) ∧ F_X1_find n τ (2 + 2 * (l % aC b 0)) (nI l) = some pl ∧ F_X1_find n τ 18 (nI l) = some po ∧ F_X1_get n τ (2 + 2 * (l % aC b 0)) pl 1 = some bs ∧ F_X1_get n τ 18 po 1 = some bo ∧ F_X1_get n τ (2 + 2 * (l % aC b 0)) pl 2 = some nw ∧ ∀ (ρ : Nat → Int32) (μ : xM), RRep ρ b → ∃ qp qo : Int32, F_X5_placeOf n (xr μ ρ) (nI l) = some qp ∧ F_X5_outPlaceOf n (xr μ ρ) (nI l) = some qo ∧ ((pl < 0 ∧ qp < 0 ∧ pl = -100005 ∧ bs = -100005 ∧ nw = -100005) ∨ (¬ pl < 0 ∧ ∃ k, k < 4 ∧ qp = nI k ∧ pl = nI k ∧ (nw = 0 ∨ nw = 1) ∧ ρ (8 + 12 * (l % aC b 0) + k * 3 + 2) = nw ∧ (if ρ (8 + 12 * (l % aC b 0) + k * 3 + 1) = (-1 : Int32) then (-100005 : Int32) else ρ (8 + 12 * (l % aC b 0) + k * 3 + 1)) = bs)) ∧ ((po < 0 ∧ qo < 0 ∧ po = -100005 ∧ bo = -100005) ∨ (¬ po < 0 ∧ ∃ k, k < 8 ∧ qo = nI k ∧ po = nI k ∧ (if ρ (104 + 2 * k + 1) = (-1 : Int32) then (-100005 : Int32) else ρ (104 + 2 * k + 1)) = bo)) := by
  have hs : l % aC b 0 < 8 := Nat.lt_of_lt_of_le (Nat.mod_lt _ (by have := I.1.1; omega)) I.1.2.1
  have h6 := I.hn
  have z := I.sz
  have cS := c.2.1 _ hs
  have cT := c.2.2.1
  have e1 := C_setOf c I.1 n hl
  have e2 := C_find cS (SF_S _ hs) hn (nI l)
  have e3 := C_find cT SF_T hn (nI l)
  have none9 : ∀ m, ((-100005 : Int32) < 0 ∨ ¬ (-100005 : Int32) < nI m) := fun m => Or.inl (by decide)
  have i2 := I.2.1 (l % aC b 0)
  have i3 := I.2.2.1
  generalize hS : aS b (l % aC b 0) = S at *
  generalize hT : aT b = T at *
  have zS : S.length ≤ 4 := cS.2.2.2.1
  have zT : T.length ≤ 8 := cT.2.2.2.1
  have RO : ∀ (ρ : Nat → Int32) (μ : xM), RRep ρ b → F_X5_placeOf n (xr μ ρ) (nI l) = some (if kIdx S (nI l) < S.length then nI (kIdx S (nI l)) else -1) ∧ F_X5_outPlaceOf n (xr μ ρ) (nI l) = some (if kIdx T (nI l) < T.length then nI (kIdx T (nI l)) else -1) := fun ρ μ r => by
    have y1 := R_placeOf r I.1 I.2.1 hn μ hl
    have y2 := R_outPlaceOf r (by rw [hT]; exact zT) i3.2.2.1 hn μ (nI l)
    rw [hS] at y1
    rw [hT] at y2
    exact ⟨y1, y2⟩
  have first : ∃ pl bs nw : Int32, F_X1_find n τ (2 + 2 * (l % aC b 0)) (nI l) = some pl ∧ F_X1_get n τ (2 + 2 * (l % aC b 0)) pl 1 = some bs ∧ F_X1_get n τ (2 + 2 * (l % aC b 0)) pl 2 = some nw ∧ ∀ (ρ : Nat → Int32), RRep ρ b → ((pl < 0 ∧ (if kIdx S (nI l) < S.length then nI (kIdx S (nI l)) else -1) < 0 ∧ pl = -100005 ∧ bs = -100005 ∧ nw = -100005) ∨ (¬ pl < 0 ∧ ∃ k, k < 4 ∧ (if kIdx S (nI l) < S.length then nI (kIdx S (nI l)) else -1) = nI k ∧ pl = nI k ∧ (nw = 0 ∨ nw = 1) ∧ ρ (8 + 12 * (l % aC b 0) + k * 3 + 2) = nw ∧ (if ρ (8 + 12 * (l % aC b 0) + k * 3 + 1) = (-1 : Int32) then (-100005 : Int32) else ρ (8 + 12 * (l % aC b 0) + k * 3 + 1)) = bs)) := by
    by_cases q : kIdx S (nI l) < S.length
    · obtain ⟨r, hr⟩ := get_of q
      rw [if_pos q] at e2
      obtain ⟨-, o2, o3⟩ := i2.2.2.1 r (List.mem_of_getElem? hr)
      refine ⟨_, _, _, e2, C_get (j := 1) cS (SF_S _ hs) n hr (by decide), C_get (j := 2) cS (SF_S _ hs) n hr (by decide), fun ρ rr => Or.inr ⟨nI_pos (by omega), kIdx S (nI l), by omega, if_pos q, rfl, o3.imp id (fun e => e.1), ?_, ?_⟩⟩
      · have := (rr.2.1 _ hs).2
        rw [hS] at this
        exact this _ r hr 2 (by decide)
      · have := (rr.2.1 _ hs).2
        rw [hS] at this
        rw [show ρ (8 + 12 * (l % aC b 0) + kIdx S (nI l) * 3 + 1) = uc (r 1) from this _ r hr 1 (by decide)]
        exact by_same h6 o2
    · rw [if_neg q] at e2
      exact ⟨_, _, _, e2, C_get_no cS n (none9 _), C_get_no cS n (none9 _), fun ρ rr => Or.inl ⟨by decide, by rw [if_neg q]; decide, rfl, rfl, rfl⟩⟩
  have second : ∃ po bo : Int32, F_X1_find n τ 18 (nI l) = some po ∧ F_X1_get n τ 18 po 1 = some bo ∧ ∀ (ρ : Nat → Int32), RRep ρ b → ((po < 0 ∧ (if kIdx T (nI l) < T.length then nI (kIdx T (nI l)) else -1) < 0 ∧ po = -100005 ∧ bo = -100005) ∨ (¬ po < 0 ∧ ∃ k, k < 8 ∧ (if kIdx T (nI l) < T.length then nI (kIdx T (nI l)) else -1) = nI k ∧ po = nI k ∧ (if ρ (104 + 2 * k + 1) = (-1 : Int32) then (-100005 : Int32) else ρ (104 + 2 * k + 1)) = bo)) := by
    by_cases q : kIdx T (nI l) < T.length
    · obtain ⟨r, hr⟩ := get_of q
      rw [if_pos q] at e3
      obtain ⟨-, o2⟩ := i3.2.1 r (by rw [hT]; exact List.mem_of_getElem? hr)
      refine ⟨_, _, e3, C_get (j := 1) cT SF_T n hr (by decide), fun ρ rr => Or.inr ⟨nI_pos (by omega), kIdx T (nI l), by omega, if_pos q, rfl, ?_⟩⟩
      have := rr.2.2.1.2
      rw [hT] at this
      have y := this _ r hr 1 (by decide)
      rw [Nat.mul_comm (kIdx T (nI l)) 2] at y
      rw [show ρ (104 + 2 * kIdx T (nI l) + 1) = uc (r 1) from y]
      exact by_same h6 o2
    · rw [if_neg q] at e3
      exact ⟨_, _, e3, C_get_no cT n (none9 _), fun ρ rr => Or.inl ⟨by decide, by rw [if_neg q]; decide, rfl, rfl⟩⟩
  obtain ⟨pl, bs, nw, u1, u2, u3, u4⟩ := first
  obtain ⟨po, bo, v1, v2, v3⟩ := second
  exact ⟨pl, po, bs, bo, nw, e1, u1, v1, u2, v2, u3, fun ρ μ rr => ⟨_, _, (RO ρ μ rr).1, (RO ρ μ rr).2, u4 ρ rr, v3 ρ rr⟩⟩
theorem M_line {B n : Nat} {σ μ : xM} {a : xA} (R : Rel B σ μ a) (hn : 400 < n) (x y : Int32) : OK1 (F_X4_line n σ x y) (F_X5_line n μ x y) := by
  unfold F_X4_line F_X5_line F_X5_isLine
  rcases io (x := x) (L := 0) (H := 9999) 0 9999 rfl rfl (by decide) (by decide) with ⟨o1, i1, l, -, l2, rfl⟩ | ⟨o1, i1⟩
  · obtain ⟨g1, g2, g3⟩ := R.gh
    obtain ⟨pl, po, bs, bo, nw, e1, e2, e3, e4, e5, e6, rr⟩ := T_line g1 g3 (by omega : 20 < n) (show l < 10000 by omega)
    obtain ⟨qp, qo, f1, f2, f3, f4⟩ := rr (μ 1) μ g2
    rw [xr_self] at f1 f2
    have hs : l % aC (tla a (μ 1)) 0 < 8 := Nat.lt_of_lt_of_le (Nat.mod_lt _ (by have := g3.1.1; omega)) g3.1.2.1
    have h1 := g3.1.1
    have h349 : μ 1 349 = nI (aC (tla a (μ 1)) 0) := g2.c 0 (by decide)
    simp only [o1, i1, z00, z10, e1, Option.bind_some, e2, e3, e4, e5, e6, f1, f2, g349b, t349, h349]
    have hA : ¬ nI (aC (tla a (μ 1)) 0) = 0 := nI_ne0 (by omega) (by have := g3.1.2.1; omega)
    have hrem : x_rem (nI l) (nI (aC (tla a (μ 1)) 0)) = nI (l % aC (tla a (μ 1)) 0) := x_remN (by omega) (by omega) (by have := g3.1.2.1; omega)
    rw [hrem, if_neg hA]
    generalize l % aC (tla a (μ 1)) 0 = s at *
    unfold B_X5_line_50
    simp only [f2, Option.bind_some]
    have key : ∃ v5 v2 : Int32, (∀ (l4 : Int32) (w : Int32), (if qo < 0 then B_X5_line_108 n μ w qp l4 qo (-1) else if 104 + 2 * qo + 1 < 0 ∨ 2506 ≤ (104 + 2 * qo + 1).toNatClampNeg then none else B_X5_line_108 n μ w qp l4 qo (μ 1 (104 + 2 * qo + 1).toNatClampNeg)) = B_X5_line_108 n μ w qp l4 qo v5) ∧ (if v5 = (-1 : Int32) then (-100005 : Int32) else v5) = bo := by
      rcases f4 with ⟨k1, k2, k3, k4⟩ | ⟨k1, k, k2, k3, k4, k5⟩
      · exact ⟨-1, 0, fun _ _ => by rw [if_pos k2], by rw [if_pos rfl, k4]⟩
      · have e : (104 : Int32) + 2 * qo + 1 = nI (104 + 2 * k + 1) := by
          rw [k3]
          show nI 104 + nI 2 * nI k + nI 1 = _
          rw [pk_mul, nI_add, nI_add]
        exact ⟨μ 1 (104 + 2 * k + 1), 0, fun _ _ => by rw [e, if_neg (by rw [k3]; exact nI_pos (by omega)), gd (by omega), cl (by omega)], k5⟩
    obtain ⟨v5, -, q5, q6⟩ := key
    have q7 : (if qo < 0 then (-100005 : Int32) else qo) = po := by
      rcases f4 with ⟨k1, k2, k3, k4⟩ | ⟨k1, k, k2, k3, k4, k5⟩
      · rw [if_pos k2, k3]
      · rw [if_neg (by rw [k3]; exact nI_pos (by omega)), k3, k4]
    simp only [q5]
    rcases f3 with ⟨p1, p2, p3, p4, p5⟩ | ⟨p1, k, k2, k3, k4, k5, k6, k7⟩
    · rw [if_pos p2]
      rcases io (x := y) (L := 0) (H := 5) 0 5 rfl rfl (by decide) (by decide) with ⟨-, i2, w, -, w2, rfl⟩ | ⟨-, i2⟩
      · rw [i2, z10]
        unfold B_X5_line_108
        rcases (show w = 0 ∨ w = 1 ∨ w = 2 ∨ w = 3 ∨ w = 4 ∨ w = 5 by omega) with rfl | rfl | rfl | rfl | rfl | rfl
        · exact ⟨0, if_pos p1, if_pos p2⟩
        · exact ⟨0, if_pos p1, if_pos p2⟩
        · exact ⟨-100005, by rw [p4]; rfl, rfl⟩
        · exact ⟨-100005, by rw [p3]; rfl, if_pos p2⟩
        · refine ⟨po, rfl, ?_⟩
          show (if qo < 0 then some (-100005 : Int32) else some qo) = some po
          rw [← q7]
          split <;> rfl
        · refine ⟨bo, rfl, ?_⟩
          show (if v5 = (-1 : Int32) then some (-100005 : Int32) else some v5) = some bo
          rw [← q6]
          split <;> rfl
      · obtain ⟨y0, y1, y2, y3, y4, y5⟩ := lits6 i2
        rw [i2, z00, if_neg y0, if_neg y1, if_neg y2, if_neg y3, if_neg y4, if_neg y5]
        exact ⟨_, rfl, rfl⟩
    · have hq : ¬ qp < 0 := by rw [k3]; exact nI_pos (by omega)
      have ecell : F_X5_cellOf (nI s) qp = nI (8 + 12 * s + k * 3) := by rw [k3, R_cell]
      rw [if_neg hq, ecell, if_neg (nI_pos (by omega)), nI_1, gd (by omega), cl (by omega)]
      rcases io (x := y) (L := 0) (H := 5) 0 5 rfl rfl (by decide) (by decide) with ⟨-, i2, w, -, w2, rfl⟩ | ⟨-, i2⟩
      · rw [i2, z10]
        unfold B_X5_line_108
        have e2 : nI (8 + 12 * s + k * 3) + 2 = nI (8 + 12 * s + k * 3 + 2) := nI_add _ 2
        rw [e2, gd (by omega), cl (by omega), k6]
        rcases (show w = 0 ∨ w = 1 ∨ w = 2 ∨ w = 3 ∨ w = 4 ∨ w = 5 by omega) with rfl | rfl | rfl | rfl | rfl | rfl
        · exact ⟨1, if_neg p1, if_neg hq⟩
        · refine ⟨nw, ?_, if_neg hq⟩
          show (if pl < 0 then some (0 : Int32) else if nw = 1 then some 1 else some 0) = some nw
          rw [if_neg p1]
          rcases k5 with e | e
          · rw [e]
            rfl
          · rw [e]
            rfl
        · refine ⟨bs, rfl, ?_⟩
          show (if μ 1 (8 + 12 * s + k * 3 + 1) = (-1 : Int32) then some (-100005 : Int32) else some (μ 1 (8 + 12 * s + k * 3 + 1))) = some bs
          rw [← k7]
          split <;> rfl
        · refine ⟨pl, rfl, ?_⟩
          show (if qp < 0 then some (-100005 : Int32) else some qp) = some pl
          rw [if_neg hq, k3, k4]
        · refine ⟨po, rfl, ?_⟩
          show (if qo < 0 then some (-100005 : Int32) else some qo) = some po
          rw [← q7]
          split <;> rfl
        · refine ⟨bo, rfl, ?_⟩
          show (if v5 = (-1 : Int32) then some (-100005 : Int32) else some v5) = some bo
          rw [← q6]
          split <;> rfl
      · obtain ⟨y0, y1, y2, y3, y4, y5⟩ := lits6 i2
        rw [i2, z00, if_neg y0, if_neg y1, if_neg y2, if_neg y3, if_neg y4, if_neg y5]
        exact ⟨_, rfl, rfl⟩
  · rw [o1, i1, z10, z00]
    exact ⟨_, rfl, rfl⟩
