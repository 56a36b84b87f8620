/-! the check: a line used, serving, working *)  -/
theorem eH {a : xA} {H' : Nat → Nat → Nat} {ρ : Nat → Int32} {H : Nat → Nat → Nat} (h : RRep ρ (wH a H)) (e : ∀ x y, H x y = H' x y) : RRep ρ (wH a H') := by
  have : H = H' := by
    funext x y
    exact e x y
  rw [← this]
  exact h
theorem R_use {ρ : Nat → Int32} {a : xA} {B : Nat} (h : RRep ρ a) (I : Inv B a) {h0 : Nat} (hh : h0 < aC a 2) (n : Nat) (μ : xM) : ∃ ρ', F_X5_use n (xr μ ρ) (nI h0) = some (xr μ ρ') ∧ RRep ρ' (sUse a h0) := by
  have z := I.sz
  have h6 := I.hn
  have h9 := I.2.2.2.1 h0 hh
  have e7 : ρ (120 + 14 * h0 + 7) = nI (aH a h0 7) := h.f hh 7 (by decide)
  have e3 : ρ (120 + 14 * h0 + 3) = nI (aH a h0 3) := h.f hh 3 (by decide)
  have e5 : ρ (120 + 14 * h0 + 5) = nI (aH a h0 5) := h.f hh 5 (by decide)
  have r1 := h.setH (v := aH a h0 7 + 1) z hh (k := 7) (by decide) (by decide)
  unfold F_X5_use B_X5_use_70 sUse
  rw [show F_X5_of (nI h0) (7 : Int32) = nI (120 + 14 * h0 + 7) from R_of h0 7, show F_X5_of (nI h0) (3 : Int32) = nI (120 + 14 * h0 + 3) from R_of h0 3, show F_X5_of (nI h0) (5 : Int32) = nI (120 + 14 * h0 + 5) from R_of h0 5]
  simp (disch := omega) only [gd, gd2, cl, xr_1, xr_up, upd_ne, upd_eq, e7, e3, e5, nI_1]
  by_cases q : aH a h0 3 = 1
  · have q5 := h9.2.2.2.2.2.2.2.2.1 q
    obtain ⟨m, hm⟩ : ∃ m, aH a h0 5 = m + 1 := ⟨aH a h0 5 - 1, by omega⟩
    rw [if_pos (by rw [q]; rfl), if_pos q, hm, nI_pred]
    by_cases q2 : m + 1 < 2
    · have hm0 : m = 0 := by omega
      subst hm0
      rw [if_pos (show nI 0 = (0 : Int32) from rfl), if_pos (by decide)]
      refine ⟨_, rfl, ?_⟩
      exact (r1.setH (v := 0) z hh (k := 5) (by decide) (by decide)).setH (v := 0) z hh (k := 3) (by decide) (by decide)
    · rw [if_neg (show ¬ nI m = (0 : Int32) from nI_ne0 (by omega) (by omega)), if_neg q2]
      refine ⟨_, rfl, ?_⟩
      refine eH ((r1.setH (v := m) z hh (k := 5) (by decide) (by decide)).setH (v := 1) z hh (k := 3) (by decide) (by decide)) (fun x y => ?_)
      show hu (hu (hu (aH a) h0 7 (aH a h0 7 + 1)) h0 5 m) h0 3 1 x y = hu (hu (aH a) h0 7 (aH a h0 7 + 1)) h0 5 (m + 1 - 1) x y
      simp only [hu]
      by_cases c : x = h0 ∧ y = 3
      · obtain ⟨c1, c2⟩ := c
        subst c1
        subst c2
        simp [q]
      · rw [if_neg c]
        rfl
  · rw [if_neg (show ¬ nI (aH a h0 3) = (1 : Int32) from fun e => q ((nI_eq (b := 1) (by omega) (by omega)).mp e)), if_neg q]
    exact ⟨_, rfl, r1⟩
theorem R_serve {ρ : Nat → Int32} {a : xA} {B : Nat} (h : RRep ρ a) (I : Inv B a) {n : Nat} (hn : 20 < n) (μ : xM) {l : Nat} (hl : l < 10000) (hB : B + 11 < 2 ^ 30) : ∃ ρ', F_X5_find n (xr μ ρ) (nI l) = some (nI (sServe a l).1, xr μ ρ') ∧ RRep ρ' (sServe a l).2 := by
  have z := I.sz
  have h6 := I.hn
  have IC := I.1
  have h1 := IC.1
  have h8 := IC.2.1
  have hs : l % aC a 0 < 8 := Nat.lt_of_lt_of_le (Nat.mod_lt _ h1) h8
  have hlen := z.1 _ hs
  have e0 : ρ 349 = nI (aC a 0) := h.c 0 (by decide)
  unfold F_X5_find
  rw [R_placeOf h IC I.2.1 hn μ hl, Option.bind_some, show (349 : Int32) = nI 349 from rfl, gd (by decide), cl (by decide), xr_1, e0, if_neg (show ¬ nI (aC a 0) = (0 : Int32) from nI_ne0 h1 (by omega)), x_remN (by omega) h1 (by omega)]
  cases hr : (aS a (l % aC a 0))[kIdx (aS a (l % aC a 0)) (nI l)]? with
  | none =>
    have q : ¬ kIdx (aS a (l % aC a 0)) (nI l) < (aS a (l % aC a 0)).length := fun q => by
      rw [List.getElem?_eq_getElem q] at hr
      cases hr
    have es : sServe a l = (0, sFetch (sPunish a l) l (-100005)) := by
      unfold sServe
      rw [hr]
    have Ip := Inv_punish I l (by omega)
    obtain ⟨p1, p2, p3⟩ := sPunish_S a l
    have k82 : ∀ ρ1, RRep ρ1 (sPunish a l) → ∃ ρ', B_X5_find_82 n (xr μ ρ1) (nI l) = some (0, xr μ ρ') ∧ RRep ρ' (sFetch (sPunish a l) l (-100005)) := fun ρ1 c1 => by
      obtain ⟨ρ', e, c⟩ := R_fetch c1 Ip hn μ hl (by_ := -100005) (Or.inl rfl) (by omega)
      refine ⟨ρ', ?_, c⟩
      unfold B_X5_find_82
      rw [show (-1 : Int32) = uc (-100005) from rfl, e, Option.bind_some]
    rw [if_neg q, if_pos (by decide), R_outPlaceOf h z.2.1 I.2.2.1.2.2.1 hn, Option.bind_some, es]
    have key : ∀ s0 ρ1, s0 = (-1 : Int32) ∧ ρ1 = ρ ∧ sPunish a l = a ∨ (∃ h0, h0 < aC a 2 ∧ s0 = nI h0 ∧ ρ1 = ρ ∧ sPunish a l = sHarm a h0) → ∃ ρ', B_X5_find_51 n (xr μ ρ1) (nI l) s0 = some (0, xr μ ρ') ∧ RRep ρ' (sFetch (sPunish a l) l (-100005)) := fun s0 ρ1 hx => by
      unfold B_X5_find_51
      rcases hx with ⟨x1, x2, x3⟩ | ⟨h0, hh, x1, x2, x3⟩
      · rw [if_pos x1, x2]
        exact k82 ρ (by rw [x3]; exact h)
      · rw [x1, if_neg (nI_m1 (by omega)), x2]
        obtain ⟨ρ2, e2, c2⟩ := R_hours h z hh n μ 2
        have e9 : aH (sHours a h0 2) h0 9 = aH a h0 9 := by
          show hu (hu (hu (aH a) h0 4 (aH a h0 4 + 2)) h0 3 2) h0 5 0 h0 9 = _
          simp [hu]
        have ev : ρ2 (120 + 14 * h0 + 9) = nI (aH a h0 9) := (c2.f hh 9 (by decide)).trans (by rw [e9])
        have c3 := c2.setH (v := aH a h0 9 + 1) z hh (k := 9) (by decide) (by decide)
        rw [show (2 : Int32) = nI 2 from rfl, e2, Option.bind_some, show F_X5_of (nI h0) (9 : Int32) = nI (120 + 14 * h0 + 9) from R_of h0 9, gd (by omega), gd (by omega), cl (by omega)]
        show ∃ ρ', B_X5_find_82 n (x_up (xr μ ρ2) 1 (120 + 14 * h0 + 9) (xr μ ρ2 1 (120 + 14 * h0 + 9) + 1)) (nI l) = _ ∧ _
        rw [xr_1, ev, xr_up, nI_1]
        refine k82 _ ?_
        rw [x3]
        refine eH (a := a) c3 (fun x y => ?_)
        show hu (hu (hu (hu (aH a) h0 4 (aH a h0 4 + 2)) h0 3 2) h0 5 0) h0 9 (aH a h0 9 + 1) x y = hu (hu (hu (hu (aH a) h0 9 (aH a h0 9 + 1)) h0 4 (hu (aH a) h0 9 (aH a h0 9 + 1) h0 4 + 2)) h0 3 2) h0 5 0 x y
        simp only [hu]
        by_cases qx : x = h0
        · subst qx
          by_cases q9 : y = 9
          · subst q9
            simp
          · simp [q9]
        · simp [qx]
    by_cases q2 : kIdx (aT a) (nI l) < (aT a).length
    · obtain ⟨r, hr2, hk2⟩ := kIdx_get q2
      have h8t := z.2.1
      have e1 : ρ (104 + kIdx (aT a) (nI l) * 2 + 1) = uc (r 1) := h.2.2.1.2 _ r hr2 1 (by decide)
      have ei : (104 : Int32) + 2 * nI (kIdx (aT a) (nI l)) + 1 = nI (104 + kIdx (aT a) (nI l) * 2 + 1) := by
        show nI 104 + nI 2 * nI _ + nI 1 = _
        rw [pk_mul, nI_add, nI_add, Nat.mul_comm]
      rw [if_pos q2, if_neg (nI_pos (by omega)), ei, gd (by omega), cl (by omega), xr_1, e1]
      have hb := (I.2.2.1.2.1 r (List.mem_of_getElem? hr2)).2
      have ep : sPunish a l = match bid (r 1) with | none => a | some h => sHarm a h := by
        unfold sPunish
        rw [hr2]
        rfl
      obtain ⟨ρ', e, c⟩ := key (uc (r 1)) ρ (by
        rcases hb with q3 | ⟨h0, hh, q3⟩
        · refine Or.inl ⟨by rw [q3]; rfl, rfl, ?_⟩
          rw [ep, q3]
          rfl
        · refine Or.inr ⟨h0, hh, by rw [q3, uc_nI (by omega)], rfl, ?_⟩
          rw [ep, q3, bid_nI (by omega)])
      exact ⟨ρ', e, c⟩
    · rw [if_neg q2, if_pos (by decide)]
      have hr2 : (aT a)[kIdx (aT a) (nI l)]? = none := List.getElem?_eq_none (Nat.not_lt.mp q2)
      have ep : sPunish a l = a := by
        unfold sPunish
        rw [hr2]
      obtain ⟨ρ', e, c⟩ := key (-1) ρ (Or.inl ⟨rfl, rfl, ep⟩)
      exact ⟨ρ', e, c⟩
  | some r =>
    have q := lt_of_get hr
    have hr' := List.mem_of_getElem? hr
    obtain ⟨⟨k, hk1, hk2, hk3⟩, hb, hnew⟩ := (I.2.1 _).2.2.1 r hr'
    have hkey : r 0 = nI l := by
      obtain ⟨r9, h91, h92⟩ := kIdx_get q
      rw [hr] at h91
      cases h91
      exact h92
    have g2 := (h.2.1 _ hs).2
    have e1 : ρ (8 + 12 * (l % aC a 0) + kIdx (aS a (l % aC a 0)) (nI l) * 3 + 1) = uc (r 1) := g2 _ r hr 1 (by decide)
    have e2 : ρ (8 + 12 * (l % aC a 0) + kIdx (aS a (l % aC a 0)) (nI l) * 3 + 2) = r 2 := g2 _ r hr 2 (by decide)
    obtain ⟨ρ1, ρ2, c1, c2, c3⟩ := R_hit h z hn μ hs hr
    have I2 := Inv_hit (s := l % aC a 0) I hr
    rw [if_pos q, if_neg (nI_pos (by omega)), R_cell]
    generalize hP : kIdx (aS a (l % aC a 0)) (nI l) = P at *
    rw [show nI (8 + 12 * (l % aC a 0) + P * 3) + 1 = nI (8 + 12 * (l % aC a 0) + P * 3 + 1) from nI_add _ 1, show nI (8 + 12 * (l % aC a 0) + P * 3) + 2 = nI (8 + 12 * (l % aC a 0) + P * 3 + 2) from nI_add _ 2, gd (by omega), gd (by omega), cl (by omega), cl (by omega), xr_1, xr_1, e1, e2]
    have k125 : ∀ s0 : Int32, B_X5_find_125 n (xr μ ρ) (nI l) (nI (l % aC a 0)) (nI P) (uc (r 1)) s0 = if s0 = 0 then B_X5_find_153 n (xr μ ρ2) s0 else (F_X5_use n (xr μ ρ2) (uc (r 1))).bind fun q7 => B_X5_find_153 n q7 s0 := fun s0 => by
      unfold B_X5_find_125
      rw [c1, Option.bind_some, ← hkey, c2, Option.bind_some]
    by_cases q2 : r 2 = 1
    · rw [if_pos q2, k125, if_neg (by decide)]
      have hne : r 1 ≠ -100005 := by
        rcases hnew with q3 | q3
        · rw [q3] at q2
          exact absurd q2 (by decide)
        · exact q3.2
      obtain ⟨h0, hh, eh⟩ := hb.resolve_left hne
      have es : sServe a l = (2, sUse (sHit a (l % aC a 0) P r) h0) := by
        unfold sServe
        rw [hP, hr]
        show (if r 2 = 1 then _ else _) = _
        rw [if_pos q2, eh, bid_nI (by omega)]
      obtain ⟨ρ3, e3, c4⟩ := R_use (h0 := h0) c3 I2 hh n μ
      rw [es, eh, uc_nI (by omega), e3, Option.bind_some]
      exact ⟨ρ3, rfl, c4⟩
    · rw [if_neg q2, k125, if_pos rfl]
      have es : sServe a l = (1, sHit a (l % aC a 0) P r) := by
        unfold sServe
        rw [hP, hr]
        exact if_neg q2
      rw [es]
      exact ⟨ρ2, rfl, c3⟩
theorem R_work {B : Nat} {a : xA} (I : Inv B a) {n : Nat} (hn : 20 < n) (μ : xM) {ρ : Nat → Int32} (h : RRep ρ a) : ∃ ρ', F_X5_work n (xr μ ρ) = some (xr μ ρ') ∧ RRep ρ' (sWork (aC a 2) a) := by
  have h6 := I.hn
  have hB := I.b
  have loop : ∀ (f i : Nat) (ρ : Nat → Int32), i ≤ aC a 2 → aC a 2 - i < f → RRep ρ (sWork i a) → ∃ ρ', B_X5_work_2 n f (xr μ ρ) (nI i) = some (xr μ ρ') ∧ RRep ρ' (sWork (aC a 2) a) := by
    intro f
    induction f with
    | zero => intro i ρ _ h1; omega
    | succ f ih =>
      intro i ρ hi hf hr
      have Ii := Inv_work I i
      have eC := (sWork_r a i).2.2.2.2
      have e2 : ρ 351 = nI (aC a 2) := (hr.c 2 (by decide)).trans (by rw [eC])
      show ∃ ρ', (if (351 : Int32) < 0 ∨ 2506 ≤ (351 : Int32).toNatClampNeg then _ else _) = some (xr μ ρ') ∧ _
      rw [show (351 : Int32) = nI 351 from rfl, gd (by decide), cl (by decide), xr_1, e2]
      by_cases q : i < aC a 2
      · have hh : i < aC (sWork i a) 2 := by rw [eC]; exact q
        have h9 := Ii.2.2.2.1 i hh
        have z := Ii.sz
        have e3 : ρ (120 + 14 * i + 3) = nI (aH (sWork i a) i 3) := hr.f hh 3 (by decide)
        have e4 : ρ (120 + 14 * i + 4) = nI (aH (sWork i a) i 4) := hr.f hh 4 (by decide)
        have e10 : ρ (120 + 14 * i + 10) = nI (aH (sWork i a) i 10) := hr.f hh 10 (by decide)
        have e12 : ρ (120 + 14 * i + 12) = nI (aH (sWork i a) i 12) := hr.f hh 12 (by decide)
        have e352 : ρ 352 = nI (aC (sWork i a) 3) := hr.c 3 (by decide)
        have step : ∀ ρ1, RRep ρ1 (sWork1 (sWork i a) i) → ∃ ρ', B_X5_work_2 n f (xr μ ρ1) (nI i + 1) = some (xr μ ρ') ∧ RRep ρ' (sWork (aC a 2) a) := fun ρ1 c1 => by
          rw [nI_1]
          exact ih (i + 1) ρ1 q (by omega) c1
        rw [if_pos (nI_lt q (by omega)), show F_X5_of (nI i) (3 : Int32) = nI (120 + 14 * i + 3) from R_of i 3, show F_X5_of (nI i) (4 : Int32) = nI (120 + 14 * i + 4) from R_of i 4, show F_X5_of (nI i) (10 : Int32) = nI (120 + 14 * i + 10) from R_of i 10, show F_X5_of (nI i) (5 : Int32) = nI (120 + 14 * i + 5) from R_of i 5, show F_X5_of (nI i) (12 : Int32) = nI (120 + 14 * i + 12) from R_of i 12, show (352 : Int32) = nI 352 from rfl]
        unfold B_X5_work_114
        simp (disch := omega) only [gd, gd2, cl, xr_1, xr_up, upd_ne, upd_eq, e3, e4, e10, e12, e352, nI_1 (aH (sWork i a) i 10), nI_1 (aH (sWork i a) i 12)]
        unfold sWork1 at step
        by_cases q2 : aH (sWork i a) i 3 = 2
        · have q4 := h9.2.2.2.2.2.2.2.1 q2
          have q5 := h9.2.2.2.2.2.2.1
          obtain ⟨m, hm⟩ : ∃ m, aH (sWork i a) i 4 = m + 1 := ⟨aH (sWork i a) i 4 - 1, by omega⟩
          rw [if_pos q2] at step
          rw [if_pos (by rw [q2]; rfl), hm, nI_pred]
          rw [hm] at step
          by_cases q3 : m + 1 < 2
          · have hm0 : m = 0 := by omega
            subst hm0
            rw [if_pos (by decide)] at step
            rw [if_pos (show nI 0 = (0 : Int32) from rfl)]
            refine step _ ?_
            exact ((((hr.setH (v := 0) z hh (k := 4) (by decide) (by decide)).setH (v := aH (sWork i a) i 10 + 1) z hh (k := 10) (by decide) (by decide)).setH (v := 1) z hh (k := 3) (by decide) (by decide)).setH (v := aC (sWork i a) 3) z hh (k := 5) (by decide) (by decide)).setH (v := aH (sWork i a) i 12 + 1) z hh (k := 12) (by decide) (by decide)
          · rw [if_neg q3] at step
            rw [if_neg (show ¬ nI m = (0 : Int32) from nI_ne0 (by omega) (by omega))]
            refine step _ ?_
            exact (hr.setH (v := m) z hh (k := 4) (by decide) (by decide)).setH (v := aH (sWork i a) i 10 + 1) z hh (k := 10) (by decide) (by decide)
        · rw [if_neg q2] at step
          rw [if_neg (show ¬ nI (aH (sWork i a) i 3) = (2 : Int32) from fun e => q2 ((nI_eq (b := 2) (by omega) (by omega)).mp e))]
          exact step ρ hr
      · have ei : i = aC a 2 := by omega
        subst ei
        rw [if_neg (nI_nlt (Nat.le_refl _) (by omega))]
        exact ⟨ρ, rfl, hr⟩
  exact loop n 0 ρ (Nat.zero_le _) (by omega) h
