/-! setDegree, setTrial, pardon, forget *)  -/
theorem of0 (h : Nat) : F_X5_of (nI h) (0 : Int32) = nI (120 + 14 * h + 0) := R_of h 0
theorem of1 (h : Nat) : F_X5_of (nI h) (1 : Int32) = nI (120 + 14 * h + 1) := R_of h 1
theorem of2 (h : Nat) : F_X5_of (nI h) (2 : Int32) = nI (120 + 14 * h + 2) := R_of h 2
theorem of3 (h : Nat) : F_X5_of (nI h) (3 : Int32) = nI (120 + 14 * h + 3) := R_of h 3
theorem of4 (h : Nat) : F_X5_of (nI h) (4 : Int32) = nI (120 + 14 * h + 4) := R_of h 4
theorem of5 (h : Nat) : F_X5_of (nI h) (5 : Int32) = nI (120 + 14 * h + 5) := R_of h 5
theorem of6 (h : Nat) : F_X5_of (nI h) (6 : Int32) = nI (120 + 14 * h + 6) := R_of h 6
theorem of7 (h : Nat) : F_X5_of (nI h) (7 : Int32) = nI (120 + 14 * h + 7) := R_of h 7
theorem of8 (h : Nat) : F_X5_of (nI h) (8 : Int32) = nI (120 + 14 * h + 8) := R_of h 8
theorem of9 (h : Nat) : F_X5_of (nI h) (9 : Int32) = nI (120 + 14 * h + 9) := R_of h 9
theorem of10 (h : Nat) : F_X5_of (nI h) (10 : Int32) = nI (120 + 14 * h + 10) := R_of h 10
theorem of11 (h : Nat) : F_X5_of (nI h) (11 : Int32) = nI (120 + 14 * h + 11) := R_of h 11
theorem of12 (h : Nat) : F_X5_of (nI h) (12 : Int32) = nI (120 + 14 * h + 12) := R_of h 12
theorem of13 (h : Nat) : F_X5_of (nI h) (13 : Int32) = nI (120 + 14 * h + 13) := R_of h 13
theorem g348b {α : Type} {u v : α} : (if (348 : Int32) < 0 ∨ 2506 ≤ 348 then u else v) = v := if_neg (by decide)
theorem g349b {α : Type} {u v : α} : (if (349 : Int32) < 0 ∨ 2506 ≤ 349 then u else v) = v := if_neg (by decide)
theorem g350b {α : Type} {u v : α} : (if (350 : Int32) < 0 ∨ 2506 ≤ 350 then u else v) = v := if_neg (by decide)
theorem g351b {α : Type} {u v : α} : (if (351 : Int32) < 0 ∨ 2506 ≤ 351 then u else v) = v := if_neg (by decide)
theorem g352b {α : Type} {u v : α} : (if (352 : Int32) < 0 ∨ 2506 ≤ 352 then u else v) = v := if_neg (by decide)
theorem g353b {α : Type} {u v : α} : (if (353 : Int32) < 0 ∨ 2506 ≤ 353 then u else v) = v := if_neg (by decide)
theorem g354b {α : Type} {u v : α} : (if (354 : Int32) < 0 ∨ 2506 ≤ 354 then u else v) = v := if_neg (by decide)
theorem g355b {α : Type} {u v : α} : (if (355 : Int32) < 0 ∨ 2506 ≤ 355 then u else v) = v := if_neg (by decide)
theorem g356b {α : Type} {u v : α} : (if (356 : Int32) < 0 ∨ 2506 ≤ 356 then u else v) = v := if_neg (by decide)
theorem g357b {α : Type} {u v : α} : (if (357 : Int32) < 0 ∨ 2506 ≤ 357 then u else v) = v := if_neg (by decide)
theorem RR0.f {ρ : Nat → Int32} {a : xA} (h : RR0 ρ a) {h0 : Nat} (hh : h0 < aC a 2) (k : Nat) (hk : k < 13) : ρ (120 + 14 * h0 + k) = nI (aH a h0 k) := (h.2.2.2.1 h0 hh).1 k hk
theorem RR0.g {ρ : Nat → Int32} {a : xA} (h : RR0 ρ a) {h0 : Nat} (hh : h0 < aC a 2) : ρ (120 + 14 * h0 + 13) = nI (aG a h0).length := (h.2.2.2.1 h0 hh).2.1
theorem Rel.h6 {B : Nat} {σ μ : xM} {a : xA} (R : Rel B σ μ a) : aC a 2 ≤ 6 := R.inv.hn
theorem Rel.cf {B : Nat} {σ μ : xM} {a : xA} (R : Rel B σ μ a) {h : Nat} (hh : h < aC a 2) (k : Nat) (hk : k < 13) : σ (4 + (21 + 4 * h)) (3 + k) = nI (aH a h k) := R.cr.f hh k hk
theorem Inv_deg {B : Nat} {a : xA} {h0 v : Nat} (I : Inv B a) (h1 : 1 ≤ v) (h4 : v ≤ 4) : Inv B (wH a (hu (aH a) h0 1 v)) := by
  refine I.setH (Nat.le_refl _) I.b (fun h hh => ?_) (fun h hh => by simp [hu])
  have e := I.2.2.2.1 h hh
  show hu (aH a) h0 1 v h 0 ≤ 2 ∧ _
  by_cases q : h = h0
  · subst q
    simp [hu, aH, wH] at e ⊢
    omega
  · simp [hu, aH, wH, q] at e ⊢
    omega
theorem M_setDegree {B n : Nat} {σ μ : xM} {a : xA} (R : Rel B σ μ a) (hn : 400 < n) (hB : B + 30000 < 2 ^ 30) (x y : Int32) : OK2 (B + 30000) (F_X4_setDegree n σ x y) (F_X5_setDegree n μ x y) := by
  have no := fun v => R.no (B' := B + 30000) (by omega) hB v
  have h6 := R.h6
  unfold F_X4_setDegree F_X5_setDegree
  rcases hp_io R.cr R.rr R.inv.1 n x with ⟨h, hh, rfl, e1, e2⟩ | ⟨e1, e2⟩
  · rw [e1, Option.bind_some, e2, Option.bind_some, z10]
    show OK2 _ (if F_X4_isOutside y 1 4 = 0 then _ else _) _
    rcases io (x := y) (L := 1) (H := 4) 1 4 rfl rfl (by decide) (by decide) with ⟨o2, i2, w, w1, w2, rfl⟩ | ⟨o2, i2⟩
    · rw [o2, i2, z00, z10]
      simp (disch := omega) only [of1, gd, gd2, cl]
      rw [R.rr.f hh 1 (by decide), show σ (4 + (21 + 4 * h)) 4 = nI (aH a h 1) from R.cf hh 1 (by decide)]
      by_cases q : nI (aH a h 1) = nI w
      · rw [if_pos q, if_pos q]
        exact no _
      · rw [if_neg q, if_neg q]
        obtain ⟨σ1, μ1, f1, f2, R1⟩ := R.rec hn
        rw [f1, Option.bind_some, f2, Option.bind_some]
        show OK2 _ (some (σ1 (4 + (21 + 4 * h)) 4, x_up σ1 (4 + (21 + 4 * h)) (3 + 1) (nI w))) (some (_, x_up μ1 1 (120 + 14 * h + 1) (nI w)))
        rw [show σ1 (4 + (21 + 4 * h)) 4 = nI (aH a h 1) from R1.cf hh 1 (by decide), x_up_pt (by omega), xr_up1]
        obtain ⟨g1, g2, g3⟩ := R1.gh
        have hh' : h < aC (tla a (μ1 1)) 2 := hh
        exact ⟨_, _, _, _, rfl, rfl, R1.act (by omega) (g1.setH g3.hn hh' (k := 1) (v := w) (by decide)) (g2.setH g3.sz hh' (k := 1) (v := w) (by decide) (by decide)) ((Inv_deg g3 w1 w2).mono (by omega) hB) (fun i hi => rfl) (fun _ _ => rfl) rfl⟩
    · rw [o2, i2, z10, z00]
      exact no _
  · rw [e1, Option.bind_some, e2, Option.bind_some, z00]
    exact no _
theorem Inv_trial {B : Nat} {a : xA} {v : Nat} (I : Inv B a) (h1 : 1 ≤ v) (h4 : v ≤ 9) : Inv B (wC a (va_up (aC a) 3 v)) := by
  obtain ⟨IC, IS, IT, IH, IG, IL, hB⟩ := I
  exact ⟨⟨IC.1, IC.2.1, IC.2.2.1, IC.2.2.2.1, IC.2.2.2.2.1, h1, h4⟩, IS, IT, IH, IG, IL, hB⟩
theorem M_setTrial {B n : Nat} {σ μ : xM} {a : xA} (R : Rel B σ μ a) (hn : 400 < n) (hB : B + 30000 < 2 ^ 30) (x : Int32) : OK2 (B + 30000) (F_X4_setTrial n σ x) (F_X5_setTrial n μ x) := by
  have no := fun v => R.no (B' := B + 30000) (by omega) hB v
  unfold F_X4_setTrial F_X5_setTrial
  rcases io (x := x) (L := 1) (H := 9) 1 9 rfl rfl (by decide) (by decide) with ⟨o2, i2, w, w1, w2, rfl⟩ | ⟨o2, i2⟩
  · simp only [g352b, t352]
    rw [o2, i2, z00, z10, show σ (4 + 0) 7 = nI (aC a 3) from R.cr.c 3 (by decide), show μ 1 352 = nI (aC a 3) from R.rr.c 3 (by decide)]
    by_cases q : nI (aC a 3) = nI w
    · rw [if_pos q, if_pos q]
      exact no _
    · rw [if_neg q, if_neg q]
      obtain ⟨σ1, μ1, f1, f2, R1⟩ := R.rec hn
      rw [f1, Option.bind_some, f2, Option.bind_some]
      show OK2 _ (some (σ1 (4 + 0) 7, x_up σ1 (4 + 0) (4 + 3) (nI w))) (some (_, x_up μ1 1 (349 + 3) (nI w)))
      rw [show σ1 (4 + 0) 7 = nI (aC a 3) from R1.cr.c 3 (by decide), x_up_pt (by decide), xr_up1]
      obtain ⟨g1, g2, g3⟩ := R1.gh
      refine ⟨_, _, _, _, rfl, rfl, R1.act (by omega) (g1.setC (i := 3) (v := w) (by decide)) (g2.setC g3.sz (i := 3) (v := w) (by decide) (by decide) (by decide)) ((Inv_trial g3 w1 w2).mono (by omega) hB) (fun i hi => ?_) (fun _ _ => rfl) rfl⟩
      exact va_up_off (by omega)
  · rw [o2, i2, z10, z00]
    exact no _
theorem Sz.H {a : xA} {H : Nat → Nat → Nat} (z : Sz a) : Sz (wH a H) := z
theorem Inv_free {B : Nat} {a : xA} {h0 v : Nat} (I : Inv B a) : Inv B (wH a (hu (hu (hu (hu (aH a) h0 11 v) h0 4 0) h0 5 0) h0 3 0)) := by
  refine I.setH (Nat.le_refl _) I.b (fun h hh => ?_) (fun h hh => by simp [hu])
  have e := I.2.2.2.1 h hh
  show hu (hu (hu (hu (aH a) h0 11 v) h0 4 0) h0 5 0) h0 3 0 h 0 ≤ 2 ∧ _
  by_cases q : h = h0
  · subst q
    simp [hu, aH, wH] at e ⊢
    omega
  · simp [hu, aH, wH, q] at e ⊢
    omega
theorem M_pardon {B n : Nat} {σ μ : xM} {a : xA} (R : Rel B σ μ a) (hn : 400 < n) (hB : B + 30000 < 2 ^ 30) (x : Int32) : OK2 (B + 30000) (F_X4_pardon n σ x) (F_X5_pardon n μ x) := by
  have no := fun v => R.no (B' := B + 30000) (by omega) hB v
  have h6 := R.h6
  unfold F_X4_pardon F_X5_pardon
  rcases hp_io R.cr R.rr R.inv.1 n x with ⟨h, hh, rfl, e1, e2⟩ | ⟨e1, e2⟩
  · rw [e1, Option.bind_some, e2, Option.bind_some, z10]
    show OK2 _ (if σ (4 + (21 + 4 * h)) 6 = 0 then _ else _) _
    simp (disch := omega) only [of3, of4, of5, of11, gd, gd2, cl]
    rw [R.rr.f hh 3 (by decide), show σ (4 + (21 + 4 * h)) 6 = nI (aH a h 3) from R.cf hh 3 (by decide)]
    by_cases q : nI (aH a h 3) = 0
    · rw [if_pos q, if_pos q]
      exact no _
    · rw [if_neg q, if_neg q]
      obtain ⟨σ1, μ1, f1, f2, R1⟩ := R.rec hn
      rw [f1, Option.bind_some, f2, Option.bind_some]
      rw [R1.rr.f hh 11 (by decide), R1.rr.f hh 4 (by decide), nI_add]
      have e7 : x_sh 4 σ1 (21 + 4 * h) 7 = nI (aH a h 4) := R1.cf hh 4 (by decide)
      have e14 : x_sh 4 σ1 (21 + 4 * h) 14 = nI (aH a h 11) := R1.cf hh 11 (by decide)
      unfold F_X0_release
      simp only [Option.bind_some]
      rw [e7, e14, nI_add]
      obtain ⟨g1, g2, g3⟩ := R1.gh
      have hh' : h < aC (tla a (μ1 1)) 2 := hh
      have d1 := (((g1.setH g3.hn hh' (k := 11) (v := aH a h 11 + aH a h 4) (by decide)).setH g3.hn hh' (k := 4) (v := 0) (by decide)).setH g3.hn hh' (k := 5) (v := 0) (by decide)).setH g3.hn hh' (k := 3) (v := 0) (by decide)
      have d2 := (((g2.setH g3.sz hh' (k := 11) (v := aH a h 11 + aH a h 4) (by decide) (by decide)).setH g3.sz hh' (k := 4) (v := 0) (by decide) (by decide)).setH g3.sz hh' (k := 5) (v := 0) (by decide) (by decide)).setH g3.sz hh' (k := 3) (v := 0) (by decide) (by decide)
      rw [xr_up1 μ1, xr_up, xr_up, xr_up]
      exact ⟨_, _, _, _, rfl, rfl, R1.act (by omega) d1 d2 ((Inv_free g3).mono (by omega) hB) (fun i hi => rfl) (fun _ _ => rfl) rfl⟩
  · rw [e1, Option.bind_some, e2, Option.bind_some, z00]
    exact no _
theorem Inv_forget {B : Nat} {a : xA} {h0 : Nat} (I : Inv B a) : Inv B (wG a (va_up (aG a) h0 [])) := by
  refine I.setG (fun h hh => ?_)
  have e := I.2.2.2.2.1 h hh
  show (aH a h 0 = 0 → (va_up (aG a) h0 [] h).length ≤ 4 ∧ (∀ r, r ∈ va_up (aG a) h0 [] h → _) ∧ _) ∧ (aH a h 0 = 1 → (va_up (aG a) h0 [] h).length ≤ 3 ∧ ∀ r, r ∈ va_up (aG a) h0 [] h → _) ∧ (aH a h 0 = 2 → va_up (aG a) h0 [] h = [])
  by_cases q : h = h0
  · subst q
    have e9 : va_up (aG a) h [] h = [] := va_up_eq
    refine ⟨fun _ => ⟨by rw [e9]; exact Nat.zero_le _, fun r hr => ?_, ?_⟩, fun _ => ⟨by rw [e9]; exact Nat.zero_le _, fun r hr => ?_⟩, fun _ => e9⟩
    · rw [e9] at hr
      cases hr
    · show ((va_up (aG a) h [] h).map _).Nodup
      rw [e9]
      exact List.nodup_nil
    · rw [e9] at hr
      cases hr
  · have e9 : va_up (aG a) h0 [] h = aG a h := va_up_off q
    have e10 : aG (wG a (va_up (aG a) h0 [])) h = aG a h := e9
    rw [e9]
    rw [e10]
    exact e
theorem M_forget {B n : Nat} {σ μ : xM} {a : xA} (R : Rel B σ μ a) (hn : 400 < n) (hB : B + 30000 < 2 ^ 30) (x : Int32) : OK2 (B + 30000) (F_X4_forget n σ x) (F_X5_forget n μ x) := by
  have no := fun v => R.no (B' := B + 30000) (by omega) hB v
  have h6 := R.h6
  unfold F_X4_forget F_X5_forget
  rcases hp_io R.cr R.rr R.inv.1 n x with ⟨h, hh, rfl, e1, e2⟩ | ⟨e1, e2⟩
  · rw [e1, Option.bind_some, e2, Option.bind_some, z10]
    show OK2 _ (if σ (4 + (21 + 4 * h)) 3 = 2 then _ else _) _
    simp (disch := omega) only [of0, of13, gd, gd2, cl]
    rw [R.rr.f hh 0 (by decide), show σ (4 + (21 + 4 * h)) 3 = nI (aH a h 0) from R.cf hh 0 (by decide)]
    by_cases q : nI (aH a h 0) = 2
    · rw [if_pos q, if_pos q]
      exact no _
    · have eg := (gr_G h (by omega)).1
      have el : σ (4 + (22 + 4 * h)) 3 = nI (aG a h).length := (R.cr.2.2.2.2.1 h (by omega)).2.2.1
      rw [if_neg q, if_neg q, R.rr.g hh, eg, Option.bind_some, el]
      by_cases q2 : nI (aG a h).length = 0
      · rw [if_pos q2, if_pos q2]
        exact no _
      · rw [if_neg q2, if_neg q2]
        obtain ⟨σ1, μ1, f1, f2, R1⟩ := R.rec hn
        have el1 : σ1 (4 + (22 + 4 * h)) 3 = nI (aG a h).length := (R1.cr.2.2.2.2.1 h (by omega)).2.2.1
        rw [f1, Option.bind_some, f2, Option.bind_some, Option.bind_some, Option.bind_some, el1]
        show OK2 _ (some (_, x_up σ1 (4 + (22 + 4 * h)) 3 0)) (some (_, x_up μ1 1 (120 + 14 * h + 13) 0))
        rw [x_up_pt (by omega), xr_up1]
        obtain ⟨g1, g2, g3⟩ := R1.gh
        have hh' : h < aC (tla a (μ1 1)) 2 := hh
        have d1 := g1.setG g3.hn (h0 := h) (l := []) (by omega) (fun b h1 h2 => x_up_row' h1) (g1.2.2.2.2.1 h (by omega)).nil
        have d2 := g2.setG g3.sz hh' (ρ' := upd (μ1 1) (120 + 14 * h + 13) 0) (l := []) (fun i h1 h2 => upd_ne h1) (by rw [upd_eq]; rfl) (fun w r hw => by cases hw)
        exact ⟨_, _, _, _, rfl, rfl, R1.act (by omega) d1 d2 ((Inv_forget g3).mono (by omega) hB) (fun i hi => rfl) (fun _ _ => rfl) rfl⟩
  · rw [e1, Option.bind_some, e2, Option.bind_some, z00]
    exact no _
