/-! the check's constructor *)  -/
def eX5 : va_E := .inr (5, [.null, .int 0, .int 0, .null, .int 0, .int 0, .int 0, .null, .int 0])
def mu0 : xM := fun r k => if r = 0 then (if k = 6 then -1 else 0) else if r = 1 then upd (upd (upd (fun _ => 0) 349 4) 350 2) 352 3 k else 0
def shX5 (cs : Nat → ClassId) (ad : Nat → Nat) (r : Nat) : va_E := wfR cs ad mu0 r
set_option maxRecDepth 8000 in
set_option maxHeartbeats 4000000 in
theorem c_X5_init {l : Launch} {D : va_G} {cs : Nat → ClassId} {h0 : Nat} : y_Met l yX5_init [Cond.code yX5_init cX5_init 1 none] ({ frames := 1, cells := 3, slots := 2590, locals := 12 } : Room) D vwCl (xtys cs) h0 eX5 4 (shX5 cs) [] 3 2590 := by
  refine y_Met_of (L0 := [(0, .ref h0)]) (own := RX5) (by decide) rfl rfl rfl (Nat.le_of_ble_eq_true rfl) rfl ?_
  intro p e s m args below meth c A C0 hin hO
  refine x_pc (pc' := 0) rfl ?_
  refine x_aload_n C0 dX5_init_0 rfl 0 rfl ?_
  refine y_obj C0 mw_642 ⟨Nat.le_of_ble_eq_true rfl, Nat.le_of_ble_eq_true rfl⟩ dX5_init_1 ?_
  refine x_aload_n C0 dX5_init_4 rfl 0 rfl ?_
  refine x_pc (pc' := 5) rfl ?_
  refine x_sipush C0 (v := 2506) dX5_init_5 (by decide) ?_
  refine y_newa C0 (ty := .int) (fun _ h => by cases h) rfl mw_126 1 rfl (N' := 2506) (a0 := (2506, .inl (fun _ => 0))) (fun _ => rfl) (by decide) rfl (Nat.le_of_ble_eq_true rfl) ⟨Nat.le_of_ble_eq_true rfl, Nat.le_of_ble_eq_true rfl⟩ dX5_init_8 (fun ad1 h1 C0 => ?_)
  have a0 : ad1 0 = h0 := h1 0 (by decide)
  obtain ⟨q1, f1⟩ : ∃ q, ad1 1 = q := ⟨_, rfl⟩
  refine x_top (v' := .ref q1) (congrArg Value.ref f1) ?_
  refine y_putF C0 hin inu5 tyX5 tyX5_ok nmX5 rfl 0 (by decide) mw_643 rfl rfl rfl rfl (r := 0) (by decide) a0 (fs := [.null, .int 0, .int 0, .null, .int 0, .int 0, .int 0, .null, .int 0]) rfl (Nat.le_of_ble_eq_true rfl) dX5_init_10 (fun C0 => ?_)
  refine x_pc (pc' := 13) rfl ?_
  refine x_aload_n C0 dX5_init_13 rfl 0 rfl ?_
  refine x_bipush C0 (v := 80) dX5_init_14 (by decide) ?_
  refine y_newa C0 (ty := .int) (fun _ h => by cases h) rfl mw_126 1 rfl (N' := 80) (a0 := (80, .inl (fun _ => 0))) (fun _ => rfl) (by decide) rfl (Nat.le_of_ble_eq_true rfl) ⟨Nat.le_of_ble_eq_true rfl, Nat.le_of_ble_eq_true rfl⟩ dX5_init_16 (fun ad2 h2 C0 => ?_)
  have a0 : ad2 0 = h0 := (h2 0 (by decide)).trans a0
  have f1 : ad2 1 = q1 := (h2 1 (by decide)).trans f1
  obtain ⟨q2, f2⟩ : ∃ q, ad2 2 = q := ⟨_, rfl⟩
  refine x_top (v' := .ref q2) (congrArg Value.ref f2) ?_
  refine x_pc (pc' := 18) rfl ?_
  refine y_putF C0 hin inu5 tyX5 tyX5_ok nmX5 rfl 3 (by decide) mw_646 rfl rfl rfl rfl (r := 0) (by decide) a0 (fs := [.ref q1, .int 0, .int 0, .null, .int 0, .int 0, .int 0, .null, .int 0]) rfl (Nat.le_of_ble_eq_true rfl) dX5_init_18 (fun C0 => ?_)
  refine x_aload_n C0 dX5_init_21 rfl 0 rfl ?_
  refine x_iconst C0 (v := (-1)) dX5_init_22 (by decide) ?_
  refine x_pc (pc' := 23) rfl ?_
  refine y_put C0 inu5 tyX5 tyX5_ok nmX5 rfl 6 (by decide) mw_649 rfl rfl rfl (r := 0) (by decide) a0 (fs := [.ref q1, .int 0, .int 0, .ref q2, .int 0, .int 0, .int 0, .null, .int 0]) rfl (Nat.le_of_ble_eq_true rfl) dX5_init_23 (fun C0 => ?_)
  refine x_aload_n C0 dX5_init_26 rfl 0 rfl ?_
  refine x_iconst C0 (v := 4) dX5_init_27 (by decide) ?_
  refine x_pc (pc' := 28) rfl ?_
  refine y_newa C0 (ty := .int) (fun _ h => by cases h) rfl mw_126 1 rfl (N' := 4) (a0 := (4, .inl (fun _ => 0))) (fun _ => rfl) (by decide) rfl (Nat.le_of_ble_eq_true rfl) ⟨Nat.le_of_ble_eq_true rfl, Nat.le_of_ble_eq_true rfl⟩ dX5_init_28 (fun ad3 h3 C0 => ?_)
  have a0 : ad3 0 = h0 := (h3 0 (by decide)).trans a0
  have f1 : ad3 1 = q1 := (h3 1 (by decide)).trans f1
  have f2 : ad3 2 = q2 := (h3 2 (by decide)).trans f2
  obtain ⟨q3, f3⟩ : ∃ q, ad3 3 = q := ⟨_, rfl⟩
  refine x_top (v' := .ref q3) (congrArg Value.ref f3) ?_
  refine y_putF C0 hin inu5 tyX5 tyX5_ok nmX5 rfl 7 (by decide) mw_650 rfl rfl rfl rfl (r := 0) (by decide) a0 (fs := [.ref q1, .int 0, .int 0, .ref q2, .int 0, .int 0, .int (-1), .null, .int 0]) rfl (Nat.le_of_ble_eq_true rfl) dX5_init_30 (fun C0 => ?_)
  refine x_aload_n C0 dX5_init_33 rfl 0 rfl ?_
  refine x_pc (pc' := 34) rfl ?_
  refine y_get C0 inu5 rfl 0 (by decide) mw_643 (r := 0) (by decide) a0 (fs := [.ref q1, .int 0, .int 0, .ref q2, .int 0, .int 0, .int (-1), .ref q3, .int 0]) rfl rfl dX5_init_34 ?_
  refine x_sipush C0 (v := 349) dX5_init_37 (by decide) ?_
  refine x_iconst C0 (v := 4) dX5_init_40 (by decide) ?_
  refine x_pc (pc' := 41) rfl ?_
  refine y_iast C0 1 rfl (r := 1) (by decide) f1 (nn := 2506) (f := (fun _ => 0)) rfl (by decide) dX5_init_41 (fun C0 => ?_)
  refine x_aload_n C0 dX5_init_42 rfl 0 rfl ?_
  refine y_get C0 inu5 rfl 0 (by decide) mw_643 (r := 0) (by decide) a0 (fs := [.ref q1, .int 0, .int 0, .ref q2, .int 0, .int 0, .int (-1), .ref q3, .int 0]) rfl rfl dX5_init_43 ?_
  refine x_pc (pc' := 46) rfl ?_
  refine x_sipush C0 (v := 350) dX5_init_46 (by decide) ?_
  refine x_iconst C0 (v := 2) dX5_init_49 (by decide) ?_
  refine y_iast C0 1 rfl (r := 1) (by decide) f1 (nn := 2506) (f := (upd (fun _ => 0) 349 4)) rfl (by decide) dX5_init_50 (fun C0 => ?_)
  refine x_pc (pc' := 51) rfl ?_
  refine x_aload_n C0 dX5_init_51 rfl 0 rfl ?_
  refine y_get C0 inu5 rfl 0 (by decide) mw_643 (r := 0) (by decide) a0 (fs := [.ref q1, .int 0, .int 0, .ref q2, .int 0, .int 0, .int (-1), .ref q3, .int 0]) rfl rfl dX5_init_52 ?_
  refine x_sipush C0 (v := 352) dX5_init_55 (by decide) ?_
  refine x_pc (pc' := 58) rfl ?_
  refine x_iconst C0 (v := 3) dX5_init_58 (by decide) ?_
  refine y_iast C0 1 rfl (r := 1) (by decide) f1 (nn := 2506) (f := (upd (upd (fun _ => 0) 349 4) 350 2)) rfl (by decide) dX5_init_59 (fun C0 => ?_)
  refine y_vret C0 a0 (fun r hr => ?_) dX5_init_60
  rcases (show r = 0 ∨ r = 1 ∨ r = 2 ∨ r = 3 by omega) with rfl | rfl | rfl | rfl
  · show (Sum.inr (5, [.ref q1, .int 0, .int 0, .ref q2, .int 0, .int 0, .int (-1), .ref q3, .int 0]) : va_E) = Sum.inr (5, [.ref (ad3 1), .int 0, .int 0, .ref (ad3 2), .int 0, .int 0, .int (-1), .ref (ad3 3), .int 0])
    rw [f1, f2, f3]
  · rfl
  · rfl
  · rfl
