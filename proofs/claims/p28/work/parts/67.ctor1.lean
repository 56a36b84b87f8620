/-! Rows, Trace, the check: their constructors *)  -/
def eX1 : va_E := .inr (1, [.int 0, .int 0, .null, .int 0])
def shX1 (cs : Nat → ClassId) (cap c : Nat) (ad : Nat → Nat) (r : Nat) : va_E := if r = 0 then .inr (1, [.int (nI cap), .int (nI c), .ref (ad 1), .int 0]) else .inl (cs 1, cap * c, .inl (fun _ => 0))
theorem mx1 {k : Nat} (h1 : 1 ≤ k) (hk : k < 1000) : (if (1 : Int32) < nI k then nI k else (1 : Int32)) = nI k := by
  by_cases q : k = 1
  · rw [q]
    rfl
  · rw [if_pos (show (1 : Int32) < nI k from nI_lt (a := 1) (by omega) (by omega))]
set_option maxRecDepth 4000 in
set_option maxHeartbeats 2000000 in
theorem c_X1_init {l : Launch} {D : va_G} {cs : Nat → ClassId} {h0 cap c9 : Nat} (k1 : 1 ≤ cap) (k2 : cap ≤ 12) (k3 : 1 ≤ c9) (k4 : c9 ≤ 5) : y_Met l yX1_init [Cond.code yX1_init cX1_init 3 none] ({ frames := 1, cells := 1, slots := cap * c9, locals := 16 } : Room) D vwCl (xtys cs) h0 eX1 2 (shX1 cs cap c9) [.int (nI cap), .int (nI c9)] 1 (cap * c9) := by
  have sz : cap * c9 ≤ 60 := Nat.mul_le_mul k2 k4
  refine y_Met_of (L0 := [(0, .ref h0), (1, .int (nI cap)), (2, .int (nI c9))]) (own := RX1) (by decide) rfl rfl rfl (Nat.le_of_ble_eq_true rfl) rfl ?_
  intro p e s m args below meth c A C0 hin hO
  refine x_pc (pc' := 0) rfl ?_
  refine x_aload_n C0 dX1_init_0 rfl 0 rfl ?_
  refine y_obj C0 mw_71 ⟨Nat.le_of_ble_eq_true rfl, Nat.le_of_ble_eq_true rfl⟩ dX1_init_1 ?_
  refine x_aload_n C0 dX1_init_4 rfl 0 rfl ?_
  refine x_pc (pc' := 5) rfl ?_
  refine x_iconst C0 (v := 1) dX1_init_5 (by decide) ?_
  refine x_iload_n C0 dX1_init_6 rfl 1 rfl ?_
  refine x_mmax C0 mw_72 mw_73 mw_47 mw_74 ⟨Nat.le_of_ble_eq_true rfl, Nat.le_of_ble_eq_true rfl, Nat.zero_le _, Nat.zero_le _⟩ dX1_init_7 ?_
  refine x_top (v' := .int (nI cap)) (congrArg Value.int (mx1 k1 (by omega))) ?_
  refine x_pc (pc' := 10) rfl ?_
  refine y_putF C0 hin inu1 tyX1 tyX1_ok nmX1 rfl 0 (by decide) mw_75 rfl rfl rfl rfl (r := 0) (by decide) rfl (fs := [.int 0, .int 0, .null, .int 0]) rfl (Nat.le_of_ble_eq_true rfl) dX1_init_10 (fun C0 => ?_)
  refine x_aload_n C0 dX1_init_13 rfl 0 rfl ?_
  refine x_iconst C0 (v := 1) dX1_init_14 (by decide) ?_
  refine x_pc (pc' := 15) rfl ?_
  refine x_iload_n C0 dX1_init_15 rfl 2 rfl ?_
  refine x_mmax C0 mw_72 mw_73 mw_47 mw_74 ⟨Nat.le_of_ble_eq_true rfl, Nat.le_of_ble_eq_true rfl, Nat.zero_le _, Nat.zero_le _⟩ dX1_init_16 ?_
  refine x_top (v' := .int (nI c9)) (congrArg Value.int (mx1 k3 (by omega))) ?_
  refine y_putF C0 hin inu1 tyX1 tyX1_ok nmX1 rfl 1 (by decide) mw_76 rfl rfl rfl rfl (r := 0) (by decide) rfl (fs := [.int (nI cap), .int 0, .null, .int 0]) rfl (Nat.le_of_ble_eq_true rfl) dX1_init_19 (fun C0 => ?_)
  refine x_pc (pc' := 22) rfl ?_
  refine x_aload_n C0 dX1_init_22 rfl 0 rfl ?_
  refine x_aload_n C0 dX1_init_23 rfl 0 rfl ?_
  refine y_get C0 inu1 rfl 0 (by decide) mw_75 (r := 0) (by decide) rfl (fs := [.int (nI cap), .int (nI c9), .null, .int 0]) rfl rfl dX1_init_24 ?_
  refine x_pc (pc' := 27) rfl ?_
  refine x_aload_n C0 dX1_init_27 rfl 0 rfl ?_
  refine y_get C0 inu1 rfl 1 (by decide) mw_76 (r := 0) (by decide) rfl (fs := [.int (nI cap), .int (nI c9), .null, .int 0]) rfl rfl dX1_init_28 ?_
  refine x_imul C0 dX1_init_31 ?_
  refine x_top (v' := .int (nI (cap * c9))) (congrArg Value.int (pk_mul cap c9)) ?_
  refine x_pc (pc' := 32) rfl ?_
  refine y_newa C0 (ty := .int) (fun _ h => by cases h) rfl mw_91 1 rfl (N' := cap * c9) (a0 := (cap * c9, .inl (fun _ => 0))) (fun _ => rfl) (nI_pos (by omega)) (nI_clamp (by omega)) (by show cap * c9 * 4 ≤ _; omega) ⟨Nat.le_refl _, by show 0 + cap * c9 ≤ cap * c9; omega⟩ dX1_init_32 (fun ad' h1 C0 => ?_)
  have a0 : ad' 0 = h0 := h1 0 (by decide)
  refine y_putF C0 hin inu1 tyX1 tyX1_ok nmX1 rfl 2 (by decide) mw_77 rfl rfl rfl rfl (r := 0) (by decide) a0 (fs := [.int (nI cap), .int (nI c9), .null, .int 0]) rfl (Nat.le_of_ble_eq_true rfl) dX1_init_34 (fun C0 => ?_)
  refine x_aload_n C0 dX1_init_37 rfl 0 rfl ?_
  refine x_pc (pc' := 38) rfl ?_
  refine x_iconst C0 (v := 0) dX1_init_38 (by decide) ?_
  refine y_put C0 inu1 tyX1 tyX1_ok nmX1 rfl 3 (by decide) mw_78 rfl rfl rfl (r := 0) (by decide) a0 (fs := [.int (nI cap), .int (nI c9), .ref (ad' 1), .int 0]) rfl (Nat.le_of_ble_eq_true rfl) dX1_init_39 (fun C0 => ?_)
  rw [Nat.zero_add, Nat.zero_add]
  refine y_vret C0 a0 (fun r hr => ?_) dX1_init_42
  rcases (show r = 0 ∨ r = 1 by omega) with rfl | rfl <;> rfl
def eX3 : va_E := .inr (3, [.null, .int 0])
def shX3 (cs : Nat → ClassId) (ad : Nat → Nat) (r : Nat) : va_E := if r = 0 then .inr (3, [.ref (ad 1), .int 0]) else .inl (cs 0, 80, .inl (fun _ => 0))
set_option maxRecDepth 4000 in
set_option maxHeartbeats 2000000 in
theorem c_X3_init {l : Launch} {D : va_G} {cs : Nat → ClassId} {h0 : Nat} : y_Met l yX3_init [Cond.code yX3_init cX3_init 1 none] ({ frames := 1, cells := 1, slots := 80, locals := 12 } : Room) D vwCl (xtys cs) h0 eX3 2 (shX3 cs) [] 1 80 := by
  refine y_Met_of (L0 := [(0, .ref h0)]) (own := RX3) (by decide) rfl rfl rfl (Nat.le_of_ble_eq_true rfl) rfl ?_
  intro p e s m args below meth c A C0 hin hO
  refine x_pc (pc' := 0) rfl ?_
  refine x_aload_n C0 dX3_init_0 rfl 0 rfl ?_
  refine y_obj C0 mw_232 ⟨Nat.le_of_ble_eq_true rfl, Nat.le_of_ble_eq_true rfl⟩ dX3_init_1 ?_
  refine x_aload_n C0 dX3_init_4 rfl 0 rfl ?_
  refine x_pc (pc' := 5) rfl ?_
  refine x_bipush C0 (v := 80) dX3_init_5 (by decide) ?_
  refine y_newa C0 (ty := .char) (fun _ h => by cases h) rfl mw_241 0 rfl (N' := 80) (a0 := (80, .inl (fun _ => 0))) (fun _ => rfl) (by decide) rfl (Nat.le_of_ble_eq_true rfl) ⟨Nat.le_of_ble_eq_true rfl, Nat.le_of_ble_eq_true rfl⟩ dX3_init_7 (fun ad' h1 C0 => ?_)
  have a0 : ad' 0 = h0 := h1 0 (by decide)
  refine y_putF C0 hin inu3 tyX3 tyX3_ok nmX3 rfl 0 (by decide) mw_233 rfl rfl rfl rfl (r := 0) (by decide) a0 (fs := [.null, .int 0]) rfl (Nat.le_of_ble_eq_true rfl) dX3_init_9 (fun C0 => ?_)
  refine x_pc (pc' := 12) rfl ?_
  refine x_aload_n C0 dX3_init_12 rfl 0 rfl ?_
  refine x_iconst C0 (v := 0) dX3_init_13 (by decide) ?_
  refine y_put C0 inu3 tyX3 tyX3_ok nmX3 rfl 1 (by decide) mw_234 rfl rfl rfl (r := 0) (by decide) a0 (fs := [.ref (ad' 1), .int 0]) rfl (Nat.le_of_ble_eq_true rfl) dX3_init_14 (fun C0 => ?_)
  refine x_pc (pc' := 17) rfl ?_
  refine y_vret C0 a0 (fun r hr => ?_) dX3_init_17
  rcases (show r = 0 ∨ r = 1 by omega) with rfl | rfl <;> rfl
