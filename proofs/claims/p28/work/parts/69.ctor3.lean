/-! a Helper's constructor *)  -/
def wfB (cs : Nat → ClassId) (ad : Nat → Nat) (σ : xM) (r : Nat) : va_E := if r = 0 then .inr (0, [.ref (ad 1), .ref (ad 3), .int (σ 0 2), .int (σ 0 3), .int (σ 0 4), .int (σ 0 5), .int (σ 0 6), .int (σ 0 7), .int (σ 0 8), .int (σ 0 9), .int (σ 0 10), .int (σ 0 11), .int (σ 0 12), .int (σ 0 13), .int (σ 0 14), .int (σ 0 15)]) else if r = 1 then .inr (1, [.int (σ 1 0), .int (σ 1 1), .ref (ad 2), .int (σ 1 3)]) else if r = 2 then .inl (cs 1, 16, .inl (σ 2)) else .inl (cs 1, 4, .inl (σ r))
theorem wfB_loc {cs : Nat → ClassId} {ad : Nat → Nat} : x_loc (wfB cs ad) := fun σ σ' r h => by
  have e : σ r = σ' r := funext h
  unfold wfB
  by_cases h0 : r = 0
  · subst h0
    simp [e]
  · by_cases h1 : r = 1
    · subst h1
      simp [e]
    · by_cases h2 : r = 2
      · subst h2
        simp [e]
      · rw [if_neg h0, if_neg h1, if_neg h2, if_neg h0, if_neg h1, if_neg h2, e]
theorem wfB_0 {cs : Nat → ClassId} {ad : Nat → Nat} {σ : xM} : wfB cs ad σ 0 = .inr (0, [.ref (ad 1), .ref (ad 3), .int (σ 0 2), .int (σ 0 3), .int (σ 0 4), .int (σ 0 5), .int (σ 0 6), .int (σ 0 7), .int (σ 0 8), .int (σ 0 9), .int (σ 0 10), .int (σ 0 11), .int (σ 0 12), .int (σ 0 13), .int (σ 0 14), .int (σ 0 15)]) := rfl
theorem wfB_1 {cs : Nat → ClassId} {ad : Nat → Nat} {σ : xM} : wfB cs ad σ 1 = .inr (1, [.int (σ 1 0), .int (σ 1 1), .ref (ad 2), .int (σ 1 3)]) := rfl
theorem wpB_0_2 {cs : Nat → ClassId} {ad : Nat → Nat} {σ : xM} {x : Int32} : wfB cs ad (x_up σ 0 2 x) 0 = .inr (0, ([.ref (ad 1), .ref (ad 3), .int (σ 0 2), .int (σ 0 3), .int (σ 0 4), .int (σ 0 5), .int (σ 0 6), .int (σ 0 7), .int (σ 0 8), .int (σ 0 9), .int (σ 0 10), .int (σ 0 11), .int (σ 0 12), .int (σ 0 13), .int (σ 0 14), .int (σ 0 15)]).set 2 (.int x)) := by
  rw [wfB_0]
  simp [x_up]
theorem wpB_0_3 {cs : Nat → ClassId} {ad : Nat → Nat} {σ : xM} {x : Int32} : wfB cs ad (x_up σ 0 3 x) 0 = .inr (0, ([.ref (ad 1), .ref (ad 3), .int (σ 0 2), .int (σ 0 3), .int (σ 0 4), .int (σ 0 5), .int (σ 0 6), .int (σ 0 7), .int (σ 0 8), .int (σ 0 9), .int (σ 0 10), .int (σ 0 11), .int (σ 0 12), .int (σ 0 13), .int (σ 0 14), .int (σ 0 15)]).set 3 (.int x)) := by
  rw [wfB_0]
  simp [x_up]
theorem wpB_0_4 {cs : Nat → ClassId} {ad : Nat → Nat} {σ : xM} {x : Int32} : wfB cs ad (x_up σ 0 4 x) 0 = .inr (0, ([.ref (ad 1), .ref (ad 3), .int (σ 0 2), .int (σ 0 3), .int (σ 0 4), .int (σ 0 5), .int (σ 0 6), .int (σ 0 7), .int (σ 0 8), .int (σ 0 9), .int (σ 0 10), .int (σ 0 11), .int (σ 0 12), .int (σ 0 13), .int (σ 0 14), .int (σ 0 15)]).set 4 (.int x)) := by
  rw [wfB_0]
  simp [x_up]
theorem wpB_0_5 {cs : Nat → ClassId} {ad : Nat → Nat} {σ : xM} {x : Int32} : wfB cs ad (x_up σ 0 5 x) 0 = .inr (0, ([.ref (ad 1), .ref (ad 3), .int (σ 0 2), .int (σ 0 3), .int (σ 0 4), .int (σ 0 5), .int (σ 0 6), .int (σ 0 7), .int (σ 0 8), .int (σ 0 9), .int (σ 0 10), .int (σ 0 11), .int (σ 0 12), .int (σ 0 13), .int (σ 0 14), .int (σ 0 15)]).set 5 (.int x)) := by
  rw [wfB_0]
  simp [x_up]
theorem wpB_0_6 {cs : Nat → ClassId} {ad : Nat → Nat} {σ : xM} {x : Int32} : wfB cs ad (x_up σ 0 6 x) 0 = .inr (0, ([.ref (ad 1), .ref (ad 3), .int (σ 0 2), .int (σ 0 3), .int (σ 0 4), .int (σ 0 5), .int (σ 0 6), .int (σ 0 7), .int (σ 0 8), .int (σ 0 9), .int (σ 0 10), .int (σ 0 11), .int (σ 0 12), .int (σ 0 13), .int (σ 0 14), .int (σ 0 15)]).set 6 (.int x)) := by
  rw [wfB_0]
  simp [x_up]
theorem wpB_0_7 {cs : Nat → ClassId} {ad : Nat → Nat} {σ : xM} {x : Int32} : wfB cs ad (x_up σ 0 7 x) 0 = .inr (0, ([.ref (ad 1), .ref (ad 3), .int (σ 0 2), .int (σ 0 3), .int (σ 0 4), .int (σ 0 5), .int (σ 0 6), .int (σ 0 7), .int (σ 0 8), .int (σ 0 9), .int (σ 0 10), .int (σ 0 11), .int (σ 0 12), .int (σ 0 13), .int (σ 0 14), .int (σ 0 15)]).set 7 (.int x)) := by
  rw [wfB_0]
  simp [x_up]
theorem wpB_0_8 {cs : Nat → ClassId} {ad : Nat → Nat} {σ : xM} {x : Int32} : wfB cs ad (x_up σ 0 8 x) 0 = .inr (0, ([.ref (ad 1), .ref (ad 3), .int (σ 0 2), .int (σ 0 3), .int (σ 0 4), .int (σ 0 5), .int (σ 0 6), .int (σ 0 7), .int (σ 0 8), .int (σ 0 9), .int (σ 0 10), .int (σ 0 11), .int (σ 0 12), .int (σ 0 13), .int (σ 0 14), .int (σ 0 15)]).set 8 (.int x)) := by
  rw [wfB_0]
  simp [x_up]
theorem wpB_0_9 {cs : Nat → ClassId} {ad : Nat → Nat} {σ : xM} {x : Int32} : wfB cs ad (x_up σ 0 9 x) 0 = .inr (0, ([.ref (ad 1), .ref (ad 3), .int (σ 0 2), .int (σ 0 3), .int (σ 0 4), .int (σ 0 5), .int (σ 0 6), .int (σ 0 7), .int (σ 0 8), .int (σ 0 9), .int (σ 0 10), .int (σ 0 11), .int (σ 0 12), .int (σ 0 13), .int (σ 0 14), .int (σ 0 15)]).set 9 (.int x)) := by
  rw [wfB_0]
  simp [x_up]
theorem wpB_0_10 {cs : Nat → ClassId} {ad : Nat → Nat} {σ : xM} {x : Int32} : wfB cs ad (x_up σ 0 10 x) 0 = .inr (0, ([.ref (ad 1), .ref (ad 3), .int (σ 0 2), .int (σ 0 3), .int (σ 0 4), .int (σ 0 5), .int (σ 0 6), .int (σ 0 7), .int (σ 0 8), .int (σ 0 9), .int (σ 0 10), .int (σ 0 11), .int (σ 0 12), .int (σ 0 13), .int (σ 0 14), .int (σ 0 15)]).set 10 (.int x)) := by
  rw [wfB_0]
  simp [x_up]
theorem wpB_0_11 {cs : Nat → ClassId} {ad : Nat → Nat} {σ : xM} {x : Int32} : wfB cs ad (x_up σ 0 11 x) 0 = .inr (0, ([.ref (ad 1), .ref (ad 3), .int (σ 0 2), .int (σ 0 3), .int (σ 0 4), .int (σ 0 5), .int (σ 0 6), .int (σ 0 7), .int (σ 0 8), .int (σ 0 9), .int (σ 0 10), .int (σ 0 11), .int (σ 0 12), .int (σ 0 13), .int (σ 0 14), .int (σ 0 15)]).set 11 (.int x)) := by
  rw [wfB_0]
  simp [x_up]
theorem wpB_0_12 {cs : Nat → ClassId} {ad : Nat → Nat} {σ : xM} {x : Int32} : wfB cs ad (x_up σ 0 12 x) 0 = .inr (0, ([.ref (ad 1), .ref (ad 3), .int (σ 0 2), .int (σ 0 3), .int (σ 0 4), .int (σ 0 5), .int (σ 0 6), .int (σ 0 7), .int (σ 0 8), .int (σ 0 9), .int (σ 0 10), .int (σ 0 11), .int (σ 0 12), .int (σ 0 13), .int (σ 0 14), .int (σ 0 15)]).set 12 (.int x)) := by
  rw [wfB_0]
  simp [x_up]
theorem wpB_0_13 {cs : Nat → ClassId} {ad : Nat → Nat} {σ : xM} {x : Int32} : wfB cs ad (x_up σ 0 13 x) 0 = .inr (0, ([.ref (ad 1), .ref (ad 3), .int (σ 0 2), .int (σ 0 3), .int (σ 0 4), .int (σ 0 5), .int (σ 0 6), .int (σ 0 7), .int (σ 0 8), .int (σ 0 9), .int (σ 0 10), .int (σ 0 11), .int (σ 0 12), .int (σ 0 13), .int (σ 0 14), .int (σ 0 15)]).set 13 (.int x)) := by
  rw [wfB_0]
  simp [x_up]
theorem wpB_0_14 {cs : Nat → ClassId} {ad : Nat → Nat} {σ : xM} {x : Int32} : wfB cs ad (x_up σ 0 14 x) 0 = .inr (0, ([.ref (ad 1), .ref (ad 3), .int (σ 0 2), .int (σ 0 3), .int (σ 0 4), .int (σ 0 5), .int (σ 0 6), .int (σ 0 7), .int (σ 0 8), .int (σ 0 9), .int (σ 0 10), .int (σ 0 11), .int (σ 0 12), .int (σ 0 13), .int (σ 0 14), .int (σ 0 15)]).set 14 (.int x)) := by
  rw [wfB_0]
  simp [x_up]
theorem wpB_0_15 {cs : Nat → ClassId} {ad : Nat → Nat} {σ : xM} {x : Int32} : wfB cs ad (x_up σ 0 15 x) 0 = .inr (0, ([.ref (ad 1), .ref (ad 3), .int (σ 0 2), .int (σ 0 3), .int (σ 0 4), .int (σ 0 5), .int (σ 0 6), .int (σ 0 7), .int (σ 0 8), .int (σ 0 9), .int (σ 0 10), .int (σ 0 11), .int (σ 0 12), .int (σ 0 13), .int (σ 0 14), .int (σ 0 15)]).set 15 (.int x)) := by
  rw [wfB_0]
  simp [x_up]
theorem wpB_1_3 {cs : Nat → ClassId} {ad : Nat → Nat} {σ : xM} {x : Int32} : wfB cs ad (x_up σ 1 3 x) 1 = .inr (1, ([.int (σ 1 0), .int (σ 1 1), .ref (ad 2), .int (σ 1 3)]).set 3 (.int x)) := by
  rw [wfB_1]
  simp [x_up]
def F_B (σ : xM) (x1 x2 x3 : Int32) : xM := x_up (x_up (x_up (x_up (x_up (x_up (x_up (x_up (x_up (x_up (x_up (x_up (x_up (x_up (x_up σ 0 3 x1) 0 4 x2) 0 5 x3) 0 6 0) 0 7 0) 0 8 0) 0 9 0) 0 10 0) 0 11 0) 0 12 0) 0 13 0) 0 14 0) 0 15 0) 0 2 0) 1 3 0
set_option maxRecDepth 4000 in
set_option maxHeartbeats 2000000 in
theorem c_B_begin {l : Launch} {D : va_G} {cs : Nat → ClassId} {ad : Nat → Nat} {σ : xM} {x1 x2 x3 : Int32} : x_Met l yX0_begin [Cond.code yX0_begin cX0_begin 4 none] ({ frames := 0, cells := 0, slots := 0, locals := 0 } : Room) D vwCl (xtys cs) 4 ad (wfB cs ad) [.ref (ad 0), .int x1, .int x2, .int x3] σ none (F_B σ x1 x2 x3) := by
  refine x_Met_of (L0 := [(0, .ref (ad 0)), (1, .int x1), (2, .int x2), (3, .int x3)]) (own := RX0) (by decide) rfl rfl wfB_loc (Nat.le_of_ble_eq_true rfl) rfl ?_
  intro p e s m args below meth c A C0
  refine x_aload_n C0 dX0_begin_0 rfl 0 rfl ?_
  refine x_iload_n C0 dX0_begin_1 rfl 1 rfl ?_
  refine x_put C0 inu0 tyX0 tyX0_ok nmX0 rfl 3 (by decide) mw_111 rfl rfl rfl (by decide) wfB_0 (Nat.le_of_ble_eq_true rfl) wpB_0_3 (fun r' h' k' => x_up_ne r' h' k') dX0_begin_2 ?_
  refine x_aload_n C0 dX0_begin_5 rfl 0 rfl ?_
  refine x_iload_n C0 dX0_begin_6 rfl 2 rfl ?_
  refine x_put C0 inu0 tyX0 tyX0_ok nmX0 rfl 4 (by decide) mw_113 rfl rfl rfl (by decide) wfB_0 (Nat.le_of_ble_eq_true rfl) wpB_0_4 (fun r' h' k' => x_up_ne r' h' k') dX0_begin_7 ?_
  refine x_aload_n C0 dX0_begin_10 rfl 0 rfl ?_
  refine x_pc (pc' := 11) rfl ?_
  refine x_iload_n C0 dX0_begin_11 rfl 3 rfl ?_
  refine x_put C0 inu0 tyX0 tyX0_ok nmX0 rfl 5 (by decide) mw_115 rfl rfl rfl (by decide) wfB_0 (Nat.le_of_ble_eq_true rfl) wpB_0_5 (fun r' h' k' => x_up_ne r' h' k') dX0_begin_12 ?_
  refine x_aload_n C0 dX0_begin_15 rfl 0 rfl ?_
  refine x_iconst C0 (v := 0) dX0_begin_16 ki_0 ?_
  refine x_put C0 inu0 tyX0 tyX0_ok nmX0 rfl 6 (by decide) mw_118 rfl rfl rfl (by decide) wfB_0 (Nat.le_of_ble_eq_true rfl) wpB_0_6 (fun r' h' k' => x_up_ne r' h' k') dX0_begin_17 ?_
  refine x_aload_n C0 dX0_begin_20 rfl 0 rfl ?_
  refine x_iconst C0 (v := 0) dX0_begin_21 ki_0 ?_
  refine x_put C0 inu0 tyX0 tyX0_ok nmX0 rfl 7 (by decide) mw_120 rfl rfl rfl (by decide) wfB_0 (Nat.le_of_ble_eq_true rfl) wpB_0_7 (fun r' h' k' => x_up_ne r' h' k') dX0_begin_22 ?_
  refine x_pc (pc' := 25) rfl ?_
  refine x_aload_n C0 dX0_begin_25 rfl 0 rfl ?_
  refine x_iconst C0 (v := 0) dX0_begin_26 ki_0 ?_
  refine x_put C0 inu0 tyX0 tyX0_ok nmX0 rfl 8 (by decide) mw_123 rfl rfl rfl (by decide) wfB_0 (Nat.le_of_ble_eq_true rfl) wpB_0_8 (fun r' h' k' => x_up_ne r' h' k') dX0_begin_27 ?_
  refine x_aload_n C0 dX0_begin_30 rfl 0 rfl ?_
  refine x_iconst C0 (v := 0) dX0_begin_31 ki_0 ?_
  refine x_put C0 inu0 tyX0 tyX0_ok nmX0 rfl 9 (by decide) mw_125 rfl rfl rfl (by decide) wfB_0 (Nat.le_of_ble_eq_true rfl) wpB_0_9 (fun r' h' k' => x_up_ne r' h' k') dX0_begin_32 ?_
  refine x_aload_n C0 dX0_begin_35 rfl 0 rfl ?_
  refine x_iconst C0 (v := 0) dX0_begin_36 ki_0 ?_
  refine x_pc (pc' := 37) rfl ?_
  refine x_put C0 inu0 tyX0 tyX0_ok nmX0 rfl 10 (by decide) mw_128 rfl rfl rfl (by decide) wfB_0 (Nat.le_of_ble_eq_true rfl) wpB_0_10 (fun r' h' k' => x_up_ne r' h' k') dX0_begin_37 ?_
  refine x_aload_n C0 dX0_begin_40 rfl 0 rfl ?_
  refine x_iconst C0 (v := 0) dX0_begin_41 ki_0 ?_
  refine x_put C0 inu0 tyX0 tyX0_ok nmX0 rfl 11 (by decide) mw_130 rfl rfl rfl (by decide) wfB_0 (Nat.le_of_ble_eq_true rfl) wpB_0_11 (fun r' h' k' => x_up_ne r' h' k') dX0_begin_42 ?_
  refine x_aload_n C0 dX0_begin_45 rfl 0 rfl ?_
  refine x_iconst C0 (v := 0) dX0_begin_46 ki_0 ?_
  refine x_put C0 inu0 tyX0 tyX0_ok nmX0 rfl 12 (by decide) mw_133 rfl rfl rfl (by decide) wfB_0 (Nat.le_of_ble_eq_true rfl) wpB_0_12 (fun r' h' k' => x_up_ne r' h' k') dX0_begin_47 ?_
  refine x_aload_n C0 dX0_begin_50 rfl 0 rfl ?_
  refine x_pc (pc' := 51) rfl ?_
  refine x_iconst C0 (v := 0) dX0_begin_51 ki_0 ?_
  refine x_put C0 inu0 tyX0 tyX0_ok nmX0 rfl 13 (by decide) mw_136 rfl rfl rfl (by decide) wfB_0 (Nat.le_of_ble_eq_true rfl) wpB_0_13 (fun r' h' k' => x_up_ne r' h' k') dX0_begin_52 ?_
  refine x_aload_n C0 dX0_begin_55 rfl 0 rfl ?_
  refine x_iconst C0 (v := 0) dX0_begin_56 ki_0 ?_
  refine x_put C0 inu0 tyX0 tyX0_ok nmX0 rfl 14 (by decide) mw_138 rfl rfl rfl (by decide) wfB_0 (Nat.le_of_ble_eq_true rfl) wpB_0_14 (fun r' h' k' => x_up_ne r' h' k') dX0_begin_57 ?_
  refine x_aload_n C0 dX0_begin_60 rfl 0 rfl ?_
  refine x_iconst C0 (v := 0) dX0_begin_61 ki_0 ?_
  refine x_put C0 inu0 tyX0 tyX0_ok nmX0 rfl 15 (by decide) mw_140 rfl rfl rfl (by decide) wfB_0 (Nat.le_of_ble_eq_true rfl) wpB_0_15 (fun r' h' k' => x_up_ne r' h' k') dX0_begin_62 ?_
  refine x_pc (pc' := 65) rfl ?_
  refine x_aload_n C0 dX0_begin_65 rfl 0 rfl ?_
  refine x_iconst C0 (v := 0) dX0_begin_66 ki_0 ?_
  refine x_put C0 inu0 tyX0 tyX0_ok nmX0 rfl 2 (by decide) mw_109 rfl rfl rfl (by decide) wfB_0 (Nat.le_of_ble_eq_true rfl) wpB_0_2 (fun r' h' k' => x_up_ne r' h' k') dX0_begin_67 ?_
  refine x_aload_n C0 dX0_begin_70 rfl 0 rfl ?_
  refine x_get C0 inu0 rfl 0 (by decide) mw_105 (by decide) wfB_0 rfl dX0_begin_71 ?_
  refine x_iconst C0 (v := 0) dX0_begin_74 ki_0 ?_
  refine x_putN C0 inu1 tyX1 tyX1_ok nmX1 rfl 3 (by decide) mw_80 rfl rfl rfl (by decide) wfB_1 (Nat.le_of_ble_eq_true rfl) wpB_1_3 (fun r' h' k' => x_up_ne r' h' k') dX0_begin_75 ?_
  exact x_vret C0 dX0_begin_78
def tau0 : xM := fun r k => if r = 1 ∧ k < 2 then 4 else 0
def eX0 : va_E := .inr (0, [.null, .null, .int 0, .int 0, .int 0, .int 0, .int 0, .int 0, .int 0, .int 0, .int 0, .int 0, .int 0, .int 0, .int 0, .int 0])
def shX0 (cs : Nat → ClassId) (ad : Nat → Nat) (r : Nat) : va_E := wfB cs ad (F_B tau0 0 1 1) r
theorem hd_yX1_init : yX1_init.cls ≠ "java/lang/invoke/MethodHandle" ∧ yX1_init.cls ≠ "java/lang/invoke/VarHandle" ∧ (parseMethodDescriptor yX1_init.desc).map (fun d => d.parameters.length) = some 2 := ⟨by decide +kernel, by decide +kernel, by decide +kernel⟩
theorem hd_yX0_init : yX0_init.cls ≠ "java/lang/invoke/MethodHandle" ∧ yX0_init.cls ≠ "java/lang/invoke/VarHandle" ∧ (parseMethodDescriptor yX0_init.desc).map (fun d => d.parameters.length) = some 0 := ⟨by decide +kernel, by decide +kernel, by decide +kernel⟩
theorem hd_yX2_init : yX2_init.cls ≠ "java/lang/invoke/MethodHandle" ∧ yX2_init.cls ≠ "java/lang/invoke/VarHandle" ∧ (parseMethodDescriptor yX2_init.desc).map (fun d => d.parameters.length) = some 0 := ⟨by decide +kernel, by decide +kernel, by decide +kernel⟩
theorem hd_yX3_init : yX3_init.cls ≠ "java/lang/invoke/MethodHandle" ∧ yX3_init.cls ≠ "java/lang/invoke/VarHandle" ∧ (parseMethodDescriptor yX3_init.desc).map (fun d => d.parameters.length) = some 0 := ⟨by decide +kernel, by decide +kernel, by decide +kernel⟩
theorem hd_yX4_init : yX4_init.cls ≠ "java/lang/invoke/MethodHandle" ∧ yX4_init.cls ≠ "java/lang/invoke/VarHandle" ∧ (parseMethodDescriptor yX4_init.desc).map (fun d => d.parameters.length) = some 0 := ⟨by decide +kernel, by decide +kernel, by decide +kernel⟩
set_option maxRecDepth 8000 in
set_option maxHeartbeats 4000000 in
theorem c_X0_init {l : Launch} {D : va_G} {cs : Nat → ClassId} {h0 : Nat} : y_Met l yX0_init [Cond.code yX0_init cX0_init 1 none] ({ frames := 2, cells := 3, slots := 24, locals := 40 } : Room) D vwCl (xtys cs) h0 eX0 4 (shX0 cs) [] 3 24 := by
  refine y_Met_of (L0 := [(0, .ref h0)]) (own := RX0) (by decide) rfl rfl rfl (Nat.le_of_ble_eq_true rfl) rfl ?_
  intro p e s m args below meth c A C0 hin hO
  refine x_pc (pc' := 0) rfl ?_
  refine x_aload_n C0 dX0_init_0 rfl 0 rfl ?_
  refine y_obj C0 mw_98 ⟨Nat.le_of_ble_eq_true rfl, Nat.le_of_ble_eq_true rfl⟩ dX0_init_1 ?_
  refine x_aload_n C0 dX0_init_4 rfl 0 rfl ?_
  refine x_pc (pc' := 5) rfl ?_
  refine y_new C0 inu1 tyX1 tyX1_ok mw_99 mw_67 mw_46 (ci := 1) rfl (fs := [.int 0, .int 0, .null, .int 0]) (fun j hj => by rcases (show j = 0 ∨ j = 1 ∨ j = 2 ∨ j = 3 by omega) with rfl | rfl | rfl | rfl <;> rfl) ⟨Nat.le_of_ble_eq_true rfl, Nat.le_of_ble_eq_true rfl⟩ dX0_init_5 (fun ad1 h1 C0 => ?_)
  have a0 : ad1 0 = h0 := h1 0 (by decide)
  obtain ⟨q1, f1⟩ : ∃ q, ad1 1 = q := ⟨_, rfl⟩
  refine x_top (v' := .ref q1) (congrArg Value.ref f1) ?_
  refine x_dup C0 dX0_init_8 rfl ?_
  refine x_iconst C0 (v := nI 4) dX0_init_9 rfl ?_
  refine x_pc (pc' := 10) rfl ?_
  refine x_iconst C0 (v := nI 4) dX0_init_10 rfl ?_
  refine y_callN (As := [.int (nI 4), .int (nI 4)]) C0 hO (c_X1_init (cap := 4) (c9 := 4) (by decide) (by decide) (by decide) (by decide)) mw_100 mw_69 mw_46 mw_70 rfl hd_yX1_init ⟨rfl, rfl, Nat.le_of_ble_eq_true rfl, Nat.le_of_ble_eq_true rfl⟩ rfl ⟨Nat.le_of_ble_eq_true rfl, Nat.le_of_ble_eq_true rfl⟩ (Nat.le_of_ble_eq_true rfl) f1 rfl (by decide) dX0_init_11 (fun ad2 h2 b2 C0 => ?_)
  have a0 : ad2 0 = h0 := (h2 0 (by decide)).trans a0
  refine y_putF C0 hin inu0 tyX0 tyX0_ok nmX0 rfl 0 (by decide) mw_105 rfl rfl rfl rfl (r := 0) (by decide) a0 (fs := [.null, .null, .int 0, .int 0, .int 0, .int 0, .int 0, .int 0, .int 0, .int 0, .int 0, .int 0, .int 0, .int 0, .int 0, .int 0]) rfl (Nat.le_of_ble_eq_true rfl) dX0_init_14 (fun C0 => ?_)
  refine x_pc (pc' := 17) rfl ?_
  refine x_aload_n C0 dX0_init_17 rfl 0 rfl ?_
  refine x_iconst C0 (v := 4) dX0_init_18 (by decide) ?_
  refine y_newa C0 (ty := .int) (fun _ h => by cases h) rfl mw_91 1 rfl (N' := 4) (a0 := (4, .inl (fun _ => 0))) (fun _ => rfl) (by decide) rfl (Nat.le_of_ble_eq_true rfl) ⟨Nat.le_of_ble_eq_true rfl, Nat.le_of_ble_eq_true rfl⟩ dX0_init_19 (fun ad3 h3 C0 => ?_)
  have a0 : ad3 0 = h0 := (h3 0 (by decide)).trans a0
  have b3 : ad3 1 = q1 := (h3 1 (by decide)).trans b2
  obtain ⟨q3, f3⟩ : ∃ q, ad3 3 = q := ⟨_, rfl⟩
  refine x_top (v' := .ref q3) (congrArg Value.ref f3) ?_
  refine x_pc (pc' := 21) rfl ?_
  refine y_putF C0 hin inu0 tyX0 tyX0_ok nmX0 rfl 1 (by decide) mw_107 rfl rfl rfl rfl (r := 0) (by decide) a0 (fs := [.ref q1, .null, .int 0, .int 0, .int 0, .int 0, .int 0, .int 0, .int 0, .int 0, .int 0, .int 0, .int 0, .int 0, .int 0, .int 0]) rfl (Nat.le_of_ble_eq_true rfl) dX0_init_21 (fun C0 => ?_)
  refine x_aload_n C0 dX0_init_24 rfl 0 rfl ?_
  refine x_iconst C0 (v := 0) dX0_init_25 (by decide) ?_
  refine x_pc (pc' := 26) rfl ?_
  refine x_iconst C0 (v := 1) dX0_init_26 (by decide) ?_
  refine x_iconst C0 (v := 1) dX0_init_27 (by decide) ?_
  have e9 : ad2 (1 + 1) = ad3 2 := (h3 2 (by decide)).symm
  refine x_congr (wf' := wfB cs ad3) (σ' := tau0) (fun r hr => ?_) ?_
  · rcases (show r = 0 ∨ r = 1 ∨ r = 2 ∨ r = 3 by omega) with rfl | rfl | rfl | rfl
    · show (Sum.inr (0, [.ref q1, .ref q3, .int 0, .int 0, .int 0, .int 0, .int 0, .int 0, .int 0, .int 0, .int 0, .int 0, .int 0, .int 0, .int 0, .int 0]) : va_E) = Sum.inr (0, [.ref (ad3 1), .ref (ad3 3), .int 0, .int 0, .int 0, .int 0, .int 0, .int 0, .int 0, .int 0, .int 0, .int 0, .int 0, .int 0, .int 0, .int 0])
      rw [b3, f3]
    · show (Sum.inr (1, [.int 4, .int 4, .ref (ad2 (1 + 1)), .int 0]) : va_E) = Sum.inr (1, [.int 4, .int 4, .ref (ad3 2), .int 0])
      rw [e9]
    · rfl
    · rfl
  have C0 := C0.re (wfB_loc (cs := cs) (ad := ad3))
  rw [← a0]
  refine x_callV30 C0 (n := 4) (r := 0) c_B_begin (x_cwV C0 mw_101 mw_103 mw_0 mw_48 mw_104 hd_yX0_begin ⟨rfl, rfl, Nat.le_of_ble_eq_true rfl, Nat.le_of_ble_eq_true rfl⟩) (by decide) rfl rfl rfl ⟨Nat.le_of_ble_eq_true rfl, Nat.le_of_ble_eq_true rfl⟩ (Nat.le_of_ble_eq_true rfl) dX0_init_28 ?_
  refine x_pc (pc' := 31) rfl ?_
  refine y_vret C0 rfl (fun r hr => rfl) dX0_init_31
