theorem kb_12 : (Int8.ofInt 12).toInt32 = 12 := by decide
theorem kb_6 : (Int8.ofInt 6).toInt32 = 6 := by decide
theorem kb_7 : (Int8.ofInt 7).toInt32 = 7 := by decide
theorem kb_8 : (Int8.ofInt 8).toInt32 = 8 := by decide
theorem kb_9 : (Int8.ofInt 9).toInt32 = 9 := by decide
theorem ki_0 : Int32.ofInt 0 = 0 := by decide
theorem ki_1 : Int32.ofInt 1 = 1 := by decide
theorem ki_2 : Int32.ofInt 2 = 2 := by decide
theorem ki_3 : Int32.ofInt 3 = 3 := by decide
theorem ki_4 : Int32.ofInt 4 = 4 := by decide
theorem ki_5 : Int32.ofInt 5 = 5 := by decide
theorem ki_m1 : Int32.ofInt (-1) = (-1) := by decide
theorem ks_9999 : (Int16.ofInt 9999).toInt32 = 9999 := by decide
theorem hd_yX0_addRow : yX0_addRow.cls ≠ "java/lang/invoke/MethodHandle" ∧ yX0_addRow.cls ≠ "java/lang/invoke/VarHandle" ∧ (parseMethodDescriptor yX0_addRow.desc).map (fun d => d.parameters.length) = some 3 := ⟨by decide +kernel, by decide +kernel, by decide +kernel⟩
theorem hd_yX0_begin : yX0_begin.cls ≠ "java/lang/invoke/MethodHandle" ∧ yX0_begin.cls ≠ "java/lang/invoke/VarHandle" ∧ (parseMethodDescriptor yX0_begin.desc).map (fun d => d.parameters.length) = some 3 := ⟨by decide +kernel, by decide +kernel, by decide +kernel⟩
theorem hd_yX0_learn : yX0_learn.cls ≠ "java/lang/invoke/MethodHandle" ∧ yX0_learn.cls ≠ "java/lang/invoke/VarHandle" ∧ (parseMethodDescriptor yX0_learn.desc).map (fun d => d.parameters.length) = some 3 := ⟨by decide +kernel, by decide +kernel, by decide +kernel⟩
theorem hd_yX0_learnStream : yX0_learnStream.cls ≠ "java/lang/invoke/MethodHandle" ∧ yX0_learnStream.cls ≠ "java/lang/invoke/VarHandle" ∧ (parseMethodDescriptor yX0_learnStream.desc).map (fun d => d.parameters.length) = some 1 := ⟨by decide +kernel, by decide +kernel, by decide +kernel⟩
theorem hd_yX0_learnStride : yX0_learnStride.cls ≠ "java/lang/invoke/MethodHandle" ∧ yX0_learnStride.cls ≠ "java/lang/invoke/VarHandle" ∧ (parseMethodDescriptor yX0_learnStride.desc).map (fun d => d.parameters.length) = some 2 := ⟨by decide +kernel, by decide +kernel, by decide +kernel⟩
theorem hd_yX0_lineWasUsed : yX0_lineWasUsed.cls ≠ "java/lang/invoke/MethodHandle" ∧ yX0_lineWasUsed.cls ≠ "java/lang/invoke/VarHandle" ∧ (parseMethodDescriptor yX0_lineWasUsed.desc).map (fun d => d.parameters.length) = some 0 := ⟨by decide +kernel, by decide +kernel, by decide +kernel⟩
theorem hd_yX0_reach : yX0_reach.cls ≠ "java/lang/invoke/MethodHandle" ∧ yX0_reach.cls ≠ "java/lang/invoke/VarHandle" ∧ (parseMethodDescriptor yX0_reach.desc).map (fun d => d.parameters.length) = some 0 := ⟨by decide +kernel, by decide +kernel, by decide +kernel⟩
theorem hd_yX0_sentence : yX0_sentence.cls ≠ "java/lang/invoke/MethodHandle" ∧ yX0_sentence.cls ≠ "java/lang/invoke/VarHandle" ∧ (parseMethodDescriptor yX0_sentence.desc).map (fun d => d.parameters.length) = some 1 := ⟨by decide +kernel, by decide +kernel, by decide +kernel⟩
theorem hd_yX0_streamNear : yX0_streamNear.cls ≠ "java/lang/invoke/MethodHandle" ∧ yX0_streamNear.cls ≠ "java/lang/invoke/VarHandle" ∧ (parseMethodDescriptor yX0_streamNear.desc).map (fun d => d.parameters.length) = some 1 := ⟨by decide +kernel, by decide +kernel, by decide +kernel⟩
theorem hd_yX0_updateRow : yX0_updateRow.cls ≠ "java/lang/invoke/MethodHandle" ∧ yX0_updateRow.cls ≠ "java/lang/invoke/VarHandle" ∧ (parseMethodDescriptor yX0_updateRow.desc).map (fun d => d.parameters.length) = some 4 := ⟨by decide +kernel, by decide +kernel, by decide +kernel⟩
theorem hd_yX0_wish : yX0_wish.cls ≠ "java/lang/invoke/MethodHandle" ∧ yX0_wish.cls ≠ "java/lang/invoke/VarHandle" ∧ (parseMethodDescriptor yX0_wish.desc).map (fun d => d.parameters.length) = some 2 := ⟨by decide +kernel, by decide +kernel, by decide +kernel⟩
theorem hd_yX0_workOneHour : yX0_workOneHour.cls ≠ "java/lang/invoke/MethodHandle" ∧ yX0_workOneHour.cls ≠ "java/lang/invoke/VarHandle" ∧ (parseMethodDescriptor yX0_workOneHour.desc).map (fun d => d.parameters.length) = some 1 := ⟨by decide +kernel, by decide +kernel, by decide +kernel⟩
theorem hd_yX1_find : yX1_find.cls ≠ "java/lang/invoke/MethodHandle" ∧ yX1_find.cls ≠ "java/lang/invoke/VarHandle" ∧ (parseMethodDescriptor yX1_find.desc).map (fun d => d.parameters.length) = some 1 := ⟨by decide +kernel, by decide +kernel, by decide +kernel⟩
theorem hd_yX1_get : yX1_get.cls ≠ "java/lang/invoke/MethodHandle" ∧ yX1_get.cls ≠ "java/lang/invoke/VarHandle" ∧ (parseMethodDescriptor yX1_get.desc).map (fun d => d.parameters.length) = some 2 := ⟨by decide +kernel, by decide +kernel, by decide +kernel⟩
theorem hd_yX1_holds : yX1_holds.cls ≠ "java/lang/invoke/MethodHandle" ∧ yX1_holds.cls ≠ "java/lang/invoke/VarHandle" ∧ (parseMethodDescriptor yX1_holds.desc).map (fun d => d.parameters.length) = some 2 := ⟨by decide +kernel, by decide +kernel, by decide +kernel⟩
theorem hd_yX1_open : yX1_open.cls ≠ "java/lang/invoke/MethodHandle" ∧ yX1_open.cls ≠ "java/lang/invoke/VarHandle" ∧ (parseMethodDescriptor yX1_open.desc).map (fun d => d.parameters.length) = some 1 := ⟨by decide +kernel, by decide +kernel, by decide +kernel⟩
theorem hd_yX1_put : yX1_put.cls ≠ "java/lang/invoke/MethodHandle" ∧ yX1_put.cls ≠ "java/lang/invoke/VarHandle" ∧ (parseMethodDescriptor yX1_put.desc).map (fun d => d.parameters.length) = some 3 := ⟨by decide +kernel, by decide +kernel, by decide +kernel⟩
theorem hd_yX1_remove : yX1_remove.cls ≠ "java/lang/invoke/MethodHandle" ∧ yX1_remove.cls ≠ "java/lang/invoke/VarHandle" ∧ (parseMethodDescriptor yX1_remove.desc).map (fun d => d.parameters.length) = some 1 := ⟨by decide +kernel, by decide +kernel, by decide +kernel⟩
theorem hd_yX1_touch : yX1_touch.cls ≠ "java/lang/invoke/MethodHandle" ∧ yX1_touch.cls ≠ "java/lang/invoke/VarHandle" ∧ (parseMethodDescriptor yX1_touch.desc).map (fun d => d.parameters.length) = some 1 := ⟨by decide +kernel, by decide +kernel, by decide +kernel⟩
theorem hd_yX2_fetch : yX2_fetch.cls ≠ "java/lang/invoke/MethodHandle" ∧ yX2_fetch.cls ≠ "java/lang/invoke/VarHandle" ∧ (parseMethodDescriptor yX2_fetch.desc).map (fun d => d.parameters.length) = some 2 := ⟨by decide +kernel, by decide +kernel, by decide +kernel⟩
theorem hd_yX2_fetchWishes : yX2_fetchWishes.cls ≠ "java/lang/invoke/MethodHandle" ∧ yX2_fetchWishes.cls ≠ "java/lang/invoke/VarHandle" ∧ (parseMethodDescriptor yX2_fetchWishes.desc).map (fun d => d.parameters.length) = some 1 := ⟨by decide +kernel, by decide +kernel, by decide +kernel⟩
theorem hd_yX2_helperAt : yX2_helperAt.cls ≠ "java/lang/invoke/MethodHandle" ∧ yX2_helperAt.cls ≠ "java/lang/invoke/VarHandle" ∧ (parseMethodDescriptor yX2_helperAt.desc).map (fun d => d.parameters.length) = some 1 := ⟨by decide +kernel, by decide +kernel, by decide +kernel⟩
theorem hd_yX2_newLinesOf : yX2_newLinesOf.cls ≠ "java/lang/invoke/MethodHandle" ∧ yX2_newLinesOf.cls ≠ "java/lang/invoke/VarHandle" ∧ (parseMethodDescriptor yX2_newLinesOf.desc).map (fun d => d.parameters.length) = some 1 := ⟨by decide +kernel, by decide +kernel, by decide +kernel⟩
theorem hd_yX2_perform : yX2_perform.cls ≠ "java/lang/invoke/MethodHandle" ∧ yX2_perform.cls ≠ "java/lang/invoke/VarHandle" ∧ (parseMethodDescriptor yX2_perform.desc).map (fun d => d.parameters.length) = some 2 := ⟨by decide +kernel, by decide +kernel, by decide +kernel⟩
theorem hd_yX2_punishThrower : yX2_punishThrower.cls ≠ "java/lang/invoke/MethodHandle" ∧ yX2_punishThrower.cls ≠ "java/lang/invoke/VarHandle" ∧ (parseMethodDescriptor yX2_punishThrower.desc).map (fun d => d.parameters.length) = some 1 := ⟨by decide +kernel, by decide +kernel, by decide +kernel⟩
theorem hd_yX2_serve : yX2_serve.cls ≠ "java/lang/invoke/MethodHandle" ∧ yX2_serve.cls ≠ "java/lang/invoke/VarHandle" ∧ (parseMethodDescriptor yX2_serve.desc).map (fun d => d.parameters.length) = some 1 := ⟨by decide +kernel, by decide +kernel, by decide +kernel⟩
theorem hd_yX2_setAt : yX2_setAt.cls ≠ "java/lang/invoke/MethodHandle" ∧ yX2_setAt.cls ≠ "java/lang/invoke/VarHandle" ∧ (parseMethodDescriptor yX2_setAt.desc).map (fun d => d.parameters.length) = some 1 := ⟨by decide +kernel, by decide +kernel, by decide +kernel⟩
theorem hd_yX2_setOf : yX2_setOf.cls ≠ "java/lang/invoke/MethodHandle" ∧ yX2_setOf.cls ≠ "java/lang/invoke/VarHandle" ∧ (parseMethodDescriptor yX2_setOf.desc).map (fun d => d.parameters.length) = some 1 := ⟨by decide +kernel, by decide +kernel, by decide +kernel⟩
theorem hd_yX2_throwOldest : yX2_throwOldest.cls ≠ "java/lang/invoke/MethodHandle" ∧ yX2_throwOldest.cls ≠ "java/lang/invoke/VarHandle" ∧ (parseMethodDescriptor yX2_throwOldest.desc).map (fun d => d.parameters.length) = some 2 := ⟨by decide +kernel, by decide +kernel, by decide +kernel⟩
theorem hd_yX2_writeLog : yX2_writeLog.cls ≠ "java/lang/invoke/MethodHandle" ∧ yX2_writeLog.cls ≠ "java/lang/invoke/VarHandle" ∧ (parseMethodDescriptor yX2_writeLog.desc).map (fun d => d.parameters.length) = some 4 := ⟨by decide +kernel, by decide +kernel, by decide +kernel⟩
theorem hd_yX4_isOutside : yX4_isOutside.cls ≠ "java/lang/invoke/MethodHandle" ∧ yX4_isOutside.cls ≠ "java/lang/invoke/VarHandle" ∧ (parseMethodDescriptor yX4_isOutside.desc).map (fun d => d.parameters.length) = some 3 := ⟨by decide +kernel, by decide +kernel, by decide +kernel⟩
theorem tyF_X2_setAt {n : Nat} {σ : xM} {x : Int32} {a : Nat} (h : F_X2_setAt n σ x = some (some a)) : xk 1 a := by
  have key : ∀ s1, B_X2_setAt_19 n σ s1 = some (some a) → xk 1 a := fun s1 h => by
    unfold B_X2_setAt_19 at h
    by_cases hc : s1 < 0 ∨ 8 ≤ s1.toNatClampNeg
    · rw [if_pos hc] at h
      cases h
    · rw [if_neg hc] at h
      exact ty_9 kS_1 (x_inj h)
  unfold F_X2_setAt at h
  exact x_ite h (fun _ h => key _ h) (fun _ h => key _ h)
theorem tyF_X2_setOf {n : Nat} {σ : xM} {x : Int32} {a : Nat} (h : F_X2_setOf n σ x = some (some a)) : xk 1 a := by
  have key : ∀ s1, B_X2_setOf_18 n σ s1 = some (some a) → xk 1 a := fun s1 h => by
    unfold B_X2_setOf_18 at h
    obtain ⟨q, e, h⟩ := x_bind h
    exact tyF_X2_setAt (x_inj h ▸ e)
  unfold F_X2_setOf at h
  refine x_ite h (fun _ h => ?_) (fun _ h => key _ h)
  by_cases hc : σ 0 4 = (0 : Int32)
  · rw [if_pos hc] at h
    cases h
  · rw [if_neg hc] at h
    exact key _ h
theorem tyF_X2_helperAt {n : Nat} {σ : xM} {x : Int32} {a : Nat} (h : F_X2_helperAt n σ x = some (some a)) : xk 0 a := by
  unfold F_X2_helperAt at h
  refine x_ite h (fun _ h => ?_) (fun _ h => ?_)
  · by_cases hc : x < 0 ∨ 6 ≤ x.toNatClampNeg
    · rw [if_pos hc] at h
      cases h
    · rw [if_neg hc] at h
      exact ty_8 kS_20 (x_inj h)
  · cases x_inj h
set_option maxRecDepth 4000 in
set_option maxHeartbeats 2000000 in
theorem c_X1_holds {l : Launch} {D : va_G} {cs : Nat → ClassId} {ad : Nat → Nat} (n : Nat) {σ : xM} {r : Nat} {x1 : Int32} {x2 : Int32} (kr : xk 1 r) {res : Int32} (h : F_X1_holds n σ r x1 x2 = some res) : x_Met l yX1_holds [Cond.code yX1_holds cX1_holds 3 (some FieldType.boolean)] ({ frames := 0, cells := 0, slots := 0, locals := 0 } : Room) D vwCl (xtys cs) 47 ad (wfS cs ad) [.ref (ad r), .int x1, .int x2] σ (some (.int res)) σ := by
  refine x_Met_of (L0 := [(0, .ref (ad r)), (1, .int x1), (2, .int x2)]) (own := RX1) (by decide) rfl rfl wfS_loc (Nat.le_of_ble_eq_true rfl) rfl ?_
  intro p e s m args below meth c A C0
  refine x_iload_n C0 dX1_holds_0 rfl 1 rfl ?_
  refine x_if_lt C0 (tgt := 28) dX1_holds_1 rfl h (fun _ h => ?_) (fun _ h => ?_)
  · refine x_iconst C0 (v := 0) dX1_holds_28 ki_0 ?_
    obtain rfl := x_inj h
    exact x_zret (v := 0) C0 rfl dX1_holds_29
  · refine x_iload_n C0 dX1_holds_4 rfl 1 rfl ?_
    refine x_aload_n C0 dX1_holds_5 rfl 0 rfl ?_
    refine x_get C0 inu1 rfl 3 (by decide) mw_78 kr.1 (wfS_1 kr.2) rfl dX1_holds_6 ?_
    refine x_icmp_ge C0 (tgt := 28) dX1_holds_9 rfl h (fun _ h => ?_) (fun _ h => ?_)
    · refine x_iload_n C0 dX1_holds_12 rfl 2 rfl ?_
      refine x_if_lt C0 (tgt := 28) dX1_holds_13 rfl h (fun _ h => ?_) (fun _ h => ?_)
      · refine x_iconst C0 (v := 0) dX1_holds_28 ki_0 ?_
        obtain rfl := x_inj h
        exact x_zret (v := 0) C0 rfl dX1_holds_29
      · refine x_iload_n C0 dX1_holds_16 rfl 2 rfl ?_
        refine x_aload_n C0 dX1_holds_17 rfl 0 rfl ?_
        refine x_get C0 inu1 rfl 1 (by decide) mw_76 kr.1 (wfS_1 kr.2) rfl dX1_holds_18 ?_
        refine x_icmp_ge C0 (tgt := 28) dX1_holds_21 rfl h (fun _ h => ?_) (fun _ h => ?_)
        · refine x_iconst C0 (v := 1) dX1_holds_24 ki_1 ?_
          refine x_goto C0 (tgt := 29) dX1_holds_25 rfl ?_
          obtain rfl := x_inj h
          exact x_zret (v := 1) C0 rfl dX1_holds_29
        · refine x_iconst C0 (v := 0) dX1_holds_28 ki_0 ?_
          obtain rfl := x_inj h
          exact x_zret (v := 0) C0 rfl dX1_holds_29
    · refine x_iconst C0 (v := 0) dX1_holds_28 ki_0 ?_
      obtain rfl := x_inj h
      exact x_zret (v := 0) C0 rfl dX1_holds_29
set_option maxRecDepth 4000 in
set_option maxHeartbeats 2000000 in
theorem c_X1_get {l : Launch} {D : va_G} {cs : Nat → ClassId} {ad : Nat → Nat} (n : Nat) {σ : xM} {r : Nat} {x1 : Int32} {x2 : Int32} (kr : xk 1 r) {res : Int32} (h : F_X1_get n σ r x1 x2 = some res) : x_Met l yX1_get [Cond.code yX1_get cX1_get 3 (some FieldType.int)] ({ frames := 1, cells := 0, slots := 0, locals := 22 } : Room) D vwCl (xtys cs) 47 ad (wfS cs ad) [.ref (ad r), .int x1, .int x2] σ (some (.int res)) σ := by
  refine x_Met_of (L0 := [(0, .ref (ad r)), (1, .int x1), (2, .int x2)]) (own := RX1) (by decide) rfl rfl wfS_loc (Nat.le_of_ble_eq_true rfl) rfl ?_
  intro p e s m args below meth c A C0
  refine x_aload_n C0 dX1_get_0 rfl 0 rfl ?_
  refine x_iload_n C0 dX1_get_1 rfl 1 rfl ?_
  refine x_iload_n C0 dX1_get_2 rfl 2 rfl ?_
  obtain ⟨q1, eq1, h⟩ := x_bind h
  refine x_callV21 C0 (c_X1_holds n kr eq1) (x_cwV C0 mw_306 mw_308 mw_8 mw_46 mw_309 hd_yX1_holds ⟨rfl, rfl, Nat.le_of_ble_eq_true rfl, Nat.le_of_ble_eq_true rfl⟩) kr.1 rfl (wfS_1 kr.2) rfl ⟨Nat.zero_le _, Nat.zero_le _⟩ (Nat.le_of_ble_eq_true rfl) dX1_get_3 ?_
  refine x_if_eq C0 (tgt := 25) dX1_get_6 rfl h (fun _ h => ?_) (fun _ h => ?_)
  · refine x_ldc C0 mw_310 dX1_get_25 ?_
    obtain rfl := x_inj h
    exact x_iret C0 dX1_get_27
  · refine x_aload_n C0 dX1_get_9 rfl 0 rfl ?_
    refine x_get C0 inu1 rfl 2 (by decide) mw_77 kr.1 (wfS_1 kr.2) rfl dX1_get_10 ?_
    obtain ⟨c2, ec2, h⟩ := x_bind h
    refine x_top (v' := .ref (ad c2)) (x_rf ec2) ?_
    have kc2 := ty_1_2 kr ec2
    refine x_iload_n C0 dX1_get_13 rfl 1 rfl ?_
    refine x_aload_n C0 dX1_get_14 rfl 0 rfl ?_
    refine x_get C0 inu1 rfl 1 (by decide) mw_76 kr.1 (wfS_1 kr.2) rfl dX1_get_15 ?_
    refine x_imul C0 dX1_get_18 ?_
    refine x_iload_n C0 dX1_get_19 rfl 2 rfl ?_
    refine x_pc (pc' := 20) rfl ?_
    refine x_iadd C0 dX1_get_20 ?_
    refine x_iald C0 1 rfl kc2.1 (wfS_7 kc2.2) dX1_get_21 h (fun _ h => ?_)
    refine x_goto C0 (tgt := 27) dX1_get_22 rfl ?_
    obtain rfl := x_inj h
    exact x_iret C0 dX1_get_27
set_option maxRecDepth 4000 in
set_option maxHeartbeats 2000000 in
theorem c_X1_put {l : Launch} {D : va_G} {cs : Nat → ClassId} {ad : Nat → Nat} (n : Nat) {σ : xM} {r : Nat} {x1 : Int32} {x2 : Int32} {x3 : Int32} (kr : xk 1 r) {res : xM} (h : F_X1_put n σ r x1 x2 x3 = some res) : x_Met l yX1_put [Cond.code yX1_put cX1_put 4 none] ({ frames := 1, cells := 0, slots := 0, locals := 22 } : Room) D vwCl (xtys cs) 47 ad (wfS cs ad) [.ref (ad r), .int x1, .int x2, .int x3] σ none res := by
  refine x_Met_of (L0 := [(0, .ref (ad r)), (1, .int x1), (2, .int x2), (3, .int x3)]) (own := RX1) (by decide) rfl rfl wfS_loc (Nat.le_of_ble_eq_true rfl) rfl ?_
  intro p e s m args below meth c A C0
  refine x_aload_n C0 dX1_put_0 rfl 0 rfl ?_
  refine x_iload_n C0 dX1_put_1 rfl 1 rfl ?_
  refine x_iload_n C0 dX1_put_2 rfl 2 rfl ?_
  obtain ⟨q1, eq1, h⟩ := x_bind h
  refine x_callV21 C0 (c_X1_holds n kr eq1) (x_cwV C0 mw_306 mw_308 mw_8 mw_46 mw_309 hd_yX1_holds ⟨rfl, rfl, Nat.le_of_ble_eq_true rfl, Nat.le_of_ble_eq_true rfl⟩) kr.1 rfl (wfS_1 kr.2) rfl ⟨Nat.zero_le _, Nat.zero_le _⟩ (Nat.le_of_ble_eq_true rfl) dX1_put_3 ?_
  refine x_if_eq C0 (tgt := 23) dX1_put_6 rfl h (fun _ h => ?_) (fun _ h => ?_)
  · obtain rfl := x_inj h
    exact x_vret C0 dX1_put_23
  · refine x_aload_n C0 dX1_put_9 rfl 0 rfl ?_
    refine x_get C0 inu1 rfl 2 (by decide) mw_77 kr.1 (wfS_1 kr.2) rfl dX1_put_10 ?_
    obtain ⟨c2, ec2, h⟩ := x_bind h
    refine x_top (v' := .ref (ad c2)) (x_rf ec2) ?_
    have kc2 := ty_1_2 kr ec2
    refine x_iload_n C0 dX1_put_13 rfl 1 rfl ?_
    refine x_aload_n C0 dX1_put_14 rfl 0 rfl ?_
    refine x_get C0 inu1 rfl 1 (by decide) mw_76 kr.1 (wfS_1 kr.2) rfl dX1_put_15 ?_
    refine x_imul C0 dX1_put_18 ?_
    refine x_iload_n C0 dX1_put_19 rfl 2 rfl ?_
    refine x_pc (pc' := 20) rfl ?_
    refine x_iadd C0 dX1_put_20 ?_
    refine x_iload_n C0 dX1_put_21 rfl 3 rfl ?_
    refine x_iast C0 1 rfl kc2.1 (wfS_7 kc2.2) (wpS_7 kc2.2) (fun r' h' k' => x_up_ne r' h' k') dX1_put_22 h (fun _ h => ?_)
    obtain rfl := x_inj h
    exact x_vret C0 dX1_put_23
set_option maxRecDepth 4000 in
set_option maxHeartbeats 2000000 in
theorem b_X1_find_2 {p : Program} {l : Launch} {e : Env} {s : State} {m : MethodId} {args : Array Value} {below : List Frame} {meth : Method} {c : Code} {D : va_G} {cs : Nat → ClassId} {ad : Nat → Nat} {A : Nat → Prop} (C0 : x_C p s m args meth c D vwCl (xtys cs) A s.heap 47 ad (wfS cs ad) cX1_find 3 RX1 (some FieldType.int)) {r : Nat} (kr : xk 1 r) (n : Nat) {σ : xM} {res : Int32} : ∀ (f : Nat) (l1 : Int32) (l2 : Int32), B_X1_find_2 n σ r f l1 l2 = some res → x_W p l e ({ frames := 0, cells := 0, slots := 0, locals := 0 } : Room) s m args below meth c D vwCl A s.heap 47 ad (wfS cs ad) 3 0 0 (x_E below args s D vwCl 47 ad (wfS cs ad) A (some (.int res)) σ) σ 2 [(0, .ref (ad r)), (1, .int l1), (2, .int l2)] [] := by
  intro f
  induction f with
  | zero =>
    intro l1 l2 h
    cases h
  | succ f ih =>
    intro l1 l2 h
    refine x_iload_n C0 dX1_find_2 rfl 2 rfl ?_
    refine x_aload_n C0 dX1_find_3 rfl 0 rfl ?_
    refine x_get C0 inu1 rfl 3 (by decide) mw_78 kr.1 (wfS_1 kr.2) rfl dX1_find_4 ?_
    refine x_icmp_ge C0 (tgt := 33) dX1_find_7 rfl h (fun _ h => ?_) (fun _ h => ?_)
    · refine x_aload_n C0 dX1_find_10 rfl 0 rfl ?_
      refine x_get C0 inu1 rfl 2 (by decide) mw_77 kr.1 (wfS_1 kr.2) rfl dX1_find_11 ?_
      obtain ⟨c1, ec1, h⟩ := x_bind h
      refine x_top (v' := .ref (ad c1)) (x_rf ec1) ?_
      have kc1 := ty_1_2 kr ec1
      refine x_iload_n C0 dX1_find_14 rfl 2 rfl ?_
      refine x_aload_n C0 dX1_find_15 rfl 0 rfl ?_
      refine x_get C0 inu1 rfl 1 (by decide) mw_76 kr.1 (wfS_1 kr.2) rfl dX1_find_16 ?_
      refine x_imul C0 dX1_find_19 ?_
      refine x_iald C0 1 rfl kc1.1 (wfS_7 kc1.2) dX1_find_20 h (fun _ h => ?_)
      refine x_pc (pc' := 21) rfl ?_
      refine x_iload_n C0 dX1_find_21 rfl 1 rfl ?_
      refine x_icmp_ne C0 (tgt := 27) dX1_find_22 rfl h (fun _ h => ?_) (fun _ h => ?_)
      · refine x_iload_n C0 dX1_find_25 rfl 2 rfl ?_
        obtain rfl := x_inj h
        exact x_iret C0 dX1_find_26
      · refine x_iinc C0 (v := 1) (L' := [(2, _), (0, _), (1, _)]) dX1_find_27 2 rfl ki_1 (by decide) rfl ?_
        refine x_goto C0 (tgt := 2) dX1_find_30 rfl ?_
        refine x_sub [1, 2, 0] (L' := [(0, _), (1, _), (2, _)]) rfl ?_
        refine x_pc (pc' := 2) rfl ?_
        exact ih _ _ h
    · refine x_ldc C0 mw_310 dX1_find_33 ?_
      obtain rfl := x_inj h
      exact x_iret C0 dX1_find_35
set_option maxRecDepth 4000 in
set_option maxHeartbeats 2000000 in
theorem c_X1_find {l : Launch} {D : va_G} {cs : Nat → ClassId} {ad : Nat → Nat} (n : Nat) {σ : xM} {r : Nat} {x1 : Int32} (kr : xk 1 r) {res : Int32} (h : F_X1_find n σ r x1 = some res) : x_Met l yX1_find [Cond.code yX1_find cX1_find 3 (some FieldType.int)] ({ frames := 0, cells := 0, slots := 0, locals := 0 } : Room) D vwCl (xtys cs) 47 ad (wfS cs ad) [.ref (ad r), .int x1] σ (some (.int res)) σ := by
  refine x_Met_of (L0 := [(0, .ref (ad r)), (1, .int x1)]) (own := RX1) (by decide) rfl rfl wfS_loc (Nat.le_of_ble_eq_true rfl) rfl ?_
  intro p e s m args below meth c A C0
  refine x_iconst C0 (v := 0) dX1_find_0 ki_0 ?_
  refine x_istore_n C0 dX1_find_1 rfl (L' := [(2, _), (0, _), (1, _)]) (by decide) rfl ?_
  refine x_sub [1, 2, 0] (L' := [(0, _), (1, _), (2, _)]) rfl ?_
  refine x_pc (pc' := 2) rfl ?_
  exact b_X1_find_2 C0 kr n n _ _ h
set_option maxRecDepth 4000 in
set_option maxHeartbeats 2000000 in
theorem b_X1_touch_40 {p : Program} {l : Launch} {e : Env} {s : State} {m : MethodId} {args : Array Value} {below : List Frame} {meth : Method} {c : Code} {D : va_G} {cs : Nat → ClassId} {ad : Nat → Nat} {A : Nat → Prop} (C0 : x_C p s m args meth c D vwCl (xtys cs) A s.heap 47 ad (wfS cs ad) cX1_touch 5 RX1 none) {r : Nat} (kr : xk 1 r) (n : Nat) {res : xM} {K15 : xM → Int32 → Int32 → Option xM} (hK15 : ∀ (σ : xM) (l1 : Int32) (l2 : Int32) , K15 σ l1 l2 = some res → x_W p l e ({ frames := 0, cells := 0, slots := 0, locals := 0 } : Room) s m args below meth c D vwCl A s.heap 47 ad (wfS cs ad) 5 0 0 (x_E below args s D vwCl 47 ad (wfS cs ad) A none res) σ 15 [(0, .ref (ad r)), (1, .int l1), (2, .int l2)] []) : ∀ (f : Nat) (σ : xM) (l1 : Int32) (l2 : Int32) (l3 : Int32) (l4 : Int32), B_X1_touch_40 n r K15 f σ l1 l2 l3 l4 = some res → x_W p l e ({ frames := 0, cells := 0, slots := 0, locals := 0 } : Room) s m args below meth c D vwCl A s.heap 47 ad (wfS cs ad) 5 0 0 (x_E below args s D vwCl 47 ad (wfS cs ad) A none res) σ 40 [(0, .ref (ad r)), (1, .int l1), (2, .int l2), (3, .int l3), (4, .int l4)] [] := by
  intro f
  induction f with
  | zero =>
    intro σ l1 l2 l3 l4 h
    cases h
  | succ f ih =>
    intro σ l1 l2 l3 l4 h
    refine x_iload C0 dX1_touch_40 4 rfl ?_
    refine x_iconst C0 (v := 1) dX1_touch_42 ki_1 ?_
    refine x_iadd C0 dX1_touch_43 ?_
    refine x_aload_n C0 dX1_touch_44 rfl 0 rfl ?_
    refine x_get C0 inu1 rfl 3 (by decide) mw_78 kr.1 (wfS_1 kr.2) rfl dX1_touch_45 ?_
    refine x_icmp_ge C0 (tgt := 87) dX1_touch_48 rfl h (fun _ h => ?_) (fun _ h => ?_)
    · refine x_aload_n C0 dX1_touch_51 rfl 0 rfl ?_
      refine x_get C0 inu1 rfl 2 (by decide) mw_77 kr.1 (wfS_1 kr.2) rfl dX1_touch_52 ?_
      obtain ⟨c2, ec2, h⟩ := x_bind h
      refine x_top (v' := .ref (ad c2)) (x_rf ec2) ?_
      have kc2 := ty_1_2 kr ec2
      refine x_iload C0 dX1_touch_55 4 rfl ?_
      refine x_aload_n C0 dX1_touch_57 rfl 0 rfl ?_
      refine x_get C0 inu1 rfl 1 (by decide) mw_76 kr.1 (wfS_1 kr.2) rfl dX1_touch_58 ?_
      refine x_imul C0 dX1_touch_61 ?_
      refine x_iload_n C0 dX1_touch_62 rfl 2 rfl ?_
      refine x_pc (pc' := 63) rfl ?_
      refine x_iadd C0 dX1_touch_63 ?_
      refine x_aload_n C0 dX1_touch_64 rfl 0 rfl ?_
      refine x_get C0 inu1 rfl 2 (by decide) mw_77 kr.1 (wfS_1 kr.2) rfl dX1_touch_65 ?_
      obtain ⟨c3, ec3, h⟩ := x_bind h
      refine x_top (v' := .ref (ad c3)) (x_rf ec3) ?_
      have kc3 := ty_1_2 kr ec3
      refine x_iload C0 dX1_touch_68 4 rfl ?_
      refine x_iconst C0 (v := 1) dX1_touch_70 ki_1 ?_
      refine x_iadd C0 dX1_touch_71 ?_
      refine x_aload_n C0 dX1_touch_72 rfl 0 rfl ?_
      refine x_get C0 inu1 rfl 1 (by decide) mw_76 kr.1 (wfS_1 kr.2) rfl dX1_touch_73 ?_
      refine x_pc (pc' := 76) rfl ?_
      refine x_imul C0 dX1_touch_76 ?_
      refine x_iload_n C0 dX1_touch_77 rfl 2 rfl ?_
      refine x_iadd C0 dX1_touch_78 ?_
      refine x_iald C0 1 rfl kc3.1 (wfS_7 kc3.2) dX1_touch_79 h (fun _ h => ?_)
      refine x_iast C0 1 rfl kc2.1 (wfS_7 kc2.2) (wpS_7 kc2.2) (fun r' h' k' => x_up_ne r' h' k') dX1_touch_80 h (fun _ h => ?_)
      refine x_iinc C0 (v := 1) (L' := [(4, _), (0, _), (1, _), (2, _), (3, _)]) dX1_touch_81 4 rfl ki_1 (by decide) rfl ?_
      refine x_goto C0 (tgt := 40) dX1_touch_84 rfl ?_
      refine x_sub [1, 2, 3, 4, 0] (L' := [(0, _), (1, _), (2, _), (3, _), (4, _)]) rfl ?_
      refine x_pc (pc' := 40) rfl ?_
      exact ih _ _ _ _ _ h
    · refine x_aload_n C0 dX1_touch_87 rfl 0 rfl ?_
      refine x_get C0 inu1 rfl 2 (by decide) mw_77 kr.1 (wfS_1 kr.2) rfl dX1_touch_88 ?_
      obtain ⟨c5, ec5, h⟩ := x_bind h
      refine x_top (v' := .ref (ad c5)) (x_rf ec5) ?_
      have kc5 := ty_1_2 kr ec5
      refine x_aload_n C0 dX1_touch_91 rfl 0 rfl ?_
      refine x_get C0 inu1 rfl 3 (by decide) mw_78 kr.1 (wfS_1 kr.2) rfl dX1_touch_92 ?_
      refine x_iconst C0 (v := 1) dX1_touch_95 ki_1 ?_
      refine x_isub C0 dX1_touch_96 ?_
      refine x_aload_n C0 dX1_touch_97 rfl 0 rfl ?_
      refine x_pc (pc' := 98) rfl ?_
      refine x_get C0 inu1 rfl 1 (by decide) mw_76 kr.1 (wfS_1 kr.2) rfl dX1_touch_98 ?_
      refine x_imul C0 dX1_touch_101 ?_
      refine x_iload_n C0 dX1_touch_102 rfl 2 rfl ?_
      refine x_iadd C0 dX1_touch_103 ?_
      refine x_iload_n C0 dX1_touch_104 rfl 3 rfl ?_
      refine x_iast C0 1 rfl kc5.1 (wfS_7 kc5.2) (wpS_7 kc5.2) (fun r' h' k' => x_up_ne r' h' k') dX1_touch_105 h (fun _ h => ?_)
      refine x_iinc C0 (v := 1) (L' := [(2, _), (0, _), (1, _), (3, _), (4, _)]) dX1_touch_106 2 rfl ki_1 (by decide) rfl ?_
      refine x_goto C0 (tgt := 15) dX1_touch_109 rfl ?_
      refine x_sub [1, 2, 0] (L' := [(0, _), (1, _), (2, _)]) rfl ?_
      refine x_pc (pc' := 15) rfl ?_
      exact hK15 _ _ _ h
set_option maxRecDepth 4000 in
set_option maxHeartbeats 2000000 in
theorem b_X1_touch_15 {p : Program} {l : Launch} {e : Env} {s : State} {m : MethodId} {args : Array Value} {below : List Frame} {meth : Method} {c : Code} {D : va_G} {cs : Nat → ClassId} {ad : Nat → Nat} {A : Nat → Prop} (C0 : x_C p s m args meth c D vwCl (xtys cs) A s.heap 47 ad (wfS cs ad) cX1_touch 5 RX1 none) {r : Nat} (kr : xk 1 r) (n : Nat) {res : xM} : ∀ (f : Nat) (σ : xM) (l1 : Int32) (l2 : Int32), B_X1_touch_15 n r f σ l1 l2 = some res → x_W p l e ({ frames := 0, cells := 0, slots := 0, locals := 0 } : Room) s m args below meth c D vwCl A s.heap 47 ad (wfS cs ad) 5 0 0 (x_E below args s D vwCl 47 ad (wfS cs ad) A none res) σ 15 [(0, .ref (ad r)), (1, .int l1), (2, .int l2)] [] := by
  intro f
  induction f with
  | zero =>
    intro σ l1 l2 h
    cases h
  | succ f ih =>
    intro σ l1 l2 h
    refine x_iload_n C0 dX1_touch_15 rfl 2 rfl ?_
    refine x_aload_n C0 dX1_touch_16 rfl 0 rfl ?_
    refine x_get C0 inu1 rfl 1 (by decide) mw_76 kr.1 (wfS_1 kr.2) rfl dX1_touch_17 ?_
    refine x_icmp_ge C0 (tgt := 112) dX1_touch_20 rfl h (fun _ h => ?_) (fun _ h => ?_)
    · refine x_aload_n C0 dX1_touch_23 rfl 0 rfl ?_
      refine x_get C0 inu1 rfl 2 (by decide) mw_77 kr.1 (wfS_1 kr.2) rfl dX1_touch_24 ?_
      obtain ⟨c1, ec1, h⟩ := x_bind h
      refine x_top (v' := .ref (ad c1)) (x_rf ec1) ?_
      have kc1 := ty_1_2 kr ec1
      refine x_iload_n C0 dX1_touch_27 rfl 1 rfl ?_
      refine x_aload_n C0 dX1_touch_28 rfl 0 rfl ?_
      refine x_get C0 inu1 rfl 1 (by decide) mw_76 kr.1 (wfS_1 kr.2) rfl dX1_touch_29 ?_
      refine x_imul C0 dX1_touch_32 ?_
      refine x_iload_n C0 dX1_touch_33 rfl 2 rfl ?_
      refine x_pc (pc' := 34) rfl ?_
      refine x_iadd C0 dX1_touch_34 ?_
      refine x_iald C0 1 rfl kc1.1 (wfS_7 kc1.2) dX1_touch_35 h (fun _ h => ?_)
      refine x_istore_n C0 dX1_touch_36 rfl (L' := [(3, _), (0, _), (1, _), (2, _)]) (by decide) rfl ?_
      refine x_iload_n C0 dX1_touch_37 rfl 2 rfl ?_
      refine x_istore C0 dX1_touch_38 (L' := [(4, _), (3, _), (0, _), (1, _), (2, _)]) (by decide) rfl ?_
      refine x_sub [2, 3, 4, 1, 0] (L' := [(0, _), (1, _), (2, _), (3, _), (4, _)]) rfl ?_
      refine x_pc (pc' := 40) rfl ?_
      exact b_X1_touch_40 C0 kr n (fun σ l1 l2 h => ih σ l1 l2 h) n _ _ _ _ _ h
    · obtain rfl := x_inj h
      exact x_vret C0 dX1_touch_112
set_option maxRecDepth 4000 in
set_option maxHeartbeats 2000000 in
theorem c_X1_touch {l : Launch} {D : va_G} {cs : Nat → ClassId} {ad : Nat → Nat} (n : Nat) {σ : xM} {r : Nat} {x1 : Int32} (kr : xk 1 r) {res : xM} (h : F_X1_touch n σ r x1 = some res) : x_Met l yX1_touch [Cond.code yX1_touch cX1_touch 5 none] ({ frames := 0, cells := 0, slots := 0, locals := 0 } : Room) D vwCl (xtys cs) 47 ad (wfS cs ad) [.ref (ad r), .int x1] σ none res := by
  refine x_Met_of (L0 := [(0, .ref (ad r)), (1, .int x1)]) (own := RX1) (by decide) rfl rfl wfS_loc (Nat.le_of_ble_eq_true rfl) rfl ?_
  intro p e s m args below meth c A C0
  refine x_iload_n C0 dX1_touch_0 rfl 1 rfl ?_
  refine x_if_lt C0 (tgt := 12) dX1_touch_1 rfl h (fun _ h => ?_) (fun _ h => ?_)
  · obtain rfl := x_inj h
    exact x_vret C0 dX1_touch_12
  · refine x_iload_n C0 dX1_touch_4 rfl 1 rfl ?_
    refine x_aload_n C0 dX1_touch_5 rfl 0 rfl ?_
    refine x_get C0 inu1 rfl 3 (by decide) mw_78 kr.1 (wfS_1 kr.2) rfl dX1_touch_6 ?_
    refine x_icmp_lt C0 (tgt := 13) dX1_touch_9 rfl h (fun _ h => ?_) (fun _ h => ?_)
    · refine x_iconst C0 (v := 0) dX1_touch_13 ki_0 ?_
      refine x_istore_n C0 dX1_touch_14 rfl (L' := [(2, _), (0, _), (1, _)]) (by decide) rfl ?_
      refine x_sub [1, 2, 0] (L' := [(0, _), (1, _), (2, _)]) rfl ?_
      refine x_pc (pc' := 15) rfl ?_
      exact b_X1_touch_15 C0 kr n n _ _ _ h
    · obtain rfl := x_inj h
      exact x_vret C0 dX1_touch_12
set_option maxRecDepth 4000 in
set_option maxHeartbeats 2000000 in
theorem c_X1_remove {l : Launch} {D : va_G} {cs : Nat → ClassId} {ad : Nat → Nat} (n : Nat) {σ : xM} {r : Nat} {x1 : Int32} (kr : xk 1 r) {res : xM} (h : F_X1_remove n σ r x1 = some res) : x_Met l yX1_remove [Cond.code yX1_remove cX1_remove 2 none] ({ frames := 1, cells := 0, slots := 0, locals := 24 } : Room) D vwCl (xtys cs) 47 ad (wfS cs ad) [.ref (ad r), .int x1] σ none res := by
  refine x_Met_of (L0 := [(0, .ref (ad r)), (1, .int x1)]) (own := RX1) (by decide) rfl rfl wfS_loc (Nat.le_of_ble_eq_true rfl) rfl ?_
  intro p e s m args below meth c A C0
  refine x_iload_n C0 dX1_remove_0 rfl 1 rfl ?_
  refine x_if_lt C0 (tgt := 27) dX1_remove_1 rfl h (fun _ h => ?_) (fun _ h => ?_)
  · obtain rfl := x_inj h
    exact x_vret C0 dX1_remove_27
  · refine x_iload_n C0 dX1_remove_4 rfl 1 rfl ?_
    refine x_aload_n C0 dX1_remove_5 rfl 0 rfl ?_
    refine x_get C0 inu1 rfl 3 (by decide) mw_78 kr.1 (wfS_1 kr.2) rfl dX1_remove_6 ?_
    refine x_icmp_ge C0 (tgt := 27) dX1_remove_9 rfl h (fun _ h => ?_) (fun _ h => ?_)
    · refine x_aload_n C0 dX1_remove_12 rfl 0 rfl ?_
      refine x_iload_n C0 dX1_remove_13 rfl 1 rfl ?_
      obtain ⟨q1, eq1, h⟩ := x_bind h
      refine x_callV10 C0 (c_X1_touch n kr eq1) (x_cwV C0 mw_321 mw_323 mw_11 mw_46 mw_324 hd_yX1_touch ⟨rfl, rfl, Nat.le_of_ble_eq_true rfl, Nat.le_of_ble_eq_true rfl⟩) kr.1 rfl (wfS_1 kr.2) rfl ⟨Nat.zero_le _, Nat.zero_le _⟩ (Nat.le_of_ble_eq_true rfl) dX1_remove_14 ?_
      refine x_aload_n C0 dX1_remove_17 rfl 0 rfl ?_
      refine x_dup C0 dX1_remove_18 rfl ?_
      refine x_get C0 inu1 rfl 3 (by decide) mw_78 kr.1 (wfS_1 kr.2) rfl dX1_remove_19 ?_
      refine x_iconst C0 (v := 1) dX1_remove_22 ki_1 ?_
      refine x_pc (pc' := 23) rfl ?_
      refine x_isub C0 dX1_remove_23 ?_
      refine x_put C0 inu1 tyX1 tyX1_ok nmX1 rfl 3 (by decide) mw_78 rfl rfl rfl kr.1 (wfS_1 kr.2) (Nat.le_of_ble_eq_true rfl) (wpS_1_3 kr.2) (fun r' h' k' => x_up_ne r' h' k') dX1_remove_24 ?_
      obtain rfl := x_inj h
      exact x_vret C0 dX1_remove_27
    · obtain rfl := x_inj h
      exact x_vret C0 dX1_remove_27
set_option maxRecDepth 4000 in
set_option maxHeartbeats 2000000 in
theorem b_X1_open_32 {p : Program} {l : Launch} {e : Env} {s : State} {m : MethodId} {args : Array Value} {below : List Frame} {meth : Method} {c : Code} {D : va_G} {cs : Nat → ClassId} {ad : Nat → Nat} {A : Nat → Prop} (C0 : x_C p s m args meth c D vwCl (xtys cs) A s.heap 47 ad (wfS cs ad) cX1_open 2 RX1 (some FieldType.int)) {r : Nat} (kr : xk 1 r) (n : Nat) {res : Int32 × xM} : ∀ (σ : xM), B_X1_open_32 n r σ = some res → x_W p l e ({ frames := 1, cells := 0, slots := 0, locals := 24 } : Room) s m args below meth c D vwCl A s.heap 47 ad (wfS cs ad) 2 0 0 (x_E below args s D vwCl 47 ad (wfS cs ad) A (some (.int res.1)) res.2) σ 32 [(0, .ref (ad r))] [] := by
  intro σ h
  refine x_aload_n C0 dX1_open_32 rfl 0 rfl ?_
  refine x_iconst C0 (v := 0) dX1_open_33 ki_0 ?_
  obtain ⟨q2, eq2, h⟩ := x_bind h
  refine x_callV10 C0 (c_X1_touch n kr eq2) (x_cwV C0 mw_321 mw_323 mw_11 mw_46 mw_324 hd_yX1_touch ⟨rfl, rfl, Nat.le_of_ble_eq_true rfl, Nat.le_of_ble_eq_true rfl⟩) kr.1 rfl (wfS_1 kr.2) rfl ⟨Nat.zero_le _, Nat.zero_le _⟩ (Nat.le_of_ble_eq_true rfl) dX1_open_34 ?_
  refine x_aload_n C0 dX1_open_37 rfl 0 rfl ?_
  refine x_get C0 inu1 rfl 3 (by decide) mw_78 kr.1 (wfS_1 kr.2) rfl dX1_open_38 ?_
  refine x_iconst C0 (v := 1) dX1_open_41 ki_1 ?_
  refine x_isub C0 dX1_open_42 ?_
  refine x_pc (pc' := 43) rfl ?_
  obtain rfl := x_inj h
  exact x_iret C0 dX1_open_43
set_option maxRecDepth 4000 in
set_option maxHeartbeats 2000000 in
theorem c_X1_open {l : Launch} {D : va_G} {cs : Nat → ClassId} {ad : Nat → Nat} (n : Nat) {σ : xM} {r : Nat} {x1 : Int32} (kr : xk 1 r) {res : Int32 × xM} (h : F_X1_open n σ r x1 = some res) : x_Met l yX1_open [Cond.code yX1_open cX1_open 2 (some FieldType.int)] ({ frames := 1, cells := 0, slots := 0, locals := 24 } : Room) D vwCl (xtys cs) 47 ad (wfS cs ad) [.ref (ad r), .int x1] σ (some (.int res.1)) res.2 := by
  refine x_Met_of (L0 := [(0, .ref (ad r)), (1, .int x1)]) (own := RX1) (by decide) rfl rfl wfS_loc (Nat.le_of_ble_eq_true rfl) rfl ?_
  intro p e s m args below meth c A C0
  refine x_aload_n C0 dX1_open_0 rfl 0 rfl ?_
  refine x_get C0 inu1 rfl 3 (by decide) mw_78 kr.1 (wfS_1 kr.2) rfl dX1_open_1 ?_
  refine x_iload_n C0 dX1_open_4 rfl 1 rfl ?_
  refine x_icmp_ge C0 (tgt := 32) dX1_open_5 rfl h (fun _ h => ?_) (fun _ h => ?_)
  · refine x_aload_n C0 dX1_open_8 rfl 0 rfl ?_
    refine x_get C0 inu1 rfl 3 (by decide) mw_78 kr.1 (wfS_1 kr.2) rfl dX1_open_9 ?_
    refine x_aload_n C0 dX1_open_12 rfl 0 rfl ?_
    refine x_get C0 inu1 rfl 0 (by decide) mw_75 kr.1 (wfS_1 kr.2) rfl dX1_open_13 ?_
    refine x_icmp_ge C0 (tgt := 32) dX1_open_16 rfl h (fun _ h => ?_) (fun _ h => ?_)
    · refine x_aload_n C0 dX1_open_19 rfl 0 rfl ?_
      refine x_dup C0 dX1_open_20 rfl ?_
      refine x_get C0 inu1 rfl 3 (by decide) mw_78 kr.1 (wfS_1 kr.2) rfl dX1_open_21 ?_
      refine x_iconst C0 (v := 1) dX1_open_24 ki_1 ?_
      refine x_iadd C0 dX1_open_25 ?_
      refine x_put C0 inu1 tyX1 tyX1_ok nmX1 rfl 3 (by decide) mw_78 rfl rfl rfl kr.1 (wfS_1 kr.2) (Nat.le_of_ble_eq_true rfl) (wpS_1_3 kr.2) (fun r' h' k' => x_up_ne r' h' k') dX1_open_26 ?_
      refine x_goto C0 (tgt := 37) dX1_open_29 rfl ?_
      refine x_pc (pc' := 37) rfl ?_
      refine x_aload_n C0 dX1_open_37 rfl 0 rfl ?_
      refine x_get C0 inu1 rfl 3 (by decide) mw_78 kr.1 (wfS_1 kr.2) rfl dX1_open_38 ?_
      refine x_iconst C0 (v := 1) dX1_open_41 ki_1 ?_
      refine x_isub C0 dX1_open_42 ?_
      obtain rfl := x_inj h
      exact x_iret C0 dX1_open_43
    · refine x_sub [0] (L' := [(0, _)]) rfl ?_
      refine x_pc (pc' := 32) rfl ?_
      exact b_X1_open_32 C0 kr n _ h
  · refine x_sub [0] (L' := [(0, _)]) rfl ?_
    refine x_pc (pc' := 32) rfl ?_
    exact b_X1_open_32 C0 kr n _ h
set_option maxRecDepth 4000 in
set_option maxHeartbeats 2000000 in
theorem c_X0_begin {l : Launch} {D : va_G} {cs : Nat → ClassId} {ad : Nat → Nat} (n : Nat) {σ : xM} {r : Nat} {x1 : Int32} {x2 : Int32} {x3 : Int32} (kr : xk 0 r) {res : xM} (h : F_X0_begin n σ r x1 x2 x3 = some res) : x_Met l yX0_begin [Cond.code yX0_begin cX0_begin 4 none] ({ frames := 0, cells := 0, slots := 0, locals := 0 } : Room) D vwCl (xtys cs) 47 ad (wfS cs ad) [.ref (ad r), .int x1, .int x2, .int x3] σ none res := by
  refine x_Met_of (L0 := [(0, .ref (ad r)), (1, .int x1), (2, .int x2), (3, .int x3)]) (own := RX0) (by decide) rfl rfl wfS_loc (Nat.le_of_ble_eq_true rfl) rfl ?_
  intro p e s m args below meth c A C0
  refine x_aload_n C0 dX0_begin_0 rfl 0 rfl ?_
  refine x_iload_n C0 dX0_begin_1 rfl 1 rfl ?_
  refine x_put C0 inu0 tyX0 tyX0_ok nmX0 rfl 3 (by decide) mw_111 rfl rfl rfl kr.1 (wfS_0 kr.2) (Nat.le_of_ble_eq_true rfl) (wpS_0_3 kr.2) (fun r' h' k' => x_up_ne r' h' k') dX0_begin_2 ?_
  refine x_aload_n C0 dX0_begin_5 rfl 0 rfl ?_
  refine x_iload_n C0 dX0_begin_6 rfl 2 rfl ?_
  refine x_put C0 inu0 tyX0 tyX0_ok nmX0 rfl 4 (by decide) mw_113 rfl rfl rfl kr.1 (wfS_0 kr.2) (Nat.le_of_ble_eq_true rfl) (wpS_0_4 kr.2) (fun r' h' k' => x_up_ne r' h' k') dX0_begin_7 ?_
  refine x_aload_n C0 dX0_begin_10 rfl 0 rfl ?_
  refine x_pc (pc' := 11) rfl ?_
  refine x_iload_n C0 dX0_begin_11 rfl 3 rfl ?_
  refine x_put C0 inu0 tyX0 tyX0_ok nmX0 rfl 5 (by decide) mw_115 rfl rfl rfl kr.1 (wfS_0 kr.2) (Nat.le_of_ble_eq_true rfl) (wpS_0_5 kr.2) (fun r' h' k' => x_up_ne r' h' k') dX0_begin_12 ?_
  refine x_aload_n C0 dX0_begin_15 rfl 0 rfl ?_
  refine x_iconst C0 (v := 0) dX0_begin_16 ki_0 ?_
  refine x_put C0 inu0 tyX0 tyX0_ok nmX0 rfl 6 (by decide) mw_118 rfl rfl rfl kr.1 (wfS_0 kr.2) (Nat.le_of_ble_eq_true rfl) (wpS_0_6 kr.2) (fun r' h' k' => x_up_ne r' h' k') dX0_begin_17 ?_
  refine x_aload_n C0 dX0_begin_20 rfl 0 rfl ?_
  refine x_iconst C0 (v := 0) dX0_begin_21 ki_0 ?_
  refine x_put C0 inu0 tyX0 tyX0_ok nmX0 rfl 7 (by decide) mw_120 rfl rfl rfl kr.1 (wfS_0 kr.2) (Nat.le_of_ble_eq_true rfl) (wpS_0_7 kr.2) (fun r' h' k' => x_up_ne r' h' k') dX0_begin_22 ?_
  refine x_pc (pc' := 25) rfl ?_
  refine x_aload_n C0 dX0_begin_25 rfl 0 rfl ?_
  refine x_iconst C0 (v := 0) dX0_begin_26 ki_0 ?_
  refine x_put C0 inu0 tyX0 tyX0_ok nmX0 rfl 8 (by decide) mw_123 rfl rfl rfl kr.1 (wfS_0 kr.2) (Nat.le_of_ble_eq_true rfl) (wpS_0_8 kr.2) (fun r' h' k' => x_up_ne r' h' k') dX0_begin_27 ?_
  refine x_aload_n C0 dX0_begin_30 rfl 0 rfl ?_
  refine x_iconst C0 (v := 0) dX0_begin_31 ki_0 ?_
  refine x_put C0 inu0 tyX0 tyX0_ok nmX0 rfl 9 (by decide) mw_125 rfl rfl rfl kr.1 (wfS_0 kr.2) (Nat.le_of_ble_eq_true rfl) (wpS_0_9 kr.2) (fun r' h' k' => x_up_ne r' h' k') dX0_begin_32 ?_
  refine x_aload_n C0 dX0_begin_35 rfl 0 rfl ?_
  refine x_iconst C0 (v := 0) dX0_begin_36 ki_0 ?_
  refine x_pc (pc' := 37) rfl ?_
  refine x_put C0 inu0 tyX0 tyX0_ok nmX0 rfl 10 (by decide) mw_128 rfl rfl rfl kr.1 (wfS_0 kr.2) (Nat.le_of_ble_eq_true rfl) (wpS_0_10 kr.2) (fun r' h' k' => x_up_ne r' h' k') dX0_begin_37 ?_
  refine x_aload_n C0 dX0_begin_40 rfl 0 rfl ?_
  refine x_iconst C0 (v := 0) dX0_begin_41 ki_0 ?_
  refine x_put C0 inu0 tyX0 tyX0_ok nmX0 rfl 11 (by decide) mw_130 rfl rfl rfl kr.1 (wfS_0 kr.2) (Nat.le_of_ble_eq_true rfl) (wpS_0_11 kr.2) (fun r' h' k' => x_up_ne r' h' k') dX0_begin_42 ?_
  refine x_aload_n C0 dX0_begin_45 rfl 0 rfl ?_
  refine x_iconst C0 (v := 0) dX0_begin_46 ki_0 ?_
  refine x_put C0 inu0 tyX0 tyX0_ok nmX0 rfl 12 (by decide) mw_133 rfl rfl rfl kr.1 (wfS_0 kr.2) (Nat.le_of_ble_eq_true rfl) (wpS_0_12 kr.2) (fun r' h' k' => x_up_ne r' h' k') dX0_begin_47 ?_
  refine x_aload_n C0 dX0_begin_50 rfl 0 rfl ?_
  refine x_pc (pc' := 51) rfl ?_
  refine x_iconst C0 (v := 0) dX0_begin_51 ki_0 ?_
  refine x_put C0 inu0 tyX0 tyX0_ok nmX0 rfl 13 (by decide) mw_136 rfl rfl rfl kr.1 (wfS_0 kr.2) (Nat.le_of_ble_eq_true rfl) (wpS_0_13 kr.2) (fun r' h' k' => x_up_ne r' h' k') dX0_begin_52 ?_
  refine x_aload_n C0 dX0_begin_55 rfl 0 rfl ?_
  refine x_iconst C0 (v := 0) dX0_begin_56 ki_0 ?_
  refine x_put C0 inu0 tyX0 tyX0_ok nmX0 rfl 14 (by decide) mw_138 rfl rfl rfl kr.1 (wfS_0 kr.2) (Nat.le_of_ble_eq_true rfl) (wpS_0_14 kr.2) (fun r' h' k' => x_up_ne r' h' k') dX0_begin_57 ?_
  refine x_aload_n C0 dX0_begin_60 rfl 0 rfl ?_
  refine x_iconst C0 (v := 0) dX0_begin_61 ki_0 ?_
  refine x_put C0 inu0 tyX0 tyX0_ok nmX0 rfl 15 (by decide) mw_140 rfl rfl rfl kr.1 (wfS_0 kr.2) (Nat.le_of_ble_eq_true rfl) (wpS_0_15 kr.2) (fun r' h' k' => x_up_ne r' h' k') dX0_begin_62 ?_
  refine x_pc (pc' := 65) rfl ?_
  refine x_aload_n C0 dX0_begin_65 rfl 0 rfl ?_
  refine x_iconst C0 (v := 0) dX0_begin_66 ki_0 ?_
  refine x_put C0 inu0 tyX0 tyX0_ok nmX0 rfl 2 (by decide) mw_109 rfl rfl rfl kr.1 (wfS_0 kr.2) (Nat.le_of_ble_eq_true rfl) (wpS_0_2 kr.2) (fun r' h' k' => x_up_ne r' h' k') dX0_begin_67 ?_
  refine x_aload_n C0 dX0_begin_70 rfl 0 rfl ?_
  refine x_get C0 inu0 rfl 0 (by decide) mw_105 kr.1 (wfS_0 kr.2) rfl dX0_begin_71 ?_
  obtain ⟨c15, ec15, h⟩ := x_bind h
  refine x_top (v' := .ref (ad c15)) (x_rf ec15) ?_
  have kc15 := ty_0_0 kr ec15
  refine x_iconst C0 (v := 0) dX0_begin_74 ki_0 ?_
  refine x_putN C0 inu1 tyX1 tyX1_ok nmX1 rfl 3 (by decide) mw_80 rfl rfl rfl kc15.1 (wfS_1 kc15.2) (Nat.le_of_ble_eq_true rfl) (wpS_1_3 kc15.2) (fun r' h' k' => x_up_ne r' h' k') dX0_begin_75 ?_
  obtain rfl := x_inj h
  exact x_vret C0 dX0_begin_78
set_option maxRecDepth 4000 in
set_option maxHeartbeats 2000000 in
theorem c_X0_reach {l : Launch} {D : va_G} {cs : Nat → ClassId} {ad : Nat → Nat} (n : Nat) {σ : xM} {r : Nat} (kr : xk 0 r) {res : Int32} (h : F_X0_reach n σ r = some res) : x_Met l yX0_reach [Cond.code yX0_reach cX0_reach 1 (some FieldType.int)] ({ frames := 0, cells := 0, slots := 0, locals := 0 } : Room) D vwCl (xtys cs) 47 ad (wfS cs ad) [.ref (ad r)] σ (some (.int res)) σ := by
  refine x_Met_of (L0 := [(0, .ref (ad r))]) (own := RX0) (by decide) rfl rfl wfS_loc (Nat.le_of_ble_eq_true rfl) rfl ?_
  intro p e s m args below meth c A C0
  refine x_aload_n C0 dX0_reach_0 rfl 0 rfl ?_
  refine x_get C0 inu0 rfl 6 (by decide) mw_118 kr.1 (wfS_0 kr.2) rfl dX0_reach_1 ?_
  refine x_ite h (fun hc h => ?_) (fun hc0 h => ?_)
  · refine x_top (congrArg Value.int hc) ?_
    refine x_lookup C0 (off := 28) (tgt := 32) dX0_reach_4 (by decide) (by decide) rfl ?_
    refine x_aload_n C0 dX0_reach_32 rfl 0 rfl ?_
    refine x_get C0 inu0 rfl 4 (by decide) mw_113 kr.1 (wfS_0 kr.2) rfl dX0_reach_33 ?_
    obtain rfl := x_inj h
    exact x_iret C0 dX0_reach_36
  · refine x_ite h (fun hc h => ?_) (fun hc1 h => ?_)
    · refine x_top (congrArg Value.int hc) ?_
      refine x_lookup C0 (off := 33) (tgt := 37) dX0_reach_4 (by decide) (by decide) rfl ?_
      refine x_iconst C0 (v := 1) dX0_reach_37 ki_1 ?_
      obtain rfl := x_inj h
      exact x_iret C0 dX0_reach_38
    · refine x_lookup C0 (off := 35) (tgt := 39) dX0_reach_4 (by decide) (x_lk01 hc0 hc1) rfl ?_
      refine x_iconst C0 (v := 0) dX0_reach_39 ki_0 ?_
      obtain rfl := x_inj h
      exact x_iret C0 dX0_reach_40
set_option maxRecDepth 4000 in
set_option maxHeartbeats 2000000 in
theorem c_X0_sentence {l : Launch} {D : va_G} {cs : Nat → ClassId} {ad : Nat → Nat} (n : Nat) {σ : xM} {r : Nat} {x1 : Int32} (kr : xk 0 r) {res : xM} (h : F_X0_sentence n σ r x1 = some res) : x_Met l yX0_sentence [Cond.code yX0_sentence cX0_sentence 2 none] ({ frames := 0, cells := 0, slots := 0, locals := 0 } : Room) D vwCl (xtys cs) 47 ad (wfS cs ad) [.ref (ad r), .int x1] σ none res := by
  refine x_Met_of (L0 := [(0, .ref (ad r)), (1, .int x1)]) (own := RX0) (by decide) rfl rfl wfS_loc (Nat.le_of_ble_eq_true rfl) rfl ?_
  intro p e s m args below meth c A C0
  refine x_aload_n C0 dX0_sentence_0 rfl 0 rfl ?_
  refine x_dup C0 dX0_sentence_1 rfl ?_
  refine x_get C0 inu0 rfl 7 (by decide) mw_120 kr.1 (wfS_0 kr.2) rfl dX0_sentence_2 ?_
  refine x_iload_n C0 dX0_sentence_5 rfl 1 rfl ?_
  refine x_iadd C0 dX0_sentence_6 ?_
  refine x_put C0 inu0 tyX0 tyX0_ok nmX0 rfl 7 (by decide) mw_120 rfl rfl rfl kr.1 (wfS_0 kr.2) (Nat.le_of_ble_eq_true rfl) (wpS_0_7 kr.2) (fun r' h' k' => x_up_ne r' h' k') dX0_sentence_7 ?_
  refine x_aload_n C0 dX0_sentence_10 rfl 0 rfl ?_
  refine x_pc (pc' := 11) rfl ?_
  refine x_iconst C0 (v := 2) dX0_sentence_11 ki_2 ?_
  refine x_put C0 inu0 tyX0 tyX0_ok nmX0 rfl 6 (by decide) mw_118 rfl rfl rfl kr.1 (wfS_0 kr.2) (Nat.le_of_ble_eq_true rfl) (wpS_0_6 kr.2) (fun r' h' k' => x_up_ne r' h' k') dX0_sentence_12 ?_
  refine x_aload_n C0 dX0_sentence_15 rfl 0 rfl ?_
  refine x_iconst C0 (v := 0) dX0_sentence_16 ki_0 ?_
  refine x_put C0 inu0 tyX0 tyX0_ok nmX0 rfl 8 (by decide) mw_123 rfl rfl rfl kr.1 (wfS_0 kr.2) (Nat.le_of_ble_eq_true rfl) (wpS_0_8 kr.2) (fun r' h' k' => x_up_ne r' h' k') dX0_sentence_17 ?_
  obtain rfl := x_inj h
  exact x_vret C0 dX0_sentence_20
set_option maxRecDepth 4000 in
set_option maxHeartbeats 2000000 in
theorem c_X0_workOneHour {l : Launch} {D : va_G} {cs : Nat → ClassId} {ad : Nat → Nat} (n : Nat) {σ : xM} {r : Nat} {x1 : Int32} (kr : xk 0 r) {res : xM} (h : F_X0_workOneHour n σ r x1 = some res) : x_Met l yX0_workOneHour [Cond.code yX0_workOneHour cX0_workOneHour 2 none] ({ frames := 0, cells := 0, slots := 0, locals := 0 } : Room) D vwCl (xtys cs) 47 ad (wfS cs ad) [.ref (ad r), .int x1] σ none res := by
  refine x_Met_of (L0 := [(0, .ref (ad r)), (1, .int x1)]) (own := RX0) (by decide) rfl rfl wfS_loc (Nat.le_of_ble_eq_true rfl) rfl ?_
  intro p e s m args below meth c A C0
  refine x_aload_n C0 dX0_workOneHour_0 rfl 0 rfl ?_
  refine x_get C0 inu0 rfl 6 (by decide) mw_118 kr.1 (wfS_0 kr.2) rfl dX0_workOneHour_1 ?_
  refine x_iconst C0 (v := 2) dX0_workOneHour_4 ki_2 ?_
  refine x_icmp_eq C0 (tgt := 9) dX0_workOneHour_5 rfl h (fun _ h => ?_) (fun _ h => ?_)
  · refine x_aload_n C0 dX0_workOneHour_9 rfl 0 rfl ?_
    refine x_dup C0 dX0_workOneHour_10 rfl ?_
    refine x_get C0 inu0 rfl 7 (by decide) mw_120 kr.1 (wfS_0 kr.2) rfl dX0_workOneHour_11 ?_
    refine x_iconst C0 (v := 1) dX0_workOneHour_14 ki_1 ?_
    refine x_isub C0 dX0_workOneHour_15 ?_
    refine x_put C0 inu0 tyX0 tyX0_ok nmX0 rfl 7 (by decide) mw_120 rfl rfl rfl kr.1 (wfS_0 kr.2) (Nat.le_of_ble_eq_true rfl) (wpS_0_7 kr.2) (fun r' h' k' => x_up_ne r' h' k') dX0_workOneHour_16 ?_
    refine x_aload_n C0 dX0_workOneHour_19 rfl 0 rfl ?_
    refine x_pc (pc' := 20) rfl ?_
    refine x_dup C0 dX0_workOneHour_20 rfl ?_
    refine x_get C0 inu0 rfl 13 (by decide) mw_136 kr.1 (wfS_0 kr.2) rfl dX0_workOneHour_21 ?_
    refine x_iconst C0 (v := 1) dX0_workOneHour_24 ki_1 ?_
    refine x_iadd C0 dX0_workOneHour_25 ?_
    refine x_put C0 inu0 tyX0 tyX0_ok nmX0 rfl 13 (by decide) mw_136 rfl rfl rfl kr.1 (wfS_0 kr.2) (Nat.le_of_ble_eq_true rfl) (wpS_0_13 kr.2) (fun r' h' k' => x_up_ne r' h' k') dX0_workOneHour_26 ?_
    refine x_aload_n C0 dX0_workOneHour_29 rfl 0 rfl ?_
    refine x_get C0 inu0 rfl 7 (by decide) mw_120 kr.1 (wfS_0 kr.2) rfl dX0_workOneHour_30 ?_
    refine x_iconst C0 (v := 1) dX0_workOneHour_33 ki_1 ?_
    refine x_pc (pc' := 34) rfl ?_
    refine x_icmp_ge C0 (tgt := 57) dX0_workOneHour_34 rfl h (fun _ h => ?_) (fun _ h => ?_)
    · refine x_aload_n C0 dX0_workOneHour_37 rfl 0 rfl ?_
      refine x_iconst C0 (v := 1) dX0_workOneHour_38 ki_1 ?_
      refine x_put C0 inu0 tyX0 tyX0_ok nmX0 rfl 6 (by decide) mw_118 rfl rfl rfl kr.1 (wfS_0 kr.2) (Nat.le_of_ble_eq_true rfl) (wpS_0_6 kr.2) (fun r' h' k' => x_up_ne r' h' k') dX0_workOneHour_39 ?_
      refine x_aload_n C0 dX0_workOneHour_42 rfl 0 rfl ?_
      refine x_iload_n C0 dX0_workOneHour_43 rfl 1 rfl ?_
      refine x_put C0 inu0 tyX0 tyX0_ok nmX0 rfl 8 (by decide) mw_123 rfl rfl rfl kr.1 (wfS_0 kr.2) (Nat.le_of_ble_eq_true rfl) (wpS_0_8 kr.2) (fun r' h' k' => x_up_ne r' h' k') dX0_workOneHour_44 ?_
      refine x_aload_n C0 dX0_workOneHour_47 rfl 0 rfl ?_
      refine x_pc (pc' := 48) rfl ?_
      refine x_dup C0 dX0_workOneHour_48 rfl ?_
      refine x_get C0 inu0 rfl 15 (by decide) mw_140 kr.1 (wfS_0 kr.2) rfl dX0_workOneHour_49 ?_
      refine x_iconst C0 (v := 1) dX0_workOneHour_52 ki_1 ?_
      refine x_iadd C0 dX0_workOneHour_53 ?_
      refine x_put C0 inu0 tyX0 tyX0_ok nmX0 rfl 15 (by decide) mw_140 rfl rfl rfl kr.1 (wfS_0 kr.2) (Nat.le_of_ble_eq_true rfl) (wpS_0_15 kr.2) (fun r' h' k' => x_up_ne r' h' k') dX0_workOneHour_54 ?_
      obtain rfl := x_inj h
      exact x_vret C0 dX0_workOneHour_57
    · obtain rfl := x_inj h
      exact x_vret C0 dX0_workOneHour_57
  · obtain rfl := x_inj h
    exact x_vret C0 dX0_workOneHour_8
set_option maxRecDepth 4000 in
set_option maxHeartbeats 2000000 in
theorem c_X0_lineWasUsed {l : Launch} {D : va_G} {cs : Nat → ClassId} {ad : Nat → Nat} (n : Nat) {σ : xM} {r : Nat} (kr : xk 0 r) {res : xM} (h : F_X0_lineWasUsed n σ r = some res) : x_Met l yX0_lineWasUsed [Cond.code yX0_lineWasUsed cX0_lineWasUsed 1 none] ({ frames := 0, cells := 0, slots := 0, locals := 0 } : Room) D vwCl (xtys cs) 47 ad (wfS cs ad) [.ref (ad r)] σ none res := by
  refine x_Met_of (L0 := [(0, .ref (ad r))]) (own := RX0) (by decide) rfl rfl wfS_loc (Nat.le_of_ble_eq_true rfl) rfl ?_
  intro p e s m args below meth c A C0
  refine x_aload_n C0 dX0_lineWasUsed_0 rfl 0 rfl ?_
  refine x_dup C0 dX0_lineWasUsed_1 rfl ?_
  refine x_get C0 inu0 rfl 10 (by decide) mw_128 kr.1 (wfS_0 kr.2) rfl dX0_lineWasUsed_2 ?_
  refine x_iconst C0 (v := 1) dX0_lineWasUsed_5 ki_1 ?_
  refine x_iadd C0 dX0_lineWasUsed_6 ?_
  refine x_put C0 inu0 tyX0 tyX0_ok nmX0 rfl 10 (by decide) mw_128 rfl rfl rfl kr.1 (wfS_0 kr.2) (Nat.le_of_ble_eq_true rfl) (wpS_0_10 kr.2) (fun r' h' k' => x_up_ne r' h' k') dX0_lineWasUsed_7 ?_
  refine x_aload_n C0 dX0_lineWasUsed_10 rfl 0 rfl ?_
  refine x_pc (pc' := 11) rfl ?_
  refine x_get C0 inu0 rfl 6 (by decide) mw_118 kr.1 (wfS_0 kr.2) rfl dX0_lineWasUsed_11 ?_
  refine x_iconst C0 (v := 1) dX0_lineWasUsed_14 ki_1 ?_
  refine x_icmp_ne C0 (tgt := 46) dX0_lineWasUsed_15 rfl h (fun _ h => ?_) (fun _ h => ?_)
  · refine x_aload_n C0 dX0_lineWasUsed_18 rfl 0 rfl ?_
    refine x_dup C0 dX0_lineWasUsed_19 rfl ?_
    refine x_get C0 inu0 rfl 8 (by decide) mw_123 kr.1 (wfS_0 kr.2) rfl dX0_lineWasUsed_20 ?_
    refine x_iconst C0 (v := 1) dX0_lineWasUsed_23 ki_1 ?_
    refine x_isub C0 dX0_lineWasUsed_24 ?_
    refine x_put C0 inu0 tyX0 tyX0_ok nmX0 rfl 8 (by decide) mw_123 rfl rfl rfl kr.1 (wfS_0 kr.2) (Nat.le_of_ble_eq_true rfl) (wpS_0_8 kr.2) (fun r' h' k' => x_up_ne r' h' k') dX0_lineWasUsed_25 ?_
    refine x_aload_n C0 dX0_lineWasUsed_28 rfl 0 rfl ?_
    refine x_pc (pc' := 29) rfl ?_
    refine x_get C0 inu0 rfl 8 (by decide) mw_123 kr.1 (wfS_0 kr.2) rfl dX0_lineWasUsed_29 ?_
    refine x_iconst C0 (v := 1) dX0_lineWasUsed_32 ki_1 ?_
    refine x_icmp_ge C0 (tgt := 46) dX0_lineWasUsed_33 rfl h (fun _ h => ?_) (fun _ h => ?_)
    · refine x_aload_n C0 dX0_lineWasUsed_36 rfl 0 rfl ?_
      refine x_iconst C0 (v := 0) dX0_lineWasUsed_37 ki_0 ?_
      refine x_put C0 inu0 tyX0 tyX0_ok nmX0 rfl 8 (by decide) mw_123 rfl rfl rfl kr.1 (wfS_0 kr.2) (Nat.le_of_ble_eq_true rfl) (wpS_0_8 kr.2) (fun r' h' k' => x_up_ne r' h' k') dX0_lineWasUsed_38 ?_
      refine x_aload_n C0 dX0_lineWasUsed_41 rfl 0 rfl ?_
      refine x_iconst C0 (v := 0) dX0_lineWasUsed_42 ki_0 ?_
      refine x_put C0 inu0 tyX0 tyX0_ok nmX0 rfl 6 (by decide) mw_118 rfl rfl rfl kr.1 (wfS_0 kr.2) (Nat.le_of_ble_eq_true rfl) (wpS_0_6 kr.2) (fun r' h' k' => x_up_ne r' h' k') dX0_lineWasUsed_43 ?_
      obtain rfl := x_inj h
      exact x_vret C0 dX0_lineWasUsed_46
    · obtain rfl := x_inj h
      exact x_vret C0 dX0_lineWasUsed_46
  · obtain rfl := x_inj h
    exact x_vret C0 dX0_lineWasUsed_46
set_option maxRecDepth 4000 in
set_option maxHeartbeats 2000000 in
theorem c_X0_release {l : Launch} {D : va_G} {cs : Nat → ClassId} {ad : Nat → Nat} (n : Nat) {σ : xM} {r : Nat} (kr : xk 0 r) {res : Int32 × xM} (h : F_X0_release n σ r = some res) : x_Met l yX0_release [Cond.code yX0_release cX0_release 2 (some FieldType.int)] ({ frames := 0, cells := 0, slots := 0, locals := 0 } : Room) D vwCl (xtys cs) 47 ad (wfS cs ad) [.ref (ad r)] σ (some (.int res.1)) res.2 := by
  refine x_Met_of (L0 := [(0, .ref (ad r))]) (own := RX0) (by decide) rfl rfl wfS_loc (Nat.le_of_ble_eq_true rfl) rfl ?_
  intro p e s m args below meth c A C0
  refine x_aload_n C0 dX0_release_0 rfl 0 rfl ?_
  refine x_get C0 inu0 rfl 7 (by decide) mw_120 kr.1 (wfS_0 kr.2) rfl dX0_release_1 ?_
  refine x_istore_n C0 dX0_release_4 rfl (L' := [(1, _), (0, _)]) (by decide) rfl ?_
  refine x_aload_n C0 dX0_release_5 rfl 1 rfl ?_
  refine x_dup C0 dX0_release_6 rfl ?_
  refine x_get C0 inu0 rfl 14 (by decide) mw_138 kr.1 (wfS_0 kr.2) rfl dX0_release_7 ?_
  refine x_iload_n C0 dX0_release_10 rfl 0 rfl ?_
  refine x_pc (pc' := 11) rfl ?_
  refine x_iadd C0 dX0_release_11 ?_
  refine x_put C0 inu0 tyX0 tyX0_ok nmX0 rfl 14 (by decide) mw_138 rfl rfl rfl kr.1 (wfS_0 kr.2) (Nat.le_of_ble_eq_true rfl) (wpS_0_14 kr.2) (fun r' h' k' => x_up_ne r' h' k') dX0_release_12 ?_
  refine x_aload_n C0 dX0_release_15 rfl 1 rfl ?_
  refine x_iconst C0 (v := 0) dX0_release_16 ki_0 ?_
  refine x_put C0 inu0 tyX0 tyX0_ok nmX0 rfl 7 (by decide) mw_120 rfl rfl rfl kr.1 (wfS_0 kr.2) (Nat.le_of_ble_eq_true rfl) (wpS_0_7 kr.2) (fun r' h' k' => x_up_ne r' h' k') dX0_release_17 ?_
  refine x_aload_n C0 dX0_release_20 rfl 1 rfl ?_
  refine x_iconst C0 (v := 0) dX0_release_21 ki_0 ?_
  refine x_put C0 inu0 tyX0 tyX0_ok nmX0 rfl 8 (by decide) mw_123 rfl rfl rfl kr.1 (wfS_0 kr.2) (Nat.le_of_ble_eq_true rfl) (wpS_0_8 kr.2) (fun r' h' k' => x_up_ne r' h' k') dX0_release_22 ?_
  refine x_pc (pc' := 25) rfl ?_
  refine x_aload_n C0 dX0_release_25 rfl 1 rfl ?_
  refine x_iconst C0 (v := 0) dX0_release_26 ki_0 ?_
  refine x_put C0 inu0 tyX0 tyX0_ok nmX0 rfl 6 (by decide) mw_118 rfl rfl rfl kr.1 (wfS_0 kr.2) (Nat.le_of_ble_eq_true rfl) (wpS_0_6 kr.2) (fun r' h' k' => x_up_ne r' h' k') dX0_release_27 ?_
  refine x_iload_n C0 dX0_release_30 rfl 0 rfl ?_
  obtain rfl := x_inj h
  exact x_iret C0 dX0_release_31
set_option maxRecDepth 4000 in
set_option maxHeartbeats 2000000 in
theorem c_X0_addRow {l : Launch} {D : va_G} {cs : Nat → ClassId} {ad : Nat → Nat} (n : Nat) {σ : xM} {r : Nat} {x1 : Int32} {x2 : Int32} {x3 : Int32} (kr : xk 0 r) {res : xM} (h : F_X0_addRow n σ r x1 x2 x3 = some res) : x_Met l yX0_addRow [Cond.code yX0_addRow cX0_addRow 5 none] ({ frames := 2, cells := 0, slots := 0, locals := 45 } : Room) D vwCl (xtys cs) 47 ad (wfS cs ad) [.ref (ad r), .int x1, .int x2, .int x3] σ none res := by
  refine x_Met_of (L0 := [(0, .ref (ad r)), (1, .int x1), (2, .int x2), (3, .int x3)]) (own := RX0) (by decide) rfl rfl wfS_loc (Nat.le_of_ble_eq_true rfl) rfl ?_
  intro p e s m args below meth c A C0
  refine x_aload_n C0 dX0_addRow_0 rfl 0 rfl ?_
  refine x_get C0 inu0 rfl 0 (by decide) mw_105 kr.1 (wfS_0 kr.2) rfl dX0_addRow_1 ?_
  obtain ⟨c1, ec1, h⟩ := x_bind h
  refine x_top (v' := .ref (ad c1)) (x_rf ec1) ?_
  have kc1 := ty_0_0 kr ec1
  refine x_iload_n C0 dX0_addRow_4 rfl 1 rfl ?_
  obtain ⟨q2, eq2, h⟩ := x_bind h
  refine x_callVN11 C0 (c_X1_open n kc1 eq2) (x_cwVN C0 mw_409 mw_327 mw_12 mw_46 mw_328 hd_yX1_open ⟨rfl, rfl, Nat.le_of_ble_eq_true rfl, Nat.le_of_ble_eq_true rfl⟩) kc1.1 rfl (wfS_1 kc1.2) rfl ⟨Nat.zero_le _, Nat.zero_le _⟩ (Nat.le_of_ble_eq_true rfl) dX0_addRow_5 ?_
  refine x_istore C0 dX0_addRow_8 (L' := [(4, _), (0, _), (1, _), (2, _), (3, _)]) (by decide) rfl ?_
  refine x_aload_n C0 dX0_addRow_10 rfl 1 rfl ?_
  refine x_get C0 inu0 rfl 0 (by decide) mw_105 kr.1 (wfS_0 kr.2) rfl dX0_addRow_11 ?_
  obtain ⟨c3, ec3, h⟩ := x_bind h
  refine x_top (v' := .ref (ad c3)) (x_rf ec3) ?_
  have kc3 := ty_0_0 kr ec3
  refine x_pc (pc' := 14) rfl ?_
  refine x_iload C0 dX0_addRow_14 0 rfl ?_
  refine x_iconst C0 (v := 0) dX0_addRow_16 ki_0 ?_
  refine x_iload_n C0 dX0_addRow_17 rfl 3 rfl ?_
  obtain ⟨q4, eq4, h⟩ := x_bind h
  refine x_callVN30 C0 (c_X1_put n kc3 eq4) (x_cwVN C0 mw_410 mw_331 mw_13 mw_46 mw_332 hd_yX1_put ⟨rfl, rfl, Nat.le_of_ble_eq_true rfl, Nat.le_of_ble_eq_true rfl⟩) kc3.1 rfl (wfS_1 kc3.2) rfl ⟨Nat.zero_le _, Nat.zero_le _⟩ (Nat.le_of_ble_eq_true rfl) dX0_addRow_18 ?_
  refine x_aload_n C0 dX0_addRow_21 rfl 1 rfl ?_
  refine x_get C0 inu0 rfl 0 (by decide) mw_105 kr.1 (wfS_0 kr.2) rfl dX0_addRow_22 ?_
  obtain ⟨c5, ec5, h⟩ := x_bind h
  refine x_top (v' := .ref (ad c5)) (x_rf ec5) ?_
  have kc5 := ty_0_0 kr ec5
  refine x_iload C0 dX0_addRow_25 0 rfl ?_
  refine x_iconst C0 (v := 1) dX0_addRow_27 ki_1 ?_
  refine x_pc (pc' := 28) rfl ?_
  refine x_iload_n C0 dX0_addRow_28 rfl 4 rfl ?_
  obtain ⟨q6, eq6, h⟩ := x_bind h
  refine x_callVN30 C0 (c_X1_put n kc5 eq6) (x_cwVN C0 mw_410 mw_331 mw_13 mw_46 mw_332 hd_yX1_put ⟨rfl, rfl, Nat.le_of_ble_eq_true rfl, Nat.le_of_ble_eq_true rfl⟩) kc5.1 rfl (wfS_1 kc5.2) rfl ⟨Nat.zero_le _, Nat.zero_le _⟩ (Nat.le_of_ble_eq_true rfl) dX0_addRow_29 ?_
  refine x_aload_n C0 dX0_addRow_32 rfl 1 rfl ?_
  refine x_get C0 inu0 rfl 0 (by decide) mw_105 kr.1 (wfS_0 kr.2) rfl dX0_addRow_33 ?_
  obtain ⟨c7, ec7, h⟩ := x_bind h
  refine x_top (v' := .ref (ad c7)) (x_rf ec7) ?_
  have kc7 := ty_0_0 kr ec7
  refine x_iload C0 dX0_addRow_36 0 rfl ?_
  refine x_iconst C0 (v := 2) dX0_addRow_38 ki_2 ?_
  refine x_iconst C0 (v := 0) dX0_addRow_39 ki_0 ?_
  obtain ⟨q8, eq8, h⟩ := x_bind h
  refine x_callVN30 C0 (c_X1_put n kc7 eq8) (x_cwVN C0 mw_410 mw_331 mw_13 mw_46 mw_332 hd_yX1_put ⟨rfl, rfl, Nat.le_of_ble_eq_true rfl, Nat.le_of_ble_eq_true rfl⟩) kc7.1 rfl (wfS_1 kc7.2) rfl ⟨Nat.zero_le _, Nat.zero_le _⟩ (Nat.le_of_ble_eq_true rfl) dX0_addRow_40 ?_
  refine x_pc (pc' := 43) rfl ?_
  refine x_aload_n C0 dX0_addRow_43 rfl 1 rfl ?_
  refine x_get C0 inu0 rfl 0 (by decide) mw_105 kr.1 (wfS_0 kr.2) rfl dX0_addRow_44 ?_
  obtain ⟨c9, ec9, h⟩ := x_bind h
  refine x_top (v' := .ref (ad c9)) (x_rf ec9) ?_
  have kc9 := ty_0_0 kr ec9
  refine x_iload C0 dX0_addRow_47 0 rfl ?_
  refine x_iconst C0 (v := 3) dX0_addRow_49 ki_3 ?_
  refine x_iconst C0 (v := 0) dX0_addRow_50 ki_0 ?_
  obtain ⟨q10, eq10, h⟩ := x_bind h
  refine x_callVN30 C0 (c_X1_put n kc9 eq10) (x_cwVN C0 mw_410 mw_331 mw_13 mw_46 mw_332 hd_yX1_put ⟨rfl, rfl, Nat.le_of_ble_eq_true rfl, Nat.le_of_ble_eq_true rfl⟩) kc9.1 rfl (wfS_1 kc9.2) rfl ⟨Nat.zero_le _, Nat.zero_le _⟩ (Nat.le_of_ble_eq_true rfl) dX0_addRow_51 ?_
  obtain rfl := x_inj h
  exact x_vret C0 dX0_addRow_54
set_option maxRecDepth 4000 in
set_option maxHeartbeats 2000000 in
theorem c_X4_isOutside {l : Launch} {D : va_G} {cs : Nat → ClassId} {ad : Nat → Nat} {x0 : Int32} {x1 : Int32} {x2 : Int32}  {res : Int32} (h : F_X4_isOutside x0 x1 x2 = res) : x_Met l yX4_isOutside [Cond.code yX4_isOutside cX4_isOutside 3 (some FieldType.boolean)] ({ frames := 0, cells := 0, slots := 0, locals := 0 } : Room) D vwCl (xtys cs) 0 ad wf0 [.int x0, .int x1, .int x2] m0 (some (.int res)) m0 := by
  refine x_Met_of (L0 := [(0, .int x0), (1, .int x1), (2, .int x2)]) (own := RX4) (by decide) rfl rfl wf0_loc (Nat.le_of_ble_eq_true rfl) rfl ?_
  intro p e s m args below meth c A C0
  refine x_iload_n C0 dX4_isOutside_0 rfl 0 rfl ?_
  refine x_iload_n C0 dX4_isOutside_1 rfl 1 rfl ?_
  refine x_icmp_lt C0 (tgt := 10) dX4_isOutside_2 rfl h (fun _ h => ?_) (fun _ h => ?_)
  · refine x_iconst C0 (v := 1) dX4_isOutside_10 ki_1 ?_
    refine x_goto C0 (tgt := 15) dX4_isOutside_11 rfl ?_
    subst h
    exact x_zret (v := 1) C0 rfl dX4_isOutside_15
  · refine x_iload_n C0 dX4_isOutside_5 rfl 0 rfl ?_
    refine x_iload_n C0 dX4_isOutside_6 rfl 2 rfl ?_
    refine x_icmp_le C0 (tgt := 14) dX4_isOutside_7 rfl h (fun _ h => ?_) (fun _ h => ?_)
    · refine x_iconst C0 (v := 1) dX4_isOutside_10 ki_1 ?_
      refine x_goto C0 (tgt := 15) dX4_isOutside_11 rfl ?_
      subst h
      exact x_zret (v := 1) C0 rfl dX4_isOutside_15
    · refine x_iconst C0 (v := 0) dX4_isOutside_14 ki_0 ?_
      subst h
      exact x_zret (v := 0) C0 rfl dX4_isOutside_15
set_option maxRecDepth 4000 in
set_option maxHeartbeats 2000000 in
theorem b_X0_wish_67 {p : Program} {l : Launch} {e : Env} {s : State} {m : MethodId} {args : Array Value} {below : List Frame} {meth : Method} {c : Code} {D : va_G} {cs : Nat → ClassId} {ad : Nat → Nat} {A : Nat → Prop} (C0 : x_C p s m args meth c D vwCl (xtys cs) A s.heap 47 ad (wfS cs ad) cX0_wish 6 RX0 none) {r : Nat} (kr : xk 0 r) (n : Nat) {res : xM} {K8 : xM → Int32 → Int32 → Int32 → Int32 → Option xM} (hK8 : ∀ (σ : xM) (l1 : Int32) (l2 : Int32) (l3 : Int32) (l4 : Int32) , K8 σ l1 l2 l3 l4 = some res → x_W p l e ({ frames := 1, cells := 0, slots := 0, locals := 22 } : Room) s m args below meth c D vwCl A s.heap 47 ad (wfS cs ad) 6 0 0 (x_E below args s D vwCl 47 ad (wfS cs ad) A none res) σ 8 [(0, .ref (ad r)), (1, .int l1), (2, .int l2), (3, .int l3), (4, .int l4)] []) : ∀ (σ : xM) (l1 : Int32) (l2 : Int32) (l3 : Int32) (l4 : Int32), B_X0_wish_67 n r K8 σ l1 l2 l3 l4 = some res → x_W p l e ({ frames := 1, cells := 0, slots := 0, locals := 22 } : Room) s m args below meth c D vwCl A s.heap 47 ad (wfS cs ad) 6 0 0 (x_E below args s D vwCl 47 ad (wfS cs ad) A none res) σ 67 [(0, .ref (ad r)), (1, .int l1), (2, .int l2), (3, .int l3), (4, .int l4)] [] := by
  intro σ l1 l2 l3 l4 h
  refine x_iinc C0 (v := 1) (L' := [(4, _), (0, _), (1, _), (2, _), (3, _)]) dX0_wish_67 4 rfl ki_1 (by decide) rfl ?_
  refine x_goto C0 (tgt := 8) dX0_wish_70 rfl ?_
  refine x_sub [1, 2, 3, 4, 0] (L' := [(0, _), (1, _), (2, _), (3, _), (4, _)]) rfl ?_
  refine x_pc (pc' := 8) rfl ?_
  exact hK8 _ _ _ _ _ h
set_option maxRecDepth 4000 in
set_option maxHeartbeats 2000000 in
theorem b_X0_wish_8 {p : Program} {l : Launch} {e : Env} {s : State} {m : MethodId} {args : Array Value} {below : List Frame} {meth : Method} {c : Code} {D : va_G} {cs : Nat → ClassId} {ad : Nat → Nat} {A : Nat → Prop} (C0 : x_C p s m args meth c D vwCl (xtys cs) A s.heap 47 ad (wfS cs ad) cX0_wish 6 RX0 none) {r : Nat} (kr : xk 0 r) (n : Nat) {res : xM} : ∀ (f : Nat) (σ : xM) (l1 : Int32) (l2 : Int32) (l3 : Int32) (l4 : Int32), B_X0_wish_8 n r f σ l1 l2 l3 l4 = some res → x_W p l e ({ frames := 1, cells := 0, slots := 0, locals := 22 } : Room) s m args below meth c D vwCl A s.heap 47 ad (wfS cs ad) 6 0 0 (x_E below args s D vwCl 47 ad (wfS cs ad) A none res) σ 8 [(0, .ref (ad r)), (1, .int l1), (2, .int l2), (3, .int l3), (4, .int l4)] [] := by
  intro f
  induction f with
  | zero =>
    intro σ l1 l2 l3 l4 h
    cases h
  | succ f ih =>
    intro σ l1 l2 l3 l4 h
    refine x_iload C0 dX0_wish_8 4 rfl ?_
    refine x_iload_n C0 dX0_wish_10 rfl 3 rfl ?_
    refine x_icmp_gt C0 (tgt := 73) dX0_wish_11 rfl h (fun _ h => ?_) (fun _ h => ?_)
    · obtain rfl := x_inj h
      exact x_vret C0 dX0_wish_73
    · refine x_aload_n C0 dX0_wish_14 rfl 0 rfl ?_
      refine x_get C0 inu0 rfl 2 (by decide) mw_109 kr.1 (wfS_0 kr.2) rfl dX0_wish_15 ?_
      refine x_aload_n C0 dX0_wish_18 rfl 0 rfl ?_
      refine x_get C0 inu0 rfl 1 (by decide) mw_107 kr.1 (wfS_0 kr.2) rfl dX0_wish_19 ?_
      obtain ⟨c2, ec2, h⟩ := x_bind h
      refine x_top (v' := .ref (ad c2)) (x_rf ec2) ?_
      have kc2 := ty_0_1 kr ec2
      refine x_alen C0 1 rfl kc2.1 (wfS_7 kc2.2) dX0_wish_22 ?_
      refine x_icmp_ge C0 (tgt := 73) dX0_wish_23 rfl h (fun _ h => ?_) (fun _ h => ?_)
      · refine x_iload_n C0 dX0_wish_26 rfl 1 rfl ?_
        refine x_iload C0 dX0_wish_27 4 rfl ?_
        refine x_iload_n C0 dX0_wish_29 rfl 2 rfl ?_
        refine x_imul C0 dX0_wish_30 ?_
        refine x_iadd C0 dX0_wish_31 ?_
        refine x_istore C0 dX0_wish_32 (L' := [(5, _), (0, _), (1, _), (2, _), (3, _), (4, _)]) (by decide) rfl ?_
        refine x_iload C0 dX0_wish_34 0 rfl ?_
        refine x_pc (pc' := 36) rfl ?_
        refine x_iconst C0 (v := 0) dX0_wish_36 ki_0 ?_
        refine x_sipush C0 (v := 9999) dX0_wish_37 ks_9999 ?_
        refine x_pureSN3 C0 (fun ad' => c_X4_isOutside rfl) (x_cwSN C0 mw_427 mw_269 mw_44 mw_270 hd_yX4_isOutside ⟨rfl, rfl, Nat.le_of_ble_eq_true rfl, Nat.le_of_ble_eq_true rfl⟩) ⟨Nat.zero_le _, Nat.zero_le _⟩ (Nat.le_of_ble_eq_true rfl) dX0_wish_40 ?_
        refine x_if_ne C0 (tgt := 67) dX0_wish_43 rfl h (fun _ h => ?_) (fun _ h => ?_)
        · refine x_aload_n C0 dX0_wish_46 rfl 1 rfl ?_
          refine x_get C0 inu0 rfl 1 (by decide) mw_107 kr.1 (wfS_0 kr.2) rfl dX0_wish_47 ?_
          obtain ⟨c3, ec3, h⟩ := x_bind h
          refine x_top (v' := .ref (ad c3)) (x_rf ec3) ?_
          have kc3 := ty_0_1 kr ec3
          refine x_aload_n C0 dX0_wish_50 rfl 1 rfl ?_
          refine x_get C0 inu0 rfl 2 (by decide) mw_109 kr.1 (wfS_0 kr.2) rfl dX0_wish_51 ?_
          refine x_iload C0 dX0_wish_54 0 rfl ?_
          refine x_iast C0 1 rfl kc3.1 (wfS_7 kc3.2) (wpS_7 kc3.2) (fun r' h' k' => x_up_ne r' h' k') dX0_wish_56 h (fun _ h => ?_)
          refine x_aload_n C0 dX0_wish_57 rfl 1 rfl ?_
          refine x_pc (pc' := 58) rfl ?_
          refine x_dup C0 dX0_wish_58 rfl ?_
          refine x_get C0 inu0 rfl 2 (by decide) mw_109 kr.1 (wfS_0 kr.2) rfl dX0_wish_59 ?_
          refine x_iconst C0 (v := 1) dX0_wish_62 ki_1 ?_
          refine x_iadd C0 dX0_wish_63 ?_
          refine x_put C0 inu0 tyX0 tyX0_ok nmX0 rfl 2 (by decide) mw_109 rfl rfl rfl kr.1 (wfS_0 kr.2) (Nat.le_of_ble_eq_true rfl) (wpS_0_2 kr.2) (fun r' h' k' => x_up_ne r' h' k') dX0_wish_64 ?_
          refine x_sub [1, 2, 3, 4, 5] (L' := [(0, _), (1, _), (2, _), (3, _), (4, _)]) rfl ?_
          refine x_pc (pc' := 67) rfl ?_
          exact b_X0_wish_67 C0 kr n (fun σ l1 l2 l3 l4 h => ih σ l1 l2 l3 l4 h) _ _ _ _ _ h
        · refine x_sub [1, 2, 3, 4, 5] (L' := [(0, _), (1, _), (2, _), (3, _), (4, _)]) rfl ?_
          refine x_pc (pc' := 67) rfl ?_
          exact b_X0_wish_67 C0 kr n (fun σ l1 l2 l3 l4 h => ih σ l1 l2 l3 l4 h) _ _ _ _ _ h
      · obtain rfl := x_inj h
        exact x_vret C0 dX0_wish_73
set_option maxRecDepth 4000 in
set_option maxHeartbeats 2000000 in
theorem c_X0_wish {l : Launch} {D : va_G} {cs : Nat → ClassId} {ad : Nat → Nat} (n : Nat) {σ : xM} {r : Nat} {x1 : Int32} {x2 : Int32} (kr : xk 0 r) {res : xM} (h : F_X0_wish n σ r x1 x2 = some res) : x_Met l yX0_wish [Cond.code yX0_wish cX0_wish 6 none] ({ frames := 1, cells := 0, slots := 0, locals := 22 } : Room) D vwCl (xtys cs) 47 ad (wfS cs ad) [.ref (ad r), .int x1, .int x2] σ none res := by
  refine x_Met_of (L0 := [(0, .ref (ad r)), (1, .int x1), (2, .int x2)]) (own := RX0) (by decide) rfl rfl wfS_loc (Nat.le_of_ble_eq_true rfl) rfl ?_
  intro p e s m args below meth c A C0
  refine x_aload_n C0 dX0_wish_0 rfl 0 rfl ?_
  obtain ⟨q1, eq1, h⟩ := x_bind h
  refine x_callV01 C0 (c_X0_reach n kr eq1) (x_cwV C0 mw_423 mw_425 mw_31 mw_48 mw_426 hd_yX0_reach ⟨rfl, rfl, Nat.le_of_ble_eq_true rfl, Nat.le_of_ble_eq_true rfl⟩) kr.1 rfl (wfS_0 kr.2) rfl ⟨Nat.zero_le _, Nat.zero_le _⟩ (Nat.le_of_ble_eq_true rfl) dX0_wish_1 ?_
  refine x_istore_n C0 dX0_wish_4 rfl (L' := [(3, _), (0, _), (1, _), (2, _)]) (by decide) rfl ?_
  refine x_iconst C0 (v := 1) dX0_wish_5 ki_1 ?_
  refine x_istore C0 dX0_wish_6 (L' := [(4, _), (3, _), (0, _), (1, _), (2, _)]) (by decide) rfl ?_
  refine x_sub [2, 3, 4, 1, 0] (L' := [(0, _), (1, _), (2, _), (3, _), (4, _)]) rfl ?_
  refine x_pc (pc' := 8) rfl ?_
  exact b_X0_wish_8 C0 kr n n _ _ _ _ _ h
set_option maxRecDepth 4000 in
set_option maxHeartbeats 2000000 in
theorem c_X0_updateRow {l : Launch} {D : va_G} {cs : Nat → ClassId} {ad : Nat → Nat} (n : Nat) {σ : xM} {r : Nat} {x1 : Int32} {x2 : Int32} {x3 : Int32} {x4 : Int32} (kr : xk 0 r) {res : xM} (h : F_X0_updateRow n σ r x1 x2 x3 x4 = some res) : x_Met l yX0_updateRow [Cond.code yX0_updateRow cX0_updateRow 5 none] ({ frames := 2, cells := 0, slots := 0, locals := 47 } : Room) D vwCl (xtys cs) 47 ad (wfS cs ad) [.ref (ad r), .int x1, .int x2, .int x3, .int x4] σ none res := by
  refine x_Met_of (L0 := [(0, .ref (ad r)), (1, .int x1), (2, .int x2), (3, .int x3), (4, .int x4)]) (own := RX0) (by decide) rfl rfl wfS_loc (Nat.le_of_ble_eq_true rfl) rfl ?_
  intro p e s m args below meth c A C0
  refine x_aload_n C0 dX0_updateRow_0 rfl 0 rfl ?_
  refine x_get C0 inu0 rfl 0 (by decide) mw_105 kr.1 (wfS_0 kr.2) rfl dX0_updateRow_1 ?_
  obtain ⟨c1, ec1, h⟩ := x_bind h
  refine x_top (v' := .ref (ad c1)) (x_rf ec1) ?_
  have kc1 := ty_0_0 kr ec1
  refine x_iload_n C0 dX0_updateRow_4 rfl 1 rfl ?_
  refine x_iconst C0 (v := 1) dX0_updateRow_5 ki_1 ?_
  refine x_iload_n C0 dX0_updateRow_6 rfl 2 rfl ?_
  obtain ⟨q2, eq2, h⟩ := x_bind h
  refine x_callVN30 C0 (c_X1_put n kc1 eq2) (x_cwVN C0 mw_410 mw_331 mw_13 mw_46 mw_332 hd_yX1_put ⟨rfl, rfl, Nat.le_of_ble_eq_true rfl, Nat.le_of_ble_eq_true rfl⟩) kc1.1 rfl (wfS_1 kc1.2) rfl ⟨Nat.zero_le _, Nat.zero_le _⟩ (Nat.le_of_ble_eq_true rfl) dX0_updateRow_7 ?_
  refine x_aload_n C0 dX0_updateRow_10 rfl 0 rfl ?_
  refine x_pc (pc' := 11) rfl ?_
  refine x_get C0 inu0 rfl 0 (by decide) mw_105 kr.1 (wfS_0 kr.2) rfl dX0_updateRow_11 ?_
  obtain ⟨c3, ec3, h⟩ := x_bind h
  refine x_top (v' := .ref (ad c3)) (x_rf ec3) ?_
  have kc3 := ty_0_0 kr ec3
  refine x_iload_n C0 dX0_updateRow_14 rfl 1 rfl ?_
  refine x_iconst C0 (v := 2) dX0_updateRow_15 ki_2 ?_
  refine x_iload_n C0 dX0_updateRow_16 rfl 3 rfl ?_
  obtain ⟨q4, eq4, h⟩ := x_bind h
  refine x_callVN30 C0 (c_X1_put n kc3 eq4) (x_cwVN C0 mw_410 mw_331 mw_13 mw_46 mw_332 hd_yX1_put ⟨rfl, rfl, Nat.le_of_ble_eq_true rfl, Nat.le_of_ble_eq_true rfl⟩) kc3.1 rfl (wfS_1 kc3.2) rfl ⟨Nat.zero_le _, Nat.zero_le _⟩ (Nat.le_of_ble_eq_true rfl) dX0_updateRow_17 ?_
  refine x_aload_n C0 dX0_updateRow_20 rfl 0 rfl ?_
  refine x_get C0 inu0 rfl 0 (by decide) mw_105 kr.1 (wfS_0 kr.2) rfl dX0_updateRow_21 ?_
  obtain ⟨c5, ec5, h⟩ := x_bind h
  refine x_top (v' := .ref (ad c5)) (x_rf ec5) ?_
  have kc5 := ty_0_0 kr ec5
  refine x_iload_n C0 dX0_updateRow_24 rfl 1 rfl ?_
  refine x_pc (pc' := 25) rfl ?_
  refine x_iconst C0 (v := 3) dX0_updateRow_25 ki_3 ?_
  refine x_iload C0 dX0_updateRow_26 4 rfl ?_
  obtain ⟨q6, eq6, h⟩ := x_bind h
  refine x_callVN30 C0 (c_X1_put n kc5 eq6) (x_cwVN C0 mw_410 mw_331 mw_13 mw_46 mw_332 hd_yX1_put ⟨rfl, rfl, Nat.le_of_ble_eq_true rfl, Nat.le_of_ble_eq_true rfl⟩) kc5.1 rfl (wfS_1 kc5.2) rfl ⟨Nat.zero_le _, Nat.zero_le _⟩ (Nat.le_of_ble_eq_true rfl) dX0_updateRow_28 ?_
  refine x_aload_n C0 dX0_updateRow_31 rfl 0 rfl ?_
  refine x_get C0 inu0 rfl 0 (by decide) mw_105 kr.1 (wfS_0 kr.2) rfl dX0_updateRow_32 ?_
  obtain ⟨c7, ec7, h⟩ := x_bind h
  refine x_top (v' := .ref (ad c7)) (x_rf ec7) ?_
  have kc7 := ty_0_0 kr ec7
  refine x_iload_n C0 dX0_updateRow_35 rfl 1 rfl ?_
  obtain ⟨q8, eq8, h⟩ := x_bind h
  refine x_callVN10 C0 (c_X1_touch n kc7 eq8) (x_cwVN C0 mw_418 mw_323 mw_11 mw_46 mw_324 hd_yX1_touch ⟨rfl, rfl, Nat.le_of_ble_eq_true rfl, Nat.le_of_ble_eq_true rfl⟩) kc7.1 rfl (wfS_1 kc7.2) rfl ⟨Nat.zero_le _, Nat.zero_le _⟩ (Nat.le_of_ble_eq_true rfl) dX0_updateRow_36 ?_
  refine x_iload C0 dX0_updateRow_39 4 rfl ?_
  refine x_pc (pc' := 41) rfl ?_
  refine x_iconst C0 (v := 2) dX0_updateRow_41 ki_2 ?_
  refine x_icmp_lt C0 (tgt := 51) dX0_updateRow_42 rfl h (fun _ h => ?_) (fun _ h => ?_)
  · obtain rfl := x_inj h
    exact x_vret C0 dX0_updateRow_51
  · refine x_aload_n C0 dX0_updateRow_45 rfl 0 rfl ?_
    refine x_iload_n C0 dX0_updateRow_46 rfl 2 rfl ?_
    refine x_iload_n C0 dX0_updateRow_47 rfl 3 rfl ?_
    obtain ⟨q9, eq9, h⟩ := x_bind h
    refine x_callV20 C0 (c_X0_wish n kr eq9) (x_cwV C0 mw_419 mw_421 mw_30 mw_48 mw_422 hd_yX0_wish ⟨rfl, rfl, Nat.le_of_ble_eq_true rfl, Nat.le_of_ble_eq_true rfl⟩) kr.1 rfl (wfS_0 kr.2) rfl ⟨Nat.zero_le _, Nat.zero_le _⟩ (Nat.le_of_ble_eq_true rfl) dX0_updateRow_48 ?_
    obtain rfl := x_inj h
    exact x_vret C0 dX0_updateRow_51
set_option maxRecDepth 4000 in
set_option maxHeartbeats 2000000 in
theorem b_X0_learnStride_105 {p : Program} {l : Launch} {e : Env} {s : State} {m : MethodId} {args : Array Value} {below : List Frame} {meth : Method} {c : Code} {D : va_G} {cs : Nat → ClassId} {ad : Nat → Nat} {A : Nat → Prop} (C0 : x_C p s m args meth c D vwCl (xtys cs) A s.heap 47 ad (wfS cs ad) cX0_learnStride 7 RX0 none) {r : Nat} (kr : xk 0 r) (n : Nat) {res : xM} : ∀ (σ : xM) (l2 : Int32) (l3 : Int32) (l5 : Int32) (l6 : Int32), B_X0_learnStride_105 n r σ l2 l3 l5 l6 = some res → x_W p l e ({ frames := 3, cells := 0, slots := 0, locals := 71 } : Room) s m args below meth c D vwCl A s.heap 47 ad (wfS cs ad) 7 0 0 (x_E below args s D vwCl 47 ad (wfS cs ad) A none res) σ 105 [(0, .ref (ad r)), (2, .int l2), (3, .int l3), (5, .int l5), (6, .int l6)] [] := by
  intro σ l2 l3 l5 l6 h
  refine x_aload_n C0 dX0_learnStride_105 rfl 0 rfl ?_
  refine x_iload_n C0 dX0_learnStride_106 rfl 2 rfl ?_
  refine x_iload_n C0 dX0_learnStride_107 rfl 1 rfl ?_
  refine x_iload C0 dX0_learnStride_108 3 rfl ?_
  refine x_iload C0 dX0_learnStride_110 4 rfl ?_
  obtain ⟨q10, eq10, h⟩ := x_bind h
  refine x_callV40 C0 (c_X0_updateRow n kr eq10) (x_cwV C0 mw_414 mw_416 mw_29 mw_48 mw_417 hd_yX0_updateRow ⟨rfl, rfl, Nat.le_of_ble_eq_true rfl, Nat.le_of_ble_eq_true rfl⟩) kr.1 rfl (wfS_0 kr.2) rfl ⟨Nat.zero_le _, Nat.zero_le _⟩ (Nat.le_of_ble_eq_true rfl) dX0_learnStride_112 ?_
  obtain rfl := x_inj h
  exact x_vret C0 dX0_learnStride_115
set_option maxRecDepth 4000 in
set_option maxHeartbeats 2000000 in
theorem b_X0_learnStride_103 {p : Program} {l : Launch} {e : Env} {s : State} {m : MethodId} {args : Array Value} {below : List Frame} {meth : Method} {c : Code} {D : va_G} {cs : Nat → ClassId} {ad : Nat → Nat} {A : Nat → Prop} (C0 : x_C p s m args meth c D vwCl (xtys cs) A s.heap 47 ad (wfS cs ad) cX0_learnStride 7 RX0 none) {r : Nat} (kr : xk 0 r) (n : Nat) {res : xM} : ∀ (σ : xM) (l2 : Int32) (l3 : Int32) (l6 : Int32) (s0 : Int32), B_X0_learnStride_103 n r σ l2 l3 l6 s0 = some res → x_W p l e ({ frames := 3, cells := 0, slots := 0, locals := 71 } : Room) s m args below meth c D vwCl A s.heap 47 ad (wfS cs ad) 7 0 0 (x_E below args s D vwCl 47 ad (wfS cs ad) A none res) σ 103 [(0, .ref (ad r)), (2, .int l2), (3, .int l3), (6, .int l6)] [.int s0] := by
  intro σ l2 l3 l6 s0 h
  refine x_istore C0 dX0_learnStride_103 (L' := [(5, _), (0, _), (2, _), (3, _), (6, _)]) (by decide) rfl ?_
  refine x_sub [1, 2, 3, 0, 4] (L' := [(0, _), (2, _), (3, _), (5, _), (6, _)]) rfl ?_
  refine x_pc (pc' := 105) rfl ?_
  exact b_X0_learnStride_105 C0 kr n _ _ _ _ _ h
set_option maxRecDepth 4000 in
set_option maxHeartbeats 2000000 in
theorem b_X0_learnStride_81 {p : Program} {l : Launch} {e : Env} {s : State} {m : MethodId} {args : Array Value} {below : List Frame} {meth : Method} {c : Code} {D : va_G} {cs : Nat → ClassId} {ad : Nat → Nat} {A : Nat → Prop} (C0 : x_C p s m args meth c D vwCl (xtys cs) A s.heap 47 ad (wfS cs ad) cX0_learnStride 7 RX0 none) {r : Nat} (kr : xk 0 r) (n : Nat) {res : xM} : ∀ (σ : xM) (l2 : Int32) (l3 : Int32) (l4 : Int32) (l5 : Int32) (l6 : Int32), B_X0_learnStride_81 n r σ l2 l3 l4 l5 l6 = some res → x_W p l e ({ frames := 3, cells := 0, slots := 0, locals := 71 } : Room) s m args below meth c D vwCl A s.heap 47 ad (wfS cs ad) 7 0 0 (x_E below args s D vwCl 47 ad (wfS cs ad) A none res) σ 81 [(0, .ref (ad r)), (2, .int l2), (3, .int l3), (4, .int l4), (5, .int l5), (6, .int l6)] [] := by
  intro σ l2 l3 l4 l5 l6 h
  refine x_iconst C0 (v := 0) dX0_learnStride_81 ki_0 ?_
  refine x_iload C0 dX0_learnStride_82 5 rfl ?_
  refine x_iconst C0 (v := 1) dX0_learnStride_84 ki_1 ?_
  refine x_isub C0 dX0_learnStride_85 ?_
  refine x_mmax C0 mw_413 mw_73 mw_47 mw_74 ⟨Nat.le_of_ble_eq_true rfl, Nat.le_of_ble_eq_true rfl, Nat.zero_le _, Nat.zero_le _⟩ dX0_learnStride_86 ?_
  refine x_top (v' := .int (jmax _ _)) rfl ?_
  refine x_istore C0 dX0_learnStride_89 (L' := [(6, _), (0, _), (2, _), (3, _), (4, _), (5, _)]) (by decide) rfl ?_
  refine x_iload C0 dX0_learnStride_91 0 rfl ?_
  refine x_pc (pc' := 93) rfl ?_
  refine x_if_ne C0 (tgt := 101) dX0_learnStride_93 rfl h (fun _ h => ?_) (fun _ h => ?_)
  · refine x_iload C0 dX0_learnStride_96 4 rfl ?_
    refine x_goto C0 (tgt := 103) dX0_learnStride_98 rfl ?_
    refine x_sub [1, 2, 3, 0] (L' := [(0, _), (2, _), (3, _), (6, _)]) rfl ?_
    refine x_pc (pc' := 103) rfl ?_
    exact b_X0_learnStride_103 C0 kr n _ _ _ _ _ h
  · refine x_iload C0 dX0_learnStride_101 5 rfl ?_
    refine x_sub [1, 2, 3, 0] (L' := [(0, _), (2, _), (3, _), (6, _)]) rfl ?_
    refine x_pc (pc' := 103) rfl ?_
    exact b_X0_learnStride_103 C0 kr n _ _ _ _ _ h
set_option maxRecDepth 4000 in
set_option maxHeartbeats 2000000 in
theorem c_X0_learnStride {l : Launch} {D : va_G} {cs : Nat → ClassId} {ad : Nat → Nat} (n : Nat) {σ : xM} {r : Nat} {x1 : Int32} {x2 : Int32} (kr : xk 0 r) {res : xM} (h : F_X0_learnStride n σ r x1 x2 = some res) : x_Met l yX0_learnStride [Cond.code yX0_learnStride cX0_learnStride 7 none] ({ frames := 3, cells := 0, slots := 0, locals := 71 } : Room) D vwCl (xtys cs) 47 ad (wfS cs ad) [.ref (ad r), .int x1, .int x2] σ none res := by
  refine x_Met_of (L0 := [(0, .ref (ad r)), (1, .int x1), (2, .int x2)]) (own := RX0) (by decide) rfl rfl wfS_loc (Nat.le_of_ble_eq_true rfl) rfl ?_
  intro p e s m args below meth c A C0
  refine x_aload_n C0 dX0_learnStride_0 rfl 0 rfl ?_
  refine x_get C0 inu0 rfl 0 (by decide) mw_105 kr.1 (wfS_0 kr.2) rfl dX0_learnStride_1 ?_
  obtain ⟨c1, ec1, h⟩ := x_bind h
  refine x_top (v' := .ref (ad c1)) (x_rf ec1) ?_
  have kc1 := ty_0_0 kr ec1
  refine x_iload_n C0 dX0_learnStride_4 rfl 1 rfl ?_
  obtain ⟨q2, eq2, h⟩ := x_bind h
  refine x_callVN11 C0 (c_X1_find n kc1 eq2) (x_cwVN C0 mw_404 mw_381 mw_22 mw_46 mw_382 hd_yX1_find ⟨rfl, rfl, Nat.le_of_ble_eq_true rfl, Nat.le_of_ble_eq_true rfl⟩) kc1.1 rfl (wfS_1 kc1.2) rfl ⟨Nat.zero_le _, Nat.zero_le _⟩ (Nat.le_of_ble_eq_true rfl) dX0_learnStride_5 ?_
  refine x_istore_n C0 dX0_learnStride_8 rfl (L' := [(3, _), (0, _), (1, _), (2, _)]) (by decide) rfl ?_
  refine x_iload_n C0 dX0_learnStride_9 rfl 0 rfl ?_
  refine x_if_ge C0 (tgt := 21) dX0_learnStride_10 rfl h (fun _ h => ?_) (fun _ h => ?_)
  · refine x_aload_n C0 dX0_learnStride_13 rfl 1 rfl ?_
    refine x_iconst C0 (v := 4) dX0_learnStride_14 ki_4 ?_
    refine x_iload_n C0 dX0_learnStride_15 rfl 2 rfl ?_
    refine x_iload_n C0 dX0_learnStride_16 rfl 3 rfl ?_
    obtain ⟨q3, eq3, h⟩ := x_bind h
    refine x_callV30 C0 (c_X0_addRow n kr eq3) (x_cwV C0 mw_405 mw_407 mw_28 mw_48 mw_408 hd_yX0_addRow ⟨rfl, rfl, Nat.le_of_ble_eq_true rfl, Nat.le_of_ble_eq_true rfl⟩) kr.1 rfl (wfS_0 kr.2) rfl ⟨Nat.zero_le _, Nat.zero_le _⟩ (Nat.le_of_ble_eq_true rfl) dX0_learnStride_17 ?_
    obtain rfl := x_inj h
    exact x_vret C0 dX0_learnStride_20
  · refine x_iload_n C0 dX0_learnStride_21 rfl 3 rfl ?_
    refine x_aload_n C0 dX0_learnStride_22 rfl 1 rfl ?_
    refine x_get C0 inu0 rfl 0 (by decide) mw_105 kr.1 (wfS_0 kr.2) rfl dX0_learnStride_23 ?_
    obtain ⟨c4, ec4, h⟩ := x_bind h
    refine x_top (v' := .ref (ad c4)) (x_rf ec4) ?_
    have kc4 := ty_0_0 kr ec4
    refine x_iload_n C0 dX0_learnStride_26 rfl 0 rfl ?_
    refine x_iconst C0 (v := 1) dX0_learnStride_27 ki_1 ?_
    obtain ⟨q5, eq5, h⟩ := x_bind h
    refine x_callVN21 C0 (c_X1_get n kc4 eq5) (x_cwVN C0 mw_411 mw_304 mw_7 mw_46 mw_305 hd_yX1_get ⟨rfl, rfl, Nat.le_of_ble_eq_true rfl, Nat.le_of_ble_eq_true rfl⟩) kc4.1 rfl (wfS_1 kc4.2) rfl ⟨Nat.zero_le _, Nat.zero_le _⟩ (Nat.le_of_ble_eq_true rfl) dX0_learnStride_28 ?_
    refine x_isub C0 dX0_learnStride_31 ?_
    refine x_pc (pc' := 32) rfl ?_
    refine x_istore C0 dX0_learnStride_32 (L' := [(4, _), (3, _), (0, _), (1, _), (2, _)]) (by decide) rfl ?_
    refine x_aload_n C0 dX0_learnStride_34 rfl 2 rfl ?_
    refine x_get C0 inu0 rfl 0 (by decide) mw_105 kr.1 (wfS_0 kr.2) rfl dX0_learnStride_35 ?_
    obtain ⟨c6, ec6, h⟩ := x_bind h
    refine x_top (v' := .ref (ad c6)) (x_rf ec6) ?_
    have kc6 := ty_0_0 kr ec6
    refine x_iload_n C0 dX0_learnStride_38 rfl 1 rfl ?_
    refine x_iconst C0 (v := 2) dX0_learnStride_39 ki_2 ?_
    obtain ⟨q7, eq7, h⟩ := x_bind h
    refine x_callVN21 C0 (c_X1_get n kc6 eq7) (x_cwVN C0 mw_411 mw_304 mw_7 mw_46 mw_305 hd_yX1_get ⟨rfl, rfl, Nat.le_of_ble_eq_true rfl, Nat.le_of_ble_eq_true rfl⟩) kc6.1 rfl (wfS_1 kc6.2) rfl ⟨Nat.zero_le _, Nat.zero_le _⟩ (Nat.le_of_ble_eq_true rfl) dX0_learnStride_40 ?_
    refine x_istore C0 dX0_learnStride_43 (L' := [(5, _), (4, _), (3, _), (0, _), (1, _), (2, _)]) (by decide) rfl ?_
    refine x_aload_n C0 dX0_learnStride_45 rfl 3 rfl ?_
    refine x_pc (pc' := 46) rfl ?_
    refine x_get C0 inu0 rfl 0 (by decide) mw_105 kr.1 (wfS_0 kr.2) rfl dX0_learnStride_46 ?_
    obtain ⟨c8, ec8, h⟩ := x_bind h
    refine x_top (v' := .ref (ad c8)) (x_rf ec8) ?_
    have kc8 := ty_0_0 kr ec8
    refine x_iload_n C0 dX0_learnStride_49 rfl 2 rfl ?_
    refine x_iconst C0 (v := 3) dX0_learnStride_50 ki_3 ?_
    obtain ⟨q9, eq9, h⟩ := x_bind h
    refine x_callVN21 C0 (c_X1_get n kc8 eq9) (x_cwVN C0 mw_411 mw_304 mw_7 mw_46 mw_305 hd_yX1_get ⟨rfl, rfl, Nat.le_of_ble_eq_true rfl, Nat.le_of_ble_eq_true rfl⟩) kc8.1 rfl (wfS_1 kc8.2) rfl ⟨Nat.zero_le _, Nat.zero_le _⟩ (Nat.le_of_ble_eq_true rfl) dX0_learnStride_51 ?_
    refine x_istore C0 dX0_learnStride_54 (L' := [(6, _), (5, _), (4, _), (3, _), (0, _), (1, _), (2, _)]) (by decide) rfl ?_
    refine x_iload C0 dX0_learnStride_56 2 rfl ?_
    refine x_iload C0 dX0_learnStride_58 1 rfl ?_
    refine x_icmp_ne C0 (tgt := 81) dX0_learnStride_60 rfl h (fun _ h => ?_) (fun _ h => ?_)
    · refine x_iload C0 dX0_learnStride_63 2 rfl ?_
      refine x_if_eq C0 (tgt := 81) dX0_learnStride_65 rfl h (fun _ h => ?_) (fun _ h => ?_)
      · refine x_sub [4, 6, 3, 2, 1, 0] (L' := [(0, _), (2, _), (3, _), (4, _), (5, _), (6, _)]) rfl ?_
        refine x_pc (pc' := 81) rfl ?_
        exact b_X0_learnStride_81 C0 kr n _ _ _ _ _ _ h
      · refine x_iconst C0 (v := 3) dX0_learnStride_68 ki_3 ?_
        refine x_iload C0 dX0_learnStride_69 0 rfl ?_
        refine x_iconst C0 (v := 1) dX0_learnStride_71 ki_1 ?_
        refine x_iadd C0 dX0_learnStride_72 ?_
        refine x_mmin C0 mw_412 mw_286 mw_47 mw_287 ⟨Nat.le_of_ble_eq_true rfl, Nat.le_of_ble_eq_true rfl, Nat.zero_le _, Nat.zero_le _⟩ dX0_learnStride_73 ?_
        refine x_top (v' := .int (jmin _ _)) rfl ?_
        refine x_istore C0 dX0_learnStride_76 (L' := [(6, _), (5, _), (4, _), (3, _), (0, _), (1, _), (2, _)]) (by decide) rfl ?_
        refine x_goto C0 (tgt := 105) dX0_learnStride_78 rfl ?_
        refine x_sub [4, 6, 3, 1, 0] (L' := [(0, _), (2, _), (3, _), (5, _), (6, _)]) rfl ?_
        refine x_pc (pc' := 105) rfl ?_
        exact b_X0_learnStride_105 C0 kr n _ _ _ _ _ h
    · refine x_sub [4, 6, 3, 2, 1, 0] (L' := [(0, _), (2, _), (3, _), (4, _), (5, _), (6, _)]) rfl ?_
      refine x_pc (pc' := 81) rfl ?_
      exact b_X0_learnStride_81 C0 kr n _ _ _ _ _ _ h
set_option maxRecDepth 4000 in
set_option maxHeartbeats 2000000 in
theorem b_X0_streamNear_41 {p : Program} {l : Launch} {e : Env} {s : State} {m : MethodId} {args : Array Value} {below : List Frame} {meth : Method} {c : Code} {D : va_G} {cs : Nat → ClassId} {ad : Nat → Nat} {A : Nat → Prop} (C0 : x_C p s m args meth c D vwCl (xtys cs) A s.heap 47 ad (wfS cs ad) cX0_streamNear 4 RX0 (some FieldType.int)) {r : Nat} (kr : xk 0 r) (n : Nat) {σ : xM} {res : Int32} {K10 : Int32 → Int32 → Option Int32} (hK10 : ∀ (l1 : Int32) (l2 : Int32) , K10 l1 l2 = some res → x_W p l e ({ frames := 2, cells := 0, slots := 0, locals := 44 } : Room) s m args below meth c D vwCl A s.heap 47 ad (wfS cs ad) 4 0 0 (x_E below args s D vwCl 47 ad (wfS cs ad) A (some (.int res)) σ) σ 10 [(0, .ref (ad r)), (1, .int l1), (2, .int l2)] []) : ∀ (l1 : Int32) (l2 : Int32), B_X0_streamNear_41 n σ r K10 l1 l2 = some res → x_W p l e ({ frames := 2, cells := 0, slots := 0, locals := 44 } : Room) s m args below meth c D vwCl A s.heap 47 ad (wfS cs ad) 4 0 0 (x_E below args s D vwCl 47 ad (wfS cs ad) A (some (.int res)) σ) σ 41 [(0, .ref (ad r)), (1, .int l1), (2, .int l2)] [] := by
  intro l1 l2 h
  refine x_iinc C0 (v := (-1)) (L' := [(2, _), (0, _), (1, _)]) dX0_streamNear_41 2 rfl ki_m1 (by decide) rfl ?_
  refine x_goto C0 (tgt := 10) dX0_streamNear_44 rfl ?_
  refine x_sub [1, 2, 0] (L' := [(0, _), (1, _), (2, _)]) rfl ?_
  refine x_pc (pc' := 10) rfl ?_
  exact hK10 _ _ h
set_option maxRecDepth 4000 in
set_option maxHeartbeats 2000000 in
theorem b_X0_streamNear_10 {p : Program} {l : Launch} {e : Env} {s : State} {m : MethodId} {args : Array Value} {below : List Frame} {meth : Method} {c : Code} {D : va_G} {cs : Nat → ClassId} {ad : Nat → Nat} {A : Nat → Prop} (C0 : x_C p s m args meth c D vwCl (xtys cs) A s.heap 47 ad (wfS cs ad) cX0_streamNear 4 RX0 (some FieldType.int)) {r : Nat} (kr : xk 0 r) (n : Nat) {σ : xM} {res : Int32} : ∀ (f : Nat) (l1 : Int32) (l2 : Int32), B_X0_streamNear_10 n σ r f l1 l2 = some res → x_W p l e ({ frames := 2, cells := 0, slots := 0, locals := 44 } : Room) s m args below meth c D vwCl A s.heap 47 ad (wfS cs ad) 4 0 0 (x_E below args s D vwCl 47 ad (wfS cs ad) A (some (.int res)) σ) σ 10 [(0, .ref (ad r)), (1, .int l1), (2, .int l2)] [] := by
  intro f
  induction f with
  | zero =>
    intro l1 l2 h
    cases h
  | succ f ih =>
    intro l1 l2 h
    refine x_iload_n C0 dX0_streamNear_10 rfl 2 rfl ?_
    refine x_if_lt C0 (tgt := 47) dX0_streamNear_11 rfl h (fun _ h => ?_) (fun _ h => ?_)
    · refine x_ldc C0 mw_439 dX0_streamNear_47 ?_
      obtain rfl := x_inj h
      exact x_iret C0 dX0_streamNear_49
    · refine x_iload_n C0 dX0_streamNear_14 rfl 1 rfl ?_
      refine x_aload_n C0 dX0_streamNear_15 rfl 0 rfl ?_
      refine x_get C0 inu0 rfl 0 (by decide) mw_105 kr.1 (wfS_0 kr.2) rfl dX0_streamNear_16 ?_
      obtain ⟨c2, ec2, h⟩ := x_bind h
      refine x_top (v' := .ref (ad c2)) (x_rf ec2) ?_
      have kc2 := ty_0_0 kr ec2
      refine x_iload_n C0 dX0_streamNear_19 rfl 2 rfl ?_
      refine x_iconst C0 (v := 1) dX0_streamNear_20 ki_1 ?_
      obtain ⟨q3, eq3, h⟩ := x_bind h
      refine x_callVN21 C0 (c_X1_get n kc2 eq3) (x_cwVN C0 mw_411 mw_304 mw_7 mw_46 mw_305 hd_yX1_get ⟨rfl, rfl, Nat.le_of_ble_eq_true rfl, Nat.le_of_ble_eq_true rfl⟩) kc2.1 rfl (wfS_1 kc2.2) rfl ⟨Nat.zero_le _, Nat.zero_le _⟩ (Nat.le_of_ble_eq_true rfl) dX0_streamNear_21 ?_
      refine x_isub C0 dX0_streamNear_24 ?_
      refine x_pc (pc' := 25) rfl ?_
      refine x_mabs C0 mw_436 mw_437 mw_47 mw_438 ⟨Nat.le_of_ble_eq_true rfl, Nat.le_of_ble_eq_true rfl, Nat.zero_le _, Nat.zero_le _⟩ dX0_streamNear_25 ?_
      refine x_top (v' := .int (jabs _)) rfl ?_
      refine x_istore_n C0 dX0_streamNear_28 rfl (L' := [(3, _), (0, _), (1, _), (2, _)]) (by decide) rfl ?_
      refine x_iload_n C0 dX0_streamNear_29 rfl 0 rfl ?_
      refine x_iconst C0 (v := 1) dX0_streamNear_30 ki_1 ?_
      refine x_icmp_lt C0 (tgt := 41) dX0_streamNear_31 rfl h (fun _ h => ?_) (fun _ h => ?_)
      · refine x_sub [1, 2, 3] (L' := [(0, _), (1, _), (2, _)]) rfl ?_
        refine x_pc (pc' := 41) rfl ?_
        exact b_X0_streamNear_41 C0 kr n (fun l1 l2 h => ih l1 l2 h) _ _ h
      · refine x_iload_n C0 dX0_streamNear_34 rfl 0 rfl ?_
        refine x_iconst C0 (v := 4) dX0_streamNear_35 ki_4 ?_
        refine x_icmp_gt C0 (tgt := 41) dX0_streamNear_36 rfl h (fun _ h => ?_) (fun _ h => ?_)
        · refine x_sub [1, 2, 3] (L' := [(0, _), (1, _), (2, _)]) rfl ?_
          refine x_pc (pc' := 41) rfl ?_
          exact b_X0_streamNear_41 C0 kr n (fun l1 l2 h => ih l1 l2 h) _ _ h
        · refine x_iload_n C0 dX0_streamNear_39 rfl 3 rfl ?_
          obtain rfl := x_inj h
          exact x_iret C0 dX0_streamNear_40
set_option maxRecDepth 4000 in
set_option maxHeartbeats 2000000 in
theorem c_X0_streamNear {l : Launch} {D : va_G} {cs : Nat → ClassId} {ad : Nat → Nat} (n : Nat) {σ : xM} {r : Nat} {x1 : Int32} (kr : xk 0 r) {res : Int32} (h : F_X0_streamNear n σ r x1 = some res) : x_Met l yX0_streamNear [Cond.code yX0_streamNear cX0_streamNear 4 (some FieldType.int)] ({ frames := 2, cells := 0, slots := 0, locals := 44 } : Room) D vwCl (xtys cs) 47 ad (wfS cs ad) [.ref (ad r), .int x1] σ (some (.int res)) σ := by
  refine x_Met_of (L0 := [(0, .ref (ad r)), (1, .int x1)]) (own := RX0) (by decide) rfl rfl wfS_loc (Nat.le_of_ble_eq_true rfl) rfl ?_
  intro p e s m args below meth c A C0
  refine x_aload_n C0 dX0_streamNear_0 rfl 0 rfl ?_
  refine x_get C0 inu0 rfl 0 (by decide) mw_105 kr.1 (wfS_0 kr.2) rfl dX0_streamNear_1 ?_
  obtain ⟨c1, ec1, h⟩ := x_bind h
  refine x_top (v' := .ref (ad c1)) (x_rf ec1) ?_
  have kc1 := ty_0_0 kr ec1
  refine x_getN C0 inu1 rfl 3 (by decide) mw_80 kc1.1 (wfS_1 kc1.2) rfl dX0_streamNear_4 ?_
  refine x_iconst C0 (v := 1) dX0_streamNear_7 ki_1 ?_
  refine x_isub C0 dX0_streamNear_8 ?_
  refine x_istore_n C0 dX0_streamNear_9 rfl (L' := [(2, _), (0, _), (1, _)]) (by decide) rfl ?_
  refine x_sub [1, 2, 0] (L' := [(0, _), (1, _), (2, _)]) rfl ?_
  refine x_pc (pc' := 10) rfl ?_
  exact b_X0_streamNear_10 C0 kr n n _ _ h
set_option maxRecDepth 4000 in
set_option maxHeartbeats 2000000 in
theorem b_X0_learnStream_72 {p : Program} {l : Launch} {e : Env} {s : State} {m : MethodId} {args : Array Value} {below : List Frame} {meth : Method} {c : Code} {D : va_G} {cs : Nat → ClassId} {ad : Nat → Nat} {A : Nat → Prop} (C0 : x_C p s m args meth c D vwCl (xtys cs) A s.heap 47 ad (wfS cs ad) cX0_learnStream 5 RX0 none) {r : Nat} (kr : xk 0 r) (n : Nat) {res : xM} : ∀ (σ : xM) (l1 : Int32) (l2 : Int32) (l3 : Int32) (l4 : Int32), B_X0_learnStream_72 n r σ l1 l2 l3 l4 = some res → x_W p l e ({ frames := 3, cells := 0, slots := 0, locals := 71 } : Room) s m args below meth c D vwCl A s.heap 47 ad (wfS cs ad) 5 0 0 (x_E below args s D vwCl 47 ad (wfS cs ad) A none res) σ 72 [(0, .ref (ad r)), (1, .int l1), (2, .int l2), (3, .int l3), (4, .int l4)] [] := by
  intro σ l1 l2 l3 l4 h
  refine x_aload_n C0 dX0_learnStream_72 rfl 0 rfl ?_
  refine x_iload_n C0 dX0_learnStream_73 rfl 2 rfl ?_
  refine x_iload_n C0 dX0_learnStream_74 rfl 1 rfl ?_
  refine x_iload_n C0 dX0_learnStream_75 rfl 3 rfl ?_
  refine x_iload C0 dX0_learnStream_76 4 rfl ?_
  obtain ⟨q9, eq9, h⟩ := x_bind h
  refine x_callV40 C0 (c_X0_updateRow n kr eq9) (x_cwV C0 mw_414 mw_416 mw_29 mw_48 mw_417 hd_yX0_updateRow ⟨rfl, rfl, Nat.le_of_ble_eq_true rfl, Nat.le_of_ble_eq_true rfl⟩) kr.1 rfl (wfS_0 kr.2) rfl ⟨Nat.zero_le _, Nat.zero_le _⟩ (Nat.le_of_ble_eq_true rfl) dX0_learnStream_78 ?_
  obtain rfl := x_inj h
  exact x_vret C0 dX0_learnStream_81
set_option maxRecDepth 4000 in
set_option maxHeartbeats 2000000 in
theorem b_X0_learnStream_37 {p : Program} {l : Launch} {e : Env} {s : State} {m : MethodId} {args : Array Value} {below : List Frame} {meth : Method} {c : Code} {D : va_G} {cs : Nat → ClassId} {ad : Nat → Nat} {A : Nat → Prop} (C0 : x_C p s m args meth c D vwCl (xtys cs) A s.heap 47 ad (wfS cs ad) cX0_learnStream 5 RX0 none) {r : Nat} (kr : xk 0 r) (n : Nat) {res : xM} : ∀ (σ : xM) (l1 : Int32) (l2 : Int32) (s0 : Int32), B_X0_learnStream_37 n r σ l1 l2 s0 = some res → x_W p l e ({ frames := 3, cells := 0, slots := 0, locals := 71 } : Room) s m args below meth c D vwCl A s.heap 47 ad (wfS cs ad) 5 0 0 (x_E below args s D vwCl 47 ad (wfS cs ad) A none res) σ 37 [(0, .ref (ad r)), (1, .int l1), (2, .int l2)] [.int s0] := by
  intro σ l1 l2 s0 h
  refine x_istore_n C0 dX0_learnStream_37 rfl (L' := [(3, _), (0, _), (1, _), (2, _)]) (by decide) rfl ?_
  refine x_iconst C0 (v := 1) dX0_learnStream_38 ki_1 ?_
  refine x_istore C0 dX0_learnStream_39 (L' := [(4, _), (3, _), (0, _), (1, _), (2, _)]) (by decide) rfl ?_
  refine x_iload_n C0 dX0_learnStream_41 rfl 1 rfl ?_
  refine x_aload_n C0 dX0_learnStream_42 rfl 2 rfl ?_
  refine x_get C0 inu0 rfl 0 (by decide) mw_105 kr.1 (wfS_0 kr.2) rfl dX0_learnStream_43 ?_
  obtain ⟨c5, ec5, h⟩ := x_bind h
  refine x_top (v' := .ref (ad c5)) (x_rf ec5) ?_
  have kc5 := ty_0_0 kr ec5
  refine x_iload_n C0 dX0_learnStream_46 rfl 4 rfl ?_
  refine x_pc (pc' := 47) rfl ?_
  refine x_iconst C0 (v := 2) dX0_learnStream_47 ki_2 ?_
  obtain ⟨q6, eq6, h⟩ := x_bind h
  refine x_callVN21 C0 (c_X1_get n kc5 eq6) (x_cwVN C0 mw_411 mw_304 mw_7 mw_46 mw_305 hd_yX1_get ⟨rfl, rfl, Nat.le_of_ble_eq_true rfl, Nat.le_of_ble_eq_true rfl⟩) kc5.1 rfl (wfS_1 kc5.2) rfl ⟨Nat.zero_le _, Nat.zero_le _⟩ (Nat.le_of_ble_eq_true rfl) dX0_learnStream_48 ?_
  refine x_icmp_ne C0 (tgt := 72) dX0_learnStream_51 rfl h (fun _ h => ?_) (fun _ h => ?_)
  · refine x_bipush C0 (v := 9) dX0_learnStream_54 kb_9 ?_
    refine x_aload_n C0 dX0_learnStream_56 rfl 2 rfl ?_
    refine x_get C0 inu0 rfl 0 (by decide) mw_105 kr.1 (wfS_0 kr.2) rfl dX0_learnStream_57 ?_
    obtain ⟨c7, ec7, h⟩ := x_bind h
    refine x_top (v' := .ref (ad c7)) (x_rf ec7) ?_
    have kc7 := ty_0_0 kr ec7
    refine x_iload_n C0 dX0_learnStream_60 rfl 4 rfl ?_
    refine x_iconst C0 (v := 3) dX0_learnStream_61 ki_3 ?_
    obtain ⟨q8, eq8, h⟩ := x_bind h
    refine x_callVN21 C0 (c_X1_get n kc7 eq8) (x_cwVN C0 mw_411 mw_304 mw_7 mw_46 mw_305 hd_yX1_get ⟨rfl, rfl, Nat.le_of_ble_eq_true rfl, Nat.le_of_ble_eq_true rfl⟩) kc7.1 rfl (wfS_1 kc7.2) rfl ⟨Nat.zero_le _, Nat.zero_le _⟩ (Nat.le_of_ble_eq_true rfl) dX0_learnStream_62 ?_
    refine x_iconst C0 (v := 1) dX0_learnStream_65 ki_1 ?_
    refine x_pc (pc' := 66) rfl ?_
    refine x_iadd C0 dX0_learnStream_66 ?_
    refine x_mmin C0 mw_412 mw_286 mw_47 mw_287 ⟨Nat.le_of_ble_eq_true rfl, Nat.le_of_ble_eq_true rfl, Nat.zero_le _, Nat.zero_le _⟩ dX0_learnStream_67 ?_
    refine x_top (v' := .int (jmin _ _)) rfl ?_
    refine x_istore C0 dX0_learnStream_70 (L' := [(4, _), (3, _), (0, _), (1, _), (2, _)]) (by decide) rfl ?_
    refine x_sub [2, 3, 4, 1, 0] (L' := [(0, _), (1, _), (2, _), (3, _), (4, _)]) rfl ?_
    refine x_pc (pc' := 72) rfl ?_
    exact b_X0_learnStream_72 C0 kr n _ _ _ _ _ h
  · refine x_sub [2, 3, 4, 1, 0] (L' := [(0, _), (1, _), (2, _), (3, _), (4, _)]) rfl ?_
    refine x_pc (pc' := 72) rfl ?_
    exact b_X0_learnStream_72 C0 kr n _ _ _ _ _ h
set_option maxRecDepth 4000 in
set_option maxHeartbeats 2000000 in
theorem c_X0_learnStream {l : Launch} {D : va_G} {cs : Nat → ClassId} {ad : Nat → Nat} (n : Nat) {σ : xM} {r : Nat} {x1 : Int32} (kr : xk 0 r) {res : xM} (h : F_X0_learnStream n σ r x1 = some res) : x_Met l yX0_learnStream [Cond.code yX0_learnStream cX0_learnStream 5 none] ({ frames := 3, cells := 0, slots := 0, locals := 71 } : Room) D vwCl (xtys cs) 47 ad (wfS cs ad) [.ref (ad r), .int x1] σ none res := by
  refine x_Met_of (L0 := [(0, .ref (ad r)), (1, .int x1)]) (own := RX0) (by decide) rfl rfl wfS_loc (Nat.le_of_ble_eq_true rfl) rfl ?_
  intro p e s m args below meth c A C0
  refine x_aload_n C0 dX0_learnStream_0 rfl 0 rfl ?_
  refine x_iload_n C0 dX0_learnStream_1 rfl 1 rfl ?_
  obtain ⟨q1, eq1, h⟩ := x_bind h
  refine x_callV11 C0 (c_X0_streamNear n kr eq1) (x_cwV C0 mw_432 mw_434 mw_33 mw_48 mw_435 hd_yX0_streamNear ⟨rfl, rfl, Nat.le_of_ble_eq_true rfl, Nat.le_of_ble_eq_true rfl⟩) kr.1 rfl (wfS_0 kr.2) rfl ⟨Nat.zero_le _, Nat.zero_le _⟩ (Nat.le_of_ble_eq_true rfl) dX0_learnStream_2 ?_
  refine x_istore_n C0 dX0_learnStream_5 rfl (L' := [(2, _), (0, _), (1, _)]) (by decide) rfl ?_
  refine x_iload_n C0 dX0_learnStream_6 rfl 0 rfl ?_
  refine x_if_ge C0 (tgt := 19) dX0_learnStream_7 rfl h (fun _ h => ?_) (fun _ h => ?_)
  · refine x_aload_n C0 dX0_learnStream_10 rfl 1 rfl ?_
    refine x_iconst C0 (v := 3) dX0_learnStream_11 ki_3 ?_
    refine x_ldc C0 mw_439 dX0_learnStream_12 ?_
    refine x_iload_n C0 dX0_learnStream_14 rfl 2 rfl ?_
    obtain ⟨q2, eq2, h⟩ := x_bind h
    refine x_callV30 C0 (c_X0_addRow n kr eq2) (x_cwV C0 mw_405 mw_407 mw_28 mw_48 mw_408 hd_yX0_addRow ⟨rfl, rfl, Nat.le_of_ble_eq_true rfl, Nat.le_of_ble_eq_true rfl⟩) kr.1 rfl (wfS_0 kr.2) rfl ⟨Nat.zero_le _, Nat.zero_le _⟩ (Nat.le_of_ble_eq_true rfl) dX0_learnStream_15 ?_
    obtain rfl := x_inj h
    exact x_vret C0 dX0_learnStream_18
  · refine x_iload_n C0 dX0_learnStream_19 rfl 2 rfl ?_
    refine x_aload_n C0 dX0_learnStream_20 rfl 1 rfl ?_
    refine x_get C0 inu0 rfl 0 (by decide) mw_105 kr.1 (wfS_0 kr.2) rfl dX0_learnStream_21 ?_
    obtain ⟨c3, ec3, h⟩ := x_bind h
    refine x_top (v' := .ref (ad c3)) (x_rf ec3) ?_
    have kc3 := ty_0_0 kr ec3
    refine x_iload_n C0 dX0_learnStream_24 rfl 0 rfl ?_
    refine x_iconst C0 (v := 1) dX0_learnStream_25 ki_1 ?_
    obtain ⟨q4, eq4, h⟩ := x_bind h
    refine x_callVN21 C0 (c_X1_get n kc3 eq4) (x_cwVN C0 mw_411 mw_304 mw_7 mw_46 mw_305 hd_yX1_get ⟨rfl, rfl, Nat.le_of_ble_eq_true rfl, Nat.le_of_ble_eq_true rfl⟩) kc3.1 rfl (wfS_1 kc3.2) rfl ⟨Nat.zero_le _, Nat.zero_le _⟩ (Nat.le_of_ble_eq_true rfl) dX0_learnStream_26 ?_
    refine x_icmp_le C0 (tgt := 36) dX0_learnStream_29 rfl h (fun _ h => ?_) (fun _ h => ?_)
    · refine x_iconst C0 (v := 1) dX0_learnStream_32 ki_1 ?_
      refine x_goto C0 (tgt := 37) dX0_learnStream_33 rfl ?_
      refine x_sub [1, 2, 0] (L' := [(0, _), (1, _), (2, _)]) rfl ?_
      refine x_pc (pc' := 37) rfl ?_
      exact b_X0_learnStream_37 C0 kr n _ _ _ _ h
    · refine x_iconst C0 (v := (-1)) dX0_learnStream_36 ki_m1 ?_
      refine x_sub [1, 2, 0] (L' := [(0, _), (1, _), (2, _)]) rfl ?_
      refine x_pc (pc' := 37) rfl ?_
      exact b_X0_learnStream_37 C0 kr n _ _ _ _ h
set_option maxRecDepth 4000 in
set_option maxHeartbeats 2000000 in
theorem c_X0_learn {l : Launch} {D : va_G} {cs : Nat → ClassId} {ad : Nat → Nat} (n : Nat) {σ : xM} {r : Nat} {x1 : Int32} {x2 : Int32} {x3 : Int32} (kr : xk 0 r) {res : xM} (h : F_X0_learn n σ r x1 x2 x3 = some res) : x_Met l yX0_learn [Cond.code yX0_learn cX0_learn 4 none] ({ frames := 4, cells := 0, slots := 0, locals := 97 } : Room) D vwCl (xtys cs) 47 ad (wfS cs ad) [.ref (ad r), .int x1, .int x2, .int x3] σ none res := by
  refine x_Met_of (L0 := [(0, .ref (ad r)), (1, .int x1), (2, .int x2), (3, .int x3)]) (own := RX0) (by decide) rfl rfl wfS_loc (Nat.le_of_ble_eq_true rfl) rfl ?_
  intro p e s m args below meth c A C0
  refine x_aload_n C0 dX0_learn_0 rfl 0 rfl ?_
  refine x_iconst C0 (v := 0) dX0_learn_1 ki_0 ?_
  refine x_put C0 inu0 tyX0 tyX0_ok nmX0 rfl 2 (by decide) mw_109 rfl rfl rfl kr.1 (wfS_0 kr.2) (Nat.le_of_ble_eq_true rfl) (wpS_0_2 kr.2) (fun r' h' k' => x_up_ne r' h' k') dX0_learn_2 ?_
  refine x_aload_n C0 dX0_learn_5 rfl 0 rfl ?_
  refine x_get C0 inu0 rfl 3 (by decide) mw_111 kr.1 (wfS_0 kr.2) rfl dX0_learn_6 ?_
  refine x_ite h (fun hc h => ?_) (fun hc0 h => ?_)
  · refine x_top (congrArg Value.int hc) ?_
    refine x_lookup C0 (off := 27) (tgt := 36) dX0_learn_9 (by decide) (by decide) rfl ?_
    refine x_aload_n C0 dX0_learn_36 rfl 0 rfl ?_
    refine x_iload_n C0 dX0_learn_37 rfl 1 rfl ?_
    refine x_iload_n C0 dX0_learn_38 rfl 2 rfl ?_
    obtain ⟨q2, eq2, h⟩ := x_bind h
    refine x_callV20 C0 (c_X0_learnStride n kr eq2) (x_cwV C0 mw_400 mw_402 mw_27 mw_48 mw_403 hd_yX0_learnStride ⟨rfl, rfl, Nat.le_of_ble_eq_true rfl, Nat.le_of_ble_eq_true rfl⟩) kr.1 rfl (wfS_0 kr.2) rfl ⟨Nat.zero_le _, Nat.zero_le _⟩ (Nat.le_of_ble_eq_true rfl) dX0_learn_39 ?_
    refine x_goto C0 (tgt := 68) dX0_learn_42 rfl ?_
    obtain rfl := x_inj h
    exact x_vret C0 dX0_learn_68
  · refine x_ite h (fun hc h => ?_) (fun hc1 h => ?_)
    · refine x_top (congrArg Value.int hc) ?_
      refine x_lookup C0 (off := 36) (tgt := 45) dX0_learn_9 (by decide) (by decide) rfl ?_
      refine x_iload_n C0 dX0_learn_45 rfl 3 rfl ?_
      refine x_iconst C0 (v := 1) dX0_learn_46 ki_1 ?_
      refine x_icmp_eq C0 (tgt := 68) dX0_learn_47 rfl h (fun _ h => ?_) (fun _ h => ?_)
      · obtain rfl := x_inj h
        exact x_vret C0 dX0_learn_68
      · refine x_aload_n C0 dX0_learn_50 rfl 0 rfl ?_
        refine x_iload_n C0 dX0_learn_51 rfl 2 rfl ?_
        obtain ⟨q3, eq3, h⟩ := x_bind h
        refine x_callV10 C0 (c_X0_learnStream n kr eq3) (x_cwV C0 mw_428 mw_430 mw_32 mw_48 mw_431 hd_yX0_learnStream ⟨rfl, rfl, Nat.le_of_ble_eq_true rfl, Nat.le_of_ble_eq_true rfl⟩) kr.1 rfl (wfS_0 kr.2) rfl ⟨Nat.zero_le _, Nat.zero_le _⟩ (Nat.le_of_ble_eq_true rfl) dX0_learn_52 ?_
        refine x_goto C0 (tgt := 68) dX0_learn_55 rfl ?_
        obtain rfl := x_inj h
        exact x_vret C0 dX0_learn_68
    · refine x_lookup C0 (off := 49) (tgt := 58) dX0_learn_9 (by decide) (x_lk01 hc0 hc1) rfl ?_
      refine x_iload_n C0 dX0_learn_58 rfl 3 rfl ?_
      refine x_if_ne C0 (tgt := 68) dX0_learn_59 rfl h (fun _ h => ?_) (fun _ h => ?_)
      · refine x_aload_n C0 dX0_learn_62 rfl 0 rfl ?_
        refine x_iload_n C0 dX0_learn_63 rfl 2 rfl ?_
        refine x_iconst C0 (v := 1) dX0_learn_64 ki_1 ?_
        obtain ⟨q4, eq4, h⟩ := x_bind h
        refine x_callV20 C0 (c_X0_wish n kr eq4) (x_cwV C0 mw_419 mw_421 mw_30 mw_48 mw_422 hd_yX0_wish ⟨rfl, rfl, Nat.le_of_ble_eq_true rfl, Nat.le_of_ble_eq_true rfl⟩) kr.1 rfl (wfS_0 kr.2) rfl ⟨Nat.zero_le _, Nat.zero_le _⟩ (Nat.le_of_ble_eq_true rfl) dX0_learn_65 ?_
        obtain rfl := x_inj h
        exact x_vret C0 dX0_learn_68
      · obtain rfl := x_inj h
        exact x_vret C0 dX0_learn_68
set_option maxRecDepth 4000 in
set_option maxHeartbeats 2000000 in
theorem c_X0_wishAt {l : Launch} {D : va_G} {cs : Nat → ClassId} {ad : Nat → Nat} (n : Nat) {σ : xM} {r : Nat} {x1 : Int32} (kr : xk 0 r) {res : Int32} (h : F_X0_wishAt n σ r x1 = some res) : x_Met l yX0_wishAt [Cond.code yX0_wishAt cX0_wishAt 2 (some FieldType.int)] ({ frames := 0, cells := 0, slots := 0, locals := 0 } : Room) D vwCl (xtys cs) 47 ad (wfS cs ad) [.ref (ad r), .int x1] σ (some (.int res)) σ := by
  refine x_Met_of (L0 := [(0, .ref (ad r)), (1, .int x1)]) (own := RX0) (by decide) rfl rfl wfS_loc (Nat.le_of_ble_eq_true rfl) rfl ?_
  intro p e s m args below meth c A C0
  refine x_iload_n C0 dX0_wishAt_0 rfl 1 rfl ?_
  refine x_if_lt C0 (tgt := 30) dX0_wishAt_1 rfl h (fun _ h => ?_) (fun _ h => ?_)
  · refine x_ldc C0 mw_439 dX0_wishAt_30 ?_
    obtain rfl := x_inj h
    exact x_iret C0 dX0_wishAt_32
  · refine x_iload_n C0 dX0_wishAt_4 rfl 1 rfl ?_
    refine x_aload_n C0 dX0_wishAt_5 rfl 0 rfl ?_
    refine x_get C0 inu0 rfl 2 (by decide) mw_109 kr.1 (wfS_0 kr.2) rfl dX0_wishAt_6 ?_
    refine x_icmp_ge C0 (tgt := 30) dX0_wishAt_9 rfl h (fun _ h => ?_) (fun _ h => ?_)
    · refine x_iload_n C0 dX0_wishAt_12 rfl 1 rfl ?_
      refine x_aload_n C0 dX0_wishAt_13 rfl 0 rfl ?_
      refine x_get C0 inu0 rfl 1 (by decide) mw_107 kr.1 (wfS_0 kr.2) rfl dX0_wishAt_14 ?_
      obtain ⟨c1, ec1, h⟩ := x_bind h
      refine x_top (v' := .ref (ad c1)) (x_rf ec1) ?_
      have kc1 := ty_0_1 kr ec1
      refine x_alen C0 1 rfl kc1.1 (wfS_7 kc1.2) dX0_wishAt_17 ?_
      refine x_icmp_ge C0 (tgt := 30) dX0_wishAt_18 rfl h (fun _ h => ?_) (fun _ h => ?_)
      · refine x_aload_n C0 dX0_wishAt_21 rfl 0 rfl ?_
        refine x_get C0 inu0 rfl 1 (by decide) mw_107 kr.1 (wfS_0 kr.2) rfl dX0_wishAt_22 ?_
        obtain ⟨c2, ec2, h⟩ := x_bind h
        refine x_top (v' := .ref (ad c2)) (x_rf ec2) ?_
        have kc2 := ty_0_1 kr ec2
        refine x_iload_n C0 dX0_wishAt_25 rfl 1 rfl ?_
        refine x_iald C0 1 rfl kc2.1 (wfS_7 kc2.2) dX0_wishAt_26 h (fun _ h => ?_)
        refine x_goto C0 (tgt := 32) dX0_wishAt_27 rfl ?_
        obtain rfl := x_inj h
        exact x_iret C0 dX0_wishAt_32
      · refine x_ldc C0 mw_439 dX0_wishAt_30 ?_
        obtain rfl := x_inj h
        exact x_iret C0 dX0_wishAt_32
    · refine x_ldc C0 mw_439 dX0_wishAt_30 ?_
      obtain rfl := x_inj h
      exact x_iret C0 dX0_wishAt_32
set_option maxRecDepth 4000 in
set_option maxHeartbeats 2000000 in
theorem b_X2_setAt_19 {p : Program} {l : Launch} {e : Env} {s : State} {m : MethodId} {args : Array Value} {below : List Frame} {meth : Method} {c : Code} {D : va_G} {cs : Nat → ClassId} {ad : Nat → Nat} {A : Nat → Prop} (C0 : x_C p s m args meth c D vwCl (xtys cs) A s.heap 47 ad (wfS cs ad) cX2_setAt 2 RX2 (some (FieldType.object RX1)))  (n : Nat) {σ : xM} {res : (Option Nat)} : ∀ (s1 : Int32), B_X2_setAt_19 n σ s1 = some res → x_W p l e ({ frames := 1, cells := 0, slots := 0, locals := 22 } : Room) s m args below meth c D vwCl A s.heap 47 ad (wfS cs ad) 2 0 0 (x_E below args s D vwCl 47 ad (wfS cs ad) A (some (va_rf (res.map ad))) σ) σ 19 [] [.int s1, .ref (ad 1)] := by
  intro s1 h
  refine x_aald C0 3 rfl kS_1.1 (wfS_9 kS_1.2) dX2_setAt_19 h (fun _ h => ?_)
  obtain rfl := x_inj h
  exact x_aret C0 (Or.inl ⟨_, rfl⟩) x_rfv dX2_setAt_20
set_option maxRecDepth 4000 in
set_option maxHeartbeats 2000000 in
theorem c_X2_setAt {l : Launch} {D : va_G} {cs : Nat → ClassId} {ad : Nat → Nat} (n : Nat) {σ : xM} {x1 : Int32}  {res : (Option Nat)} (h : F_X2_setAt n σ x1 = some res) : x_Met l yX2_setAt [Cond.code yX2_setAt cX2_setAt 2 (some (FieldType.object RX1))] ({ frames := 1, cells := 0, slots := 0, locals := 22 } : Room) D vwCl (xtys cs) 47 ad (wfS cs ad) [.ref (ad 0), .int x1] σ (some (va_rf (res.map ad))) σ := by
  refine x_Met_of (L0 := [(0, .ref (ad 0)), (1, .int x1)]) (own := RX2) (by decide) rfl rfl wfS_loc (Nat.le_of_ble_eq_true rfl) rfl ?_
  intro p e s m args below meth c A C0
  refine x_aload_n C0 dX2_setAt_0 rfl 0 rfl ?_
  refine x_get C0 inu2 rfl 0 (by decide) mw_175 kS_0.1 (wfS_2 kS_0.2) rfl dX2_setAt_1 ?_
  refine x_top (v' := .ref (ad 1)) rfl ?_
  refine x_iload_n C0 dX2_setAt_4 rfl 1 rfl ?_
  refine x_iconst C0 (v := 0) dX2_setAt_5 ki_0 ?_
  refine x_bipush C0 (v := 7) dX2_setAt_6 kb_7 ?_
  refine x_pureSN3 C0 (fun ad' => c_X4_isOutside rfl) (x_cwSN C0 mw_316 mw_269 mw_44 mw_270 hd_yX4_isOutside ⟨rfl, rfl, Nat.le_of_ble_eq_true rfl, Nat.le_of_ble_eq_true rfl⟩) ⟨Nat.zero_le _, Nat.zero_le _⟩ (Nat.le_of_ble_eq_true rfl) dX2_setAt_8 ?_
  refine x_if_eq C0 (tgt := 18) dX2_setAt_11 rfl h (fun _ h => ?_) (fun _ h => ?_)
  · refine x_iload_n C0 dX2_setAt_18 rfl 1 rfl ?_
    refine x_sub [] (L' := []) rfl ?_
    refine x_pc (pc' := 19) rfl ?_
    exact b_X2_setAt_19 C0 n _ h
  · refine x_iconst C0 (v := 0) dX2_setAt_14 ki_0 ?_
    refine x_goto C0 (tgt := 19) dX2_setAt_15 rfl ?_
    refine x_sub [] (L' := []) rfl ?_
    refine x_pc (pc' := 19) rfl ?_
    exact b_X2_setAt_19 C0 n _ h
set_option maxRecDepth 4000 in
set_option maxHeartbeats 2000000 in
theorem b_X2_setOf_18 {p : Program} {l : Launch} {e : Env} {s : State} {m : MethodId} {args : Array Value} {below : List Frame} {meth : Method} {c : Code} {D : va_G} {cs : Nat → ClassId} {ad : Nat → Nat} {A : Nat → Prop} (C0 : x_C p s m args meth c D vwCl (xtys cs) A s.heap 47 ad (wfS cs ad) cX2_setOf 2 RX2 (some (FieldType.object RX1)))  (n : Nat) {σ : xM} {res : (Option Nat)} : ∀ (s1 : Int32), B_X2_setOf_18 n σ s1 = some res → x_W p l e ({ frames := 2, cells := 0, slots := 0, locals := 43 } : Room) s m args below meth c D vwCl A s.heap 47 ad (wfS cs ad) 2 0 0 (x_E below args s D vwCl 47 ad (wfS cs ad) A (some (va_rf (res.map ad))) σ) σ 18 [] [.int s1, .ref (ad 0)] := by
  intro s1 h
  obtain ⟨q1, eq1, h⟩ := x_bind h
  refine x_callV11 C0 (c_X2_setAt n eq1) (x_cwV C0 mw_375 mw_377 mw_21 mw_45 mw_378 hd_yX2_setAt ⟨rfl, rfl, Nat.le_of_ble_eq_true rfl, Nat.le_of_ble_eq_true rfl⟩) kS_0.1 rfl (wfS_2 kS_0.2) rfl ⟨Nat.zero_le _, Nat.zero_le _⟩ (Nat.le_of_ble_eq_true rfl) dX2_setOf_18 ?_
  obtain rfl := x_inj h
  exact x_aret C0 (Or.inl ⟨_, rfl⟩) x_rfv dX2_setOf_21
set_option maxRecDepth 4000 in
set_option maxHeartbeats 2000000 in
theorem c_X2_setOf {l : Launch} {D : va_G} {cs : Nat → ClassId} {ad : Nat → Nat} (n : Nat) {σ : xM} {x1 : Int32}  {res : (Option Nat)} (h : F_X2_setOf n σ x1 = some res) : x_Met l yX2_setOf [Cond.code yX2_setOf cX2_setOf 2 (some (FieldType.object RX1))] ({ frames := 2, cells := 0, slots := 0, locals := 43 } : Room) D vwCl (xtys cs) 47 ad (wfS cs ad) [.ref (ad 0), .int x1] σ (some (va_rf (res.map ad))) σ := by
  refine x_Met_of (L0 := [(0, .ref (ad 0)), (1, .int x1)]) (own := RX2) (by decide) rfl rfl wfS_loc (Nat.le_of_ble_eq_true rfl) rfl ?_
  intro p e s m args below meth c A C0
  refine x_aload_n C0 dX2_setOf_0 rfl 0 rfl ?_
  refine x_aload_n C0 dX2_setOf_1 rfl 0 rfl ?_
  refine x_get C0 inu2 rfl 4 (by decide) mw_181 kS_0.1 (wfS_2 kS_0.2) rfl dX2_setOf_2 ?_
  refine x_if_le C0 (tgt := 17) dX2_setOf_5 rfl h (fun _ h => ?_) (fun _ h => ?_)
  · refine x_iload_n C0 dX2_setOf_8 rfl 1 rfl ?_
    refine x_aload_n C0 dX2_setOf_9 rfl 0 rfl ?_
    refine x_get C0 inu2 rfl 4 (by decide) mw_181 kS_0.1 (wfS_2 kS_0.2) rfl dX2_setOf_10 ?_
    refine x_irem C0 dX2_setOf_13 h (fun _ h => ?_)
    refine x_goto C0 (tgt := 18) dX2_setOf_14 rfl ?_
    refine x_sub [] (L' := []) rfl ?_
    refine x_pc (pc' := 18) rfl ?_
    exact b_X2_setOf_18 C0 n _ h
  · refine x_iconst C0 (v := 0) dX2_setOf_17 ki_0 ?_
    refine x_sub [] (L' := []) rfl ?_
    refine x_pc (pc' := 18) rfl ?_
    exact b_X2_setOf_18 C0 n _ h
set_option maxRecDepth 4000 in
set_option maxHeartbeats 2000000 in
theorem c_X2_helperAt {l : Launch} {D : va_G} {cs : Nat → ClassId} {ad : Nat → Nat} (n : Nat) {σ : xM} {x1 : Int32}  {res : (Option Nat)} (h : F_X2_helperAt n σ x1 = some res) : x_Met l yX2_helperAt [Cond.code yX2_helperAt cX2_helperAt 2 (some (FieldType.object RX0))] ({ frames := 1, cells := 0, slots := 0, locals := 22 } : Room) D vwCl (xtys cs) 47 ad (wfS cs ad) [.ref (ad 0), .int x1] σ (some (va_rf (res.map ad))) σ := by
  refine x_Met_of (L0 := [(0, .ref (ad 0)), (1, .int x1)]) (own := RX2) (by decide) rfl rfl wfS_loc (Nat.le_of_ble_eq_true rfl) rfl ?_
  intro p e s m args below meth c A C0
  refine x_iload_n C0 dX2_helperAt_0 rfl 1 rfl ?_
  refine x_iconst C0 (v := 0) dX2_helperAt_1 ki_0 ?_
  refine x_aload_n C0 dX2_helperAt_2 rfl 0 rfl ?_
  refine x_get C0 inu2 rfl 6 (by decide) mw_185 kS_0.1 (wfS_2 kS_0.2) rfl dX2_helperAt_3 ?_
  refine x_bipush C0 (v := 6) dX2_helperAt_6 kb_6 ?_
  refine x_mmin C0 mw_315 mw_286 mw_47 mw_287 ⟨Nat.le_of_ble_eq_true rfl, Nat.le_of_ble_eq_true rfl, Nat.zero_le _, Nat.zero_le _⟩ dX2_helperAt_8 ?_
  refine x_top (v' := .int (jmin _ _)) rfl ?_
  refine x_iconst C0 (v := 1) dX2_helperAt_11 ki_1 ?_
  refine x_pc (pc' := 12) rfl ?_
  refine x_isub C0 dX2_helperAt_12 ?_
  refine x_pureSN3 C0 (fun ad' => c_X4_isOutside rfl) (x_cwSN C0 mw_316 mw_269 mw_44 mw_270 hd_yX4_isOutside ⟨rfl, rfl, Nat.le_of_ble_eq_true rfl, Nat.le_of_ble_eq_true rfl⟩) ⟨Nat.zero_le _, Nat.zero_le _⟩ (Nat.le_of_ble_eq_true rfl) dX2_helperAt_13 ?_
  refine x_if_eq C0 (tgt := 23) dX2_helperAt_16 rfl h (fun _ h => ?_) (fun _ h => ?_)
  · refine x_aload_n C0 dX2_helperAt_23 rfl 0 rfl ?_
    refine x_get C0 inu2 rfl 2 (by decide) mw_178 kS_0.1 (wfS_2 kS_0.2) rfl dX2_helperAt_24 ?_
    refine x_top (v' := .ref (ad 20)) rfl ?_
    refine x_iload_n C0 dX2_helperAt_27 rfl 1 rfl ?_
    refine x_aald C0 2 rfl kS_20.1 (wfS_8 kS_20.2) dX2_helperAt_28 h (fun _ h => ?_)
    obtain rfl := x_inj h
    exact x_aret C0 (Or.inl ⟨_, rfl⟩) x_rfv dX2_helperAt_29
  · refine x_null C0 dX2_helperAt_19 ?_
    refine x_goto C0 (tgt := 29) dX2_helperAt_20 rfl ?_
    obtain rfl := x_inj h
    exact x_aret C0 (Or.inl ⟨_, rfl⟩) x_rfv dX2_helperAt_29
set_option maxRecDepth 4000 in
set_option maxHeartbeats 2000000 in
theorem c_X2_hire {l : Launch} {D : va_G} {cs : Nat → ClassId} {ad : Nat → Nat} (n : Nat) {σ : xM} {x1 : Int32} {x2 : Int32} {x3 : Int32}  {res : Int32 × xM} (h : F_X2_hire n σ x1 x2 x3 = some res) : x_Met l yX2_hire [Cond.code yX2_hire cX2_hire 4 (some FieldType.int)] ({ frames := 1, cells := 0, slots := 0, locals := 23 } : Room) D vwCl (xtys cs) 47 ad (wfS cs ad) [.ref (ad 0), .int x1, .int x2, .int x3] σ (some (.int res.1)) res.2 := by
  refine x_Met_of (L0 := [(0, .ref (ad 0)), (1, .int x1), (2, .int x2), (3, .int x3)]) (own := RX2) (by decide) rfl rfl wfS_loc (Nat.le_of_ble_eq_true rfl) rfl ?_
  intro p e s m args below meth c A C0
  refine x_aload_n C0 dX2_hire_0 rfl 0 rfl ?_
  refine x_get C0 inu2 rfl 6 (by decide) mw_185 kS_0.1 (wfS_2 kS_0.2) rfl dX2_hire_1 ?_
  refine x_iconst C0 (v := 0) dX2_hire_4 ki_0 ?_
  refine x_iconst C0 (v := 5) dX2_hire_5 ki_5 ?_
  refine x_pureSN3 C0 (fun ad' => c_X4_isOutside rfl) (x_cwSN C0 mw_316 mw_269 mw_44 mw_270 hd_yX4_isOutside ⟨rfl, rfl, Nat.le_of_ble_eq_true rfl, Nat.le_of_ble_eq_true rfl⟩) ⟨Nat.zero_le _, Nat.zero_le _⟩ (Nat.le_of_ble_eq_true rfl) dX2_hire_6 ?_
  refine x_if_eq C0 (tgt := 15) dX2_hire_9 rfl h (fun _ h => ?_) (fun _ h => ?_)
  · refine x_aload_n C0 dX2_hire_15 rfl 0 rfl ?_
    refine x_get C0 inu2 rfl 2 (by decide) mw_178 kS_0.1 (wfS_2 kS_0.2) rfl dX2_hire_16 ?_
    refine x_top (v' := .ref (ad 20)) rfl ?_
    refine x_aload_n C0 dX2_hire_19 rfl 0 rfl ?_
    refine x_get C0 inu2 rfl 6 (by decide) mw_185 kS_0.1 (wfS_2 kS_0.2) rfl dX2_hire_20 ?_
    refine x_aald C0 2 rfl kS_20.1 (wfS_8 kS_20.2) dX2_hire_23 h (fun _ h => ?_)
    obtain ⟨c1, ec1, h⟩ := x_bind h
    refine x_top (v' := .ref (ad c1)) (x_rf ec1) ?_
    have kc1 := ty_8 kS_20 ec1
    refine x_iload_n C0 dX2_hire_24 rfl 1 rfl ?_
    refine x_iload_n C0 dX2_hire_25 rfl 2 rfl ?_
    refine x_pc (pc' := 26) rfl ?_
    refine x_iload_n C0 dX2_hire_26 rfl 3 rfl ?_
    obtain ⟨q2, eq2, h⟩ := x_bind h
    refine x_callVN30 C0 (c_X0_begin n kc1 eq2) (x_cwVN C0 mw_347 mw_103 mw_0 mw_48 mw_104 hd_yX0_begin ⟨rfl, rfl, Nat.le_of_ble_eq_true rfl, Nat.le_of_ble_eq_true rfl⟩) kc1.1 rfl (wfS_0 kc1.2) rfl ⟨Nat.zero_le _, Nat.zero_le _⟩ (Nat.le_of_ble_eq_true rfl) dX2_hire_27 ?_
    refine x_aload_n C0 dX2_hire_30 rfl 0 rfl ?_
    refine x_dup C0 dX2_hire_31 rfl ?_
    refine x_get C0 inu2 rfl 6 (by decide) mw_185 kS_0.1 (wfS_2 kS_0.2) rfl dX2_hire_32 ?_
    refine x_iconst C0 (v := 1) dX2_hire_35 ki_1 ?_
    refine x_iadd C0 dX2_hire_36 ?_
    refine x_put C0 inu2 tyX2 tyX2_ok nmX2 rfl 6 (by decide) mw_185 rfl rfl rfl kS_0.1 (wfS_2 kS_0.2) (Nat.le_of_ble_eq_true rfl) (wpS_2_6 kS_0.2) (fun r' h' k' => x_up_ne r' h' k') dX2_hire_37 ?_
    refine x_pc (pc' := 40) rfl ?_
    refine x_aload_n C0 dX2_hire_40 rfl 0 rfl ?_
    refine x_get C0 inu2 rfl 6 (by decide) mw_185 kS_0.1 (wfS_2 kS_0.2) rfl dX2_hire_41 ?_
    refine x_iconst C0 (v := 1) dX2_hire_44 ki_1 ?_
    refine x_isub C0 dX2_hire_45 ?_
    obtain rfl := x_inj h
    exact x_iret C0 dX2_hire_46
  · refine x_ldc C0 mw_346 dX2_hire_12 ?_
    obtain rfl := x_inj h
    exact x_iret C0 dX2_hire_14
set_option maxRecDepth 4000 in
set_option maxHeartbeats 2000000 in
theorem c_X2_punishThrower {l : Launch} {D : va_G} {cs : Nat → ClassId} {ad : Nat → Nat} (n : Nat) {σ : xM} {x1 : Int32}  {res : xM} (h : F_X2_punishThrower n σ x1 = some res) : x_Met l yX2_punishThrower [Cond.code yX2_punishThrower cX2_punishThrower 3 none] ({ frames := 2, cells := 0, slots := 0, locals := 44 } : Room) D vwCl (xtys cs) 47 ad (wfS cs ad) [.ref (ad 0), .int x1] σ none res := by
  refine x_Met_of (L0 := [(0, .ref (ad 0)), (1, .int x1)]) (own := RX2) (by decide) rfl rfl wfS_loc (Nat.le_of_ble_eq_true rfl) rfl ?_
  intro p e s m args below meth c A C0
  refine x_aload_n C0 dX2_punishThrower_0 rfl 0 rfl ?_
  refine x_aload_n C0 dX2_punishThrower_1 rfl 0 rfl ?_
  refine x_get C0 inu2 rfl 1 (by decide) mw_176 kS_0.1 (wfS_2 kS_0.2) rfl dX2_punishThrower_2 ?_
  refine x_top (v' := .ref (ad 18)) rfl ?_
  refine x_aload_n C0 dX2_punishThrower_5 rfl 0 rfl ?_
  refine x_get C0 inu2 rfl 1 (by decide) mw_176 kS_0.1 (wfS_2 kS_0.2) rfl dX2_punishThrower_6 ?_
  refine x_top (v' := .ref (ad 18)) rfl ?_
  refine x_iload_n C0 dX2_punishThrower_9 rfl 1 rfl ?_
  obtain ⟨q1, eq1, h⟩ := x_bind h
  refine x_callVN11 C0 (c_X1_find n kS_18 eq1) (x_cwVN C0 mw_379 mw_381 mw_22 mw_46 mw_382 hd_yX1_find ⟨rfl, rfl, Nat.le_of_ble_eq_true rfl, Nat.le_of_ble_eq_true rfl⟩) kS_18.1 rfl (wfS_1 kS_18.2) rfl ⟨Nat.zero_le _, Nat.zero_le _⟩ (Nat.le_of_ble_eq_true rfl) dX2_punishThrower_10 ?_
  refine x_pc (pc' := 13) rfl ?_
  refine x_iconst C0 (v := 1) dX2_punishThrower_13 ki_1 ?_
  obtain ⟨q2, eq2, h⟩ := x_bind h
  refine x_callVN21 C0 (c_X1_get n kS_18 eq2) (x_cwVN C0 mw_302 mw_304 mw_7 mw_46 mw_305 hd_yX1_get ⟨rfl, rfl, Nat.le_of_ble_eq_true rfl, Nat.le_of_ble_eq_true rfl⟩) kS_18.1 rfl (wfS_1 kS_18.2) rfl ⟨Nat.zero_le _, Nat.zero_le _⟩ (Nat.le_of_ble_eq_true rfl) dX2_punishThrower_14 ?_
  obtain ⟨q3, eq3, h⟩ := x_bind h
  refine x_callV11 C0 (c_X2_helperAt n eq3) (x_cwV C0 mw_311 mw_313 mw_9 mw_45 mw_314 hd_yX2_helperAt ⟨rfl, rfl, Nat.le_of_ble_eq_true rfl, Nat.le_of_ble_eq_true rfl⟩) kS_0.1 rfl (wfS_2 kS_0.2) rfl ⟨Nat.zero_le _, Nat.zero_le _⟩ (Nat.le_of_ble_eq_true rfl) dX2_punishThrower_17 ?_
  rcases q3 with _ | c4
  · replace h := x_on h
    refine x_top (v' := .null) rfl ?_
    refine x_astore_nN C0 dX2_punishThrower_20 rfl (L' := [(2, _), (0, _), (1, _)]) (by decide) rfl ?_
    refine x_aload_nN C0 dX2_punishThrower_21 rfl 0 rfl ?_
    refine x_ifnullN C0 (tgt := 40) dX2_punishThrower_22 rfl ?_
    obtain rfl := x_inj h
    exact x_vret C0 dX2_punishThrower_40
  · replace h := x_os h
    refine x_top (v' := .ref (ad c4)) rfl ?_
    have kc4 := tyF_X2_helperAt eq3
    refine x_astore_n C0 dX2_punishThrower_20 rfl (L' := [(2, _), (0, _), (1, _)]) (by decide) rfl ?_
    refine x_aload_n C0 dX2_punishThrower_21 rfl 0 rfl ?_
    refine x_ifnull C0 dX2_punishThrower_22 ?_
    refine x_aload_n C0 dX2_punishThrower_25 rfl 0 rfl ?_
    refine x_dup C0 dX2_punishThrower_26 rfl ?_
    refine x_getN C0 inu0 rfl 12 (by decide) mw_134 kc4.1 (wfS_0 kc4.2) rfl dX2_punishThrower_27 ?_
    refine x_iconst C0 (v := 1) dX2_punishThrower_30 ki_1 ?_
    refine x_pc (pc' := 31) rfl ?_
    refine x_iadd C0 dX2_punishThrower_31 ?_
    refine x_putN C0 inu0 tyX0 tyX0_ok nmX0 rfl 12 (by decide) mw_134 rfl rfl rfl kc4.1 (wfS_0 kc4.2) (Nat.le_of_ble_eq_true rfl) (wpS_0_12 kc4.2) (fun r' h' k' => x_up_ne r' h' k') dX2_punishThrower_32 ?_
    refine x_aload_n C0 dX2_punishThrower_35 rfl 0 rfl ?_
    refine x_iconst C0 (v := 2) dX2_punishThrower_36 ki_2 ?_
    obtain ⟨q6, eq6, h⟩ := x_bind h
    refine x_callVN10 C0 (c_X0_sentence n kc4 eq6) (x_cwVN C0 mw_333 mw_335 mw_14 mw_48 mw_336 hd_yX0_sentence ⟨rfl, rfl, Nat.le_of_ble_eq_true rfl, Nat.le_of_ble_eq_true rfl⟩) kc4.1 rfl (wfS_0 kc4.2) rfl ⟨Nat.zero_le _, Nat.zero_le _⟩ (Nat.le_of_ble_eq_true rfl) dX2_punishThrower_37 ?_
    obtain rfl := x_inj h
    exact x_vret C0 dX2_punishThrower_40
set_option maxRecDepth 4000 in
set_option maxHeartbeats 2000000 in
theorem b_X2_throwOldest_34 {p : Program} {l : Launch} {e : Env} {s : State} {m : MethodId} {args : Array Value} {below : List Frame} {meth : Method} {c : Code} {D : va_G} {cs : Nat → ClassId} {ad : Nat → Nat} {A : Nat → Prop} (C0 : x_C p s m args meth c D vwCl (xtys cs) A s.heap 47 ad (wfS cs ad) cX2_throwOldest 7 RX2 none)  (n : Nat) {res : xM} : ∀ (σ : xM) (a1 : Nat) (l2 : Int32) (l3 : Int32) (a4 : Nat) (s0 : Int32) (ka1 : xk 1 a1) (ka4 : xk 0 a4), B_X2_throwOldest_34 n σ a1 l2 l3 a4 s0 = some res → x_W p l e ({ frames := 2, cells := 0, slots := 0, locals := 45 } : Room) s m args below meth c D vwCl A s.heap 47 ad (wfS cs ad) 7 0 0 (x_E below args s D vwCl 47 ad (wfS cs ad) A none res) σ 34 [(0, .ref (ad 0)), (1, .ref (ad a1)), (2, .int l2), (3, .int l3), (4, .ref (ad a4))] [.int s0] := by
  intro σ a1 l2 l3 a4 s0 ka1 ka4 h
  refine x_istore C0 dX2_throwOldest_34 (L' := [(5, _), (0, _), (1, _), (2, _), (3, _), (4, _)]) (by decide) rfl ?_
  refine x_aload_n C0 dX2_throwOldest_36 rfl 2 rfl ?_
  refine x_iconst C0 (v := 0) dX2_throwOldest_37 ki_0 ?_
  obtain ⟨q12, eq12, h⟩ := x_bind h
  refine x_callVN10 C0 (c_X1_remove n ka1 eq12) (x_cwVN C0 mw_317 mw_319 mw_10 mw_46 mw_320 hd_yX1_remove ⟨rfl, rfl, Nat.le_of_ble_eq_true rfl, Nat.le_of_ble_eq_true rfl⟩) ka1.1 rfl (wfS_1 ka1.2) rfl ⟨Nat.zero_le _, Nat.zero_le _⟩ (Nat.le_of_ble_eq_true rfl) dX2_throwOldest_38 ?_
  refine x_aload_n C0 dX2_throwOldest_41 rfl 1 rfl ?_
  refine x_get C0 inu2 rfl 1 (by decide) mw_176 kS_0.1 (wfS_2 kS_0.2) rfl dX2_throwOldest_42 ?_
  refine x_top (v' := .ref (ad 18)) rfl ?_
  refine x_bipush C0 (v := 8) dX2_throwOldest_45 kb_8 ?_
  refine x_pc (pc' := 47) rfl ?_
  obtain ⟨q13, eq13, h⟩ := x_bind h
  refine x_callVN11 C0 (c_X1_open n kS_18 eq13) (x_cwVN C0 mw_325 mw_327 mw_12 mw_46 mw_328 hd_yX1_open ⟨rfl, rfl, Nat.le_of_ble_eq_true rfl, Nat.le_of_ble_eq_true rfl⟩) kS_18.1 rfl (wfS_1 kS_18.2) rfl ⟨Nat.zero_le _, Nat.zero_le _⟩ (Nat.le_of_ble_eq_true rfl) dX2_throwOldest_47 ?_
  refine x_istore C0 dX2_throwOldest_50 (L' := [(6, _), (5, _), (0, _), (1, _), (2, _), (3, _), (4, _)]) (by decide) rfl ?_
  refine x_aload_n C0 dX2_throwOldest_52 rfl 2 rfl ?_
  refine x_get C0 inu2 rfl 1 (by decide) mw_176 kS_0.1 (wfS_2 kS_0.2) rfl dX2_throwOldest_53 ?_
  refine x_top (v' := .ref (ad 18)) rfl ?_
  refine x_iload C0 dX2_throwOldest_56 0 rfl ?_
  refine x_iconst C0 (v := 0) dX2_throwOldest_58 ki_0 ?_
  refine x_iload_n C0 dX2_throwOldest_59 rfl 5 rfl ?_
  obtain ⟨q14, eq14, h⟩ := x_bind h
  refine x_callVN30 C0 (c_X1_put n kS_18 eq14) (x_cwVN C0 mw_329 mw_331 mw_13 mw_46 mw_332 hd_yX1_put ⟨rfl, rfl, Nat.le_of_ble_eq_true rfl, Nat.le_of_ble_eq_true rfl⟩) kS_18.1 rfl (wfS_1 kS_18.2) rfl ⟨Nat.zero_le _, Nat.zero_le _⟩ (Nat.le_of_ble_eq_true rfl) dX2_throwOldest_60 ?_
  refine x_pc (pc' := 63) rfl ?_
  refine x_aload_n C0 dX2_throwOldest_63 rfl 2 rfl ?_
  refine x_get C0 inu2 rfl 1 (by decide) mw_176 kS_0.1 (wfS_2 kS_0.2) rfl dX2_throwOldest_64 ?_
  refine x_top (v' := .ref (ad 18)) rfl ?_
  refine x_iload C0 dX2_throwOldest_67 0 rfl ?_
  refine x_iconst C0 (v := 1) dX2_throwOldest_69 ki_1 ?_
  refine x_iload_n C0 dX2_throwOldest_70 rfl 4 rfl ?_
  obtain ⟨q15, eq15, h⟩ := x_bind h
  refine x_callVN30 C0 (c_X1_put n kS_18 eq15) (x_cwVN C0 mw_329 mw_331 mw_13 mw_46 mw_332 hd_yX1_put ⟨rfl, rfl, Nat.le_of_ble_eq_true rfl, Nat.le_of_ble_eq_true rfl⟩) kS_18.1 rfl (wfS_1 kS_18.2) rfl ⟨Nat.zero_le _, Nat.zero_le _⟩ (Nat.le_of_ble_eq_true rfl) dX2_throwOldest_71 ?_
  refine x_aload_n C0 dX2_throwOldest_74 rfl 2 rfl ?_
  refine x_dup C0 dX2_throwOldest_75 rfl ?_
  refine x_pc (pc' := 76) rfl ?_
  refine x_get C0 inu2 rfl 12 (by decide) mw_197 kS_0.1 (wfS_2 kS_0.2) rfl dX2_throwOldest_76 ?_
  refine x_iconst C0 (v := 1) dX2_throwOldest_79 ki_1 ?_
  refine x_iadd C0 dX2_throwOldest_80 ?_
  refine x_put C0 inu2 tyX2 tyX2_ok nmX2 rfl 12 (by decide) mw_197 rfl rfl rfl kS_0.1 (wfS_2 kS_0.2) (Nat.le_of_ble_eq_true rfl) (wpS_2_12 kS_0.2) (fun r' h' k' => x_up_ne r' h' k') dX2_throwOldest_81 ?_
  refine x_iload C0 dX2_throwOldest_84 1 rfl ?_
  refine x_if_eq C0 (tgt := 115) dX2_throwOldest_86 rfl h (fun _ h => ?_) (fun _ h => ?_)
  · obtain rfl := x_inj h
    exact x_vret C0 dX2_throwOldest_115
  · refine x_aload C0 dX2_throwOldest_89 6 rfl ?_
    refine x_ifnull C0 dX2_throwOldest_91 ?_
    refine x_aload C0 dX2_throwOldest_94 6 rfl ?_
    refine x_dup C0 dX2_throwOldest_96 rfl ?_
    refine x_getN C0 inu0 rfl 11 (by decide) mw_131 ka4.1 (wfS_0 ka4.2) rfl dX2_throwOldest_97 ?_
    refine x_iconst C0 (v := 1) dX2_throwOldest_100 ki_1 ?_
    refine x_iadd C0 dX2_throwOldest_101 ?_
    refine x_pc (pc' := 102) rfl ?_
    refine x_putN C0 inu0 tyX0 tyX0_ok nmX0 rfl 11 (by decide) mw_131 rfl rfl rfl ka4.1 (wfS_0 ka4.2) (Nat.le_of_ble_eq_true rfl) (wpS_0_11 ka4.2) (fun r' h' k' => x_up_ne r' h' k') dX2_throwOldest_102 ?_
    refine x_aload C0 dX2_throwOldest_105 6 rfl ?_
    refine x_aload C0 dX2_throwOldest_107 6 rfl ?_
    refine x_getN C0 inu0 rfl 5 (by decide) mw_116 ka4.1 (wfS_0 ka4.2) rfl dX2_throwOldest_109 ?_
    obtain ⟨q18, eq18, h⟩ := x_bind h
    refine x_callVN10 C0 (c_X0_sentence n ka4 eq18) (x_cwVN C0 mw_333 mw_335 mw_14 mw_48 mw_336 hd_yX0_sentence ⟨rfl, rfl, Nat.le_of_ble_eq_true rfl, Nat.le_of_ble_eq_true rfl⟩) ka4.1 rfl (wfS_0 ka4.2) rfl ⟨Nat.zero_le _, Nat.zero_le _⟩ (Nat.le_of_ble_eq_true rfl) dX2_throwOldest_112 ?_
    obtain rfl := x_inj h
    exact x_vret C0 dX2_throwOldest_115
set_option maxRecDepth 4000 in
set_option maxHeartbeats 2000000 in
theorem b_X2_throwOldest_34n4 {p : Program} {l : Launch} {e : Env} {s : State} {m : MethodId} {args : Array Value} {below : List Frame} {meth : Method} {c : Code} {D : va_G} {cs : Nat → ClassId} {ad : Nat → Nat} {A : Nat → Prop} (C0 : x_C p s m args meth c D vwCl (xtys cs) A s.heap 47 ad (wfS cs ad) cX2_throwOldest 7 RX2 none)  (n : Nat) {res : xM} : ∀ (σ : xM) (a1 : Nat) (l2 : Int32) (l3 : Int32) (s0 : Int32) (ka1 : xk 1 a1), B_X2_throwOldest_34n4 n σ a1 l2 l3 s0 = some res → x_W p l e ({ frames := 2, cells := 0, slots := 0, locals := 45 } : Room) s m args below meth c D vwCl A s.heap 47 ad (wfS cs ad) 7 0 0 (x_E below args s D vwCl 47 ad (wfS cs ad) A none res) σ 34 [(0, .ref (ad 0)), (1, .ref (ad a1)), (2, .int l2), (3, .int l3), (4, .null)] [.int s0] := by
  intro σ a1 l2 l3 s0 ka1 h
  refine x_istore C0 dX2_throwOldest_34 (L' := [(5, _), (0, _), (1, _), (2, _), (3, _), (4, _)]) (by decide) rfl ?_
  refine x_aload_n C0 dX2_throwOldest_36 rfl 2 rfl ?_
  refine x_iconst C0 (v := 0) dX2_throwOldest_37 ki_0 ?_
  obtain ⟨q7, eq7, h⟩ := x_bind h
  refine x_callVN10 C0 (c_X1_remove n ka1 eq7) (x_cwVN C0 mw_317 mw_319 mw_10 mw_46 mw_320 hd_yX1_remove ⟨rfl, rfl, Nat.le_of_ble_eq_true rfl, Nat.le_of_ble_eq_true rfl⟩) ka1.1 rfl (wfS_1 ka1.2) rfl ⟨Nat.zero_le _, Nat.zero_le _⟩ (Nat.le_of_ble_eq_true rfl) dX2_throwOldest_38 ?_
  refine x_aload_n C0 dX2_throwOldest_41 rfl 1 rfl ?_
  refine x_get C0 inu2 rfl 1 (by decide) mw_176 kS_0.1 (wfS_2 kS_0.2) rfl dX2_throwOldest_42 ?_
  refine x_top (v' := .ref (ad 18)) rfl ?_
  refine x_bipush C0 (v := 8) dX2_throwOldest_45 kb_8 ?_
  refine x_pc (pc' := 47) rfl ?_
  obtain ⟨q8, eq8, h⟩ := x_bind h
  refine x_callVN11 C0 (c_X1_open n kS_18 eq8) (x_cwVN C0 mw_325 mw_327 mw_12 mw_46 mw_328 hd_yX1_open ⟨rfl, rfl, Nat.le_of_ble_eq_true rfl, Nat.le_of_ble_eq_true rfl⟩) kS_18.1 rfl (wfS_1 kS_18.2) rfl ⟨Nat.zero_le _, Nat.zero_le _⟩ (Nat.le_of_ble_eq_true rfl) dX2_throwOldest_47 ?_
  refine x_istore C0 dX2_throwOldest_50 (L' := [(6, _), (5, _), (0, _), (1, _), (2, _), (3, _), (4, _)]) (by decide) rfl ?_
  refine x_aload_n C0 dX2_throwOldest_52 rfl 2 rfl ?_
  refine x_get C0 inu2 rfl 1 (by decide) mw_176 kS_0.1 (wfS_2 kS_0.2) rfl dX2_throwOldest_53 ?_
  refine x_top (v' := .ref (ad 18)) rfl ?_
  refine x_iload C0 dX2_throwOldest_56 0 rfl ?_
  refine x_iconst C0 (v := 0) dX2_throwOldest_58 ki_0 ?_
  refine x_iload_n C0 dX2_throwOldest_59 rfl 5 rfl ?_
  obtain ⟨q9, eq9, h⟩ := x_bind h
  refine x_callVN30 C0 (c_X1_put n kS_18 eq9) (x_cwVN C0 mw_329 mw_331 mw_13 mw_46 mw_332 hd_yX1_put ⟨rfl, rfl, Nat.le_of_ble_eq_true rfl, Nat.le_of_ble_eq_true rfl⟩) kS_18.1 rfl (wfS_1 kS_18.2) rfl ⟨Nat.zero_le _, Nat.zero_le _⟩ (Nat.le_of_ble_eq_true rfl) dX2_throwOldest_60 ?_
  refine x_pc (pc' := 63) rfl ?_
  refine x_aload_n C0 dX2_throwOldest_63 rfl 2 rfl ?_
  refine x_get C0 inu2 rfl 1 (by decide) mw_176 kS_0.1 (wfS_2 kS_0.2) rfl dX2_throwOldest_64 ?_
  refine x_top (v' := .ref (ad 18)) rfl ?_
  refine x_iload C0 dX2_throwOldest_67 0 rfl ?_
  refine x_iconst C0 (v := 1) dX2_throwOldest_69 ki_1 ?_
  refine x_iload_n C0 dX2_throwOldest_70 rfl 4 rfl ?_
  obtain ⟨q10, eq10, h⟩ := x_bind h
  refine x_callVN30 C0 (c_X1_put n kS_18 eq10) (x_cwVN C0 mw_329 mw_331 mw_13 mw_46 mw_332 hd_yX1_put ⟨rfl, rfl, Nat.le_of_ble_eq_true rfl, Nat.le_of_ble_eq_true rfl⟩) kS_18.1 rfl (wfS_1 kS_18.2) rfl ⟨Nat.zero_le _, Nat.zero_le _⟩ (Nat.le_of_ble_eq_true rfl) dX2_throwOldest_71 ?_
  refine x_aload_n C0 dX2_throwOldest_74 rfl 2 rfl ?_
  refine x_dup C0 dX2_throwOldest_75 rfl ?_
  refine x_pc (pc' := 76) rfl ?_
  refine x_get C0 inu2 rfl 12 (by decide) mw_197 kS_0.1 (wfS_2 kS_0.2) rfl dX2_throwOldest_76 ?_
  refine x_iconst C0 (v := 1) dX2_throwOldest_79 ki_1 ?_
  refine x_iadd C0 dX2_throwOldest_80 ?_
  refine x_put C0 inu2 tyX2 tyX2_ok nmX2 rfl 12 (by decide) mw_197 rfl rfl rfl kS_0.1 (wfS_2 kS_0.2) (Nat.le_of_ble_eq_true rfl) (wpS_2_12 kS_0.2) (fun r' h' k' => x_up_ne r' h' k') dX2_throwOldest_81 ?_
  refine x_iload C0 dX2_throwOldest_84 1 rfl ?_
  refine x_if_eq C0 (tgt := 115) dX2_throwOldest_86 rfl h (fun _ h => ?_) (fun _ h => ?_)
  · obtain rfl := x_inj h
    exact x_vret C0 dX2_throwOldest_115
  · refine x_aloadN C0 dX2_throwOldest_89 6 rfl ?_
    refine x_ifnullN C0 (tgt := 115) dX2_throwOldest_91 rfl ?_
    obtain rfl := x_inj h
    exact x_vret C0 dX2_throwOldest_115
set_option maxRecDepth 4000 in
set_option maxHeartbeats 2000000 in
theorem c_X2_throwOldest {l : Launch} {D : va_G} {cs : Nat → ClassId} {ad : Nat → Nat} (n : Nat) {σ : xM} {a1 : Nat} {x2 : Int32} (ka1 : xk 1 a1) {res : xM} (h : F_X2_throwOldest n σ a1 x2 = some res) : x_Met l yX2_throwOldest [Cond.code yX2_throwOldest cX2_throwOldest 7 none] ({ frames := 2, cells := 0, slots := 0, locals := 45 } : Room) D vwCl (xtys cs) 47 ad (wfS cs ad) [.ref (ad 0), .ref (ad a1), .int x2] σ none res := by
  refine x_Met_of (L0 := [(0, .ref (ad 0)), (1, .ref (ad a1)), (2, .int x2)]) (own := RX2) (by decide) rfl rfl wfS_loc (Nat.le_of_ble_eq_true rfl) rfl ?_
  intro p e s m args below meth c A C0
  refine x_aload_n C0 dX2_throwOldest_0 rfl 1 rfl ?_
  refine x_iconst C0 (v := 0) dX2_throwOldest_1 ki_0 ?_
  refine x_iconst C0 (v := 0) dX2_throwOldest_2 ki_0 ?_
  obtain ⟨q1, eq1, h⟩ := x_bind h
  refine x_callVN21 C0 (c_X1_get n ka1 eq1) (x_cwVN C0 mw_302 mw_304 mw_7 mw_46 mw_305 hd_yX1_get ⟨rfl, rfl, Nat.le_of_ble_eq_true rfl, Nat.le_of_ble_eq_true rfl⟩) ka1.1 rfl (wfS_1 ka1.2) rfl ⟨Nat.zero_le _, Nat.zero_le _⟩ (Nat.le_of_ble_eq_true rfl) dX2_throwOldest_3 ?_
  refine x_istore_n C0 dX2_throwOldest_6 rfl (L' := [(3, _), (0, _), (1, _), (2, _)]) (by decide) rfl ?_
  refine x_aload_n C0 dX2_throwOldest_7 rfl 1 rfl ?_
  refine x_aload_n C0 dX2_throwOldest_8 rfl 2 rfl ?_
  refine x_pc (pc' := 9) rfl ?_
  refine x_iconst C0 (v := 0) dX2_throwOldest_9 ki_0 ?_
  refine x_iconst C0 (v := 1) dX2_throwOldest_10 ki_1 ?_
  obtain ⟨q2, eq2, h⟩ := x_bind h
  refine x_callVN21 C0 (c_X1_get n ka1 eq2) (x_cwVN C0 mw_302 mw_304 mw_7 mw_46 mw_305 hd_yX1_get ⟨rfl, rfl, Nat.le_of_ble_eq_true rfl, Nat.le_of_ble_eq_true rfl⟩) ka1.1 rfl (wfS_1 ka1.2) rfl ⟨Nat.zero_le _, Nat.zero_le _⟩ (Nat.le_of_ble_eq_true rfl) dX2_throwOldest_11 ?_
  obtain ⟨q3, eq3, h⟩ := x_bind h
  refine x_callV11 C0 (c_X2_helperAt n eq3) (x_cwV C0 mw_311 mw_313 mw_9 mw_45 mw_314 hd_yX2_helperAt ⟨rfl, rfl, Nat.le_of_ble_eq_true rfl, Nat.le_of_ble_eq_true rfl⟩) kS_0.1 rfl (wfS_2 kS_0.2) rfl ⟨Nat.zero_le _, Nat.zero_le _⟩ (Nat.le_of_ble_eq_true rfl) dX2_throwOldest_14 ?_
  rcases q3 with _ | c4
  · replace h := x_on h
    refine x_top (v' := .null) rfl ?_
    refine x_astoreN C0 dX2_throwOldest_17 (L' := [(4, _), (3, _), (0, _), (1, _), (2, _)]) (by decide) rfl ?_
    refine x_aload_n C0 dX2_throwOldest_19 rfl 3 rfl ?_
    refine x_iconst C0 (v := 0) dX2_throwOldest_20 ki_0 ?_
    refine x_iconst C0 (v := 2) dX2_throwOldest_21 ki_2 ?_
    obtain ⟨q5, eq5, h⟩ := x_bind h
    refine x_callVN21 C0 (c_X1_get n ka1 eq5) (x_cwVN C0 mw_302 mw_304 mw_7 mw_46 mw_305 hd_yX1_get ⟨rfl, rfl, Nat.le_of_ble_eq_true rfl, Nat.le_of_ble_eq_true rfl⟩) ka1.1 rfl (wfS_1 ka1.2) rfl ⟨Nat.zero_le _, Nat.zero_le _⟩ (Nat.le_of_ble_eq_true rfl) dX2_throwOldest_22 ?_
    refine x_iconst C0 (v := 1) dX2_throwOldest_25 ki_1 ?_
    refine x_icmp_ne C0 (tgt := 33) dX2_throwOldest_26 rfl h (fun _ h => ?_) (fun _ h => ?_)
    · refine x_iconst C0 (v := 1) dX2_throwOldest_29 ki_1 ?_
      refine x_goto C0 (tgt := 34) dX2_throwOldest_30 rfl ?_
      refine x_sub [2, 3, 4, 1, 0] (L' := [(0, _), (1, _), (2, _), (3, _), (4, _)]) rfl ?_
      refine x_pc (pc' := 34) rfl ?_
      exact b_X2_throwOldest_34n4 C0 n _ _ _ _ _ ka1 h
    · refine x_iconst C0 (v := 0) dX2_throwOldest_33 ki_0 ?_
      refine x_sub [2, 3, 4, 1, 0] (L' := [(0, _), (1, _), (2, _), (3, _), (4, _)]) rfl ?_
      refine x_pc (pc' := 34) rfl ?_
      exact b_X2_throwOldest_34n4 C0 n _ _ _ _ _ ka1 h
  · replace h := x_os h
    refine x_top (v' := .ref (ad c4)) rfl ?_
    have kc4 := tyF_X2_helperAt eq3
    refine x_astore C0 dX2_throwOldest_17 (L' := [(4, _), (3, _), (0, _), (1, _), (2, _)]) (by decide) rfl ?_
    refine x_aload_n C0 dX2_throwOldest_19 rfl 3 rfl ?_
    refine x_iconst C0 (v := 0) dX2_throwOldest_20 ki_0 ?_
    refine x_iconst C0 (v := 2) dX2_throwOldest_21 ki_2 ?_
    obtain ⟨q6, eq6, h⟩ := x_bind h
    refine x_callVN21 C0 (c_X1_get n ka1 eq6) (x_cwVN C0 mw_302 mw_304 mw_7 mw_46 mw_305 hd_yX1_get ⟨rfl, rfl, Nat.le_of_ble_eq_true rfl, Nat.le_of_ble_eq_true rfl⟩) ka1.1 rfl (wfS_1 ka1.2) rfl ⟨Nat.zero_le _, Nat.zero_le _⟩ (Nat.le_of_ble_eq_true rfl) dX2_throwOldest_22 ?_
    refine x_iconst C0 (v := 1) dX2_throwOldest_25 ki_1 ?_
    refine x_icmp_ne C0 (tgt := 33) dX2_throwOldest_26 rfl h (fun _ h => ?_) (fun _ h => ?_)
    · refine x_iconst C0 (v := 1) dX2_throwOldest_29 ki_1 ?_
      refine x_goto C0 (tgt := 34) dX2_throwOldest_30 rfl ?_
      refine x_sub [2, 3, 4, 1, 0] (L' := [(0, _), (1, _), (2, _), (3, _), (4, _)]) rfl ?_
      refine x_pc (pc' := 34) rfl ?_
      exact b_X2_throwOldest_34 C0 n _ _ _ _ _ _ ka1 kc4 h
    · refine x_iconst C0 (v := 0) dX2_throwOldest_33 ki_0 ?_
      refine x_sub [2, 3, 4, 1, 0] (L' := [(0, _), (1, _), (2, _), (3, _), (4, _)]) rfl ?_
      refine x_pc (pc' := 34) rfl ?_
      exact b_X2_throwOldest_34 C0 n _ _ _ _ _ _ ka1 kc4 h
set_option maxRecDepth 4000 in
set_option maxHeartbeats 2000000 in
theorem b_X2_fetch_79 {p : Program} {l : Launch} {e : Env} {s : State} {m : MethodId} {args : Array Value} {below : List Frame} {meth : Method} {c : Code} {D : va_G} {cs : Nat → ClassId} {ad : Nat → Nat} {A : Nat → Prop} (C0 : x_C p s m args meth c D vwCl (xtys cs) A s.heap 47 ad (wfS cs ad) cX2_fetch 5 RX2 none)  (n : Nat) {res : xM} : ∀ (σ : xM) (b0 : Nat) (s1 : Int32) (s2 : Int32) (s3 : Int32) (kb0 : xk 1 b0), B_X2_fetch_79 n σ b0 s1 s2 s3 = some res → x_W p l e ({ frames := 3, cells := 0, slots := 0, locals := 71 } : Room) s m args below meth c D vwCl A s.heap 47 ad (wfS cs ad) 5 0 0 (x_E below args s D vwCl 47 ad (wfS cs ad) A none res) σ 79 [] [.int s3, .int s2, .int s1, .ref (ad b0)] := by
  intro σ b0 s1 s2 s3 kb0 h
  obtain ⟨q9, eq9, h⟩ := x_bind h
  refine x_callVN30 C0 (c_X1_put n kb0 eq9) (x_cwVN C0 mw_329 mw_331 mw_13 mw_46 mw_332 hd_yX1_put ⟨rfl, rfl, Nat.le_of_ble_eq_true rfl, Nat.le_of_ble_eq_true rfl⟩) kb0.1 rfl (wfS_1 kb0.2) rfl ⟨Nat.zero_le _, Nat.zero_le _⟩ (Nat.le_of_ble_eq_true rfl) dX2_fetch_79 ?_
  obtain rfl := x_inj h
  exact x_vret C0 dX2_fetch_82
set_option maxRecDepth 4000 in
set_option maxHeartbeats 2000000 in
theorem b_X2_fetch_38 {p : Program} {l : Launch} {e : Env} {s : State} {m : MethodId} {args : Array Value} {below : List Frame} {meth : Method} {c : Code} {D : va_G} {cs : Nat → ClassId} {ad : Nat → Nat} {A : Nat → Prop} (C0 : x_C p s m args meth c D vwCl (xtys cs) A s.heap 47 ad (wfS cs ad) cX2_fetch 5 RX2 none)  (n : Nat) {res : xM} : ∀ (σ : xM) (l1 : Int32) (l2 : Int32) (a3 : Nat) (ka3 : xk 1 a3), B_X2_fetch_38 n σ l1 l2 a3 = some res → x_W p l e ({ frames := 3, cells := 0, slots := 0, locals := 71 } : Room) s m args below meth c D vwCl A s.heap 47 ad (wfS cs ad) 5 0 0 (x_E below args s D vwCl 47 ad (wfS cs ad) A none res) σ 38 [(0, .ref (ad 0)), (1, .int l1), (2, .int l2), (3, .ref (ad a3))] [] := by
  intro σ l1 l2 a3 ka3 h
  refine x_aload_n C0 dX2_fetch_38 rfl 3 rfl ?_
  refine x_aload_n C0 dX2_fetch_39 rfl 0 rfl ?_
  refine x_get C0 inu2 rfl 5 (by decide) mw_183 kS_0.1 (wfS_2 kS_0.2) rfl dX2_fetch_40 ?_
  obtain ⟨q6, eq6, h⟩ := x_bind h
  refine x_callVN11 C0 (c_X1_open n ka3 eq6) (x_cwVN C0 mw_325 mw_327 mw_12 mw_46 mw_328 hd_yX1_open ⟨rfl, rfl, Nat.le_of_ble_eq_true rfl, Nat.le_of_ble_eq_true rfl⟩) ka3.1 rfl (wfS_1 ka3.2) rfl ⟨Nat.zero_le _, Nat.zero_le _⟩ (Nat.le_of_ble_eq_true rfl) dX2_fetch_43 ?_
  refine x_istore C0 dX2_fetch_46 (L' := [(4, _), (0, _), (1, _), (2, _), (3, _)]) (by decide) rfl ?_
  refine x_aload_n C0 dX2_fetch_48 rfl 4 rfl ?_
  refine x_iload C0 dX2_fetch_49 0 rfl ?_
  refine x_pc (pc' := 51) rfl ?_
  refine x_iconst C0 (v := 0) dX2_fetch_51 ki_0 ?_
  refine x_iload_n C0 dX2_fetch_52 rfl 2 rfl ?_
  obtain ⟨q7, eq7, h⟩ := x_bind h
  refine x_callVN30 C0 (c_X1_put n ka3 eq7) (x_cwVN C0 mw_329 mw_331 mw_13 mw_46 mw_332 hd_yX1_put ⟨rfl, rfl, Nat.le_of_ble_eq_true rfl, Nat.le_of_ble_eq_true rfl⟩) ka3.1 rfl (wfS_1 ka3.2) rfl ⟨Nat.zero_le _, Nat.zero_le _⟩ (Nat.le_of_ble_eq_true rfl) dX2_fetch_53 ?_
  refine x_aload_n C0 dX2_fetch_56 rfl 4 rfl ?_
  refine x_iload C0 dX2_fetch_57 0 rfl ?_
  refine x_iconst C0 (v := 1) dX2_fetch_59 ki_1 ?_
  refine x_iload_n C0 dX2_fetch_60 rfl 3 rfl ?_
  obtain ⟨q8, eq8, h⟩ := x_bind h
  refine x_callVN30 C0 (c_X1_put n ka3 eq8) (x_cwVN C0 mw_329 mw_331 mw_13 mw_46 mw_332 hd_yX1_put ⟨rfl, rfl, Nat.le_of_ble_eq_true rfl, Nat.le_of_ble_eq_true rfl⟩) ka3.1 rfl (wfS_1 ka3.2) rfl ⟨Nat.zero_le _, Nat.zero_le _⟩ (Nat.le_of_ble_eq_true rfl) dX2_fetch_61 ?_
  refine x_pc (pc' := 64) rfl ?_
  refine x_aload_n C0 dX2_fetch_64 rfl 4 rfl ?_
  refine x_iload C0 dX2_fetch_65 0 rfl ?_
  refine x_iconst C0 (v := 2) dX2_fetch_67 ki_2 ?_
  refine x_iload_n C0 dX2_fetch_68 rfl 3 rfl ?_
  refine x_ldc C0 mw_297 dX2_fetch_69 ?_
  refine x_icmp_ne C0 (tgt := 78) dX2_fetch_71 rfl h (fun _ h => ?_) (fun _ h => ?_)
  · refine x_iconst C0 (v := 0) dX2_fetch_74 ki_0 ?_
    refine x_goto C0 (tgt := 79) dX2_fetch_75 rfl ?_
    refine x_sub [] (L' := []) rfl ?_
    refine x_pc (pc' := 79) rfl ?_
    exact b_X2_fetch_79 C0 n _ _ _ _ _ ka3 h
  · refine x_iconst C0 (v := 1) dX2_fetch_78 ki_1 ?_
    refine x_sub [] (L' := []) rfl ?_
    refine x_pc (pc' := 79) rfl ?_
    exact b_X2_fetch_79 C0 n _ _ _ _ _ ka3 h
set_option maxRecDepth 4000 in
set_option maxHeartbeats 2000000 in
theorem c_X2_fetch {l : Launch} {D : va_G} {cs : Nat → ClassId} {ad : Nat → Nat} (n : Nat) {σ : xM} {x1 : Int32} {x2 : Int32}  {res : xM} (h : F_X2_fetch n σ x1 x2 = some res) : x_Met l yX2_fetch [Cond.code yX2_fetch cX2_fetch 5 none] ({ frames := 3, cells := 0, slots := 0, locals := 71 } : Room) D vwCl (xtys cs) 47 ad (wfS cs ad) [.ref (ad 0), .int x1, .int x2] σ none res := by
  refine x_Met_of (L0 := [(0, .ref (ad 0)), (1, .int x1), (2, .int x2)]) (own := RX2) (by decide) rfl rfl wfS_loc (Nat.le_of_ble_eq_true rfl) rfl ?_
  intro p e s m args below meth c A C0
  refine x_aload_n C0 dX2_fetch_0 rfl 0 rfl ?_
  refine x_get C0 inu2 rfl 1 (by decide) mw_176 kS_0.1 (wfS_2 kS_0.2) rfl dX2_fetch_1 ?_
  refine x_top (v' := .ref (ad 18)) rfl ?_
  refine x_aload_n C0 dX2_fetch_4 rfl 0 rfl ?_
  refine x_get C0 inu2 rfl 1 (by decide) mw_176 kS_0.1 (wfS_2 kS_0.2) rfl dX2_fetch_5 ?_
  refine x_top (v' := .ref (ad 18)) rfl ?_
  refine x_iload_n C0 dX2_fetch_8 rfl 1 rfl ?_
  obtain ⟨q1, eq1, h⟩ := x_bind h
  refine x_callVN11 C0 (c_X1_find n kS_18 eq1) (x_cwVN C0 mw_379 mw_381 mw_22 mw_46 mw_382 hd_yX1_find ⟨rfl, rfl, Nat.le_of_ble_eq_true rfl, Nat.le_of_ble_eq_true rfl⟩) kS_18.1 rfl (wfS_1 kS_18.2) rfl ⟨Nat.zero_le _, Nat.zero_le _⟩ (Nat.le_of_ble_eq_true rfl) dX2_fetch_9 ?_
  obtain ⟨q2, eq2, h⟩ := x_bind h
  refine x_callVN10 C0 (c_X1_remove n kS_18 eq2) (x_cwVN C0 mw_317 mw_319 mw_10 mw_46 mw_320 hd_yX1_remove ⟨rfl, rfl, Nat.le_of_ble_eq_true rfl, Nat.le_of_ble_eq_true rfl⟩) kS_18.1 rfl (wfS_1 kS_18.2) rfl ⟨Nat.zero_le _, Nat.zero_le _⟩ (Nat.le_of_ble_eq_true rfl) dX2_fetch_12 ?_
  refine x_pc (pc' := 15) rfl ?_
  refine x_aload_n C0 dX2_fetch_15 rfl 0 rfl ?_
  refine x_iload_n C0 dX2_fetch_16 rfl 1 rfl ?_
  obtain ⟨q3, eq3, h⟩ := x_bind h
  refine x_callV11 C0 (c_X2_setOf n eq3) (x_cwV C0 mw_371 mw_373 mw_20 mw_45 mw_374 hd_yX2_setOf ⟨rfl, rfl, Nat.le_of_ble_eq_true rfl, Nat.le_of_ble_eq_true rfl⟩) kS_0.1 rfl (wfS_2 kS_0.2) rfl ⟨Nat.zero_le _, Nat.zero_le _⟩ (Nat.le_of_ble_eq_true rfl) dX2_fetch_17 ?_
  obtain ⟨c4, ec4, h⟩ := x_bind h
  refine x_top (v' := .ref (ad c4)) (x_rf ec4) ?_
  have kc4 := tyF_X2_setOf (ec4 ▸ eq3)
  refine x_astore_n C0 dX2_fetch_20 rfl (L' := [(3, _), (0, _), (1, _), (2, _)]) (by decide) rfl ?_
  refine x_aload_n C0 dX2_fetch_21 rfl 0 rfl ?_
  refine x_getN C0 inu1 rfl 3 (by decide) mw_81 kc4.1 (wfS_1 kc4.2) rfl dX2_fetch_22 ?_
  refine x_aload_n C0 dX2_fetch_25 rfl 1 rfl ?_
  refine x_get C0 inu2 rfl 5 (by decide) mw_183 kS_0.1 (wfS_2 kS_0.2) rfl dX2_fetch_26 ?_
  refine x_pc (pc' := 29) rfl ?_
  refine x_icmp_lt C0 (tgt := 38) dX2_fetch_29 rfl h (fun _ h => ?_) (fun _ h => ?_)
  · refine x_sub [1, 2, 3, 0] (L' := [(0, _), (1, _), (2, _), (3, _)]) rfl ?_
    refine x_pc (pc' := 38) rfl ?_
    exact b_X2_fetch_38 C0 n _ _ _ _ kc4 h
  · refine x_aload_n C0 dX2_fetch_32 rfl 1 rfl ?_
    refine x_aload_n C0 dX2_fetch_33 rfl 0 rfl ?_
    refine x_iload_n C0 dX2_fetch_34 rfl 3 rfl ?_
    obtain ⟨q5, eq5, h⟩ := x_bind h
    refine x_callV20 C0 (c_X2_throwOldest n kc4 eq5) (x_cwV C0 mw_298 mw_300 mw_6 mw_45 mw_301 hd_yX2_throwOldest ⟨rfl, rfl, Nat.le_of_ble_eq_true rfl, Nat.le_of_ble_eq_true rfl⟩) kS_0.1 rfl (wfS_2 kS_0.2) rfl ⟨Nat.zero_le _, Nat.zero_le _⟩ (Nat.le_of_ble_eq_true rfl) dX2_fetch_35 ?_
    refine x_sub [1, 2, 3, 0] (L' := [(0, _), (1, _), (2, _), (3, _)]) rfl ?_
    refine x_pc (pc' := 38) rfl ?_
    exact b_X2_fetch_38 C0 n _ _ _ _ kc4 h
set_option maxRecDepth 4000 in
set_option maxHeartbeats 2000000 in
theorem b_X2_serve_86 {p : Program} {l : Launch} {e : Env} {s : State} {m : MethodId} {args : Array Value} {below : List Frame} {meth : Method} {c : Code} {D : va_G} {cs : Nat → ClassId} {ad : Nat → Nat} {A : Nat → Prop} (C0 : x_C p s m args meth c D vwCl (xtys cs) A s.heap 47 ad (wfS cs ad) cX2_serve 6 RX2 (some FieldType.int))  (n : Nat) {res : Int32 × xM} : ∀ (σ : xM) (l4 : Int32), B_X2_serve_86 n σ l4 = some res → x_W p l e ({ frames := 4, cells := 0, slots := 0, locals := 95 } : Room) s m args below meth c D vwCl A s.heap 47 ad (wfS cs ad) 6 0 0 (x_E below args s D vwCl 47 ad (wfS cs ad) A (some (.int res.1)) res.2) σ 86 [(4, .int l4)] [] := by
  intro σ l4 h
  refine x_iload C0 dX2_serve_86 0 rfl ?_
  refine x_if_eq C0 (tgt := 95) dX2_serve_88 rfl h (fun _ h => ?_) (fun _ h => ?_)
  · refine x_iconst C0 (v := 1) dX2_serve_95 ki_1 ?_
    obtain rfl := x_inj h
    exact x_iret C0 dX2_serve_96
  · refine x_iconst C0 (v := 2) dX2_serve_91 ki_2 ?_
    refine x_goto C0 (tgt := 96) dX2_serve_92 rfl ?_
    obtain rfl := x_inj h
    exact x_iret C0 dX2_serve_96
set_option maxRecDepth 4000 in
set_option maxHeartbeats 2000000 in
theorem b_X2_serve_45 {p : Program} {l : Launch} {e : Env} {s : State} {m : MethodId} {args : Array Value} {below : List Frame} {meth : Method} {c : Code} {D : va_G} {cs : Nat → ClassId} {ad : Nat → Nat} {A : Nat → Prop} (C0 : x_C p s m args meth c D vwCl (xtys cs) A s.heap 47 ad (wfS cs ad) cX2_serve 6 RX2 (some FieldType.int))  (n : Nat) {res : Int32 × xM} : ∀ (σ : xM) (a2 : Nat) (l3 : Int32) (s0 : Int32) (ka2 : xk 1 a2), B_X2_serve_45 n σ a2 l3 s0 = some res → x_W p l e ({ frames := 4, cells := 0, slots := 0, locals := 95 } : Room) s m args below meth c D vwCl A s.heap 47 ad (wfS cs ad) 6 0 0 (x_E below args s D vwCl 47 ad (wfS cs ad) A (some (.int res.1)) res.2) σ 45 [(0, .ref (ad 0)), (2, .ref (ad a2)), (3, .int l3)] [.int s0] := by
  intro σ a2 l3 s0 ka2 h
  refine x_istore C0 dX2_serve_45 (L' := [(4, _), (0, _), (2, _), (3, _)]) (by decide) rfl ?_
  refine x_aload_n C0 dX2_serve_47 rfl 1 rfl ?_
  refine x_aload_n C0 dX2_serve_48 rfl 2 rfl ?_
  refine x_iload_n C0 dX2_serve_49 rfl 3 rfl ?_
  refine x_iconst C0 (v := 1) dX2_serve_50 ki_1 ?_
  obtain ⟨q7, eq7, h⟩ := x_bind h
  refine x_callVN21 C0 (c_X1_get n ka2 eq7) (x_cwVN C0 mw_302 mw_304 mw_7 mw_46 mw_305 hd_yX1_get ⟨rfl, rfl, Nat.le_of_ble_eq_true rfl, Nat.le_of_ble_eq_true rfl⟩) ka2.1 rfl (wfS_1 ka2.2) rfl ⟨Nat.zero_le _, Nat.zero_le _⟩ (Nat.le_of_ble_eq_true rfl) dX2_serve_51 ?_
  obtain ⟨q8, eq8, h⟩ := x_bind h
  refine x_callV11 C0 (c_X2_helperAt n eq8) (x_cwV C0 mw_311 mw_313 mw_9 mw_45 mw_314 hd_yX2_helperAt ⟨rfl, rfl, Nat.le_of_ble_eq_true rfl, Nat.le_of_ble_eq_true rfl⟩) kS_0.1 rfl (wfS_2 kS_0.2) rfl ⟨Nat.zero_le _, Nat.zero_le _⟩ (Nat.le_of_ble_eq_true rfl) dX2_serve_54 ?_
  rcases q8 with _ | c9
  · replace h := x_on h
    refine x_top (v' := .null) rfl ?_
    refine x_astoreN C0 dX2_serve_57 (L' := [(5, _), (4, _), (0, _), (2, _), (3, _)]) (by decide) rfl ?_
    refine x_aload_n C0 dX2_serve_59 rfl 3 rfl ?_
    refine x_iload_n C0 dX2_serve_60 rfl 4 rfl ?_
    refine x_iconst C0 (v := 2) dX2_serve_61 ki_2 ?_
    refine x_iconst C0 (v := 0) dX2_serve_62 ki_0 ?_
    obtain ⟨q10, eq10, h⟩ := x_bind h
    refine x_callVN30 C0 (c_X1_put n ka2 eq10) (x_cwVN C0 mw_329 mw_331 mw_13 mw_46 mw_332 hd_yX1_put ⟨rfl, rfl, Nat.le_of_ble_eq_true rfl, Nat.le_of_ble_eq_true rfl⟩) ka2.1 rfl (wfS_1 ka2.2) rfl ⟨Nat.zero_le _, Nat.zero_le _⟩ (Nat.le_of_ble_eq_true rfl) dX2_serve_63 ?_
    refine x_aload_n C0 dX2_serve_66 rfl 3 rfl ?_
    refine x_pc (pc' := 67) rfl ?_
    refine x_iload_n C0 dX2_serve_67 rfl 4 rfl ?_
    obtain ⟨q11, eq11, h⟩ := x_bind h
    refine x_callVN10 C0 (c_X1_touch n ka2 eq11) (x_cwVN C0 mw_391 mw_323 mw_11 mw_46 mw_324 hd_yX1_touch ⟨rfl, rfl, Nat.le_of_ble_eq_true rfl, Nat.le_of_ble_eq_true rfl⟩) ka2.1 rfl (wfS_1 ka2.2) rfl ⟨Nat.zero_le _, Nat.zero_le _⟩ (Nat.le_of_ble_eq_true rfl) dX2_serve_68 ?_
    refine x_iload C0 dX2_serve_71 1 rfl ?_
    refine x_if_eq C0 (tgt := 86) dX2_serve_73 rfl h (fun _ h => ?_) (fun _ h => ?_)
    · refine x_sub [1] (L' := [(4, _)]) rfl ?_
      refine x_pc (pc' := 86) rfl ?_
      exact b_X2_serve_86 C0 n _ _ h
    · refine x_aloadN C0 dX2_serve_76 0 rfl ?_
      refine x_ifnullN C0 (tgt := 86) dX2_serve_78 rfl ?_
      refine x_sub [1] (L' := [(4, _)]) rfl ?_
      refine x_pc (pc' := 86) rfl ?_
      exact b_X2_serve_86 C0 n _ _ h
  · replace h := x_os h
    refine x_top (v' := .ref (ad c9)) rfl ?_
    have kc9 := tyF_X2_helperAt eq8
    refine x_astore C0 dX2_serve_57 (L' := [(5, _), (4, _), (0, _), (2, _), (3, _)]) (by decide) rfl ?_
    refine x_aload_n C0 dX2_serve_59 rfl 3 rfl ?_
    refine x_iload_n C0 dX2_serve_60 rfl 4 rfl ?_
    refine x_iconst C0 (v := 2) dX2_serve_61 ki_2 ?_
    refine x_iconst C0 (v := 0) dX2_serve_62 ki_0 ?_
    obtain ⟨q12, eq12, h⟩ := x_bind h
    refine x_callVN30 C0 (c_X1_put n ka2 eq12) (x_cwVN C0 mw_329 mw_331 mw_13 mw_46 mw_332 hd_yX1_put ⟨rfl, rfl, Nat.le_of_ble_eq_true rfl, Nat.le_of_ble_eq_true rfl⟩) ka2.1 rfl (wfS_1 ka2.2) rfl ⟨Nat.zero_le _, Nat.zero_le _⟩ (Nat.le_of_ble_eq_true rfl) dX2_serve_63 ?_
    refine x_aload_n C0 dX2_serve_66 rfl 3 rfl ?_
    refine x_pc (pc' := 67) rfl ?_
    refine x_iload_n C0 dX2_serve_67 rfl 4 rfl ?_
    obtain ⟨q13, eq13, h⟩ := x_bind h
    refine x_callVN10 C0 (c_X1_touch n ka2 eq13) (x_cwVN C0 mw_391 mw_323 mw_11 mw_46 mw_324 hd_yX1_touch ⟨rfl, rfl, Nat.le_of_ble_eq_true rfl, Nat.le_of_ble_eq_true rfl⟩) ka2.1 rfl (wfS_1 ka2.2) rfl ⟨Nat.zero_le _, Nat.zero_le _⟩ (Nat.le_of_ble_eq_true rfl) dX2_serve_68 ?_
    refine x_iload C0 dX2_serve_71 1 rfl ?_
    refine x_if_eq C0 (tgt := 86) dX2_serve_73 rfl h (fun _ h => ?_) (fun _ h => ?_)
    · refine x_sub [1] (L' := [(4, _)]) rfl ?_
      refine x_pc (pc' := 86) rfl ?_
      exact b_X2_serve_86 C0 n _ _ h
    · refine x_aload C0 dX2_serve_76 0 rfl ?_
      refine x_ifnull C0 dX2_serve_78 ?_
      refine x_aload C0 dX2_serve_81 0 rfl ?_
      obtain ⟨q14, eq14, h⟩ := x_bind h
      refine x_callVN00 C0 (c_X0_lineWasUsed n kc9 eq14) (x_cwVN C0 mw_392 mw_394 mw_25 mw_48 mw_395 hd_yX0_lineWasUsed ⟨rfl, rfl, Nat.le_of_ble_eq_true rfl, Nat.le_of_ble_eq_true rfl⟩) kc9.1 rfl (wfS_0 kc9.2) rfl ⟨Nat.zero_le _, Nat.zero_le _⟩ (Nat.le_of_ble_eq_true rfl) dX2_serve_83 ?_
      refine x_sub [1] (L' := [(4, _)]) rfl ?_
      refine x_pc (pc' := 86) rfl ?_
      exact b_X2_serve_86 C0 n _ _ h
set_option maxRecDepth 4000 in
set_option maxHeartbeats 2000000 in
theorem c_X2_serve {l : Launch} {D : va_G} {cs : Nat → ClassId} {ad : Nat → Nat} (n : Nat) {σ : xM} {x1 : Int32}  {res : Int32 × xM} (h : F_X2_serve n σ x1 = some res) : x_Met l yX2_serve [Cond.code yX2_serve cX2_serve 6 (some FieldType.int)] ({ frames := 4, cells := 0, slots := 0, locals := 95 } : Room) D vwCl (xtys cs) 47 ad (wfS cs ad) [.ref (ad 0), .int x1] σ (some (.int res.1)) res.2 := by
  refine x_Met_of (L0 := [(0, .ref (ad 0)), (1, .int x1)]) (own := RX2) (by decide) rfl rfl wfS_loc (Nat.le_of_ble_eq_true rfl) rfl ?_
  intro p e s m args below meth c A C0
  refine x_aload_n C0 dX2_serve_0 rfl 0 rfl ?_
  refine x_iload_n C0 dX2_serve_1 rfl 1 rfl ?_
  obtain ⟨q1, eq1, h⟩ := x_bind h
  refine x_callV11 C0 (c_X2_setOf n eq1) (x_cwV C0 mw_371 mw_373 mw_20 mw_45 mw_374 hd_yX2_setOf ⟨rfl, rfl, Nat.le_of_ble_eq_true rfl, Nat.le_of_ble_eq_true rfl⟩) kS_0.1 rfl (wfS_2 kS_0.2) rfl ⟨Nat.zero_le _, Nat.zero_le _⟩ (Nat.le_of_ble_eq_true rfl) dX2_serve_2 ?_
  obtain ⟨c2, ec2, h⟩ := x_bind h
  refine x_top (v' := .ref (ad c2)) (x_rf ec2) ?_
  have kc2 := tyF_X2_setOf (ec2 ▸ eq1)
  refine x_astore_n C0 dX2_serve_5 rfl (L' := [(2, _), (0, _), (1, _)]) (by decide) rfl ?_
  refine x_aload_n C0 dX2_serve_6 rfl 0 rfl ?_
  refine x_iload_n C0 dX2_serve_7 rfl 2 rfl ?_
  obtain ⟨q3, eq3, h⟩ := x_bind h
  refine x_callVN11 C0 (c_X1_find n kc2 eq3) (x_cwVN C0 mw_379 mw_381 mw_22 mw_46 mw_382 hd_yX1_find ⟨rfl, rfl, Nat.le_of_ble_eq_true rfl, Nat.le_of_ble_eq_true rfl⟩) kc2.1 rfl (wfS_1 kc2.2) rfl ⟨Nat.zero_le _, Nat.zero_le _⟩ (Nat.le_of_ble_eq_true rfl) dX2_serve_8 ?_
  refine x_pc (pc' := 11) rfl ?_
  refine x_istore_n C0 dX2_serve_11 rfl (L' := [(3, _), (2, _), (0, _), (1, _)]) (by decide) rfl ?_
  refine x_iload_n C0 dX2_serve_12 rfl 0 rfl ?_
  refine x_if_ge C0 (tgt := 30) dX2_serve_13 rfl h (fun _ h => ?_) (fun _ h => ?_)
  · refine x_aload_n C0 dX2_serve_16 rfl 2 rfl ?_
    refine x_iload_n C0 dX2_serve_17 rfl 3 rfl ?_
    obtain ⟨q4, eq4, h⟩ := x_bind h
    refine x_callV10 C0 (c_X2_punishThrower n eq4) (x_cwV C0 mw_383 mw_385 mw_23 mw_45 mw_386 hd_yX2_punishThrower ⟨rfl, rfl, Nat.le_of_ble_eq_true rfl, Nat.le_of_ble_eq_true rfl⟩) kS_0.1 rfl (wfS_2 kS_0.2) rfl ⟨Nat.zero_le _, Nat.zero_le _⟩ (Nat.le_of_ble_eq_true rfl) dX2_serve_18 ?_
    refine x_aload_n C0 dX2_serve_21 rfl 2 rfl ?_
    refine x_iload_n C0 dX2_serve_22 rfl 3 rfl ?_
    refine x_ldc C0 mw_297 dX2_serve_23 ?_
    obtain ⟨q5, eq5, h⟩ := x_bind h
    refine x_callV20 C0 (c_X2_fetch n eq5) (x_cwV C0 mw_387 mw_389 mw_24 mw_45 mw_390 hd_yX2_fetch ⟨rfl, rfl, Nat.le_of_ble_eq_true rfl, Nat.le_of_ble_eq_true rfl⟩) kS_0.1 rfl (wfS_2 kS_0.2) rfl ⟨Nat.zero_le _, Nat.zero_le _⟩ (Nat.le_of_ble_eq_true rfl) dX2_serve_25 ?_
    refine x_pc (pc' := 28) rfl ?_
    refine x_iconst C0 (v := 0) dX2_serve_28 ki_0 ?_
    obtain rfl := x_inj h
    exact x_iret C0 dX2_serve_29
  · refine x_aload_n C0 dX2_serve_30 rfl 1 rfl ?_
    refine x_iload_n C0 dX2_serve_31 rfl 0 rfl ?_
    refine x_iconst C0 (v := 2) dX2_serve_32 ki_2 ?_
    obtain ⟨q6, eq6, h⟩ := x_bind h
    refine x_callVN21 C0 (c_X1_get n kc2 eq6) (x_cwVN C0 mw_302 mw_304 mw_7 mw_46 mw_305 hd_yX1_get ⟨rfl, rfl, Nat.le_of_ble_eq_true rfl, Nat.le_of_ble_eq_true rfl⟩) kc2.1 rfl (wfS_1 kc2.2) rfl ⟨Nat.zero_le _, Nat.zero_le _⟩ (Nat.le_of_ble_eq_true rfl) dX2_serve_33 ?_
    refine x_iconst C0 (v := 1) dX2_serve_36 ki_1 ?_
    refine x_icmp_ne C0 (tgt := 44) dX2_serve_37 rfl h (fun _ h => ?_) (fun _ h => ?_)
    · refine x_iconst C0 (v := 1) dX2_serve_40 ki_1 ?_
      refine x_goto C0 (tgt := 45) dX2_serve_41 rfl ?_
      refine x_sub [2, 1, 0] (L' := [(0, _), (2, _), (3, _)]) rfl ?_
      refine x_pc (pc' := 45) rfl ?_
      exact b_X2_serve_45 C0 n _ _ _ _ kc2 h
    · refine x_iconst C0 (v := 0) dX2_serve_44 ki_0 ?_
      refine x_sub [2, 1, 0] (L' := [(0, _), (2, _), (3, _)]) rfl ?_
      refine x_pc (pc' := 45) rfl ?_
      exact b_X2_serve_45 C0 n _ _ _ _ kc2 h
set_option maxRecDepth 4000 in
set_option maxHeartbeats 2000000 in
theorem b_X2_fetchWishes_54 {p : Program} {l : Launch} {e : Env} {s : State} {m : MethodId} {args : Array Value} {below : List Frame} {meth : Method} {c : Code} {D : va_G} {cs : Nat → ClassId} {ad : Nat → Nat} {A : Nat → Prop} (C0 : x_C p s m args meth c D vwCl (xtys cs) A s.heap 47 ad (wfS cs ad) cX2_fetchWishes 6 RX2 (some FieldType.int))  (n : Nat) {res : Int32 × xM} {K12 : xM → Int32 → Nat → Int32 → Int32 → Option (Int32 × xM)} (hK12 : ∀ (σ : xM) (l1 : Int32) (a2 : Nat) (l3 : Int32) (l4 : Int32) (ka2 : xk 0 a2), K12 σ l1 a2 l3 l4 = some res → x_W p l e ({ frames := 4, cells := 0, slots := 0, locals := 95 } : Room) s m args below meth c D vwCl A s.heap 47 ad (wfS cs ad) 6 0 0 (x_E below args s D vwCl 47 ad (wfS cs ad) A (some (.int res.1)) res.2) σ 12 [(0, .ref (ad 0)), (1, .int l1), (2, .ref (ad a2)), (3, .int l3), (4, .int l4)] []) : ∀ (σ : xM) (l1 : Int32) (a2 : Nat) (l3 : Int32) (l4 : Int32) (ka2 : xk 0 a2), B_X2_fetchWishes_54 n K12 σ l1 a2 l3 l4 = some res → x_W p l e ({ frames := 4, cells := 0, slots := 0, locals := 95 } : Room) s m args below meth c D vwCl A s.heap 47 ad (wfS cs ad) 6 0 0 (x_E below args s D vwCl 47 ad (wfS cs ad) A (some (.int res.1)) res.2) σ 54 [(0, .ref (ad 0)), (1, .int l1), (2, .ref (ad a2)), (3, .int l3), (4, .int l4)] [] := by
  intro σ l1 a2 l3 l4 ka2 h
  refine x_iinc C0 (v := 1) (L' := [(4, _), (0, _), (1, _), (2, _), (3, _)]) dX2_fetchWishes_54 4 rfl ki_1 (by decide) rfl ?_
  refine x_goto C0 (tgt := 12) dX2_fetchWishes_57 rfl ?_
  refine x_sub [1, 2, 3, 4, 0] (L' := [(0, _), (1, _), (2, _), (3, _), (4, _)]) rfl ?_
  refine x_pc (pc' := 12) rfl ?_
  exact hK12 _ _ _ _ _ ka2 h
set_option maxRecDepth 4000 in
set_option maxHeartbeats 2000000 in
theorem b_X2_fetchWishes_12 {p : Program} {l : Launch} {e : Env} {s : State} {m : MethodId} {args : Array Value} {below : List Frame} {meth : Method} {c : Code} {D : va_G} {cs : Nat → ClassId} {ad : Nat → Nat} {A : Nat → Prop} (C0 : x_C p s m args meth c D vwCl (xtys cs) A s.heap 47 ad (wfS cs ad) cX2_fetchWishes 6 RX2 (some FieldType.int))  (n : Nat) {res : Int32 × xM} : ∀ (f : Nat) (σ : xM) (l1 : Int32) (a2 : Nat) (l3 : Int32) (l4 : Int32) (ka2 : xk 0 a2), B_X2_fetchWishes_12 n f σ l1 a2 l3 l4 = some res → x_W p l e ({ frames := 4, cells := 0, slots := 0, locals := 95 } : Room) s m args below meth c D vwCl A s.heap 47 ad (wfS cs ad) 6 0 0 (x_E below args s D vwCl 47 ad (wfS cs ad) A (some (.int res.1)) res.2) σ 12 [(0, .ref (ad 0)), (1, .int l1), (2, .ref (ad a2)), (3, .int l3), (4, .int l4)] [] := by
  intro f
  induction f with
  | zero =>
    intro σ l1 a2 l3 l4 ka2 h
    cases h
  | succ f ih =>
    intro σ l1 a2 l3 l4 ka2 h
    refine x_iload C0 dX2_fetchWishes_12 4 rfl ?_
    refine x_aload_n C0 dX2_fetchWishes_14 rfl 2 rfl ?_
    refine x_getN C0 inu0 rfl 2 (by decide) mw_110 ka2.1 (wfS_0 ka2.2) rfl dX2_fetchWishes_15 ?_
    refine x_icmp_ge C0 (tgt := 60) dX2_fetchWishes_18 rfl h (fun _ h => ?_) (fun _ h => ?_)
    · refine x_aload_n C0 dX2_fetchWishes_21 rfl 2 rfl ?_
      refine x_getN C0 inu0 rfl 1 (by decide) mw_108 ka2.1 (wfS_0 ka2.2) rfl dX2_fetchWishes_22 ?_
      obtain ⟨c2, ec2, h⟩ := x_bind h
      refine x_top (v' := .ref (ad c2)) (x_rf ec2) ?_
      have kc2 := ty_0_1 ka2 ec2
      refine x_iload C0 dX2_fetchWishes_25 4 rfl ?_
      refine x_iald C0 1 rfl kc2.1 (wfS_7 kc2.2) dX2_fetchWishes_27 h (fun _ h => ?_)
      refine x_istore C0 dX2_fetchWishes_28 (L' := [(5, _), (0, _), (1, _), (2, _), (3, _), (4, _)]) (by decide) rfl ?_
      refine x_aload_n C0 dX2_fetchWishes_30 rfl 1 rfl ?_
      refine x_iload C0 dX2_fetchWishes_31 0 rfl ?_
      refine x_pc (pc' := 33) rfl ?_
      obtain ⟨q3, eq3, h⟩ := x_bind h
      refine x_callV11 C0 (c_X2_setOf n eq3) (x_cwV C0 mw_371 mw_373 mw_20 mw_45 mw_374 hd_yX2_setOf ⟨rfl, rfl, Nat.le_of_ble_eq_true rfl, Nat.le_of_ble_eq_true rfl⟩) kS_0.1 rfl (wfS_2 kS_0.2) rfl ⟨Nat.zero_le _, Nat.zero_le _⟩ (Nat.le_of_ble_eq_true rfl) dX2_fetchWishes_33 ?_
      obtain ⟨c4, ec4, h⟩ := x_bind h
      refine x_top (v' := .ref (ad c4)) (x_rf ec4) ?_
      have kc4 := tyF_X2_setOf (ec4 ▸ eq3)
      refine x_iload C0 dX2_fetchWishes_36 0 rfl ?_
      obtain ⟨q5, eq5, h⟩ := x_bind h
      refine x_callVN11 C0 (c_X1_find n kc4 eq5) (x_cwVN C0 mw_379 mw_381 mw_22 mw_46 mw_382 hd_yX1_find ⟨rfl, rfl, Nat.le_of_ble_eq_true rfl, Nat.le_of_ble_eq_true rfl⟩) kc4.1 rfl (wfS_1 kc4.2) rfl ⟨Nat.zero_le _, Nat.zero_le _⟩ (Nat.le_of_ble_eq_true rfl) dX2_fetchWishes_38 ?_
      refine x_if_ge C0 (tgt := 54) dX2_fetchWishes_41 rfl h (fun _ h => ?_) (fun _ h => ?_)
      · refine x_aload_n C0 dX2_fetchWishes_44 rfl 1 rfl ?_
        refine x_iload C0 dX2_fetchWishes_45 0 rfl ?_
        refine x_iload_n C0 dX2_fetchWishes_47 rfl 2 rfl ?_
        obtain ⟨q6, eq6, h⟩ := x_bind h
        refine x_callV20 C0 (c_X2_fetch n eq6) (x_cwV C0 mw_387 mw_389 mw_24 mw_45 mw_390 hd_yX2_fetch ⟨rfl, rfl, Nat.le_of_ble_eq_true rfl, Nat.le_of_ble_eq_true rfl⟩) kS_0.1 rfl (wfS_2 kS_0.2) rfl ⟨Nat.zero_le _, Nat.zero_le _⟩ (Nat.le_of_ble_eq_true rfl) dX2_fetchWishes_48 ?_
        refine x_iinc C0 (v := 1) (L' := [(3, _), (5, _), (0, _), (1, _), (2, _), (4, _)]) dX2_fetchWishes_51 4 rfl ki_1 (by decide) rfl ?_
        refine x_sub [2, 3, 4, 0, 5] (L' := [(0, _), (1, _), (2, _), (3, _), (4, _)]) rfl ?_
        refine x_pc (pc' := 54) rfl ?_
        exact b_X2_fetchWishes_54 C0 n (fun σ l1 a2 l3 l4 k0 h => ih σ l1 a2 l3 l4 k0 h) _ _ _ _ _ ka2 h
      · refine x_sub [1, 2, 3, 4, 5] (L' := [(0, _), (1, _), (2, _), (3, _), (4, _)]) rfl ?_
        refine x_pc (pc' := 54) rfl ?_
        exact b_X2_fetchWishes_54 C0 n (fun σ l1 a2 l3 l4 k0 h => ih σ l1 a2 l3 l4 k0 h) _ _ _ _ _ ka2 h
    · refine x_aload_n C0 dX2_fetchWishes_60 rfl 2 rfl ?_
      refine x_dup C0 dX2_fetchWishes_61 rfl ?_
      refine x_getN C0 inu0 rfl 9 (by decide) mw_126 ka2.1 (wfS_0 ka2.2) rfl dX2_fetchWishes_62 ?_
      refine x_iload_n C0 dX2_fetchWishes_65 rfl 3 rfl ?_
      refine x_iadd C0 dX2_fetchWishes_66 ?_
      refine x_putN C0 inu0 tyX0 tyX0_ok nmX0 rfl 9 (by decide) mw_126 rfl rfl rfl ka2.1 (wfS_0 ka2.2) (Nat.le_of_ble_eq_true rfl) (wpS_0_9 ka2.2) (fun r' h' k' => x_up_ne r' h' k') dX2_fetchWishes_67 ?_
      refine x_iload_n C0 dX2_fetchWishes_70 rfl 3 rfl ?_
      refine x_pc (pc' := 71) rfl ?_
      obtain rfl := x_inj h
      exact x_iret C0 dX2_fetchWishes_71
set_option maxRecDepth 4000 in
set_option maxHeartbeats 2000000 in
theorem c_X2_fetchWishes {l : Launch} {D : va_G} {cs : Nat → ClassId} {ad : Nat → Nat} (n : Nat) {σ : xM} {x1 : Int32}  {res : Int32 × xM} (h : F_X2_fetchWishes n σ x1 = some res) : x_Met l yX2_fetchWishes [Cond.code yX2_fetchWishes cX2_fetchWishes 6 (some FieldType.int)] ({ frames := 4, cells := 0, slots := 0, locals := 95 } : Room) D vwCl (xtys cs) 47 ad (wfS cs ad) [.ref (ad 0), .int x1] σ (some (.int res.1)) res.2 := by
  refine x_Met_of (L0 := [(0, .ref (ad 0)), (1, .int x1)]) (own := RX2) (by decide) rfl rfl wfS_loc (Nat.le_of_ble_eq_true rfl) rfl ?_
  intro p e s m args below meth c A C0
  refine x_aload_n C0 dX2_fetchWishes_0 rfl 0 rfl ?_
  refine x_get C0 inu2 rfl 2 (by decide) mw_178 kS_0.1 (wfS_2 kS_0.2) rfl dX2_fetchWishes_1 ?_
  refine x_top (v' := .ref (ad 20)) rfl ?_
  refine x_iload_n C0 dX2_fetchWishes_4 rfl 1 rfl ?_
  refine x_aald C0 2 rfl kS_20.1 (wfS_8 kS_20.2) dX2_fetchWishes_5 h (fun _ h => ?_)
  obtain ⟨c1, ec1, h⟩ := x_bind h
  refine x_top (v' := .ref (ad c1)) (x_rf ec1) ?_
  have kc1 := ty_8 kS_20 ec1
  refine x_astore_n C0 dX2_fetchWishes_6 rfl (L' := [(2, _), (0, _), (1, _)]) (by decide) rfl ?_
  refine x_iconst C0 (v := 0) dX2_fetchWishes_7 ki_0 ?_
  refine x_istore_n C0 dX2_fetchWishes_8 rfl (L' := [(3, _), (2, _), (0, _), (1, _)]) (by decide) rfl ?_
  refine x_pc (pc' := 9) rfl ?_
  refine x_iconst C0 (v := 0) dX2_fetchWishes_9 ki_0 ?_
  refine x_istore C0 dX2_fetchWishes_10 (L' := [(4, _), (3, _), (2, _), (0, _), (1, _)]) (by decide) rfl ?_
  refine x_sub [3, 4, 2, 1, 0] (L' := [(0, _), (1, _), (2, _), (3, _), (4, _)]) rfl ?_
  refine x_pc (pc' := 12) rfl ?_
  exact b_X2_fetchWishes_12 C0 n n _ _ _ _ _ kc1 h
set_option maxRecDepth 4000 in
set_option maxHeartbeats 2000000 in
theorem c_X2_writeLog {l : Launch} {D : va_G} {cs : Nat → ClassId} {ad : Nat → Nat} (n : Nat) {σ : xM} {x1 : Int32} {x2 : Int32} {x3 : Int32} {x4 : Int32}  {res : xM} (h : F_X2_writeLog n σ x1 x2 x3 x4 = some res) : x_Met l yX2_writeLog [Cond.code yX2_writeLog cX2_writeLog 6 none] ({ frames := 2, cells := 0, slots := 0, locals := 45 } : Room) D vwCl (xtys cs) 47 ad (wfS cs ad) [.ref (ad 0), .int x1, .int x2, .int x3, .int x4] σ none res := by
  refine x_Met_of (L0 := [(0, .ref (ad 0)), (1, .int x1), (2, .int x2), (3, .int x3), (4, .int x4)]) (own := RX2) (by decide) rfl rfl wfS_loc (Nat.le_of_ble_eq_true rfl) rfl ?_
  intro p e s m args below meth c A C0
  refine x_aload_n C0 dX2_writeLog_0 rfl 0 rfl ?_
  refine x_get C0 inu2 rfl 3 (by decide) mw_179 kS_0.1 (wfS_2 kS_0.2) rfl dX2_writeLog_1 ?_
  refine x_top (v' := .ref (ad 45)) rfl ?_
  refine x_bipush C0 (v := 12) dX2_writeLog_4 kb_12 ?_
  obtain ⟨q1, eq1, h⟩ := x_bind h
  refine x_callVN11 C0 (c_X1_open n kS_45 eq1) (x_cwVN C0 mw_325 mw_327 mw_12 mw_46 mw_328 hd_yX1_open ⟨rfl, rfl, Nat.le_of_ble_eq_true rfl, Nat.le_of_ble_eq_true rfl⟩) kS_45.1 rfl (wfS_1 kS_45.2) rfl ⟨Nat.zero_le _, Nat.zero_le _⟩ (Nat.le_of_ble_eq_true rfl) dX2_writeLog_6 ?_
  refine x_istore C0 dX2_writeLog_9 (L' := [(5, _), (0, _), (1, _), (2, _), (3, _), (4, _)]) (by decide) rfl ?_
  refine x_aload_n C0 dX2_writeLog_11 rfl 1 rfl ?_
  refine x_get C0 inu2 rfl 3 (by decide) mw_179 kS_0.1 (wfS_2 kS_0.2) rfl dX2_writeLog_12 ?_
  refine x_top (v' := .ref (ad 45)) rfl ?_
  refine x_pc (pc' := 15) rfl ?_
  refine x_iload C0 dX2_writeLog_15 0 rfl ?_
  refine x_iconst C0 (v := 0) dX2_writeLog_17 ki_0 ?_
  refine x_iload_n C0 dX2_writeLog_18 rfl 2 rfl ?_
  obtain ⟨q2, eq2, h⟩ := x_bind h
  refine x_callVN30 C0 (c_X1_put n kS_45 eq2) (x_cwVN C0 mw_329 mw_331 mw_13 mw_46 mw_332 hd_yX1_put ⟨rfl, rfl, Nat.le_of_ble_eq_true rfl, Nat.le_of_ble_eq_true rfl⟩) kS_45.1 rfl (wfS_1 kS_45.2) rfl ⟨Nat.zero_le _, Nat.zero_le _⟩ (Nat.le_of_ble_eq_true rfl) dX2_writeLog_19 ?_
  refine x_aload_n C0 dX2_writeLog_22 rfl 1 rfl ?_
  refine x_get C0 inu2 rfl 3 (by decide) mw_179 kS_0.1 (wfS_2 kS_0.2) rfl dX2_writeLog_23 ?_
  refine x_top (v' := .ref (ad 45)) rfl ?_
  refine x_iload C0 dX2_writeLog_26 0 rfl ?_
  refine x_iconst C0 (v := 1) dX2_writeLog_28 ki_1 ?_
  refine x_pc (pc' := 29) rfl ?_
  refine x_iload_n C0 dX2_writeLog_29 rfl 3 rfl ?_
  obtain ⟨q3, eq3, h⟩ := x_bind h
  refine x_callVN30 C0 (c_X1_put n kS_45 eq3) (x_cwVN C0 mw_329 mw_331 mw_13 mw_46 mw_332 hd_yX1_put ⟨rfl, rfl, Nat.le_of_ble_eq_true rfl, Nat.le_of_ble_eq_true rfl⟩) kS_45.1 rfl (wfS_1 kS_45.2) rfl ⟨Nat.zero_le _, Nat.zero_le _⟩ (Nat.le_of_ble_eq_true rfl) dX2_writeLog_30 ?_
  refine x_aload_n C0 dX2_writeLog_33 rfl 1 rfl ?_
  refine x_get C0 inu2 rfl 3 (by decide) mw_179 kS_0.1 (wfS_2 kS_0.2) rfl dX2_writeLog_34 ?_
  refine x_top (v' := .ref (ad 45)) rfl ?_
  refine x_iload C0 dX2_writeLog_37 0 rfl ?_
  refine x_iconst C0 (v := 2) dX2_writeLog_39 ki_2 ?_
  refine x_iload_n C0 dX2_writeLog_40 rfl 4 rfl ?_
  obtain ⟨q4, eq4, h⟩ := x_bind h
  refine x_callVN30 C0 (c_X1_put n kS_45 eq4) (x_cwVN C0 mw_329 mw_331 mw_13 mw_46 mw_332 hd_yX1_put ⟨rfl, rfl, Nat.le_of_ble_eq_true rfl, Nat.le_of_ble_eq_true rfl⟩) kS_45.1 rfl (wfS_1 kS_45.2) rfl ⟨Nat.zero_le _, Nat.zero_le _⟩ (Nat.le_of_ble_eq_true rfl) dX2_writeLog_41 ?_
  refine x_pc (pc' := 44) rfl ?_
  refine x_aload_n C0 dX2_writeLog_44 rfl 1 rfl ?_
  refine x_get C0 inu2 rfl 3 (by decide) mw_179 kS_0.1 (wfS_2 kS_0.2) rfl dX2_writeLog_45 ?_
  refine x_top (v' := .ref (ad 45)) rfl ?_
  refine x_iload C0 dX2_writeLog_48 0 rfl ?_
  refine x_iconst C0 (v := 3) dX2_writeLog_50 ki_3 ?_
  refine x_iload C0 dX2_writeLog_51 5 rfl ?_
  obtain ⟨q5, eq5, h⟩ := x_bind h
  refine x_callVN30 C0 (c_X1_put n kS_45 eq5) (x_cwVN C0 mw_329 mw_331 mw_13 mw_46 mw_332 hd_yX1_put ⟨rfl, rfl, Nat.le_of_ble_eq_true rfl, Nat.le_of_ble_eq_true rfl⟩) kS_45.1 rfl (wfS_1 kS_45.2) rfl ⟨Nat.zero_le _, Nat.zero_le _⟩ (Nat.le_of_ble_eq_true rfl) dX2_writeLog_53 ?_
  refine x_aload_n C0 dX2_writeLog_56 rfl 1 rfl ?_
  refine x_get C0 inu2 rfl 3 (by decide) mw_179 kS_0.1 (wfS_2 kS_0.2) rfl dX2_writeLog_57 ?_
  refine x_top (v' := .ref (ad 45)) rfl ?_
  refine x_pc (pc' := 60) rfl ?_
  refine x_iload C0 dX2_writeLog_60 0 rfl ?_
  refine x_iconst C0 (v := 4) dX2_writeLog_62 ki_4 ?_
  refine x_aload_n C0 dX2_writeLog_63 rfl 1 rfl ?_
  refine x_get C0 inu2 rfl 8 (by decide) mw_189 kS_0.1 (wfS_2 kS_0.2) rfl dX2_writeLog_64 ?_
  obtain ⟨q6, eq6, h⟩ := x_bind h
  refine x_callVN30 C0 (c_X1_put n kS_45 eq6) (x_cwVN C0 mw_329 mw_331 mw_13 mw_46 mw_332 hd_yX1_put ⟨rfl, rfl, Nat.le_of_ble_eq_true rfl, Nat.le_of_ble_eq_true rfl⟩) kS_45.1 rfl (wfS_1 kS_45.2) rfl ⟨Nat.zero_le _, Nat.zero_le _⟩ (Nat.le_of_ble_eq_true rfl) dX2_writeLog_67 ?_
  obtain rfl := x_inj h
  exact x_vret C0 dX2_writeLog_70
set_option maxRecDepth 4000 in
set_option maxHeartbeats 2000000 in
theorem b_X2_perform_124 {p : Program} {l : Launch} {e : Env} {s : State} {m : MethodId} {args : Array Value} {below : List Frame} {meth : Method} {c : Code} {D : va_G} {cs : Nat → ClassId} {ad : Nat → Nat} {A : Nat → Prop} (C0 : x_C p s m args meth c D vwCl (xtys cs) A s.heap 47 ad (wfS cs ad) cX2_perform 6 RX2 (some FieldType.int))  (n : Nat) {res : Int32 × xM} : ∀ (σ : xM) (l3 : Int32), B_X2_perform_124 n σ l3 = some res → x_W p l e ({ frames := 5, cells := 0, slots := 0, locals := 120 } : Room) s m args below meth c D vwCl A s.heap 47 ad (wfS cs ad) 6 0 0 (x_E below args s D vwCl 47 ad (wfS cs ad) A (some (.int res.1)) res.2) σ 124 [(0, .ref (ad 0)), (3, .int l3)] [] := by
  intro σ l3 h
  refine x_iload_n C0 dX2_perform_124 rfl 1 rfl ?_
  refine x_iconst C0 (v := 2) dX2_perform_125 ki_2 ?_
  refine x_icmp_ne C0 (tgt := 139) dX2_perform_126 rfl h (fun _ h => ?_) (fun _ h => ?_)
  · refine x_aload_n C0 dX2_perform_129 rfl 0 rfl ?_
    refine x_dup C0 dX2_perform_130 rfl ?_
    refine x_get C0 inu2 rfl 10 (by decide) mw_193 kS_0.1 (wfS_2 kS_0.2) rfl dX2_perform_131 ?_
    refine x_iconst C0 (v := 1) dX2_perform_134 ki_1 ?_
    refine x_iadd C0 dX2_perform_135 ?_
    refine x_put C0 inu2 tyX2 tyX2_ok nmX2 rfl 10 (by decide) mw_193 rfl rfl rfl kS_0.1 (wfS_2 kS_0.2) (Nat.le_of_ble_eq_true rfl) (wpS_2_10 kS_0.2) (fun r' h' k' => x_up_ne r' h' k') dX2_perform_136 ?_
    refine x_iload_n C0 dX2_perform_139 rfl 1 rfl ?_
    refine x_pc (pc' := 140) rfl ?_
    obtain rfl := x_inj h
    exact x_iret C0 dX2_perform_140
  · refine x_iload_n C0 dX2_perform_139 rfl 1 rfl ?_
    obtain rfl := x_inj h
    exact x_iret C0 dX2_perform_140
set_option maxRecDepth 4000 in
set_option maxHeartbeats 2000000 in
theorem b_X2_perform_41 {p : Program} {l : Launch} {e : Env} {s : State} {m : MethodId} {args : Array Value} {below : List Frame} {meth : Method} {c : Code} {D : va_G} {cs : Nat → ClassId} {ad : Nat → Nat} {A : Nat → Prop} (C0 : x_C p s m args meth c D vwCl (xtys cs) A s.heap 47 ad (wfS cs ad) cX2_perform 6 RX2 (some FieldType.int))  (n : Nat) {res : Int32 × xM} : ∀ (f : Nat) (σ : xM) (l1 : Int32) (l2 : Int32) (l3 : Int32) (l4 : Int32) (l5 : Int32), B_X2_perform_41 n f σ l1 l2 l3 l4 l5 = some res → x_W p l e ({ frames := 5, cells := 0, slots := 0, locals := 120 } : Room) s m args below meth c D vwCl A s.heap 47 ad (wfS cs ad) 6 0 0 (x_E below args s D vwCl 47 ad (wfS cs ad) A (some (.int res.1)) res.2) σ 41 [(0, .ref (ad 0)), (1, .int l1), (2, .int l2), (3, .int l3), (4, .int l4), (5, .int l5)] [] := by
  intro f
  induction f with
  | zero =>
    intro σ l1 l2 l3 l4 l5 h
    cases h
  | succ f ih =>
    intro σ l1 l2 l3 l4 l5 h
    refine x_iload C0 dX2_perform_41 5 rfl ?_
    refine x_aload_n C0 dX2_perform_43 rfl 0 rfl ?_
    refine x_get C0 inu2 rfl 6 (by decide) mw_185 kS_0.1 (wfS_2 kS_0.2) rfl dX2_perform_44 ?_
    refine x_icmp_ge C0 (tgt := 80) dX2_perform_47 rfl h (fun _ h => ?_) (fun _ h => ?_)
    · refine x_aload_n C0 dX2_perform_50 rfl 0 rfl ?_
      refine x_get C0 inu2 rfl 2 (by decide) mw_178 kS_0.1 (wfS_2 kS_0.2) rfl dX2_perform_51 ?_
      refine x_top (v' := .ref (ad 20)) rfl ?_
      refine x_iload C0 dX2_perform_54 5 rfl ?_
      refine x_aald C0 2 rfl kS_20.1 (wfS_8 kS_20.2) dX2_perform_56 h (fun _ h => ?_)
      obtain ⟨c4, ec4, h⟩ := x_bind h
      refine x_top (v' := .ref (ad c4)) (x_rf ec4) ?_
      have kc4 := ty_8 kS_20 ec4
      refine x_iload_n C0 dX2_perform_57 rfl 1 rfl ?_
      refine x_iload_n C0 dX2_perform_58 rfl 2 rfl ?_
      refine x_iload_n C0 dX2_perform_59 rfl 3 rfl ?_
      refine x_pc (pc' := 60) rfl ?_
      obtain ⟨q5, eq5, h⟩ := x_bind h
      refine x_callVN30 C0 (c_X0_learn n kc4 eq5) (x_cwVN C0 mw_396 mw_398 mw_26 mw_48 mw_399 hd_yX0_learn ⟨rfl, rfl, Nat.le_of_ble_eq_true rfl, Nat.le_of_ble_eq_true rfl⟩) kc4.1 rfl (wfS_0 kc4.2) rfl ⟨Nat.zero_le _, Nat.zero_le _⟩ (Nat.le_of_ble_eq_true rfl) dX2_perform_60 ?_
      refine x_iload C0 dX2_perform_63 4 rfl ?_
      refine x_aload_n C0 dX2_perform_65 rfl 0 rfl ?_
      refine x_iload C0 dX2_perform_66 5 rfl ?_
      obtain ⟨q6, eq6, h⟩ := x_bind h
      refine x_callV11 C0 (c_X2_fetchWishes n eq6) (x_cwV C0 mw_440 mw_442 mw_34 mw_45 mw_443 hd_yX2_fetchWishes ⟨rfl, rfl, Nat.le_of_ble_eq_true rfl, Nat.le_of_ble_eq_true rfl⟩) kS_0.1 rfl (wfS_2 kS_0.2) rfl ⟨Nat.zero_le _, Nat.zero_le _⟩ (Nat.le_of_ble_eq_true rfl) dX2_perform_68 ?_
      refine x_iadd C0 dX2_perform_71 ?_
      refine x_istore C0 dX2_perform_72 (L' := [(4, _), (0, _), (1, _), (2, _), (3, _), (5, _)]) (by decide) rfl ?_
      refine x_iinc C0 (v := 1) (L' := [(5, _), (4, _), (0, _), (1, _), (2, _), (3, _)]) dX2_perform_74 5 rfl ki_1 (by decide) rfl ?_
      refine x_pc (pc' := 77) rfl ?_
      refine x_goto C0 (tgt := 41) dX2_perform_77 rfl ?_
      refine x_sub [2, 3, 4, 5, 1, 0] (L' := [(0, _), (1, _), (2, _), (3, _), (4, _), (5, _)]) rfl ?_
      refine x_pc (pc' := 41) rfl ?_
      exact ih _ _ _ _ _ _ h
    · refine x_aload_n C0 dX2_perform_80 rfl 0 rfl ?_
      refine x_iload_n C0 dX2_perform_81 rfl 1 rfl ?_
      refine x_iload_n C0 dX2_perform_82 rfl 2 rfl ?_
      refine x_iload_n C0 dX2_perform_83 rfl 3 rfl ?_
      refine x_iload C0 dX2_perform_84 4 rfl ?_
      obtain ⟨q7, eq7, h⟩ := x_bind h
      refine x_callV40 C0 (c_X2_writeLog n eq7) (x_cwV C0 mw_444 mw_446 mw_35 mw_45 mw_447 hd_yX2_writeLog ⟨rfl, rfl, Nat.le_of_ble_eq_true rfl, Nat.le_of_ble_eq_true rfl⟩) kS_0.1 rfl (wfS_2 kS_0.2) rfl ⟨Nat.zero_le _, Nat.zero_le _⟩ (Nat.le_of_ble_eq_true rfl) dX2_perform_86 ?_
      refine x_aload_n C0 dX2_perform_89 rfl 0 rfl ?_
      refine x_pc (pc' := 90) rfl ?_
      refine x_dup C0 dX2_perform_90 rfl ?_
      refine x_get C0 inu2 rfl 8 (by decide) mw_189 kS_0.1 (wfS_2 kS_0.2) rfl dX2_perform_91 ?_
      refine x_iconst C0 (v := 1) dX2_perform_94 ki_1 ?_
      refine x_iadd C0 dX2_perform_95 ?_
      refine x_put C0 inu2 tyX2 tyX2_ok nmX2 rfl 8 (by decide) mw_189 rfl rfl rfl kS_0.1 (wfS_2 kS_0.2) (Nat.le_of_ble_eq_true rfl) (wpS_2_8 kS_0.2) (fun r' h' k' => x_up_ne r' h' k') dX2_perform_96 ?_
      refine x_aload_n C0 dX2_perform_99 rfl 0 rfl ?_
      refine x_dup C0 dX2_perform_100 rfl ?_
      refine x_get C0 inu2 rfl 11 (by decide) mw_195 kS_0.1 (wfS_2 kS_0.2) rfl dX2_perform_101 ?_
      refine x_pc (pc' := 104) rfl ?_
      refine x_iload C0 dX2_perform_104 4 rfl ?_
      refine x_iadd C0 dX2_perform_106 ?_
      refine x_put C0 inu2 tyX2 tyX2_ok nmX2 rfl 11 (by decide) mw_195 rfl rfl rfl kS_0.1 (wfS_2 kS_0.2) (Nat.le_of_ble_eq_true rfl) (wpS_2_11 kS_0.2) (fun r' h' k' => x_up_ne r' h' k') dX2_perform_107 ?_
      refine x_iload_n C0 dX2_perform_110 rfl 3 rfl ?_
      refine x_if_eq C0 (tgt := 124) dX2_perform_111 rfl h (fun _ h => ?_) (fun _ h => ?_)
      · refine x_sub [0, 3] (L' := [(0, _), (3, _)]) rfl ?_
        refine x_pc (pc' := 124) rfl ?_
        exact b_X2_perform_124 C0 n _ _ h
      · refine x_aload_n C0 dX2_perform_114 rfl 0 rfl ?_
        refine x_dup C0 dX2_perform_115 rfl ?_
        refine x_get C0 inu2 rfl 9 (by decide) mw_191 kS_0.1 (wfS_2 kS_0.2) rfl dX2_perform_116 ?_
        refine x_iconst C0 (v := 1) dX2_perform_119 ki_1 ?_
        refine x_iadd C0 dX2_perform_120 ?_
        refine x_put C0 inu2 tyX2 tyX2_ok nmX2 rfl 9 (by decide) mw_191 rfl rfl rfl kS_0.1 (wfS_2 kS_0.2) (Nat.le_of_ble_eq_true rfl) (wpS_2_9 kS_0.2) (fun r' h' k' => x_up_ne r' h' k') dX2_perform_121 ?_
        refine x_sub [0, 3] (L' := [(0, _), (3, _)]) rfl ?_
        refine x_pc (pc' := 124) rfl ?_
        exact b_X2_perform_124 C0 n _ _ h
set_option maxRecDepth 4000 in
set_option maxHeartbeats 2000000 in
theorem b_X2_perform_2 {p : Program} {l : Launch} {e : Env} {s : State} {m : MethodId} {args : Array Value} {below : List Frame} {meth : Method} {c : Code} {D : va_G} {cs : Nat → ClassId} {ad : Nat → Nat} {A : Nat → Prop} (C0 : x_C p s m args meth c D vwCl (xtys cs) A s.heap 47 ad (wfS cs ad) cX2_perform 6 RX2 (some FieldType.int))  (n : Nat) {res : Int32 × xM} : ∀ (f : Nat) (σ : xM) (l1 : Int32) (l2 : Int32) (l3 : Int32), B_X2_perform_2 n f σ l1 l2 l3 = some res → x_W p l e ({ frames := 5, cells := 0, slots := 0, locals := 120 } : Room) s m args below meth c D vwCl A s.heap 47 ad (wfS cs ad) 6 0 0 (x_E below args s D vwCl 47 ad (wfS cs ad) A (some (.int res.1)) res.2) σ 2 [(0, .ref (ad 0)), (1, .int l1), (2, .int l2), (3, .int l3)] [] := by
  intro f
  induction f with
  | zero =>
    intro σ l1 l2 l3 h
    cases h
  | succ f ih =>
    intro σ l1 l2 l3 h
    refine x_iload_n C0 dX2_perform_2 rfl 3 rfl ?_
    refine x_aload_n C0 dX2_perform_3 rfl 0 rfl ?_
    refine x_get C0 inu2 rfl 6 (by decide) mw_185 kS_0.1 (wfS_2 kS_0.2) rfl dX2_perform_4 ?_
    refine x_icmp_ge C0 (tgt := 29) dX2_perform_7 rfl h (fun _ h => ?_) (fun _ h => ?_)
    · refine x_aload_n C0 dX2_perform_10 rfl 0 rfl ?_
      refine x_get C0 inu2 rfl 2 (by decide) mw_178 kS_0.1 (wfS_2 kS_0.2) rfl dX2_perform_11 ?_
      refine x_top (v' := .ref (ad 20)) rfl ?_
      refine x_iload_n C0 dX2_perform_14 rfl 3 rfl ?_
      refine x_aald C0 2 rfl kS_20.1 (wfS_8 kS_20.2) dX2_perform_15 h (fun _ h => ?_)
      obtain ⟨c1, ec1, h⟩ := x_bind h
      refine x_top (v' := .ref (ad c1)) (x_rf ec1) ?_
      have kc1 := ty_8 kS_20 ec1
      refine x_aload_n C0 dX2_perform_16 rfl 0 rfl ?_
      refine x_get C0 inu2 rfl 7 (by decide) mw_187 kS_0.1 (wfS_2 kS_0.2) rfl dX2_perform_17 ?_
      obtain ⟨q2, eq2, h⟩ := x_bind h
      refine x_callVN10 C0 (c_X0_workOneHour n kc1 eq2) (x_cwVN C0 mw_363 mw_365 mw_18 mw_48 mw_366 hd_yX0_workOneHour ⟨rfl, rfl, Nat.le_of_ble_eq_true rfl, Nat.le_of_ble_eq_true rfl⟩) kc1.1 rfl (wfS_0 kc1.2) rfl ⟨Nat.zero_le _, Nat.zero_le _⟩ (Nat.le_of_ble_eq_true rfl) dX2_perform_20 ?_
      refine x_pc (pc' := 23) rfl ?_
      refine x_iinc C0 (v := 1) (L' := [(3, _), (0, _), (1, _), (2, _)]) dX2_perform_23 3 rfl ki_1 (by decide) rfl ?_
      refine x_goto C0 (tgt := 2) dX2_perform_26 rfl ?_
      refine x_sub [1, 2, 3, 0] (L' := [(0, _), (1, _), (2, _), (3, _)]) rfl ?_
      refine x_pc (pc' := 2) rfl ?_
      exact ih _ _ _ _ h
    · refine x_aload_n C0 dX2_perform_29 rfl 0 rfl ?_
      refine x_iload_n C0 dX2_perform_30 rfl 2 rfl ?_
      obtain ⟨q3, eq3, h⟩ := x_bind h
      refine x_callV11 C0 (c_X2_serve n eq3) (x_cwV C0 mw_367 mw_369 mw_19 mw_45 mw_370 hd_yX2_serve ⟨rfl, rfl, Nat.le_of_ble_eq_true rfl, Nat.le_of_ble_eq_true rfl⟩) kS_0.1 rfl (wfS_2 kS_0.2) rfl ⟨Nat.zero_le _, Nat.zero_le _⟩ (Nat.le_of_ble_eq_true rfl) dX2_perform_31 ?_
      refine x_istore_n C0 dX2_perform_34 rfl (L' := [(3, _), (0, _), (1, _), (2, _)]) (by decide) rfl ?_
      refine x_iconst C0 (v := 0) dX2_perform_35 ki_0 ?_
      refine x_istore C0 dX2_perform_36 (L' := [(4, _), (3, _), (0, _), (1, _), (2, _)]) (by decide) rfl ?_
      refine x_iconst C0 (v := 0) dX2_perform_38 ki_0 ?_
      refine x_pc (pc' := 39) rfl ?_
      refine x_istore C0 dX2_perform_39 (L' := [(5, _), (4, _), (3, _), (0, _), (1, _), (2, _)]) (by decide) rfl ?_
      refine x_sub [3, 4, 5, 2, 1, 0] (L' := [(0, _), (1, _), (2, _), (3, _), (4, _), (5, _)]) rfl ?_
      refine x_pc (pc' := 41) rfl ?_
      exact b_X2_perform_41 C0 n n _ _ _ _ _ _ h
set_option maxRecDepth 4000 in
set_option maxHeartbeats 2000000 in
theorem c_X2_perform {l : Launch} {D : va_G} {cs : Nat → ClassId} {ad : Nat → Nat} (n : Nat) {σ : xM} {x1 : Int32} {x2 : Int32}  {res : Int32 × xM} (h : F_X2_perform n σ x1 x2 = some res) : x_Met l yX2_perform [Cond.code yX2_perform cX2_perform 6 (some FieldType.int)] ({ frames := 5, cells := 0, slots := 0, locals := 120 } : Room) D vwCl (xtys cs) 47 ad (wfS cs ad) [.ref (ad 0), .int x1, .int x2] σ (some (.int res.1)) res.2 := by
  refine x_Met_of (L0 := [(0, .ref (ad 0)), (1, .int x1), (2, .int x2)]) (own := RX2) (by decide) rfl rfl wfS_loc (Nat.le_of_ble_eq_true rfl) rfl ?_
  intro p e s m args below meth c A C0
  refine x_iconst C0 (v := 0) dX2_perform_0 ki_0 ?_
  refine x_istore_n C0 dX2_perform_1 rfl (L' := [(3, _), (0, _), (1, _), (2, _)]) (by decide) rfl ?_
  refine x_sub [1, 2, 3, 0] (L' := [(0, _), (1, _), (2, _), (3, _)]) rfl ?_
  refine x_pc (pc' := 2) rfl ?_
  exact b_X2_perform_2 C0 n n _ _ _ _ h
set_option maxRecDepth 4000 in
set_option maxHeartbeats 2000000 in
theorem b_X2_performWalk_30 {p : Program} {l : Launch} {e : Env} {s : State} {m : MethodId} {args : Array Value} {below : List Frame} {meth : Method} {c : Code} {D : va_G} {cs : Nat → ClassId} {ad : Nat → Nat} {A : Nat → Prop} (C0 : x_C p s m args meth c D vwCl (xtys cs) A s.heap 47 ad (wfS cs ad) cX2_performWalk 7 RX2 (some FieldType.int))  (n : Nat) {res : Int32 × xM} {K6 : xM → Int32 → Int32 → Int32 → Int32 → Int32 → Int32 → Option (Int32 × xM)} (hK6 : ∀ (σ : xM) (l1 : Int32) (l2 : Int32) (l3 : Int32) (l4 : Int32) (l5 : Int32) (l6 : Int32) , K6 σ l1 l2 l3 l4 l5 l6 = some res → x_W p l e ({ frames := 6, cells := 0, slots := 0, locals := 145 } : Room) s m args below meth c D vwCl A s.heap 47 ad (wfS cs ad) 7 0 0 (x_E below args s D vwCl 47 ad (wfS cs ad) A (some (.int res.1)) res.2) σ 6 [(0, .ref (ad 0)), (1, .int l1), (2, .int l2), (3, .int l3), (4, .int l4), (5, .int l5), (6, .int l6)] []) : ∀ (σ : xM) (l1 : Int32) (l2 : Int32) (l3 : Int32) (l4 : Int32) (l5 : Int32) (l6 : Int32), B_X2_performWalk_30 n K6 σ l1 l2 l3 l4 l5 l6 = some res → x_W p l e ({ frames := 6, cells := 0, slots := 0, locals := 145 } : Room) s m args below meth c D vwCl A s.heap 47 ad (wfS cs ad) 7 0 0 (x_E below args s D vwCl 47 ad (wfS cs ad) A (some (.int res.1)) res.2) σ 30 [(0, .ref (ad 0)), (1, .int l1), (2, .int l2), (3, .int l3), (4, .int l4), (5, .int l5), (6, .int l6)] [] := by
  intro σ l1 l2 l3 l4 l5 l6 h
  refine x_iinc C0 (v := 1) (L' := [(6, _), (0, _), (1, _), (2, _), (3, _), (4, _), (5, _)]) dX2_performWalk_30 6 rfl ki_1 (by decide) rfl ?_
  refine x_goto C0 (tgt := 6) dX2_performWalk_33 rfl ?_
  refine x_sub [1, 2, 3, 4, 5, 6, 0] (L' := [(0, _), (1, _), (2, _), (3, _), (4, _), (5, _), (6, _)]) rfl ?_
  refine x_pc (pc' := 6) rfl ?_
  exact hK6 _ _ _ _ _ _ _ h
set_option maxRecDepth 4000 in
set_option maxHeartbeats 2000000 in
theorem b_X2_performWalk_6 {p : Program} {l : Launch} {e : Env} {s : State} {m : MethodId} {args : Array Value} {below : List Frame} {meth : Method} {c : Code} {D : va_G} {cs : Nat → ClassId} {ad : Nat → Nat} {A : Nat → Prop} (C0 : x_C p s m args meth c D vwCl (xtys cs) A s.heap 47 ad (wfS cs ad) cX2_performWalk 7 RX2 (some FieldType.int))  (n : Nat) {res : Int32 × xM} : ∀ (f : Nat) (σ : xM) (l1 : Int32) (l2 : Int32) (l3 : Int32) (l4 : Int32) (l5 : Int32) (l6 : Int32), B_X2_performWalk_6 n f σ l1 l2 l3 l4 l5 l6 = some res → x_W p l e ({ frames := 6, cells := 0, slots := 0, locals := 145 } : Room) s m args below meth c D vwCl A s.heap 47 ad (wfS cs ad) 7 0 0 (x_E below args s D vwCl 47 ad (wfS cs ad) A (some (.int res.1)) res.2) σ 6 [(0, .ref (ad 0)), (1, .int l1), (2, .int l2), (3, .int l3), (4, .int l4), (5, .int l5), (6, .int l6)] [] := by
  intro f
  induction f with
  | zero =>
    intro σ l1 l2 l3 l4 l5 l6 h
    cases h
  | succ f ih =>
    intro σ l1 l2 l3 l4 l5 l6 h
    refine x_iload C0 dX2_performWalk_6 6 rfl ?_
    refine x_iload C0 dX2_performWalk_8 4 rfl ?_
    refine x_icmp_ge C0 (tgt := 36) dX2_performWalk_10 rfl h (fun _ h => ?_) (fun _ h => ?_)
    · refine x_aload_n C0 dX2_performWalk_13 rfl 0 rfl ?_
      refine x_iload_n C0 dX2_performWalk_14 rfl 1 rfl ?_
      refine x_iload_n C0 dX2_performWalk_15 rfl 2 rfl ?_
      refine x_iload C0 dX2_performWalk_16 6 rfl ?_
      refine x_iload_n C0 dX2_performWalk_18 rfl 3 rfl ?_
      refine x_imul C0 dX2_performWalk_19 ?_
      refine x_iadd C0 dX2_performWalk_20 ?_
      refine x_pc (pc' := 21) rfl ?_
      obtain ⟨q1, eq1, h⟩ := x_bind h
      refine x_callV21 C0 (c_X2_perform n eq1) (x_cwV C0 mw_359 mw_361 mw_17 mw_45 mw_362 hd_yX2_perform ⟨rfl, rfl, Nat.le_of_ble_eq_true rfl, Nat.le_of_ble_eq_true rfl⟩) kS_0.1 rfl (wfS_2 kS_0.2) rfl ⟨Nat.zero_le _, Nat.zero_le _⟩ (Nat.le_of_ble_eq_true rfl) dX2_performWalk_21 ?_
      refine x_if_eq C0 (tgt := 30) dX2_performWalk_24 rfl h (fun _ h => ?_) (fun _ h => ?_)
      · refine x_sub [0, 1, 2, 3, 4, 5, 6] (L' := [(0, _), (1, _), (2, _), (3, _), (4, _), (5, _), (6, _)]) rfl ?_
        refine x_pc (pc' := 30) rfl ?_
        exact b_X2_performWalk_30 C0 n (fun σ l1 l2 l3 l4 l5 l6 h => ih σ l1 l2 l3 l4 l5 l6 h) _ _ _ _ _ _ _ h
      · refine x_iinc C0 (v := 1) (L' := [(5, _), (0, _), (1, _), (2, _), (3, _), (4, _), (6, _)]) dX2_performWalk_27 5 rfl ki_1 (by decide) rfl ?_
        refine x_sub [1, 2, 3, 4, 5, 0, 6] (L' := [(0, _), (1, _), (2, _), (3, _), (4, _), (5, _), (6, _)]) rfl ?_
        refine x_pc (pc' := 30) rfl ?_
        exact b_X2_performWalk_30 C0 n (fun σ l1 l2 l3 l4 l5 l6 h => ih σ l1 l2 l3 l4 l5 l6 h) _ _ _ _ _ _ _ h
    · refine x_iload C0 dX2_performWalk_36 5 rfl ?_
      obtain rfl := x_inj h
      exact x_iret C0 dX2_performWalk_38
set_option maxRecDepth 4000 in
set_option maxHeartbeats 2000000 in
theorem c_X2_performWalk {l : Launch} {D : va_G} {cs : Nat → ClassId} {ad : Nat → Nat} (n : Nat) {σ : xM} {x1 : Int32} {x2 : Int32} {x3 : Int32} {x4 : Int32}  {res : Int32 × xM} (h : F_X2_performWalk n σ x1 x2 x3 x4 = some res) : x_Met l yX2_performWalk [Cond.code yX2_performWalk cX2_performWalk 7 (some FieldType.int)] ({ frames := 6, cells := 0, slots := 0, locals := 145 } : Room) D vwCl (xtys cs) 47 ad (wfS cs ad) [.ref (ad 0), .int x1, .int x2, .int x3, .int x4] σ (some (.int res.1)) res.2 := by
  refine x_Met_of (L0 := [(0, .ref (ad 0)), (1, .int x1), (2, .int x2), (3, .int x3), (4, .int x4)]) (own := RX2) (by decide) rfl rfl wfS_loc (Nat.le_of_ble_eq_true rfl) rfl ?_
  intro p e s m args below meth c A C0
  refine x_iconst C0 (v := 0) dX2_performWalk_0 ki_0 ?_
  refine x_istore C0 dX2_performWalk_1 (L' := [(5, _), (0, _), (1, _), (2, _), (3, _), (4, _)]) (by decide) rfl ?_
  refine x_iconst C0 (v := 0) dX2_performWalk_3 ki_0 ?_
  refine x_istore C0 dX2_performWalk_4 (L' := [(6, _), (5, _), (0, _), (1, _), (2, _), (3, _), (4, _)]) (by decide) rfl ?_
  refine x_sub [2, 3, 4, 5, 6, 1, 0] (L' := [(0, _), (1, _), (2, _), (3, _), (4, _), (5, _), (6, _)]) rfl ?_
  refine x_pc (pc' := 6) rfl ?_
  exact b_X2_performWalk_6 C0 n n _ _ _ _ _ _ _ h
set_option maxRecDepth 4000 in
set_option maxHeartbeats 2000000 in
theorem b_X2_throwAllOut_23 {p : Program} {l : Launch} {e : Env} {s : State} {m : MethodId} {args : Array Value} {below : List Frame} {meth : Method} {c : Code} {D : va_G} {cs : Nat → ClassId} {ad : Nat → Nat} {A : Nat → Prop} (C0 : x_C p s m args meth c D vwCl (xtys cs) A s.heap 47 ad (wfS cs ad) cX2_throwAllOut 5 RX2 (some FieldType.int))  (n : Nat) {res : Int32 × xM} {K4 : xM → Int32 → Int32 → Option (Int32 × xM)} (hK4 : ∀ (σ : xM) (l1 : Int32) (l2 : Int32) , K4 σ l1 l2 = some res → x_W p l e ({ frames := 3, cells := 0, slots := 0, locals := 71 } : Room) s m args below meth c D vwCl A s.heap 47 ad (wfS cs ad) 5 0 0 (x_E below args s D vwCl 47 ad (wfS cs ad) A (some (.int res.1)) res.2) σ 4 [(0, .ref (ad 0)), (1, .int l1), (2, .int l2)] []) : ∀ (f : Nat) (σ : xM) (l1 : Int32) (l2 : Int32) (l3 : Int32) (l4 : Int32), B_X2_throwAllOut_23 n K4 f σ l1 l2 l3 l4 = some res → x_W p l e ({ frames := 3, cells := 0, slots := 0, locals := 71 } : Room) s m args below meth c D vwCl A s.heap 47 ad (wfS cs ad) 5 0 0 (x_E below args s D vwCl 47 ad (wfS cs ad) A (some (.int res.1)) res.2) σ 23 [(0, .ref (ad 0)), (1, .int l1), (2, .int l2), (3, .int l3), (4, .int l4)] [] := by
  intro f
  induction f with
  | zero =>
    intro σ l1 l2 l3 l4 h
    cases h
  | succ f ih =>
    intro σ l1 l2 l3 l4 h
    refine x_iload C0 dX2_throwAllOut_23 4 rfl ?_
    refine x_iload_n C0 dX2_throwAllOut_25 rfl 3 rfl ?_
    refine x_icmp_ge C0 (tgt := 47) dX2_throwAllOut_26 rfl h (fun _ h => ?_) (fun _ h => ?_)
    · refine x_aload_n C0 dX2_throwAllOut_29 rfl 0 rfl ?_
      refine x_aload_n C0 dX2_throwAllOut_30 rfl 0 rfl ?_
      refine x_get C0 inu2 rfl 0 (by decide) mw_175 kS_0.1 (wfS_2 kS_0.2) rfl dX2_throwAllOut_31 ?_
      refine x_top (v' := .ref (ad 1)) rfl ?_
      refine x_iload_n C0 dX2_throwAllOut_34 rfl 2 rfl ?_
      refine x_aald C0 3 rfl kS_1.1 (wfS_9 kS_1.2) dX2_throwAllOut_35 h (fun _ h => ?_)
      obtain ⟨c2, ec2, h⟩ := x_bind h
      refine x_top (v' := .ref (ad c2)) (x_rf ec2) ?_
      have kc2 := ty_9 kS_1 ec2
      refine x_ldc C0 mw_297 dX2_throwAllOut_36 ?_
      obtain ⟨q3, eq3, h⟩ := x_bind h
      refine x_callV20 C0 (c_X2_throwOldest n kc2 eq3) (x_cwV C0 mw_298 mw_300 mw_6 mw_45 mw_301 hd_yX2_throwOldest ⟨rfl, rfl, Nat.le_of_ble_eq_true rfl, Nat.le_of_ble_eq_true rfl⟩) kS_0.1 rfl (wfS_2 kS_0.2) rfl ⟨Nat.zero_le _, Nat.zero_le _⟩ (Nat.le_of_ble_eq_true rfl) dX2_throwAllOut_38 ?_
      refine x_pc (pc' := 41) rfl ?_
      refine x_iinc C0 (v := 1) (L' := [(4, _), (0, _), (1, _), (2, _), (3, _)]) dX2_throwAllOut_41 4 rfl ki_1 (by decide) rfl ?_
      refine x_goto C0 (tgt := 23) dX2_throwAllOut_44 rfl ?_
      refine x_sub [1, 2, 3, 4, 0] (L' := [(0, _), (1, _), (2, _), (3, _), (4, _)]) rfl ?_
      refine x_pc (pc' := 23) rfl ?_
      exact ih _ _ _ _ _ h
    · refine x_iload_n C0 dX2_throwAllOut_47 rfl 1 rfl ?_
      refine x_iload_n C0 dX2_throwAllOut_48 rfl 3 rfl ?_
      refine x_iadd C0 dX2_throwAllOut_49 ?_
      refine x_istore_n C0 dX2_throwAllOut_50 rfl (L' := [(1, _), (0, _), (2, _), (3, _), (4, _)]) (by decide) rfl ?_
      refine x_iinc C0 (v := 1) (L' := [(2, _), (1, _), (0, _), (3, _), (4, _)]) dX2_throwAllOut_51 2 rfl ki_1 (by decide) rfl ?_
      refine x_goto C0 (tgt := 4) dX2_throwAllOut_54 rfl ?_
      refine x_sub [2, 1, 0] (L' := [(0, _), (1, _), (2, _)]) rfl ?_
      refine x_pc (pc' := 4) rfl ?_
      exact hK4 _ _ _ h
set_option maxRecDepth 4000 in
set_option maxHeartbeats 2000000 in
theorem b_X2_throwAllOut_4 {p : Program} {l : Launch} {e : Env} {s : State} {m : MethodId} {args : Array Value} {below : List Frame} {meth : Method} {c : Code} {D : va_G} {cs : Nat → ClassId} {ad : Nat → Nat} {A : Nat → Prop} (C0 : x_C p s m args meth c D vwCl (xtys cs) A s.heap 47 ad (wfS cs ad) cX2_throwAllOut 5 RX2 (some FieldType.int))  (n : Nat) {res : Int32 × xM} : ∀ (f : Nat) (σ : xM) (l1 : Int32) (l2 : Int32), B_X2_throwAllOut_4 n f σ l1 l2 = some res → x_W p l e ({ frames := 3, cells := 0, slots := 0, locals := 71 } : Room) s m args below meth c D vwCl A s.heap 47 ad (wfS cs ad) 5 0 0 (x_E below args s D vwCl 47 ad (wfS cs ad) A (some (.int res.1)) res.2) σ 4 [(0, .ref (ad 0)), (1, .int l1), (2, .int l2)] [] := by
  intro f
  induction f with
  | zero =>
    intro σ l1 l2 h
    cases h
  | succ f ih =>
    intro σ l1 l2 h
    refine x_iload_n C0 dX2_throwAllOut_4 rfl 2 rfl ?_
    refine x_bipush C0 (v := 8) dX2_throwAllOut_5 kb_8 ?_
    refine x_icmp_ge C0 (tgt := 57) dX2_throwAllOut_7 rfl h (fun _ h => ?_) (fun _ h => ?_)
    · refine x_aload_n C0 dX2_throwAllOut_10 rfl 0 rfl ?_
      refine x_get C0 inu2 rfl 0 (by decide) mw_175 kS_0.1 (wfS_2 kS_0.2) rfl dX2_throwAllOut_11 ?_
      refine x_top (v' := .ref (ad 1)) rfl ?_
      refine x_iload_n C0 dX2_throwAllOut_14 rfl 2 rfl ?_
      refine x_aald C0 3 rfl kS_1.1 (wfS_9 kS_1.2) dX2_throwAllOut_15 h (fun _ h => ?_)
      obtain ⟨c1, ec1, h⟩ := x_bind h
      refine x_top (v' := .ref (ad c1)) (x_rf ec1) ?_
      have kc1 := ty_9 kS_1 ec1
      refine x_getN C0 inu1 rfl 3 (by decide) mw_81 kc1.1 (wfS_1 kc1.2) rfl dX2_throwAllOut_16 ?_
      refine x_istore_n C0 dX2_throwAllOut_19 rfl (L' := [(3, _), (0, _), (1, _), (2, _)]) (by decide) rfl ?_
      refine x_iconst C0 (v := 0) dX2_throwAllOut_20 ki_0 ?_
      refine x_pc (pc' := 21) rfl ?_
      refine x_istore C0 dX2_throwAllOut_21 (L' := [(4, _), (3, _), (0, _), (1, _), (2, _)]) (by decide) rfl ?_
      refine x_sub [2, 3, 4, 1, 0] (L' := [(0, _), (1, _), (2, _), (3, _), (4, _)]) rfl ?_
      refine x_pc (pc' := 23) rfl ?_
      exact b_X2_throwAllOut_23 C0 n (fun σ l1 l2 h => ih σ l1 l2 h) n _ _ _ _ _ h
    · refine x_iload_n C0 dX2_throwAllOut_57 rfl 1 rfl ?_
      obtain rfl := x_inj h
      exact x_iret C0 dX2_throwAllOut_58
set_option maxRecDepth 4000 in
set_option maxHeartbeats 2000000 in
theorem c_X2_throwAllOut {l : Launch} {D : va_G} {cs : Nat → ClassId} {ad : Nat → Nat} (n : Nat) {σ : xM}  {res : Int32 × xM} (h : F_X2_throwAllOut n σ = some res) : x_Met l yX2_throwAllOut [Cond.code yX2_throwAllOut cX2_throwAllOut 5 (some FieldType.int)] ({ frames := 3, cells := 0, slots := 0, locals := 71 } : Room) D vwCl (xtys cs) 47 ad (wfS cs ad) [.ref (ad 0)] σ (some (.int res.1)) res.2 := by
  refine x_Met_of (L0 := [(0, .ref (ad 0))]) (own := RX2) (by decide) rfl rfl wfS_loc (Nat.le_of_ble_eq_true rfl) rfl ?_
  intro p e s m args below meth c A C0
  refine x_iconst C0 (v := 0) dX2_throwAllOut_0 ki_0 ?_
  refine x_istore_n C0 dX2_throwAllOut_1 rfl (L' := [(1, _), (0, _)]) (by decide) rfl ?_
  refine x_iconst C0 (v := 0) dX2_throwAllOut_2 ki_0 ?_
  refine x_istore_n C0 dX2_throwAllOut_3 rfl (L' := [(2, _), (1, _), (0, _)]) (by decide) rfl ?_
  refine x_sub [2, 1, 0] (L' := [(0, _), (1, _), (2, _)]) rfl ?_
  refine x_pc (pc' := 4) rfl ?_
  exact b_X2_throwAllOut_4 C0 n n _ _ _ h
set_option maxRecDepth 4000 in
set_option maxHeartbeats 2000000 in
theorem b_X2_linesInCache_4 {p : Program} {l : Launch} {e : Env} {s : State} {m : MethodId} {args : Array Value} {below : List Frame} {meth : Method} {c : Code} {D : va_G} {cs : Nat → ClassId} {ad : Nat → Nat} {A : Nat → Prop} (C0 : x_C p s m args meth c D vwCl (xtys cs) A s.heap 47 ad (wfS cs ad) cX2_linesInCache 3 RX2 (some FieldType.int))  (n : Nat) {σ : xM} {res : Int32} : ∀ (f : Nat) (l1 : Int32) (l2 : Int32), B_X2_linesInCache_4 n σ f l1 l2 = some res → x_W p l e ({ frames := 0, cells := 0, slots := 0, locals := 0 } : Room) s m args below meth c D vwCl A s.heap 47 ad (wfS cs ad) 3 0 0 (x_E below args s D vwCl 47 ad (wfS cs ad) A (some (.int res)) σ) σ 4 [(0, .ref (ad 0)), (1, .int l1), (2, .int l2)] [] := by
  intro f
  induction f with
  | zero =>
    intro l1 l2 h
    cases h
  | succ f ih =>
    intro l1 l2 h
    refine x_iload_n C0 dX2_linesInCache_4 rfl 2 rfl ?_
    refine x_bipush C0 (v := 8) dX2_linesInCache_5 kb_8 ?_
    refine x_icmp_ge C0 (tgt := 28) dX2_linesInCache_7 rfl h (fun _ h => ?_) (fun _ h => ?_)
    · refine x_iload_n C0 dX2_linesInCache_10 rfl 1 rfl ?_
      refine x_aload_n C0 dX2_linesInCache_11 rfl 0 rfl ?_
      refine x_get C0 inu2 rfl 0 (by decide) mw_175 kS_0.1 (wfS_2 kS_0.2) rfl dX2_linesInCache_12 ?_
      refine x_top (v' := .ref (ad 1)) rfl ?_
      refine x_iload_n C0 dX2_linesInCache_15 rfl 2 rfl ?_
      refine x_aald C0 3 rfl kS_1.1 (wfS_9 kS_1.2) dX2_linesInCache_16 h (fun _ h => ?_)
      obtain ⟨c1, ec1, h⟩ := x_bind h
      refine x_top (v' := .ref (ad c1)) (x_rf ec1) ?_
      have kc1 := ty_9 kS_1 ec1
      refine x_getN C0 inu1 rfl 3 (by decide) mw_81 kc1.1 (wfS_1 kc1.2) rfl dX2_linesInCache_17 ?_
      refine x_iadd C0 dX2_linesInCache_20 ?_
      refine x_pc (pc' := 21) rfl ?_
      refine x_istore_n C0 dX2_linesInCache_21 rfl (L' := [(1, _), (0, _), (2, _)]) (by decide) rfl ?_
      refine x_iinc C0 (v := 1) (L' := [(2, _), (1, _), (0, _)]) dX2_linesInCache_22 2 rfl ki_1 (by decide) rfl ?_
      refine x_goto C0 (tgt := 4) dX2_linesInCache_25 rfl ?_
      refine x_sub [2, 1, 0] (L' := [(0, _), (1, _), (2, _)]) rfl ?_
      refine x_pc (pc' := 4) rfl ?_
      exact ih _ _ h
    · refine x_iload_n C0 dX2_linesInCache_28 rfl 1 rfl ?_
      obtain rfl := x_inj h
      exact x_iret C0 dX2_linesInCache_29
set_option maxRecDepth 4000 in
set_option maxHeartbeats 2000000 in
theorem c_X2_linesInCache {l : Launch} {D : va_G} {cs : Nat → ClassId} {ad : Nat → Nat} (n : Nat) {σ : xM}  {res : Int32} (h : F_X2_linesInCache n σ = some res) : x_Met l yX2_linesInCache [Cond.code yX2_linesInCache cX2_linesInCache 3 (some FieldType.int)] ({ frames := 0, cells := 0, slots := 0, locals := 0 } : Room) D vwCl (xtys cs) 47 ad (wfS cs ad) [.ref (ad 0)] σ (some (.int res)) σ := by
  refine x_Met_of (L0 := [(0, .ref (ad 0))]) (own := RX2) (by decide) rfl rfl wfS_loc (Nat.le_of_ble_eq_true rfl) rfl ?_
  intro p e s m args below meth c A C0
  refine x_iconst C0 (v := 0) dX2_linesInCache_0 ki_0 ?_
  refine x_istore_n C0 dX2_linesInCache_1 rfl (L' := [(1, _), (0, _)]) (by decide) rfl ?_
  refine x_iconst C0 (v := 0) dX2_linesInCache_2 ki_0 ?_
  refine x_istore_n C0 dX2_linesInCache_3 rfl (L' := [(2, _), (1, _), (0, _)]) (by decide) rfl ?_
  refine x_sub [2, 1, 0] (L' := [(0, _), (1, _), (2, _)]) rfl ?_
  refine x_pc (pc' := 4) rfl ?_
  exact b_X2_linesInCache_4 C0 n n _ _ h
set_option maxRecDepth 4000 in
set_option maxHeartbeats 2000000 in
theorem b_X2_newLinesOf_62 {p : Program} {l : Launch} {e : Env} {s : State} {m : MethodId} {args : Array Value} {below : List Frame} {meth : Method} {c : Code} {D : va_G} {cs : Nat → ClassId} {ad : Nat → Nat} {A : Nat → Prop} (C0 : x_C p s m args meth c D vwCl (xtys cs) A s.heap 47 ad (wfS cs ad) cX2_newLinesOf 5 RX2 (some FieldType.int))  (n : Nat) {σ : xM} {res : Int32} {K4 : Int32 → Int32 → Int32 → Option Int32} {K13 : Int32 → Int32 → Int32 → Int32 → Option Int32} (hK4 : ∀ (l1 : Int32) (l2 : Int32) (l3 : Int32) , K4 l1 l2 l3 = some res → x_W p l e ({ frames := 2, cells := 0, slots := 0, locals := 44 } : Room) s m args below meth c D vwCl A s.heap 47 ad (wfS cs ad) 5 0 0 (x_E below args s D vwCl 47 ad (wfS cs ad) A (some (.int res)) σ) σ 4 [(0, .ref (ad 0)), (1, .int l1), (2, .int l2), (3, .int l3)] []) (hK13 : ∀ (l1 : Int32) (l2 : Int32) (l3 : Int32) (l4 : Int32) , K13 l1 l2 l3 l4 = some res → x_W p l e ({ frames := 2, cells := 0, slots := 0, locals := 44 } : Room) s m args below meth c D vwCl A s.heap 47 ad (wfS cs ad) 5 0 0 (x_E below args s D vwCl 47 ad (wfS cs ad) A (some (.int res)) σ) σ 13 [(0, .ref (ad 0)), (1, .int l1), (2, .int l2), (3, .int l3), (4, .int l4)] []) : ∀ (l1 : Int32) (l2 : Int32) (l3 : Int32) (l4 : Int32), B_X2_newLinesOf_62 n σ K4 K13 l1 l2 l3 l4 = some res → x_W p l e ({ frames := 2, cells := 0, slots := 0, locals := 44 } : Room) s m args below meth c D vwCl A s.heap 47 ad (wfS cs ad) 5 0 0 (x_E below args s D vwCl 47 ad (wfS cs ad) A (some (.int res)) σ) σ 62 [(0, .ref (ad 0)), (1, .int l1), (2, .int l2), (3, .int l3), (4, .int l4)] [] := by
  intro l1 l2 l3 l4 h
  refine x_iinc C0 (v := 1) (L' := [(4, _), (0, _), (1, _), (2, _), (3, _)]) dX2_newLinesOf_62 4 rfl ki_1 (by decide) rfl ?_
  refine x_goto C0 (tgt := 13) dX2_newLinesOf_65 rfl ?_
  refine x_sub [1, 2, 3, 4, 0] (L' := [(0, _), (1, _), (2, _), (3, _), (4, _)]) rfl ?_
  refine x_pc (pc' := 13) rfl ?_
  exact hK13 _ _ _ _ h
set_option maxRecDepth 4000 in
set_option maxHeartbeats 2000000 in
theorem b_X2_newLinesOf_13 {p : Program} {l : Launch} {e : Env} {s : State} {m : MethodId} {args : Array Value} {below : List Frame} {meth : Method} {c : Code} {D : va_G} {cs : Nat → ClassId} {ad : Nat → Nat} {A : Nat → Prop} (C0 : x_C p s m args meth c D vwCl (xtys cs) A s.heap 47 ad (wfS cs ad) cX2_newLinesOf 5 RX2 (some FieldType.int))  (n : Nat) {σ : xM} {res : Int32} {K4 : Int32 → Int32 → Int32 → Option Int32} (hK4 : ∀ (l1 : Int32) (l2 : Int32) (l3 : Int32) , K4 l1 l2 l3 = some res → x_W p l e ({ frames := 2, cells := 0, slots := 0, locals := 44 } : Room) s m args below meth c D vwCl A s.heap 47 ad (wfS cs ad) 5 0 0 (x_E below args s D vwCl 47 ad (wfS cs ad) A (some (.int res)) σ) σ 4 [(0, .ref (ad 0)), (1, .int l1), (2, .int l2), (3, .int l3)] []) : ∀ (f : Nat) (l1 : Int32) (l2 : Int32) (l3 : Int32) (l4 : Int32), B_X2_newLinesOf_13 n σ K4 f l1 l2 l3 l4 = some res → x_W p l e ({ frames := 2, cells := 0, slots := 0, locals := 44 } : Room) s m args below meth c D vwCl A s.heap 47 ad (wfS cs ad) 5 0 0 (x_E below args s D vwCl 47 ad (wfS cs ad) A (some (.int res)) σ) σ 13 [(0, .ref (ad 0)), (1, .int l1), (2, .int l2), (3, .int l3), (4, .int l4)] [] := by
  intro f
  induction f with
  | zero =>
    intro l1 l2 l3 l4 h
    cases h
  | succ f ih =>
    intro l1 l2 l3 l4 h
    refine x_iload C0 dX2_newLinesOf_13 4 rfl ?_
    refine x_aload_n C0 dX2_newLinesOf_15 rfl 0 rfl ?_
    refine x_get C0 inu2 rfl 0 (by decide) mw_175 kS_0.1 (wfS_2 kS_0.2) rfl dX2_newLinesOf_16 ?_
    refine x_top (v' := .ref (ad 1)) rfl ?_
    refine x_iload_n C0 dX2_newLinesOf_19 rfl 3 rfl ?_
    refine x_aald C0 3 rfl kS_1.1 (wfS_9 kS_1.2) dX2_newLinesOf_20 h (fun _ h => ?_)
    obtain ⟨c1, ec1, h⟩ := x_bind h
    refine x_top (v' := .ref (ad c1)) (x_rf ec1) ?_
    have kc1 := ty_9 kS_1 ec1
    refine x_getN C0 inu1 rfl 3 (by decide) mw_81 kc1.1 (wfS_1 kc1.2) rfl dX2_newLinesOf_21 ?_
    refine x_icmp_ge C0 (tgt := 68) dX2_newLinesOf_24 rfl h (fun _ h => ?_) (fun _ h => ?_)
    · refine x_aload_n C0 dX2_newLinesOf_27 rfl 0 rfl ?_
      refine x_get C0 inu2 rfl 0 (by decide) mw_175 kS_0.1 (wfS_2 kS_0.2) rfl dX2_newLinesOf_28 ?_
      refine x_top (v' := .ref (ad 1)) rfl ?_
      refine x_iload_n C0 dX2_newLinesOf_31 rfl 3 rfl ?_
      refine x_aald C0 3 rfl kS_1.1 (wfS_9 kS_1.2) dX2_newLinesOf_32 h (fun _ h => ?_)
      obtain ⟨c2, ec2, h⟩ := x_bind h
      refine x_top (v' := .ref (ad c2)) (x_rf ec2) ?_
      have kc2 := ty_9 kS_1 ec2
      refine x_iload C0 dX2_newLinesOf_33 4 rfl ?_
      refine x_iconst C0 (v := 2) dX2_newLinesOf_35 ki_2 ?_
      obtain ⟨q3, eq3, h⟩ := x_bind h
      refine x_callVN21 C0 (c_X1_get n kc2 eq3) (x_cwVN C0 mw_302 mw_304 mw_7 mw_46 mw_305 hd_yX1_get ⟨rfl, rfl, Nat.le_of_ble_eq_true rfl, Nat.le_of_ble_eq_true rfl⟩) kc2.1 rfl (wfS_1 kc2.2) rfl ⟨Nat.zero_le _, Nat.zero_le _⟩ (Nat.le_of_ble_eq_true rfl) dX2_newLinesOf_36 ?_
      refine x_pc (pc' := 39) rfl ?_
      refine x_iconst C0 (v := 1) dX2_newLinesOf_39 ki_1 ?_
      refine x_icmp_ne C0 (tgt := 62) dX2_newLinesOf_40 rfl h (fun _ h => ?_) (fun _ h => ?_)
      · refine x_aload_n C0 dX2_newLinesOf_43 rfl 0 rfl ?_
        refine x_get C0 inu2 rfl 0 (by decide) mw_175 kS_0.1 (wfS_2 kS_0.2) rfl dX2_newLinesOf_44 ?_
        refine x_top (v' := .ref (ad 1)) rfl ?_
        refine x_iload_n C0 dX2_newLinesOf_47 rfl 3 rfl ?_
        refine x_aald C0 3 rfl kS_1.1 (wfS_9 kS_1.2) dX2_newLinesOf_48 h (fun _ h => ?_)
        obtain ⟨c4, ec4, h⟩ := x_bind h
        refine x_top (v' := .ref (ad c4)) (x_rf ec4) ?_
        have kc4 := ty_9 kS_1 ec4
        refine x_iload C0 dX2_newLinesOf_49 4 rfl ?_
        refine x_iconst C0 (v := 1) dX2_newLinesOf_51 ki_1 ?_
        obtain ⟨q5, eq5, h⟩ := x_bind h
        refine x_callVN21 C0 (c_X1_get n kc4 eq5) (x_cwVN C0 mw_302 mw_304 mw_7 mw_46 mw_305 hd_yX1_get ⟨rfl, rfl, Nat.le_of_ble_eq_true rfl, Nat.le_of_ble_eq_true rfl⟩) kc4.1 rfl (wfS_1 kc4.2) rfl ⟨Nat.zero_le _, Nat.zero_le _⟩ (Nat.le_of_ble_eq_true rfl) dX2_newLinesOf_52 ?_
        refine x_pc (pc' := 55) rfl ?_
        refine x_iload_n C0 dX2_newLinesOf_55 rfl 1 rfl ?_
        refine x_icmp_ne C0 (tgt := 62) dX2_newLinesOf_56 rfl h (fun _ h => ?_) (fun _ h => ?_)
        · refine x_iinc C0 (v := 1) (L' := [(2, _), (0, _), (1, _), (3, _), (4, _)]) dX2_newLinesOf_59 2 rfl ki_1 (by decide) rfl ?_
          refine x_sub [1, 2, 0, 3, 4] (L' := [(0, _), (1, _), (2, _), (3, _), (4, _)]) rfl ?_
          refine x_pc (pc' := 62) rfl ?_
          exact b_X2_newLinesOf_62 C0 n hK4 (fun l1 l2 l3 l4 h => ih l1 l2 l3 l4 h) _ _ _ _ h
        · refine x_sub [0, 1, 2, 3, 4] (L' := [(0, _), (1, _), (2, _), (3, _), (4, _)]) rfl ?_
          refine x_pc (pc' := 62) rfl ?_
          exact b_X2_newLinesOf_62 C0 n hK4 (fun l1 l2 l3 l4 h => ih l1 l2 l3 l4 h) _ _ _ _ h
      · refine x_sub [0, 1, 2, 3, 4] (L' := [(0, _), (1, _), (2, _), (3, _), (4, _)]) rfl ?_
        refine x_pc (pc' := 62) rfl ?_
        exact b_X2_newLinesOf_62 C0 n hK4 (fun l1 l2 l3 l4 h => ih l1 l2 l3 l4 h) _ _ _ _ h
    · refine x_iinc C0 (v := 1) (L' := [(3, _), (0, _), (1, _), (2, _), (4, _)]) dX2_newLinesOf_68 3 rfl ki_1 (by decide) rfl ?_
      refine x_goto C0 (tgt := 4) dX2_newLinesOf_71 rfl ?_
      refine x_sub [1, 2, 3, 0] (L' := [(0, _), (1, _), (2, _), (3, _)]) rfl ?_
      refine x_pc (pc' := 4) rfl ?_
      exact hK4 _ _ _ h
set_option maxRecDepth 4000 in
set_option maxHeartbeats 2000000 in
theorem b_X2_newLinesOf_4 {p : Program} {l : Launch} {e : Env} {s : State} {m : MethodId} {args : Array Value} {below : List Frame} {meth : Method} {c : Code} {D : va_G} {cs : Nat → ClassId} {ad : Nat → Nat} {A : Nat → Prop} (C0 : x_C p s m args meth c D vwCl (xtys cs) A s.heap 47 ad (wfS cs ad) cX2_newLinesOf 5 RX2 (some FieldType.int))  (n : Nat) {σ : xM} {res : Int32} : ∀ (f : Nat) (l1 : Int32) (l2 : Int32) (l3 : Int32), B_X2_newLinesOf_4 n σ f l1 l2 l3 = some res → x_W p l e ({ frames := 2, cells := 0, slots := 0, locals := 44 } : Room) s m args below meth c D vwCl A s.heap 47 ad (wfS cs ad) 5 0 0 (x_E below args s D vwCl 47 ad (wfS cs ad) A (some (.int res)) σ) σ 4 [(0, .ref (ad 0)), (1, .int l1), (2, .int l2), (3, .int l3)] [] := by
  intro f
  induction f with
  | zero =>
    intro l1 l2 l3 h
    cases h
  | succ f ih =>
    intro l1 l2 l3 h
    refine x_iload_n C0 dX2_newLinesOf_4 rfl 3 rfl ?_
    refine x_bipush C0 (v := 8) dX2_newLinesOf_5 kb_8 ?_
    refine x_icmp_ge C0 (tgt := 74) dX2_newLinesOf_7 rfl h (fun _ h => ?_) (fun _ h => ?_)
    · refine x_iconst C0 (v := 0) dX2_newLinesOf_10 ki_0 ?_
      refine x_istore C0 dX2_newLinesOf_11 (L' := [(4, _), (0, _), (1, _), (2, _), (3, _)]) (by decide) rfl ?_
      refine x_sub [1, 2, 3, 4, 0] (L' := [(0, _), (1, _), (2, _), (3, _), (4, _)]) rfl ?_
      refine x_pc (pc' := 13) rfl ?_
      exact b_X2_newLinesOf_13 C0 n (fun l1 l2 l3 h => ih l1 l2 l3 h) n _ _ _ _ h
    · refine x_iload_n C0 dX2_newLinesOf_74 rfl 2 rfl ?_
      obtain rfl := x_inj h
      exact x_iret C0 dX2_newLinesOf_75
set_option maxRecDepth 4000 in
set_option maxHeartbeats 2000000 in
theorem c_X2_newLinesOf {l : Launch} {D : va_G} {cs : Nat → ClassId} {ad : Nat → Nat} (n : Nat) {σ : xM} {x1 : Int32}  {res : Int32} (h : F_X2_newLinesOf n σ x1 = some res) : x_Met l yX2_newLinesOf [Cond.code yX2_newLinesOf cX2_newLinesOf 5 (some FieldType.int)] ({ frames := 2, cells := 0, slots := 0, locals := 44 } : Room) D vwCl (xtys cs) 47 ad (wfS cs ad) [.ref (ad 0), .int x1] σ (some (.int res)) σ := by
  refine x_Met_of (L0 := [(0, .ref (ad 0)), (1, .int x1)]) (own := RX2) (by decide) rfl rfl wfS_loc (Nat.le_of_ble_eq_true rfl) rfl ?_
  intro p e s m args below meth c A C0
  refine x_iconst C0 (v := 0) dX2_newLinesOf_0 ki_0 ?_
  refine x_istore_n C0 dX2_newLinesOf_1 rfl (L' := [(2, _), (0, _), (1, _)]) (by decide) rfl ?_
  refine x_iconst C0 (v := 0) dX2_newLinesOf_2 ki_0 ?_
  refine x_istore_n C0 dX2_newLinesOf_3 rfl (L' := [(3, _), (2, _), (0, _), (1, _)]) (by decide) rfl ?_
  refine x_sub [2, 3, 1, 0] (L' := [(0, _), (1, _), (2, _), (3, _)]) rfl ?_
  refine x_pc (pc' := 4) rfl ?_
  exact b_X2_newLinesOf_4 C0 n n _ _ _ h
set_option maxRecDepth 4000 in
set_option maxHeartbeats 2000000 in
theorem b_X2_newLines_4 {p : Program} {l : Launch} {e : Env} {s : State} {m : MethodId} {args : Array Value} {below : List Frame} {meth : Method} {c : Code} {D : va_G} {cs : Nat → ClassId} {ad : Nat → Nat} {A : Nat → Prop} (C0 : x_C p s m args meth c D vwCl (xtys cs) A s.heap 47 ad (wfS cs ad) cX2_newLines 3 RX2 (some FieldType.int))  (n : Nat) {σ : xM} {res : Int32} : ∀ (f : Nat) (l1 : Int32) (l2 : Int32), B_X2_newLines_4 n σ f l1 l2 = some res → x_W p l e ({ frames := 3, cells := 0, slots := 0, locals := 68 } : Room) s m args below meth c D vwCl A s.heap 47 ad (wfS cs ad) 3 0 0 (x_E below args s D vwCl 47 ad (wfS cs ad) A (some (.int res)) σ) σ 4 [(0, .ref (ad 0)), (1, .int l1), (2, .int l2)] [] := by
  intro f
  induction f with
  | zero =>
    intro l1 l2 h
    cases h
  | succ f ih =>
    intro l1 l2 h
    refine x_iload_n C0 dX2_newLines_4 rfl 2 rfl ?_
    refine x_aload_n C0 dX2_newLines_5 rfl 0 rfl ?_
    refine x_get C0 inu2 rfl 6 (by decide) mw_185 kS_0.1 (wfS_2 kS_0.2) rfl dX2_newLines_6 ?_
    refine x_icmp_ge C0 (tgt := 26) dX2_newLines_9 rfl h (fun _ h => ?_) (fun _ h => ?_)
    · refine x_iload_n C0 dX2_newLines_12 rfl 1 rfl ?_
      refine x_aload_n C0 dX2_newLines_13 rfl 0 rfl ?_
      refine x_iload_n C0 dX2_newLines_14 rfl 2 rfl ?_
      obtain ⟨q1, eq1, h⟩ := x_bind h
      refine x_callV11 C0 (c_X2_newLinesOf n eq1) (x_cwV C0 mw_492 mw_494 mw_39 mw_45 mw_495 hd_yX2_newLinesOf ⟨rfl, rfl, Nat.le_of_ble_eq_true rfl, Nat.le_of_ble_eq_true rfl⟩) kS_0.1 rfl (wfS_2 kS_0.2) rfl ⟨Nat.zero_le _, Nat.zero_le _⟩ (Nat.le_of_ble_eq_true rfl) dX2_newLines_15 ?_
      refine x_iadd C0 dX2_newLines_18 ?_
      refine x_istore_n C0 dX2_newLines_19 rfl (L' := [(1, _), (0, _), (2, _)]) (by decide) rfl ?_
      refine x_iinc C0 (v := 1) (L' := [(2, _), (1, _), (0, _)]) dX2_newLines_20 2 rfl ki_1 (by decide) rfl ?_
      refine x_pc (pc' := 23) rfl ?_
      refine x_goto C0 (tgt := 4) dX2_newLines_23 rfl ?_
      refine x_sub [2, 1, 0] (L' := [(0, _), (1, _), (2, _)]) rfl ?_
      refine x_pc (pc' := 4) rfl ?_
      exact ih _ _ h
    · refine x_iload_n C0 dX2_newLines_26 rfl 1 rfl ?_
      obtain rfl := x_inj h
      exact x_iret C0 dX2_newLines_27
set_option maxRecDepth 4000 in
set_option maxHeartbeats 2000000 in
theorem c_X2_newLines {l : Launch} {D : va_G} {cs : Nat → ClassId} {ad : Nat → Nat} (n : Nat) {σ : xM}  {res : Int32} (h : F_X2_newLines n σ = some res) : x_Met l yX2_newLines [Cond.code yX2_newLines cX2_newLines 3 (some FieldType.int)] ({ frames := 3, cells := 0, slots := 0, locals := 68 } : Room) D vwCl (xtys cs) 47 ad (wfS cs ad) [.ref (ad 0)] σ (some (.int res)) σ := by
  refine x_Met_of (L0 := [(0, .ref (ad 0))]) (own := RX2) (by decide) rfl rfl wfS_loc (Nat.le_of_ble_eq_true rfl) rfl ?_
  intro p e s m args below meth c A C0
  refine x_iconst C0 (v := 0) dX2_newLines_0 ki_0 ?_
  refine x_istore_n C0 dX2_newLines_1 rfl (L' := [(1, _), (0, _)]) (by decide) rfl ?_
  refine x_iconst C0 (v := 0) dX2_newLines_2 ki_0 ?_
  refine x_istore_n C0 dX2_newLines_3 rfl (L' := [(2, _), (1, _), (0, _)]) (by decide) rfl ?_
  refine x_sub [2, 1, 0] (L' := [(0, _), (1, _), (2, _)]) rfl ?_
  refine x_pc (pc' := 4) rfl ?_
  exact b_X2_newLines_4 C0 n n _ _ h
set_option maxRecDepth 4000 in
set_option maxHeartbeats 2000000 in
theorem b_X2_allHours_4 {p : Program} {l : Launch} {e : Env} {s : State} {m : MethodId} {args : Array Value} {below : List Frame} {meth : Method} {c : Code} {D : va_G} {cs : Nat → ClassId} {ad : Nat → Nat} {A : Nat → Prop} (C0 : x_C p s m args meth c D vwCl (xtys cs) A s.heap 47 ad (wfS cs ad) cX2_allHours 3 RX2 (some FieldType.int))  (n : Nat) {σ : xM} {res : Int32} : ∀ (f : Nat) (l1 : Int32) (l2 : Int32), B_X2_allHours_4 n σ f l1 l2 = some res → x_W p l e ({ frames := 0, cells := 0, slots := 0, locals := 0 } : Room) s m args below meth c D vwCl A s.heap 47 ad (wfS cs ad) 3 0 0 (x_E below args s D vwCl 47 ad (wfS cs ad) A (some (.int res)) σ) σ 4 [(0, .ref (ad 0)), (1, .int l1), (2, .int l2)] [] := by
  intro f
  induction f with
  | zero =>
    intro l1 l2 h
    cases h
  | succ f ih =>
    intro l1 l2 h
    refine x_iload_n C0 dX2_allHours_4 rfl 2 rfl ?_
    refine x_aload_n C0 dX2_allHours_5 rfl 0 rfl ?_
    refine x_get C0 inu2 rfl 6 (by decide) mw_185 kS_0.1 (wfS_2 kS_0.2) rfl dX2_allHours_6 ?_
    refine x_icmp_ge C0 (tgt := 30) dX2_allHours_9 rfl h (fun _ h => ?_) (fun _ h => ?_)
    · refine x_iload_n C0 dX2_allHours_12 rfl 1 rfl ?_
      refine x_aload_n C0 dX2_allHours_13 rfl 0 rfl ?_
      refine x_get C0 inu2 rfl 2 (by decide) mw_178 kS_0.1 (wfS_2 kS_0.2) rfl dX2_allHours_14 ?_
      refine x_top (v' := .ref (ad 20)) rfl ?_
      refine x_iload_n C0 dX2_allHours_17 rfl 2 rfl ?_
      refine x_aald C0 2 rfl kS_20.1 (wfS_8 kS_20.2) dX2_allHours_18 h (fun _ h => ?_)
      obtain ⟨c1, ec1, h⟩ := x_bind h
      refine x_top (v' := .ref (ad c1)) (x_rf ec1) ?_
      have kc1 := ty_8 kS_20 ec1
      refine x_getN C0 inu0 rfl 7 (by decide) mw_121 kc1.1 (wfS_0 kc1.2) rfl dX2_allHours_19 ?_
      refine x_iadd C0 dX2_allHours_22 ?_
      refine x_pc (pc' := 23) rfl ?_
      refine x_istore_n C0 dX2_allHours_23 rfl (L' := [(1, _), (0, _), (2, _)]) (by decide) rfl ?_
      refine x_iinc C0 (v := 1) (L' := [(2, _), (1, _), (0, _)]) dX2_allHours_24 2 rfl ki_1 (by decide) rfl ?_
      refine x_goto C0 (tgt := 4) dX2_allHours_27 rfl ?_
      refine x_sub [2, 1, 0] (L' := [(0, _), (1, _), (2, _)]) rfl ?_
      refine x_pc (pc' := 4) rfl ?_
      exact ih _ _ h
    · refine x_iload_n C0 dX2_allHours_30 rfl 1 rfl ?_
      obtain rfl := x_inj h
      exact x_iret C0 dX2_allHours_31
set_option maxRecDepth 4000 in
set_option maxHeartbeats 2000000 in
theorem c_X2_allHours {l : Launch} {D : va_G} {cs : Nat → ClassId} {ad : Nat → Nat} (n : Nat) {σ : xM}  {res : Int32} (h : F_X2_allHours n σ = some res) : x_Met l yX2_allHours [Cond.code yX2_allHours cX2_allHours 3 (some FieldType.int)] ({ frames := 0, cells := 0, slots := 0, locals := 0 } : Room) D vwCl (xtys cs) 47 ad (wfS cs ad) [.ref (ad 0)] σ (some (.int res)) σ := by
  refine x_Met_of (L0 := [(0, .ref (ad 0))]) (own := RX2) (by decide) rfl rfl wfS_loc (Nat.le_of_ble_eq_true rfl) rfl ?_
  intro p e s m args below meth c A C0
  refine x_iconst C0 (v := 0) dX2_allHours_0 ki_0 ?_
  refine x_istore_n C0 dX2_allHours_1 rfl (L' := [(1, _), (0, _)]) (by decide) rfl ?_
  refine x_iconst C0 (v := 0) dX2_allHours_2 ki_0 ?_
  refine x_istore_n C0 dX2_allHours_3 rfl (L' := [(2, _), (1, _), (0, _)]) (by decide) rfl ?_
  refine x_sub [2, 1, 0] (L' := [(0, _), (1, _), (2, _)]) rfl ?_
  refine x_pc (pc' := 4) rfl ?_
  exact b_X2_allHours_4 C0 n n _ _ h
