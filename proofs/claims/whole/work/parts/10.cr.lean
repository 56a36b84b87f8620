theorem kb_10 : (Int8.ofInt 10).toInt32 = 10 := by decide
theorem kb_104 : (Int8.ofInt 104).toInt32 = 104 := by decide
theorem kb_11 : (Int8.ofInt 11).toInt32 = 11 := by decide
theorem kb_112 : (Int8.ofInt 112).toInt32 = 112 := by decide
theorem kb_120 : (Int8.ofInt 120).toInt32 = 120 := by decide
theorem kb_13 : (Int8.ofInt 13).toInt32 = 13 := by decide
theorem kb_14 : (Int8.ofInt 14).toInt32 = 14 := by decide
theorem kb_15 : (Int8.ofInt 15).toInt32 = 15 := by decide
theorem kb_16 : (Int8.ofInt 16).toInt32 = 16 := by decide
theorem kb_30 : (Int8.ofInt 30).toInt32 = 30 := by decide
theorem kb_44 : (Int8.ofInt 44).toInt32 = 44 := by decide
theorem kb_48 : (Int8.ofInt 48).toInt32 = 48 := by decide
theorem kb_57 : (Int8.ofInt 57).toInt32 = 57 := by decide
theorem kb_80 : (Int8.ofInt 80).toInt32 = 80 := by decide
theorem kb_97 : (Int8.ofInt 97).toInt32 = 97 := by decide
theorem kb_m100 : (Int8.ofInt (-100)).toInt32 = (-100) := by decide
theorem kb_m2 : (Int8.ofInt (-2)).toInt32 = (-2) := by decide
theorem kb_m4 : (Int8.ofInt (-4)).toInt32 = (-4) := by decide
theorem ks_1790 : (Int16.ofInt 1790).toInt32 = 1790 := by decide
theorem ks_204 : (Int16.ofInt 204).toInt32 = 204 := by decide
theorem ks_2148 : (Int16.ofInt 2148).toInt32 = 2148 := by decide
theorem ks_300 : (Int16.ofInt 300).toInt32 = 300 := by decide
theorem ks_348 : (Int16.ofInt 348).toInt32 = 348 := by decide
theorem ks_349 : (Int16.ofInt 349).toInt32 = 349 := by decide
theorem ks_350 : (Int16.ofInt 350).toInt32 = 350 := by decide
theorem ks_351 : (Int16.ofInt 351).toInt32 = 351 := by decide
theorem ks_352 : (Int16.ofInt 352).toInt32 = 352 := by decide
theorem ks_353 : (Int16.ofInt 353).toInt32 = 353 := by decide
theorem ks_354 : (Int16.ofInt 354).toInt32 = 354 := by decide
theorem ks_355 : (Int16.ofInt 355).toInt32 = 355 := by decide
theorem ks_356 : (Int16.ofInt 356).toInt32 = 356 := by decide
theorem ks_357 : (Int16.ofInt 357).toInt32 = 357 := by decide
theorem ks_358 : (Int16.ofInt 358).toInt32 = 358 := by decide
theorem ks_999 : (Int16.ofInt 999).toInt32 = 999 := by decide
theorem ks_m999 : (Int16.ofInt (-999)).toInt32 = (-999) := by decide
theorem hd_yX5_addRow : yX5_addRow.cls ≠ "java/lang/invoke/MethodHandle" ∧ yX5_addRow.cls ≠ "java/lang/invoke/VarHandle" ∧ (parseMethodDescriptor yX5_addRow.desc).map (fun d => d.parameters.length) = some 5 := ⟨by decide +kernel, by decide +kernel, by decide +kernel⟩
theorem hd_yX5_append : yX5_append.cls ≠ "java/lang/invoke/MethodHandle" ∧ yX5_append.cls ≠ "java/lang/invoke/VarHandle" ∧ (parseMethodDescriptor yX5_append.desc).map (fun d => d.parameters.length) = some 4 := ⟨by decide +kernel, by decide +kernel, by decide +kernel⟩
theorem hd_yX5_cellOf : yX5_cellOf.cls ≠ "java/lang/invoke/MethodHandle" ∧ yX5_cellOf.cls ≠ "java/lang/invoke/VarHandle" ∧ (parseMethodDescriptor yX5_cellOf.desc).map (fun d => d.parameters.length) = some 2 := ⟨by decide +kernel, by decide +kernel, by decide +kernel⟩
theorem hd_yX5_closeUp : yX5_closeUp.cls ≠ "java/lang/invoke/MethodHandle" ∧ yX5_closeUp.cls ≠ "java/lang/invoke/VarHandle" ∧ (parseMethodDescriptor yX5_closeUp.desc).map (fun d => d.parameters.length) = some 2 := ⟨by decide +kernel, by decide +kernel, by decide +kernel⟩
theorem hd_yX5_copy : yX5_copy.cls ≠ "java/lang/invoke/MethodHandle" ∧ yX5_copy.cls ≠ "java/lang/invoke/VarHandle" ∧ (parseMethodDescriptor yX5_copy.desc).map (fun d => d.parameters.length) = some 2 := ⟨by decide +kernel, by decide +kernel, by decide +kernel⟩
theorem hd_yX5_dropRow : yX5_dropRow.cls ≠ "java/lang/invoke/MethodHandle" ∧ yX5_dropRow.cls ≠ "java/lang/invoke/VarHandle" ∧ (parseMethodDescriptor yX5_dropRow.desc).map (fun d => d.parameters.length) = some 2 := ⟨by decide +kernel, by decide +kernel, by decide +kernel⟩
theorem hd_yX5_empty : yX5_empty.cls ≠ "java/lang/invoke/MethodHandle" ∧ yX5_empty.cls ≠ "java/lang/invoke/VarHandle" ∧ (parseMethodDescriptor yX5_empty.desc).map (fun d => d.parameters.length) = some 0 := ⟨by decide +kernel, by decide +kernel, by decide +kernel⟩
theorem hd_yX5_faultOf : yX5_faultOf.cls ≠ "java/lang/invoke/MethodHandle" ∧ yX5_faultOf.cls ≠ "java/lang/invoke/VarHandle" ∧ (parseMethodDescriptor yX5_faultOf.desc).map (fun d => d.parameters.length) = some 0 := ⟨by decide +kernel, by decide +kernel, by decide +kernel⟩
theorem hd_yX5_fetch : yX5_fetch.cls ≠ "java/lang/invoke/MethodHandle" ∧ yX5_fetch.cls ≠ "java/lang/invoke/VarHandle" ∧ (parseMethodDescriptor yX5_fetch.desc).map (fun d => d.parameters.length) = some 2 := ⟨by decide +kernel, by decide +kernel, by decide +kernel⟩
theorem hd_yX5_fetchAhead : yX5_fetchAhead.cls ≠ "java/lang/invoke/MethodHandle" ∧ yX5_fetchAhead.cls ≠ "java/lang/invoke/VarHandle" ∧ (parseMethodDescriptor yX5_fetchAhead.desc).map (fun d => d.parameters.length) = some 2 := ⟨by decide +kernel, by decide +kernel, by decide +kernel⟩
theorem hd_yX5_find : yX5_find.cls ≠ "java/lang/invoke/MethodHandle" ∧ yX5_find.cls ≠ "java/lang/invoke/VarHandle" ∧ (parseMethodDescriptor yX5_find.desc).map (fun d => d.parameters.length) = some 1 := ⟨by decide +kernel, by decide +kernel, by decide +kernel⟩
theorem hd_yX5_forgetLine : yX5_forgetLine.cls ≠ "java/lang/invoke/MethodHandle" ∧ yX5_forgetLine.cls ≠ "java/lang/invoke/VarHandle" ∧ (parseMethodDescriptor yX5_forgetLine.desc).map (fun d => d.parameters.length) = some 1 := ⟨by decide +kernel, by decide +kernel, by decide +kernel⟩
theorem hd_yX5_forgetOut : yX5_forgetOut.cls ≠ "java/lang/invoke/MethodHandle" ∧ yX5_forgetOut.cls ≠ "java/lang/invoke/VarHandle" ∧ (parseMethodDescriptor yX5_forgetOut.desc).map (fun d => d.parameters.length) = some 1 := ⟨by decide +kernel, by decide +kernel, by decide +kernel⟩
theorem hd_yX5_giveHours : yX5_giveHours.cls ≠ "java/lang/invoke/MethodHandle" ∧ yX5_giveHours.cls ≠ "java/lang/invoke/VarHandle" ∧ (parseMethodDescriptor yX5_giveHours.desc).map (fun d => d.parameters.length) = some 2 := ⟨by decide +kernel, by decide +kernel, by decide +kernel⟩
theorem hd_yX5_go : yX5_go.cls ≠ "java/lang/invoke/MethodHandle" ∧ yX5_go.cls ≠ "java/lang/invoke/VarHandle" ∧ (parseMethodDescriptor yX5_go.desc).map (fun d => d.parameters.length) = some 2 := ⟨by decide +kernel, by decide +kernel, by decide +kernel⟩
theorem hd_yX5_goOn : yX5_goOn.cls ≠ "java/lang/invoke/MethodHandle" ∧ yX5_goOn.cls ≠ "java/lang/invoke/VarHandle" ∧ (parseMethodDescriptor yX5_goOn.desc).map (fun d => d.parameters.length) = some 4 := ⟨by decide +kernel, by decide +kernel, by decide +kernel⟩
theorem hd_yX5_hoursOfAll : yX5_hoursOfAll.cls ≠ "java/lang/invoke/MethodHandle" ∧ yX5_hoursOfAll.cls ≠ "java/lang/invoke/VarHandle" ∧ (parseMethodDescriptor yX5_hoursOfAll.desc).map (fun d => d.parameters.length) = some 0 := ⟨by decide +kernel, by decide +kernel, by decide +kernel⟩
theorem hd_yX5_in : yX5_in.cls ≠ "java/lang/invoke/MethodHandle" ∧ yX5_in.cls ≠ "java/lang/invoke/VarHandle" ∧ (parseMethodDescriptor yX5_in.desc).map (fun d => d.parameters.length) = some 3 := ⟨by decide +kernel, by decide +kernel, by decide +kernel⟩
theorem hd_yX5_isAccess : yX5_isAccess.cls ≠ "java/lang/invoke/MethodHandle" ∧ yX5_isAccess.cls ≠ "java/lang/invoke/VarHandle" ∧ (parseMethodDescriptor yX5_isAccess.desc).map (fun d => d.parameters.length) = some 2 := ⟨by decide +kernel, by decide +kernel, by decide +kernel⟩
theorem hd_yX5_isHelper : yX5_isHelper.cls ≠ "java/lang/invoke/MethodHandle" ∧ yX5_isHelper.cls ≠ "java/lang/invoke/VarHandle" ∧ (parseMethodDescriptor yX5_isHelper.desc).map (fun d => d.parameters.length) = some 1 := ⟨by decide +kernel, by decide +kernel, by decide +kernel⟩
theorem hd_yX5_isLine : yX5_isLine.cls ≠ "java/lang/invoke/MethodHandle" ∧ yX5_isLine.cls ≠ "java/lang/invoke/VarHandle" ∧ (parseMethodDescriptor yX5_isLine.desc).map (fun d => d.parameters.length) = some 1 := ⟨by decide +kernel, by decide +kernel, by decide +kernel⟩
theorem hd_yX5_isWalk : yX5_isWalk.cls ≠ "java/lang/invoke/MethodHandle" ∧ yX5_isWalk.cls ≠ "java/lang/invoke/VarHandle" ∧ (parseMethodDescriptor yX5_isWalk.desc).map (fun d => d.parameters.length) = some 4 := ⟨by decide +kernel, by decide +kernel, by decide +kernel⟩
theorem hd_yX5_learn : yX5_learn.cls ≠ "java/lang/invoke/MethodHandle" ∧ yX5_learn.cls ≠ "java/lang/invoke/VarHandle" ∧ (parseMethodDescriptor yX5_learn.desc).map (fun d => d.parameters.length) = some 4 := ⟨by decide +kernel, by decide +kernel, by decide +kernel⟩
theorem hd_yX5_learnStream : yX5_learnStream.cls ≠ "java/lang/invoke/MethodHandle" ∧ yX5_learnStream.cls ≠ "java/lang/invoke/VarHandle" ∧ (parseMethodDescriptor yX5_learnStream.desc).map (fun d => d.parameters.length) = some 2 := ⟨by decide +kernel, by decide +kernel, by decide +kernel⟩
theorem hd_yX5_learnStride : yX5_learnStride.cls ≠ "java/lang/invoke/MethodHandle" ∧ yX5_learnStride.cls ≠ "java/lang/invoke/VarHandle" ∧ (parseMethodDescriptor yX5_learnStride.desc).map (fun d => d.parameters.length) = some 3 := ⟨by decide +kernel, by decide +kernel, by decide +kernel⟩
theorem hd_yX5_linesIn : yX5_linesIn.cls ≠ "java/lang/invoke/MethodHandle" ∧ yX5_linesIn.cls ≠ "java/lang/invoke/VarHandle" ∧ (parseMethodDescriptor yX5_linesIn.desc).map (fun d => d.parameters.length) = some 0 := ⟨by decide +kernel, by decide +kernel, by decide +kernel⟩
theorem hd_yX5_loggedMany : yX5_loggedMany.cls ≠ "java/lang/invoke/MethodHandle" ∧ yX5_loggedMany.cls ≠ "java/lang/invoke/VarHandle" ∧ (parseMethodDescriptor yX5_loggedMany.desc).map (fun d => d.parameters.length) = some 0 := ⟨by decide +kernel, by decide +kernel, by decide +kernel⟩
theorem hd_yX5_newOf : yX5_newOf.cls ≠ "java/lang/invoke/MethodHandle" ∧ yX5_newOf.cls ≠ "java/lang/invoke/VarHandle" ∧ (parseMethodDescriptor yX5_newOf.desc).map (fun d => d.parameters.length) = some 1 := ⟨by decide +kernel, by decide +kernel, by decide +kernel⟩
theorem hd_yX5_of : yX5_of.cls ≠ "java/lang/invoke/MethodHandle" ∧ yX5_of.cls ≠ "java/lang/invoke/VarHandle" ∧ (parseMethodDescriptor yX5_of.desc).map (fun d => d.parameters.length) = some 2 := ⟨by decide +kernel, by decide +kernel, by decide +kernel⟩
theorem hd_yX5_outPlaceOf : yX5_outPlaceOf.cls ≠ "java/lang/invoke/MethodHandle" ∧ yX5_outPlaceOf.cls ≠ "java/lang/invoke/VarHandle" ∧ (parseMethodDescriptor yX5_outPlaceOf.desc).map (fun d => d.parameters.length) = some 1 := ⟨by decide +kernel, by decide +kernel, by decide +kernel⟩
theorem hd_yX5_placeOf : yX5_placeOf.cls ≠ "java/lang/invoke/MethodHandle" ∧ yX5_placeOf.cls ≠ "java/lang/invoke/VarHandle" ∧ (parseMethodDescriptor yX5_placeOf.desc).map (fun d => d.parameters.length) = some 1 := ⟨by decide +kernel, by decide +kernel, by decide +kernel⟩
theorem hd_yX5_programsLogged : yX5_programsLogged.cls ≠ "java/lang/invoke/MethodHandle" ∧ yX5_programsLogged.cls ≠ "java/lang/invoke/VarHandle" ∧ (parseMethodDescriptor yX5_programsLogged.desc).map (fun d => d.parameters.length) = some 0 := ⟨by decide +kernel, by decide +kernel, by decide +kernel⟩
theorem hd_yX5_reachOf : yX5_reachOf.cls ≠ "java/lang/invoke/MethodHandle" ∧ yX5_reachOf.cls ≠ "java/lang/invoke/VarHandle" ∧ (parseMethodDescriptor yX5_reachOf.desc).map (fun d => d.parameters.length) = some 1 := ⟨by decide +kernel, by decide +kernel, by decide +kernel⟩
theorem hd_yX5_record : yX5_record.cls ≠ "java/lang/invoke/MethodHandle" ∧ yX5_record.cls ≠ "java/lang/invoke/VarHandle" ∧ (parseMethodDescriptor yX5_record.desc).map (fun d => d.parameters.length) = some 0 := ⟨by decide +kernel, by decide +kernel, by decide +kernel⟩
theorem hd_yX5_rowOf : yX5_rowOf.cls ≠ "java/lang/invoke/MethodHandle" ∧ yX5_rowOf.cls ≠ "java/lang/invoke/VarHandle" ∧ (parseMethodDescriptor yX5_rowOf.desc).map (fun d => d.parameters.length) = some 2 := ⟨by decide +kernel, by decide +kernel, by decide +kernel⟩
theorem hd_yX5_throwOut : yX5_throwOut.cls ≠ "java/lang/invoke/MethodHandle" ∧ yX5_throwOut.cls ≠ "java/lang/invoke/VarHandle" ∧ (parseMethodDescriptor yX5_throwOut.desc).map (fun d => d.parameters.length) = some 2 := ⟨by decide +kernel, by decide +kernel, by decide +kernel⟩
theorem hd_yX5_use : yX5_use.cls ≠ "java/lang/invoke/MethodHandle" ∧ yX5_use.cls ≠ "java/lang/invoke/VarHandle" ∧ (parseMethodDescriptor yX5_use.desc).map (fun d => d.parameters.length) = some 1 := ⟨by decide +kernel, by decide +kernel, by decide +kernel⟩
theorem hd_yX5_work : yX5_work.cls ≠ "java/lang/invoke/MethodHandle" ∧ yX5_work.cls ≠ "java/lang/invoke/VarHandle" ∧ (parseMethodDescriptor yX5_work.desc).map (fun d => d.parameters.length) = some 0 := ⟨by decide +kernel, by decide +kernel, by decide +kernel⟩
theorem nb_F_X5_in {a b c : Int32} : narrow .boolean (.int (F_X5_in a b c)) = .int (F_X5_in a b c) := by
  unfold F_X5_in
  repeat (first | rfl | split)
set_option maxRecDepth 4000 in
set_option maxHeartbeats 2000000 in
theorem c_X5_in {l : Launch} {D : va_G} {cs : Nat → ClassId} {ad : Nat → Nat} {x0 : Int32} {x1 : Int32} {x2 : Int32}  {res : Int32} (h : F_X5_in x0 x1 x2 = res) : x_Met l yX5_in [Cond.code yX5_in cX5_in 3 (some FieldType.boolean)] ({ frames := 0, cells := 0, slots := 0, locals := 0 } : Room) D vwCl (xtys cs) 0 ad wf0 [.int x0, .int x1, .int x2] m0 (some (.int res)) m0 := by
  refine x_Met_of (L0 := [(0, .int x0), (1, .int x1), (2, .int x2)]) (own := RX5) (by decide) rfl rfl wf0_loc (Nat.le_of_ble_eq_true rfl) rfl ?_
  intro p e s m args below meth c A C0
  refine x_iload_n C0 dX5_in_0 rfl 0 rfl ?_
  refine x_iload_n C0 dX5_in_1 rfl 1 rfl ?_
  refine x_icmp_lt C0 (tgt := 14) dX5_in_2 rfl h (fun _ h => ?_) (fun _ h => ?_)
  · refine x_iconst C0 (v := 0) dX5_in_14 ki_0 ?_
    subst h
    exact x_zret (v := 0) C0 rfl dX5_in_15
  · refine x_iload_n C0 dX5_in_5 rfl 0 rfl ?_
    refine x_iload_n C0 dX5_in_6 rfl 2 rfl ?_
    refine x_icmp_gt C0 (tgt := 14) dX5_in_7 rfl h (fun _ h => ?_) (fun _ h => ?_)
    · refine x_iconst C0 (v := 0) dX5_in_14 ki_0 ?_
      subst h
      exact x_zret (v := 0) C0 rfl dX5_in_15
    · refine x_iconst C0 (v := 1) dX5_in_10 ki_1 ?_
      refine x_goto C0 (tgt := 15) dX5_in_11 rfl ?_
      subst h
      exact x_zret (v := 1) C0 rfl dX5_in_15
set_option maxRecDepth 4000 in
set_option maxHeartbeats 2000000 in
theorem c_X5_isLine {l : Launch} {D : va_G} {cs : Nat → ClassId} {ad : Nat → Nat} {x0 : Int32}  {res : Int32} (h : F_X5_isLine x0 = res) : x_Met l yX5_isLine [Cond.code yX5_isLine cX5_isLine 1 (some FieldType.boolean)] ({ frames := 1, cells := 0, slots := 0, locals := 22 } : Room) D vwCl (xtys cs) 0 ad wf0 [.int x0] m0 (some (.int res)) m0 := by
  refine x_Met_of (L0 := [(0, .int x0)]) (own := RX5) (by decide) rfl rfl wf0_loc (Nat.le_of_ble_eq_true rfl) rfl ?_
  intro p e s m args below meth c A C0
  refine x_iload_n C0 dX5_isLine_0 rfl 0 rfl ?_
  refine x_iconst C0 (v := 0) dX5_isLine_1 ki_0 ?_
  refine x_sipush C0 (v := 9999) dX5_isLine_2 ks_9999 ?_
  refine x_pureS3 C0 (fun ad' => c_X5_in rfl) (x_cwS C0 mw_696 mw_697 mw_84 mw_698 hd_yX5_in ⟨rfl, rfl, Nat.le_of_ble_eq_true rfl, Nat.le_of_ble_eq_true rfl⟩) ⟨Nat.zero_le _, Nat.zero_le _⟩ (Nat.le_of_ble_eq_true rfl) dX5_isLine_5 ?_
  subst h
  exact x_zret C0 (nb_F_X5_in) dX5_isLine_8
set_option maxRecDepth 4000 in
set_option maxHeartbeats 2000000 in
theorem c_X5_isHelper {l : Launch} {D : va_G} {cs : Nat → ClassId} {ad : Nat → Nat} (n : Nat) {σ : xM} {x1 : Int32}  {res : Int32} (h : F_X5_isHelper n σ x1 = some res) : x_Met l yX5_isHelper [Cond.code yX5_isHelper cX5_isHelper 2 (some FieldType.boolean)] ({ frames := 1, cells := 0, slots := 0, locals := 22 } : Room) D vwCl (xtys cs) 4 ad (wfR cs ad) [.ref (ad 0), .int x1] σ (some (.int res)) σ := by
  refine x_Met_of (L0 := [(0, .ref (ad 0)), (1, .int x1)]) (own := RX5) (by decide) rfl rfl wfR_loc (Nat.le_of_ble_eq_true rfl) rfl ?_
  intro p e s m args below meth c A C0
  refine x_iload_n C0 dX5_isHelper_0 rfl 1 rfl ?_
  refine x_iconst C0 (v := 0) dX5_isHelper_1 ki_0 ?_
  refine x_aload_n C0 dX5_isHelper_2 rfl 0 rfl ?_
  refine x_get C0 inu5 rfl 0 (by decide) mw_643 (by decide) wfR_0 rfl dX5_isHelper_3 ?_
  refine x_sipush C0 (v := 351) dX5_isHelper_6 ks_351 ?_
  refine x_iald C0 1 rfl (by decide) wfR_1 dX5_isHelper_9 h (fun _ h => ?_)
  refine x_iconst C0 (v := 1) dX5_isHelper_10 ki_1 ?_
  refine x_pc (pc' := 11) rfl ?_
  refine x_isub C0 dX5_isHelper_11 ?_
  refine x_pureS3 C0 (fun ad' => c_X5_in rfl) (x_cwS C0 mw_696 mw_697 mw_84 mw_698 hd_yX5_in ⟨rfl, rfl, Nat.le_of_ble_eq_true rfl, Nat.le_of_ble_eq_true rfl⟩) ⟨Nat.zero_le _, Nat.zero_le _⟩ (Nat.le_of_ble_eq_true rfl) dX5_isHelper_12 ?_
  obtain rfl := x_inj h
  exact x_zret C0 (nb_F_X5_in) dX5_isHelper_15
set_option maxRecDepth 4000 in
set_option maxHeartbeats 2000000 in
theorem c_X5_of {l : Launch} {D : va_G} {cs : Nat → ClassId} {ad : Nat → Nat} {x0 : Int32} {x1 : Int32}  {res : Int32} (h : F_X5_of x0 x1 = res) : x_Met l yX5_of [Cond.code yX5_of cX5_of 2 (some FieldType.int)] ({ frames := 0, cells := 0, slots := 0, locals := 0 } : Room) D vwCl (xtys cs) 0 ad wf0 [.int x0, .int x1] m0 (some (.int res)) m0 := by
  refine x_Met_of (L0 := [(0, .int x0), (1, .int x1)]) (own := RX5) (by decide) rfl rfl wf0_loc (Nat.le_of_ble_eq_true rfl) rfl ?_
  intro p e s m args below meth c A C0
  refine x_bipush C0 (v := 120) dX5_of_0 kb_120 ?_
  refine x_bipush C0 (v := 14) dX5_of_2 kb_14 ?_
  refine x_iload_n C0 dX5_of_4 rfl 0 rfl ?_
  refine x_imul C0 dX5_of_5 ?_
  refine x_iadd C0 dX5_of_6 ?_
  refine x_iload_n C0 dX5_of_7 rfl 1 rfl ?_
  refine x_iadd C0 dX5_of_8 ?_
  refine x_pc (pc' := 9) rfl ?_
  subst h
  exact x_iret C0 dX5_of_9
set_option maxRecDepth 4000 in
set_option maxHeartbeats 2000000 in
theorem b_X5_copy_2 {p : Program} {l : Launch} {e : Env} {s : State} {m : MethodId} {args : Array Value} {below : List Frame} {meth : Method} {c : Code} {D : va_G} {cs : Nat → ClassId} {ad : Nat → Nat} {A : Nat → Prop} (C0 : x_C p s m args meth c D vwCl (xtys cs) A s.heap 4 ad (wfR cs ad) cX5_copy 4 RX5 none)  (n : Nat) {res : xM} : ∀ (f : Nat) (σ : xM) (l1 : Int32) (l2 : Int32) (l3 : Int32), B_X5_copy_2 n f σ l1 l2 l3 = some res → x_W p l e ({ frames := 0, cells := 0, slots := 0, locals := 0 } : Room) s m args below meth c D vwCl A s.heap 4 ad (wfR cs ad) 4 0 0 (x_E below args s D vwCl 4 ad (wfR cs ad) A none res) σ 2 [(0, .ref (ad 0)), (1, .int l1), (2, .int l2), (3, .int l3)] [] := by
  intro f
  induction f with
  | zero =>
    intro σ l1 l2 l3 h
    cases h
  | succ f ih =>
    intro σ l1 l2 l3 h
    refine x_iload_n C0 dX5_copy_2 rfl 3 rfl ?_
    refine x_sipush C0 (v := 358) dX5_copy_3 ks_358 ?_
    refine x_icmp_ge C0 (tgt := 31) dX5_copy_6 rfl h (fun _ h => ?_) (fun _ h => ?_)
    · refine x_aload_n C0 dX5_copy_9 rfl 0 rfl ?_
      refine x_get C0 inu5 rfl 0 (by decide) mw_643 (by decide) wfR_0 rfl dX5_copy_10 ?_
      refine x_iload_n C0 dX5_copy_13 rfl 2 rfl ?_
      refine x_iload_n C0 dX5_copy_14 rfl 3 rfl ?_
      refine x_iadd C0 dX5_copy_15 ?_
      refine x_aload_n C0 dX5_copy_16 rfl 0 rfl ?_
      refine x_get C0 inu5 rfl 0 (by decide) mw_643 (by decide) wfR_0 rfl dX5_copy_17 ?_
      refine x_pc (pc' := 20) rfl ?_
      refine x_iload_n C0 dX5_copy_20 rfl 1 rfl ?_
      refine x_iload_n C0 dX5_copy_21 rfl 3 rfl ?_
      refine x_iadd C0 dX5_copy_22 ?_
      refine x_iald C0 1 rfl (by decide) wfR_1 dX5_copy_23 h (fun _ h => ?_)
      refine x_iast C0 1 rfl (by decide) wfR_1 wpR_1 (fun r' h' k' => x_up_ne r' h' k') dX5_copy_24 h (fun _ h => ?_)
      refine x_iinc C0 (v := 1) (L' := [(3, _), (0, _), (1, _), (2, _)]) dX5_copy_25 3 rfl ki_1 (by decide) rfl ?_
      refine x_goto C0 (tgt := 2) dX5_copy_28 rfl ?_
      refine x_sub [1, 2, 3, 0] (L' := [(0, _), (1, _), (2, _), (3, _)]) rfl ?_
      refine x_pc (pc' := 2) rfl ?_
      exact ih _ _ _ _ h
    · obtain rfl := x_inj h
      exact x_vret C0 dX5_copy_31
set_option maxRecDepth 4000 in
set_option maxHeartbeats 2000000 in
theorem c_X5_copy {l : Launch} {D : va_G} {cs : Nat → ClassId} {ad : Nat → Nat} (n : Nat) {σ : xM} {x1 : Int32} {x2 : Int32}  {res : xM} (h : F_X5_copy n σ x1 x2 = some res) : x_Met l yX5_copy [Cond.code yX5_copy cX5_copy 4 none] ({ frames := 0, cells := 0, slots := 0, locals := 0 } : Room) D vwCl (xtys cs) 4 ad (wfR cs ad) [.ref (ad 0), .int x1, .int x2] σ none res := by
  refine x_Met_of (L0 := [(0, .ref (ad 0)), (1, .int x1), (2, .int x2)]) (own := RX5) (by decide) rfl rfl wfR_loc (Nat.le_of_ble_eq_true rfl) rfl ?_
  intro p e s m args below meth c A C0
  refine x_iconst C0 (v := 0) dX5_copy_0 ki_0 ?_
  refine x_istore_n C0 dX5_copy_1 rfl (L' := [(3, _), (0, _), (1, _), (2, _)]) (by decide) rfl ?_
  refine x_sub [1, 2, 3, 0] (L' := [(0, _), (1, _), (2, _), (3, _)]) rfl ?_
  refine x_pc (pc' := 2) rfl ?_
  exact b_X5_copy_2 C0 n n _ _ _ _ h
set_option maxRecDepth 4000 in
set_option maxHeartbeats 2000000 in
theorem b_X5_record_49 {p : Program} {l : Launch} {e : Env} {s : State} {m : MethodId} {args : Array Value} {below : List Frame} {meth : Method} {c : Code} {D : va_G} {cs : Nat → ClassId} {ad : Nat → Nat} {A : Nat → Prop} (C0 : x_C p s m args meth c D vwCl (xtys cs) A s.heap 4 ad (wfR cs ad) cX5_record 2 RX5 none)  (n : Nat) {res : xM} : ∀ (σ : xM), B_X5_record_49 n σ = some res → x_W p l e ({ frames := 1, cells := 0, slots := 0, locals := 23 } : Room) s m args below meth c D vwCl A s.heap 4 ad (wfR cs ad) 2 0 0 (x_E below args s D vwCl 4 ad (wfR cs ad) A none res) σ 49 [(0, .ref (ad 0))] [] := by
  intro σ h
  refine x_aload_n C0 dX5_record_49 rfl 0 rfl ?_
  refine x_iconst C0 (v := 0) dX5_record_50 ki_0 ?_
  refine x_sipush C0 (v := 358) dX5_record_51 ks_358 ?_
  refine x_sipush C0 (v := 358) dX5_record_54 ks_358 ?_
  refine x_aload_n C0 dX5_record_57 rfl 0 rfl ?_
  refine x_get C0 inu5 rfl 1 (by decide) mw_644 (by decide) wfR_0 rfl dX5_record_58 ?_
  refine x_imul C0 dX5_record_61 ?_
  refine x_pc (pc' := 62) rfl ?_
  refine x_iadd C0 dX5_record_62 ?_
  obtain ⟨q3, eq3, h⟩ := x_bind h
  refine x_callV20 C0 (c_X5_copy n eq3) (x_cwV C0 mw_676 mw_678 mw_46 mw_84 mw_679 hd_yX5_copy ⟨rfl, rfl, Nat.le_of_ble_eq_true rfl, Nat.le_of_ble_eq_true rfl⟩) (by decide) rfl wfR_0 rfl ⟨Nat.zero_le _, Nat.zero_le _⟩ (Nat.le_of_ble_eq_true rfl) dX5_record_63 ?_
  refine x_aload_n C0 dX5_record_66 rfl 0 rfl ?_
  refine x_dup C0 dX5_record_67 rfl ?_
  refine x_get C0 inu5 rfl 1 (by decide) mw_644 (by decide) wfR_0 rfl dX5_record_68 ?_
  refine x_iconst C0 (v := 1) dX5_record_71 ki_1 ?_
  refine x_iadd C0 dX5_record_72 ?_
  refine x_put C0 inu5 tyX5 tyX5_ok nmX5 rfl 1 (by decide) mw_644 rfl rfl rfl (by decide) wfR_0 (Nat.le_of_ble_eq_true rfl) wpR_0_1 (fun r' h' k' => x_up_ne r' h' k') dX5_record_73 ?_
  refine x_pc (pc' := 76) rfl ?_
  obtain rfl := x_inj h
  exact x_vret C0 dX5_record_76
set_option maxRecDepth 4000 in
set_option maxHeartbeats 2000000 in
theorem b_X5_record_10 {p : Program} {l : Launch} {e : Env} {s : State} {m : MethodId} {args : Array Value} {below : List Frame} {meth : Method} {c : Code} {D : va_G} {cs : Nat → ClassId} {ad : Nat → Nat} {A : Nat → Prop} (C0 : x_C p s m args meth c D vwCl (xtys cs) A s.heap 4 ad (wfR cs ad) cX5_record 2 RX5 none)  (n : Nat) {res : xM} : ∀ (f : Nat) (σ : xM) (l1 : Int32), B_X5_record_10 n f σ l1 = some res → x_W p l e ({ frames := 1, cells := 0, slots := 0, locals := 23 } : Room) s m args below meth c D vwCl A s.heap 4 ad (wfR cs ad) 2 0 0 (x_E below args s D vwCl 4 ad (wfR cs ad) A none res) σ 10 [(0, .ref (ad 0)), (1, .int l1)] [] := by
  intro f
  induction f with
  | zero =>
    intro σ l1 h
    cases h
  | succ f ih =>
    intro σ l1 h
    refine x_iload_n C0 dX5_record_10 rfl 1 rfl ?_
    refine x_iconst C0 (v := 4) dX5_record_11 ki_4 ?_
    refine x_icmp_ge C0 (tgt := 39) dX5_record_12 rfl h (fun _ h => ?_) (fun _ h => ?_)
    · refine x_aload_n C0 dX5_record_15 rfl 0 rfl ?_
      refine x_sipush C0 (v := 358) dX5_record_16 ks_358 ?_
      refine x_sipush C0 (v := 358) dX5_record_19 ks_358 ?_
      refine x_iload_n C0 dX5_record_22 rfl 1 rfl ?_
      refine x_imul C0 dX5_record_23 ?_
      refine x_iadd C0 dX5_record_24 ?_
      refine x_sipush C0 (v := 358) dX5_record_25 ks_358 ?_
      refine x_pc (pc' := 28) rfl ?_
      refine x_iload_n C0 dX5_record_28 rfl 1 rfl ?_
      refine x_imul C0 dX5_record_29 ?_
      obtain ⟨q1, eq1, h⟩ := x_bind h
      refine x_callV20 C0 (c_X5_copy n eq1) (x_cwV C0 mw_676 mw_678 mw_46 mw_84 mw_679 hd_yX5_copy ⟨rfl, rfl, Nat.le_of_ble_eq_true rfl, Nat.le_of_ble_eq_true rfl⟩) (by decide) rfl wfR_0 rfl ⟨Nat.zero_le _, Nat.zero_le _⟩ (Nat.le_of_ble_eq_true rfl) dX5_record_30 ?_
      refine x_iinc C0 (v := 1) (L' := [(1, _), (0, _)]) dX5_record_33 1 rfl ki_1 (by decide) rfl ?_
      refine x_goto C0 (tgt := 10) dX5_record_36 rfl ?_
      refine x_sub [1, 0] (L' := [(0, _), (1, _)]) rfl ?_
      refine x_pc (pc' := 10) rfl ?_
      exact ih _ _ h
    · refine x_aload_n C0 dX5_record_39 rfl 0 rfl ?_
      refine x_dup C0 dX5_record_40 rfl ?_
      refine x_get C0 inu5 rfl 1 (by decide) mw_644 (by decide) wfR_0 rfl dX5_record_41 ?_
      refine x_iconst C0 (v := 1) dX5_record_44 ki_1 ?_
      refine x_isub C0 dX5_record_45 ?_
      refine x_put C0 inu5 tyX5 tyX5_ok nmX5 rfl 1 (by decide) mw_644 rfl rfl rfl (by decide) wfR_0 (Nat.le_of_ble_eq_true rfl) wpR_0_1 (fun r' h' k' => x_up_ne r' h' k') dX5_record_46 ?_
      refine x_sub [0] (L' := [(0, _)]) rfl ?_
      refine x_pc (pc' := 49) rfl ?_
      exact b_X5_record_49 C0 n _ h
set_option maxRecDepth 4000 in
set_option maxHeartbeats 2000000 in
theorem c_X5_record {l : Launch} {D : va_G} {cs : Nat → ClassId} {ad : Nat → Nat} (n : Nat) {σ : xM}  {res : xM} (h : F_X5_record n σ = some res) : x_Met l yX5_record [Cond.code yX5_record cX5_record 2 none] ({ frames := 1, cells := 0, slots := 0, locals := 23 } : Room) D vwCl (xtys cs) 4 ad (wfR cs ad) [.ref (ad 0)] σ none res := by
  refine x_Met_of (L0 := [(0, .ref (ad 0))]) (own := RX5) (by decide) rfl rfl wfR_loc (Nat.le_of_ble_eq_true rfl) rfl ?_
  intro p e s m args below meth c A C0
  refine x_aload_n C0 dX5_record_0 rfl 0 rfl ?_
  refine x_get C0 inu5 rfl 1 (by decide) mw_644 (by decide) wfR_0 rfl dX5_record_1 ?_
  refine x_iconst C0 (v := 4) dX5_record_4 ki_4 ?_
  refine x_icmp_ne C0 (tgt := 49) dX5_record_5 rfl h (fun _ h => ?_) (fun _ h => ?_)
  · refine x_iconst C0 (v := 1) dX5_record_8 ki_1 ?_
    refine x_istore_n C0 dX5_record_9 rfl (L' := [(1, _), (0, _)]) (by decide) rfl ?_
    refine x_sub [1, 0] (L' := [(0, _), (1, _)]) rfl ?_
    refine x_pc (pc' := 10) rfl ?_
    exact b_X5_record_10 C0 n n _ _ h
  · refine x_sub [0] (L' := [(0, _)]) rfl ?_
    refine x_pc (pc' := 49) rfl ?_
    exact b_X5_record_49 C0 n _ h
set_option maxRecDepth 4000 in
set_option maxHeartbeats 2000000 in
theorem c_X5_undo {l : Launch} {D : va_G} {cs : Nat → ClassId} {ad : Nat → Nat} (n : Nat) {σ : xM}  {res : Int32 × xM} (h : F_X5_undo n σ = some res) : x_Met l yX5_undo [Cond.code yX5_undo cX5_undo 1 (some FieldType.int)] ({ frames := 1, cells := 0, slots := 0, locals := 23 } : Room) D vwCl (xtys cs) 4 ad (wfR cs ad) [.ref (ad 0)] σ (some (.int res.1)) res.2 := by
  refine x_Met_of (L0 := [(0, .ref (ad 0))]) (own := RX5) (by decide) rfl rfl wfR_loc (Nat.le_of_ble_eq_true rfl) rfl ?_
  intro p e s m args below meth c A C0
  refine x_aload_n C0 dX5_undo_0 rfl 0 rfl ?_
  refine x_get C0 inu5 rfl 1 (by decide) mw_644 (by decide) wfR_0 rfl dX5_undo_1 ?_
  refine x_if_ne C0 (tgt := 10) dX5_undo_4 rfl h (fun _ h => ?_) (fun _ h => ?_)
  · refine x_ldc C0 mw_675 dX5_undo_7 ?_
    obtain rfl := x_inj h
    exact x_iret C0 dX5_undo_9
  · refine x_aload_n C0 dX5_undo_10 rfl 0 rfl ?_
    refine x_dup C0 dX5_undo_11 rfl ?_
    refine x_get C0 inu5 rfl 1 (by decide) mw_644 (by decide) wfR_0 rfl dX5_undo_12 ?_
    refine x_iconst C0 (v := 1) dX5_undo_15 ki_1 ?_
    refine x_isub C0 dX5_undo_16 ?_
    refine x_put C0 inu5 tyX5 tyX5_ok nmX5 rfl 1 (by decide) mw_644 rfl rfl rfl (by decide) wfR_0 (Nat.le_of_ble_eq_true rfl) wpR_0_1 (fun r' h' k' => x_up_ne r' h' k') dX5_undo_17 ?_
    refine x_aload_n C0 dX5_undo_20 rfl 0 rfl ?_
    refine x_pc (pc' := 21) rfl ?_
    refine x_sipush C0 (v := 358) dX5_undo_21 ks_358 ?_
    refine x_sipush C0 (v := 358) dX5_undo_24 ks_358 ?_
    refine x_aload_n C0 dX5_undo_27 rfl 0 rfl ?_
    refine x_get C0 inu5 rfl 1 (by decide) mw_644 (by decide) wfR_0 rfl dX5_undo_28 ?_
    refine x_imul C0 dX5_undo_31 ?_
    refine x_iadd C0 dX5_undo_32 ?_
    refine x_iconst C0 (v := 0) dX5_undo_33 ki_0 ?_
    obtain ⟨q2, eq2, h⟩ := x_bind h
    refine x_callV20 C0 (c_X5_copy n eq2) (x_cwV C0 mw_676 mw_678 mw_46 mw_84 mw_679 hd_yX5_copy ⟨rfl, rfl, Nat.le_of_ble_eq_true rfl, Nat.le_of_ble_eq_true rfl⟩) (by decide) rfl wfR_0 rfl ⟨Nat.zero_le _, Nat.zero_le _⟩ (Nat.le_of_ble_eq_true rfl) dX5_undo_34 ?_
    refine x_pc (pc' := 37) rfl ?_
    refine x_aload_n C0 dX5_undo_37 rfl 0 rfl ?_
    refine x_get C0 inu5 rfl 1 (by decide) mw_644 (by decide) wfR_0 rfl dX5_undo_38 ?_
    obtain rfl := x_inj h
    exact x_iret C0 dX5_undo_41
set_option maxRecDepth 4000 in
set_option maxHeartbeats 2000000 in
theorem c_X5_keep {l : Launch} {D : va_G} {cs : Nat → ClassId} {ad : Nat → Nat} (n : Nat) {σ : xM}  {res : Int32 × xM} (h : F_X5_keep n σ = some res) : x_Met l yX5_keep [Cond.code yX5_keep cX5_keep 1 (some FieldType.int)] ({ frames := 1, cells := 0, slots := 0, locals := 23 } : Room) D vwCl (xtys cs) 4 ad (wfR cs ad) [.ref (ad 0)] σ (some (.int res.1)) res.2 := by
  refine x_Met_of (L0 := [(0, .ref (ad 0))]) (own := RX5) (by decide) rfl rfl wfR_loc (Nat.le_of_ble_eq_true rfl) rfl ?_
  intro p e s m args below meth c A C0
  refine x_aload_n C0 dX5_keep_0 rfl 0 rfl ?_
  refine x_iconst C0 (v := 0) dX5_keep_1 ki_0 ?_
  refine x_sipush C0 (v := 1790) dX5_keep_2 ks_1790 ?_
  obtain ⟨q1, eq1, h⟩ := x_bind h
  refine x_callV20 C0 (c_X5_copy n eq1) (x_cwV C0 mw_676 mw_678 mw_46 mw_84 mw_679 hd_yX5_copy ⟨rfl, rfl, Nat.le_of_ble_eq_true rfl, Nat.le_of_ble_eq_true rfl⟩) (by decide) rfl wfR_0 rfl ⟨Nat.zero_le _, Nat.zero_le _⟩ (Nat.le_of_ble_eq_true rfl) dX5_keep_5 ?_
  refine x_aload_n C0 dX5_keep_8 rfl 0 rfl ?_
  refine x_iconst C0 (v := 1) dX5_keep_9 ki_1 ?_
  refine x_put C0 inu5 tyX5 tyX5_ok nmX5 rfl 2 (by decide) mw_645 rfl rfl rfl (by decide) wfR_0 (Nat.le_of_ble_eq_true rfl) wpR_0_2 (fun r' h' k' => x_up_ne r' h' k') dX5_keep_10 ?_
  refine x_pc (pc' := 13) rfl ?_
  refine x_aload_n C0 dX5_keep_13 rfl 0 rfl ?_
  refine x_get C0 inu5 rfl 0 (by decide) mw_643 (by decide) wfR_0 rfl dX5_keep_14 ?_
  refine x_sipush C0 (v := 353) dX5_keep_17 ks_353 ?_
  refine x_iald C0 1 rfl (by decide) wfR_1 dX5_keep_20 h (fun _ h => ?_)
  obtain rfl := x_inj h
  exact x_iret C0 dX5_keep_21
set_option maxRecDepth 4000 in
set_option maxHeartbeats 2000000 in
theorem c_X5_restore {l : Launch} {D : va_G} {cs : Nat → ClassId} {ad : Nat → Nat} (n : Nat) {σ : xM}  {res : Int32 × xM} (h : F_X5_restore n σ = some res) : x_Met l yX5_restore [Cond.code yX5_restore cX5_restore 1 (some FieldType.int)] ({ frames := 2, cells := 0, slots := 0, locals := 44 } : Room) D vwCl (xtys cs) 4 ad (wfR cs ad) [.ref (ad 0)] σ (some (.int res.1)) res.2 := by
  refine x_Met_of (L0 := [(0, .ref (ad 0))]) (own := RX5) (by decide) rfl rfl wfR_loc (Nat.le_of_ble_eq_true rfl) rfl ?_
  intro p e s m args below meth c A C0
  refine x_aload_n C0 dX5_restore_0 rfl 0 rfl ?_
  refine x_get C0 inu5 rfl 2 (by decide) mw_645 (by decide) wfR_0 rfl dX5_restore_1 ?_
  refine x_if_ne C0 (tgt := 10) dX5_restore_4 rfl h (fun _ h => ?_) (fun _ h => ?_)
  · refine x_ldc C0 mw_675 dX5_restore_7 ?_
    obtain rfl := x_inj h
    exact x_iret C0 dX5_restore_9
  · refine x_aload_n C0 dX5_restore_10 rfl 0 rfl ?_
    obtain ⟨q1, eq1, h⟩ := x_bind h
    refine x_callV00 C0 (c_X5_record n eq1) (x_cwV C0 mw_688 mw_690 mw_47 mw_84 mw_691 hd_yX5_record ⟨rfl, rfl, Nat.le_of_ble_eq_true rfl, Nat.le_of_ble_eq_true rfl⟩) (by decide) rfl wfR_0 rfl ⟨Nat.zero_le _, Nat.zero_le _⟩ (Nat.le_of_ble_eq_true rfl) dX5_restore_11 ?_
    refine x_aload_n C0 dX5_restore_14 rfl 0 rfl ?_
    refine x_sipush C0 (v := 1790) dX5_restore_15 ks_1790 ?_
    refine x_iconst C0 (v := 0) dX5_restore_18 ki_0 ?_
    obtain ⟨q2, eq2, h⟩ := x_bind h
    refine x_callV20 C0 (c_X5_copy n eq2) (x_cwV C0 mw_676 mw_678 mw_46 mw_84 mw_679 hd_yX5_copy ⟨rfl, rfl, Nat.le_of_ble_eq_true rfl, Nat.le_of_ble_eq_true rfl⟩) (by decide) rfl wfR_0 rfl ⟨Nat.zero_le _, Nat.zero_le _⟩ (Nat.le_of_ble_eq_true rfl) dX5_restore_19 ?_
    refine x_aload_n C0 dX5_restore_22 rfl 0 rfl ?_
    refine x_pc (pc' := 23) rfl ?_
    refine x_get C0 inu5 rfl 0 (by decide) mw_643 (by decide) wfR_0 rfl dX5_restore_23 ?_
    refine x_sipush C0 (v := 353) dX5_restore_26 ks_353 ?_
    refine x_iald C0 1 rfl (by decide) wfR_1 dX5_restore_29 h (fun _ h => ?_)
    obtain rfl := x_inj h
    exact x_iret C0 dX5_restore_30
set_option maxRecDepth 4000 in
set_option maxHeartbeats 2000000 in
theorem c_X5_cellOf {l : Launch} {D : va_G} {cs : Nat → ClassId} {ad : Nat → Nat} {x0 : Int32} {x1 : Int32}  {res : Int32} (h : F_X5_cellOf x0 x1 = res) : x_Met l yX5_cellOf [Cond.code yX5_cellOf cX5_cellOf 2 (some FieldType.int)] ({ frames := 0, cells := 0, slots := 0, locals := 0 } : Room) D vwCl (xtys cs) 0 ad wf0 [.int x0, .int x1] m0 (some (.int res)) m0 := by
  refine x_Met_of (L0 := [(0, .int x0), (1, .int x1)]) (own := RX5) (by decide) rfl rfl wf0_loc (Nat.le_of_ble_eq_true rfl) rfl ?_
  intro p e s m args below meth c A C0
  refine x_bipush C0 (v := 8) dX5_cellOf_0 kb_8 ?_
  refine x_iconst C0 (v := 3) dX5_cellOf_2 ki_3 ?_
  refine x_iconst C0 (v := 4) dX5_cellOf_3 ki_4 ?_
  refine x_iload_n C0 dX5_cellOf_4 rfl 0 rfl ?_
  refine x_imul C0 dX5_cellOf_5 ?_
  refine x_iload_n C0 dX5_cellOf_6 rfl 1 rfl ?_
  refine x_iadd C0 dX5_cellOf_7 ?_
  refine x_pc (pc' := 8) rfl ?_
  refine x_imul C0 dX5_cellOf_8 ?_
  refine x_iadd C0 dX5_cellOf_9 ?_
  subst h
  exact x_iret C0 dX5_cellOf_10
set_option maxRecDepth 4000 in
set_option maxHeartbeats 2000000 in
theorem b_X5_placeOf_50 {p : Program} {l : Launch} {e : Env} {s : State} {m : MethodId} {args : Array Value} {below : List Frame} {meth : Method} {c : Code} {D : va_G} {cs : Nat → ClassId} {ad : Nat → Nat} {A : Nat → Prop} (C0 : x_C p s m args meth c D vwCl (xtys cs) A s.heap 4 ad (wfR cs ad) cX5_placeOf 5 RX5 (some FieldType.int))  (n : Nat) {σ : xM} {res : Int32} {K16 : Int32 → Int32 → Int32 → Int32 → Option Int32} (hK16 : ∀ (l1 : Int32) (l2 : Int32) (l3 : Int32) (l4 : Int32) , K16 l1 l2 l3 l4 = some res → x_W p l e ({ frames := 1, cells := 0, slots := 0, locals := 21 } : Room) s m args below meth c D vwCl A s.heap 4 ad (wfR cs ad) 5 0 0 (x_E below args s D vwCl 4 ad (wfR cs ad) A (some (.int res)) σ) σ 16 [(0, .ref (ad 0)), (1, .int l1), (2, .int l2), (3, .int l3), (4, .int l4)] []) : ∀ (l1 : Int32) (l2 : Int32) (l4 : Int32) (s0 : Int32), B_X5_placeOf_50 n σ K16 l1 l2 l4 s0 = some res → x_W p l e ({ frames := 1, cells := 0, slots := 0, locals := 21 } : Room) s m args below meth c D vwCl A s.heap 4 ad (wfR cs ad) 5 0 0 (x_E below args s D vwCl 4 ad (wfR cs ad) A (some (.int res)) σ) σ 50 [(0, .ref (ad 0)), (1, .int l1), (2, .int l2), (4, .int l4)] [.int s0] := by
  intro l1 l2 l4 s0 h
  refine x_istore_n C0 dX5_placeOf_50 rfl (L' := [(3, _), (0, _), (1, _), (2, _), (4, _)]) (by decide) rfl ?_
  refine x_iinc C0 (v := 1) (L' := [(4, _), (3, _), (0, _), (1, _), (2, _)]) dX5_placeOf_51 4 rfl ki_1 (by decide) rfl ?_
  refine x_goto C0 (tgt := 16) dX5_placeOf_54 rfl ?_
  refine x_sub [2, 3, 4, 1, 0] (L' := [(0, _), (1, _), (2, _), (3, _), (4, _)]) rfl ?_
  refine x_pc (pc' := 16) rfl ?_
  exact hK16 _ _ _ _ h
set_option maxRecDepth 4000 in
set_option maxHeartbeats 2000000 in
theorem b_X5_placeOf_16 {p : Program} {l : Launch} {e : Env} {s : State} {m : MethodId} {args : Array Value} {below : List Frame} {meth : Method} {c : Code} {D : va_G} {cs : Nat → ClassId} {ad : Nat → Nat} {A : Nat → Prop} (C0 : x_C p s m args meth c D vwCl (xtys cs) A s.heap 4 ad (wfR cs ad) cX5_placeOf 5 RX5 (some FieldType.int))  (n : Nat) {σ : xM} {res : Int32} : ∀ (f : Nat) (l1 : Int32) (l2 : Int32) (l3 : Int32) (l4 : Int32), B_X5_placeOf_16 n σ f l1 l2 l3 l4 = some res → x_W p l e ({ frames := 1, cells := 0, slots := 0, locals := 21 } : Room) s m args below meth c D vwCl A s.heap 4 ad (wfR cs ad) 5 0 0 (x_E below args s D vwCl 4 ad (wfR cs ad) A (some (.int res)) σ) σ 16 [(0, .ref (ad 0)), (1, .int l1), (2, .int l2), (3, .int l3), (4, .int l4)] [] := by
  intro f
  induction f with
  | zero =>
    intro l1 l2 l3 l4 h
    cases h
  | succ f ih =>
    intro l1 l2 l3 l4 h
    refine x_iload C0 dX5_placeOf_16 4 rfl ?_
    refine x_aload_n C0 dX5_placeOf_18 rfl 0 rfl ?_
    refine x_get C0 inu5 rfl 0 (by decide) mw_643 (by decide) wfR_0 rfl dX5_placeOf_19 ?_
    refine x_iconst C0 (v := 0) dX5_placeOf_22 ki_0 ?_
    refine x_iload_n C0 dX5_placeOf_23 rfl 2 rfl ?_
    refine x_iadd C0 dX5_placeOf_24 ?_
    refine x_iald C0 1 rfl (by decide) wfR_1 dX5_placeOf_25 h (fun _ h => ?_)
    refine x_pc (pc' := 26) rfl ?_
    refine x_icmp_ge C0 (tgt := 57) dX5_placeOf_26 rfl h (fun _ h => ?_) (fun _ h => ?_)
    · refine x_aload_n C0 dX5_placeOf_29 rfl 0 rfl ?_
      refine x_get C0 inu5 rfl 0 (by decide) mw_643 (by decide) wfR_0 rfl dX5_placeOf_30 ?_
      refine x_iload_n C0 dX5_placeOf_33 rfl 2 rfl ?_
      refine x_iload C0 dX5_placeOf_34 4 rfl ?_
      refine x_pureS2 C0 (fun ad' => c_X5_cellOf rfl) (x_cwS C0 mw_712 mw_713 mw_84 mw_714 hd_yX5_cellOf ⟨rfl, rfl, Nat.le_of_ble_eq_true rfl, Nat.le_of_ble_eq_true rfl⟩) ⟨Nat.zero_le _, Nat.zero_le _⟩ (Nat.le_of_ble_eq_true rfl) dX5_placeOf_36 ?_
      refine x_iald C0 1 rfl (by decide) wfR_1 dX5_placeOf_39 h (fun _ h => ?_)
      refine x_iload_n C0 dX5_placeOf_40 rfl 1 rfl ?_
      refine x_pc (pc' := 41) rfl ?_
      refine x_icmp_ne C0 (tgt := 49) dX5_placeOf_41 rfl h (fun _ h => ?_) (fun _ h => ?_)
      · refine x_iload C0 dX5_placeOf_44 4 rfl ?_
        refine x_goto C0 (tgt := 50) dX5_placeOf_46 rfl ?_
        refine x_sub [0, 1, 2, 4] (L' := [(0, _), (1, _), (2, _), (4, _)]) rfl ?_
        refine x_pc (pc' := 50) rfl ?_
        exact b_X5_placeOf_50 C0 n (fun l1 l2 l3 l4 h => ih l1 l2 l3 l4 h) _ _ _ _ h
      · refine x_iload_n C0 dX5_placeOf_49 rfl 3 rfl ?_
        refine x_sub [0, 1, 2, 4] (L' := [(0, _), (1, _), (2, _), (4, _)]) rfl ?_
        refine x_pc (pc' := 50) rfl ?_
        exact b_X5_placeOf_50 C0 n (fun l1 l2 l3 l4 h => ih l1 l2 l3 l4 h) _ _ _ _ h
    · refine x_iload_n C0 dX5_placeOf_57 rfl 3 rfl ?_
      obtain rfl := x_inj h
      exact x_iret C0 dX5_placeOf_58
set_option maxRecDepth 4000 in
set_option maxHeartbeats 2000000 in
theorem c_X5_placeOf {l : Launch} {D : va_G} {cs : Nat → ClassId} {ad : Nat → Nat} (n : Nat) {σ : xM} {x1 : Int32}  {res : Int32} (h : F_X5_placeOf n σ x1 = some res) : x_Met l yX5_placeOf [Cond.code yX5_placeOf cX5_placeOf 5 (some FieldType.int)] ({ frames := 1, cells := 0, slots := 0, locals := 21 } : Room) D vwCl (xtys cs) 4 ad (wfR cs ad) [.ref (ad 0), .int x1] σ (some (.int res)) σ := by
  refine x_Met_of (L0 := [(0, .ref (ad 0)), (1, .int x1)]) (own := RX5) (by decide) rfl rfl wfR_loc (Nat.le_of_ble_eq_true rfl) rfl ?_
  intro p e s m args below meth c A C0
  refine x_iload_n C0 dX5_placeOf_0 rfl 1 rfl ?_
  refine x_aload_n C0 dX5_placeOf_1 rfl 0 rfl ?_
  refine x_get C0 inu5 rfl 0 (by decide) mw_643 (by decide) wfR_0 rfl dX5_placeOf_2 ?_
  refine x_sipush C0 (v := 349) dX5_placeOf_5 ks_349 ?_
  refine x_iald C0 1 rfl (by decide) wfR_1 dX5_placeOf_8 h (fun _ h => ?_)
  refine x_irem C0 dX5_placeOf_9 h (fun _ h => ?_)
  refine x_istore_n C0 dX5_placeOf_10 rfl (L' := [(2, _), (0, _), (1, _)]) (by decide) rfl ?_
  refine x_pc (pc' := 11) rfl ?_
  refine x_iconst C0 (v := (-1)) dX5_placeOf_11 ki_m1 ?_
  refine x_istore_n C0 dX5_placeOf_12 rfl (L' := [(3, _), (2, _), (0, _), (1, _)]) (by decide) rfl ?_
  refine x_iconst C0 (v := 0) dX5_placeOf_13 ki_0 ?_
  refine x_istore C0 dX5_placeOf_14 (L' := [(4, _), (3, _), (2, _), (0, _), (1, _)]) (by decide) rfl ?_
  refine x_sub [3, 4, 2, 1, 0] (L' := [(0, _), (1, _), (2, _), (3, _), (4, _)]) rfl ?_
  refine x_pc (pc' := 16) rfl ?_
  exact b_X5_placeOf_16 C0 n n _ _ _ _ h
set_option maxRecDepth 4000 in
set_option maxHeartbeats 2000000 in
theorem b_X5_outPlaceOf_36 {p : Program} {l : Launch} {e : Env} {s : State} {m : MethodId} {args : Array Value} {below : List Frame} {meth : Method} {c : Code} {D : va_G} {cs : Nat → ClassId} {ad : Nat → Nat} {A : Nat → Prop} (C0 : x_C p s m args meth c D vwCl (xtys cs) A s.heap 4 ad (wfR cs ad) cX5_outPlaceOf 4 RX5 (some FieldType.int))  (n : Nat) {σ : xM} {res : Int32} {K4 : Int32 → Int32 → Int32 → Option Int32} (hK4 : ∀ (l1 : Int32) (l2 : Int32) (l3 : Int32) , K4 l1 l2 l3 = some res → x_W p l e ({ frames := 0, cells := 0, slots := 0, locals := 0 } : Room) s m args below meth c D vwCl A s.heap 4 ad (wfR cs ad) 4 0 0 (x_E below args s D vwCl 4 ad (wfR cs ad) A (some (.int res)) σ) σ 4 [(0, .ref (ad 0)), (1, .int l1), (2, .int l2), (3, .int l3)] []) : ∀ (l1 : Int32) (l3 : Int32) (s0 : Int32), B_X5_outPlaceOf_36 n σ K4 l1 l3 s0 = some res → x_W p l e ({ frames := 0, cells := 0, slots := 0, locals := 0 } : Room) s m args below meth c D vwCl A s.heap 4 ad (wfR cs ad) 4 0 0 (x_E below args s D vwCl 4 ad (wfR cs ad) A (some (.int res)) σ) σ 36 [(0, .ref (ad 0)), (1, .int l1), (3, .int l3)] [.int s0] := by
  intro l1 l3 s0 h
  refine x_istore_n C0 dX5_outPlaceOf_36 rfl (L' := [(2, _), (0, _), (1, _), (3, _)]) (by decide) rfl ?_
  refine x_iinc C0 (v := 1) (L' := [(3, _), (2, _), (0, _), (1, _)]) dX5_outPlaceOf_37 3 rfl ki_1 (by decide) rfl ?_
  refine x_goto C0 (tgt := 4) dX5_outPlaceOf_40 rfl ?_
  refine x_sub [2, 3, 1, 0] (L' := [(0, _), (1, _), (2, _), (3, _)]) rfl ?_
  refine x_pc (pc' := 4) rfl ?_
  exact hK4 _ _ _ h
set_option maxRecDepth 4000 in
set_option maxHeartbeats 2000000 in
theorem b_X5_outPlaceOf_4 {p : Program} {l : Launch} {e : Env} {s : State} {m : MethodId} {args : Array Value} {below : List Frame} {meth : Method} {c : Code} {D : va_G} {cs : Nat → ClassId} {ad : Nat → Nat} {A : Nat → Prop} (C0 : x_C p s m args meth c D vwCl (xtys cs) A s.heap 4 ad (wfR cs ad) cX5_outPlaceOf 4 RX5 (some FieldType.int))  (n : Nat) {σ : xM} {res : Int32} : ∀ (f : Nat) (l1 : Int32) (l2 : Int32) (l3 : Int32), B_X5_outPlaceOf_4 n σ f l1 l2 l3 = some res → x_W p l e ({ frames := 0, cells := 0, slots := 0, locals := 0 } : Room) s m args below meth c D vwCl A s.heap 4 ad (wfR cs ad) 4 0 0 (x_E below args s D vwCl 4 ad (wfR cs ad) A (some (.int res)) σ) σ 4 [(0, .ref (ad 0)), (1, .int l1), (2, .int l2), (3, .int l3)] [] := by
  intro f
  induction f with
  | zero =>
    intro l1 l2 l3 h
    cases h
  | succ f ih =>
    intro l1 l2 l3 h
    refine x_iload_n C0 dX5_outPlaceOf_4 rfl 3 rfl ?_
    refine x_aload_n C0 dX5_outPlaceOf_5 rfl 0 rfl ?_
    refine x_get C0 inu5 rfl 0 (by decide) mw_643 (by decide) wfR_0 rfl dX5_outPlaceOf_6 ?_
    refine x_sipush C0 (v := 348) dX5_outPlaceOf_9 ks_348 ?_
    refine x_iald C0 1 rfl (by decide) wfR_1 dX5_outPlaceOf_12 h (fun _ h => ?_)
    refine x_icmp_ge C0 (tgt := 43) dX5_outPlaceOf_13 rfl h (fun _ h => ?_) (fun _ h => ?_)
    · refine x_aload_n C0 dX5_outPlaceOf_16 rfl 0 rfl ?_
      refine x_get C0 inu5 rfl 0 (by decide) mw_643 (by decide) wfR_0 rfl dX5_outPlaceOf_17 ?_
      refine x_bipush C0 (v := 104) dX5_outPlaceOf_20 kb_104 ?_
      refine x_iconst C0 (v := 2) dX5_outPlaceOf_22 ki_2 ?_
      refine x_iload_n C0 dX5_outPlaceOf_23 rfl 3 rfl ?_
      refine x_imul C0 dX5_outPlaceOf_24 ?_
      refine x_iadd C0 dX5_outPlaceOf_25 ?_
      refine x_pc (pc' := 26) rfl ?_
      refine x_iald C0 1 rfl (by decide) wfR_1 dX5_outPlaceOf_26 h (fun _ h => ?_)
      refine x_iload_n C0 dX5_outPlaceOf_27 rfl 1 rfl ?_
      refine x_icmp_ne C0 (tgt := 35) dX5_outPlaceOf_28 rfl h (fun _ h => ?_) (fun _ h => ?_)
      · refine x_iload_n C0 dX5_outPlaceOf_31 rfl 3 rfl ?_
        refine x_goto C0 (tgt := 36) dX5_outPlaceOf_32 rfl ?_
        refine x_sub [0, 1, 3] (L' := [(0, _), (1, _), (3, _)]) rfl ?_
        refine x_pc (pc' := 36) rfl ?_
        exact b_X5_outPlaceOf_36 C0 n (fun l1 l2 l3 h => ih l1 l2 l3 h) _ _ _ h
      · refine x_iload_n C0 dX5_outPlaceOf_35 rfl 2 rfl ?_
        refine x_sub [0, 1, 3] (L' := [(0, _), (1, _), (3, _)]) rfl ?_
        refine x_pc (pc' := 36) rfl ?_
        exact b_X5_outPlaceOf_36 C0 n (fun l1 l2 l3 h => ih l1 l2 l3 h) _ _ _ h
    · refine x_iload_n C0 dX5_outPlaceOf_43 rfl 2 rfl ?_
      obtain rfl := x_inj h
      exact x_iret C0 dX5_outPlaceOf_44
set_option maxRecDepth 4000 in
set_option maxHeartbeats 2000000 in
theorem c_X5_outPlaceOf {l : Launch} {D : va_G} {cs : Nat → ClassId} {ad : Nat → Nat} (n : Nat) {σ : xM} {x1 : Int32}  {res : Int32} (h : F_X5_outPlaceOf n σ x1 = some res) : x_Met l yX5_outPlaceOf [Cond.code yX5_outPlaceOf cX5_outPlaceOf 4 (some FieldType.int)] ({ frames := 0, cells := 0, slots := 0, locals := 0 } : Room) D vwCl (xtys cs) 4 ad (wfR cs ad) [.ref (ad 0), .int x1] σ (some (.int res)) σ := by
  refine x_Met_of (L0 := [(0, .ref (ad 0)), (1, .int x1)]) (own := RX5) (by decide) rfl rfl wfR_loc (Nat.le_of_ble_eq_true rfl) rfl ?_
  intro p e s m args below meth c A C0
  refine x_iconst C0 (v := (-1)) dX5_outPlaceOf_0 ki_m1 ?_
  refine x_istore_n C0 dX5_outPlaceOf_1 rfl (L' := [(2, _), (0, _), (1, _)]) (by decide) rfl ?_
  refine x_iconst C0 (v := 0) dX5_outPlaceOf_2 ki_0 ?_
  refine x_istore_n C0 dX5_outPlaceOf_3 rfl (L' := [(3, _), (2, _), (0, _), (1, _)]) (by decide) rfl ?_
  refine x_sub [2, 3, 1, 0] (L' := [(0, _), (1, _), (2, _), (3, _)]) rfl ?_
  refine x_pc (pc' := 4) rfl ?_
  exact b_X5_outPlaceOf_4 C0 n n _ _ _ h
set_option maxRecDepth 4000 in
set_option maxHeartbeats 2000000 in
theorem b_X5_forgetOut_4 {p : Program} {l : Launch} {e : Env} {s : State} {m : MethodId} {args : Array Value} {below : List Frame} {meth : Method} {c : Code} {D : va_G} {cs : Nat → ClassId} {ad : Nat → Nat} {A : Nat → Prop} (C0 : x_C p s m args meth c D vwCl (xtys cs) A s.heap 4 ad (wfR cs ad) cX5_forgetOut 3 RX5 none)  (n : Nat) {res : xM} : ∀ (f : Nat) (σ : xM) (l2 : Int32), B_X5_forgetOut_4 n f σ l2 = some res → x_W p l e ({ frames := 0, cells := 0, slots := 0, locals := 0 } : Room) s m args below meth c D vwCl A s.heap 4 ad (wfR cs ad) 3 0 0 (x_E below args s D vwCl 4 ad (wfR cs ad) A none res) σ 4 [(0, .ref (ad 0)), (2, .int l2)] [] := by
  intro f
  induction f with
  | zero =>
    intro σ l2 h
    cases h
  | succ f ih =>
    intro σ l2 h
    refine x_iload_n C0 dX5_forgetOut_4 rfl 1 rfl ?_
    refine x_iconst C0 (v := 2) dX5_forgetOut_5 ki_2 ?_
    refine x_aload_n C0 dX5_forgetOut_6 rfl 0 rfl ?_
    refine x_get C0 inu5 rfl 0 (by decide) mw_643 (by decide) wfR_0 rfl dX5_forgetOut_7 ?_
    refine x_sipush C0 (v := 348) dX5_forgetOut_10 ks_348 ?_
    refine x_iald C0 1 rfl (by decide) wfR_1 dX5_forgetOut_13 h (fun _ h => ?_)
    refine x_imul C0 dX5_forgetOut_14 ?_
    refine x_pc (pc' := 15) rfl ?_
    refine x_iconst C0 (v := 2) dX5_forgetOut_15 ki_2 ?_
    refine x_isub C0 dX5_forgetOut_16 ?_
    refine x_icmp_ge C0 (tgt := 46) dX5_forgetOut_17 rfl h (fun _ h => ?_) (fun _ h => ?_)
    · refine x_aload_n C0 dX5_forgetOut_20 rfl 0 rfl ?_
      refine x_get C0 inu5 rfl 0 (by decide) mw_643 (by decide) wfR_0 rfl dX5_forgetOut_21 ?_
      refine x_bipush C0 (v := 104) dX5_forgetOut_24 kb_104 ?_
      refine x_iload_n C0 dX5_forgetOut_26 rfl 1 rfl ?_
      refine x_iadd C0 dX5_forgetOut_27 ?_
      refine x_aload_n C0 dX5_forgetOut_28 rfl 0 rfl ?_
      refine x_get C0 inu5 rfl 0 (by decide) mw_643 (by decide) wfR_0 rfl dX5_forgetOut_29 ?_
      refine x_pc (pc' := 32) rfl ?_
      refine x_bipush C0 (v := 104) dX5_forgetOut_32 kb_104 ?_
      refine x_iload_n C0 dX5_forgetOut_34 rfl 1 rfl ?_
      refine x_iadd C0 dX5_forgetOut_35 ?_
      refine x_iconst C0 (v := 2) dX5_forgetOut_36 ki_2 ?_
      refine x_iadd C0 dX5_forgetOut_37 ?_
      refine x_iald C0 1 rfl (by decide) wfR_1 dX5_forgetOut_38 h (fun _ h => ?_)
      refine x_iast C0 1 rfl (by decide) wfR_1 wpR_1 (fun r' h' k' => x_up_ne r' h' k') dX5_forgetOut_39 h (fun _ h => ?_)
      refine x_iinc C0 (v := 1) (L' := [(2, _), (0, _)]) dX5_forgetOut_40 1 rfl ki_1 (by decide) rfl ?_
      refine x_pc (pc' := 43) rfl ?_
      refine x_goto C0 (tgt := 4) dX5_forgetOut_43 rfl ?_
      refine x_sub [1, 0] (L' := [(0, _), (2, _)]) rfl ?_
      refine x_pc (pc' := 4) rfl ?_
      exact ih _ _ h
    · refine x_aload_n C0 dX5_forgetOut_46 rfl 0 rfl ?_
      refine x_get C0 inu5 rfl 0 (by decide) mw_643 (by decide) wfR_0 rfl dX5_forgetOut_47 ?_
      refine x_sipush C0 (v := 348) dX5_forgetOut_50 ks_348 ?_
      refine x_dup2 C0 dX5_forgetOut_53 rfl rfl ?_
      refine x_iald C0 1 rfl (by decide) wfR_1 dX5_forgetOut_54 h (fun _ h => ?_)
      refine x_iconst C0 (v := 1) dX5_forgetOut_55 ki_1 ?_
      refine x_isub C0 dX5_forgetOut_56 ?_
      refine x_pc (pc' := 57) rfl ?_
      refine x_iast C0 1 rfl (by decide) wfR_1 wpR_1 (fun r' h' k' => x_up_ne r' h' k') dX5_forgetOut_57 h (fun _ h => ?_)
      obtain rfl := x_inj h
      exact x_vret C0 dX5_forgetOut_58
set_option maxRecDepth 4000 in
set_option maxHeartbeats 2000000 in
theorem c_X5_forgetOut {l : Launch} {D : va_G} {cs : Nat → ClassId} {ad : Nat → Nat} (n : Nat) {σ : xM} {x1 : Int32}  {res : xM} (h : F_X5_forgetOut n σ x1 = some res) : x_Met l yX5_forgetOut [Cond.code yX5_forgetOut cX5_forgetOut 3 none] ({ frames := 0, cells := 0, slots := 0, locals := 0 } : Room) D vwCl (xtys cs) 4 ad (wfR cs ad) [.ref (ad 0), .int x1] σ none res := by
  refine x_Met_of (L0 := [(0, .ref (ad 0)), (1, .int x1)]) (own := RX5) (by decide) rfl rfl wfR_loc (Nat.le_of_ble_eq_true rfl) rfl ?_
  intro p e s m args below meth c A C0
  refine x_iconst C0 (v := 2) dX5_forgetOut_0 ki_2 ?_
  refine x_iload_n C0 dX5_forgetOut_1 rfl 1 rfl ?_
  refine x_imul C0 dX5_forgetOut_2 ?_
  refine x_istore_n C0 dX5_forgetOut_3 rfl (L' := [(2, _), (0, _), (1, _)]) (by decide) rfl ?_
  refine x_sub [1, 0] (L' := [(0, _), (2, _)]) rfl ?_
  refine x_pc (pc' := 4) rfl ?_
  exact b_X5_forgetOut_4 C0 n n _ _ h
set_option maxRecDepth 4000 in
set_option maxHeartbeats 2000000 in
theorem c_X5_forgetLine {l : Launch} {D : va_G} {cs : Nat → ClassId} {ad : Nat → Nat} (n : Nat) {σ : xM} {x1 : Int32}  {res : xM} (h : F_X5_forgetLine n σ x1 = some res) : x_Met l yX5_forgetLine [Cond.code yX5_forgetLine cX5_forgetLine 2 none] ({ frames := 1, cells := 0, slots := 0, locals := 23 } : Room) D vwCl (xtys cs) 4 ad (wfR cs ad) [.ref (ad 0), .int x1] σ none res := by
  refine x_Met_of (L0 := [(0, .ref (ad 0)), (1, .int x1)]) (own := RX5) (by decide) rfl rfl wfR_loc (Nat.le_of_ble_eq_true rfl) rfl ?_
  intro p e s m args below meth c A C0
  refine x_aload_n C0 dX5_forgetLine_0 rfl 0 rfl ?_
  refine x_iload_n C0 dX5_forgetLine_1 rfl 1 rfl ?_
  obtain ⟨q1, eq1, h⟩ := x_bind h
  refine x_callV11 C0 (c_X5_outPlaceOf n eq1) (x_cwV C0 mw_730 mw_732 mw_54 mw_84 mw_733 hd_yX5_outPlaceOf ⟨rfl, rfl, Nat.le_of_ble_eq_true rfl, Nat.le_of_ble_eq_true rfl⟩) (by decide) rfl wfR_0 rfl ⟨Nat.zero_le _, Nat.zero_le _⟩ (Nat.le_of_ble_eq_true rfl) dX5_forgetLine_2 ?_
  refine x_if_lt C0 (tgt := 17) dX5_forgetLine_5 rfl h (fun _ h => ?_) (fun _ h => ?_)
  · obtain rfl := x_inj h
    exact x_vret C0 dX5_forgetLine_17
  · refine x_aload_n C0 dX5_forgetLine_8 rfl 0 rfl ?_
    refine x_aload_n C0 dX5_forgetLine_9 rfl 0 rfl ?_
    refine x_iload_n C0 dX5_forgetLine_10 rfl 1 rfl ?_
    obtain ⟨q2, eq2, h⟩ := x_bind h
    refine x_callV11 C0 (c_X5_outPlaceOf n eq2) (x_cwV C0 mw_730 mw_732 mw_54 mw_84 mw_733 hd_yX5_outPlaceOf ⟨rfl, rfl, Nat.le_of_ble_eq_true rfl, Nat.le_of_ble_eq_true rfl⟩) (by decide) rfl wfR_0 rfl ⟨Nat.zero_le _, Nat.zero_le _⟩ (Nat.le_of_ble_eq_true rfl) dX5_forgetLine_11 ?_
    obtain ⟨q3, eq3, h⟩ := x_bind h
    refine x_callV10 C0 (c_X5_forgetOut n eq3) (x_cwV C0 mw_734 mw_736 mw_55 mw_84 mw_737 hd_yX5_forgetOut ⟨rfl, rfl, Nat.le_of_ble_eq_true rfl, Nat.le_of_ble_eq_true rfl⟩) (by decide) rfl wfR_0 rfl ⟨Nat.zero_le _, Nat.zero_le _⟩ (Nat.le_of_ble_eq_true rfl) dX5_forgetLine_14 ?_
    obtain rfl := x_inj h
    exact x_vret C0 dX5_forgetLine_17
set_option maxRecDepth 4000 in
set_option maxHeartbeats 2000000 in
theorem c_X5_giveHours {l : Launch} {D : va_G} {cs : Nat → ClassId} {ad : Nat → Nat} (n : Nat) {σ : xM} {x1 : Int32} {x2 : Int32}  {res : xM} (h : F_X5_giveHours n σ x1 x2 = some res) : x_Met l yX5_giveHours [Cond.code yX5_giveHours cX5_giveHours 3 none] ({ frames := 1, cells := 0, slots := 0, locals := 21 } : Room) D vwCl (xtys cs) 4 ad (wfR cs ad) [.ref (ad 0), .int x1, .int x2] σ none res := by
  refine x_Met_of (L0 := [(0, .ref (ad 0)), (1, .int x1), (2, .int x2)]) (own := RX5) (by decide) rfl rfl wfR_loc (Nat.le_of_ble_eq_true rfl) rfl ?_
  intro p e s m args below meth c A C0
  refine x_aload_n C0 dX5_giveHours_0 rfl 0 rfl ?_
  refine x_get C0 inu5 rfl 0 (by decide) mw_643 (by decide) wfR_0 rfl dX5_giveHours_1 ?_
  refine x_iload_n C0 dX5_giveHours_4 rfl 1 rfl ?_
  refine x_iconst C0 (v := 4) dX5_giveHours_5 ki_4 ?_
  refine x_pureS2 C0 (fun ad' => c_X5_of rfl) (x_cwS C0 mw_715 mw_716 mw_84 mw_717 hd_yX5_of ⟨rfl, rfl, Nat.le_of_ble_eq_true rfl, Nat.le_of_ble_eq_true rfl⟩) ⟨Nat.zero_le _, Nat.zero_le _⟩ (Nat.le_of_ble_eq_true rfl) dX5_giveHours_6 ?_
  refine x_dup2 C0 dX5_giveHours_9 rfl rfl ?_
  refine x_iald C0 1 rfl (by decide) wfR_1 dX5_giveHours_10 h (fun _ h => ?_)
  refine x_pc (pc' := 11) rfl ?_
  refine x_iload_n C0 dX5_giveHours_11 rfl 2 rfl ?_
  refine x_iadd C0 dX5_giveHours_12 ?_
  refine x_iast C0 1 rfl (by decide) wfR_1 wpR_1 (fun r' h' k' => x_up_ne r' h' k') dX5_giveHours_13 h (fun _ h => ?_)
  refine x_aload_n C0 dX5_giveHours_14 rfl 0 rfl ?_
  refine x_get C0 inu5 rfl 0 (by decide) mw_643 (by decide) wfR_0 rfl dX5_giveHours_15 ?_
  refine x_iload_n C0 dX5_giveHours_18 rfl 1 rfl ?_
  refine x_iconst C0 (v := 3) dX5_giveHours_19 ki_3 ?_
  refine x_pureS2 C0 (fun ad' => c_X5_of rfl) (x_cwS C0 mw_715 mw_716 mw_84 mw_717 hd_yX5_of ⟨rfl, rfl, Nat.le_of_ble_eq_true rfl, Nat.le_of_ble_eq_true rfl⟩) ⟨Nat.zero_le _, Nat.zero_le _⟩ (Nat.le_of_ble_eq_true rfl) dX5_giveHours_20 ?_
  refine x_pc (pc' := 23) rfl ?_
  refine x_iconst C0 (v := 2) dX5_giveHours_23 ki_2 ?_
  refine x_iast C0 1 rfl (by decide) wfR_1 wpR_1 (fun r' h' k' => x_up_ne r' h' k') dX5_giveHours_24 h (fun _ h => ?_)
  refine x_aload_n C0 dX5_giveHours_25 rfl 0 rfl ?_
  refine x_get C0 inu5 rfl 0 (by decide) mw_643 (by decide) wfR_0 rfl dX5_giveHours_26 ?_
  refine x_iload_n C0 dX5_giveHours_29 rfl 1 rfl ?_
  refine x_iconst C0 (v := 5) dX5_giveHours_30 ki_5 ?_
  refine x_pureS2 C0 (fun ad' => c_X5_of rfl) (x_cwS C0 mw_715 mw_716 mw_84 mw_717 hd_yX5_of ⟨rfl, rfl, Nat.le_of_ble_eq_true rfl, Nat.le_of_ble_eq_true rfl⟩) ⟨Nat.zero_le _, Nat.zero_le _⟩ (Nat.le_of_ble_eq_true rfl) dX5_giveHours_31 ?_
  refine x_iconst C0 (v := 0) dX5_giveHours_34 ki_0 ?_
  refine x_pc (pc' := 35) rfl ?_
  refine x_iast C0 1 rfl (by decide) wfR_1 wpR_1 (fun r' h' k' => x_up_ne r' h' k') dX5_giveHours_35 h (fun _ h => ?_)
  obtain rfl := x_inj h
  exact x_vret C0 dX5_giveHours_36
set_option maxRecDepth 4000 in
set_option maxHeartbeats 2000000 in
theorem b_X5_closeUp_18 {p : Program} {l : Launch} {e : Env} {s : State} {m : MethodId} {args : Array Value} {below : List Frame} {meth : Method} {c : Code} {D : va_G} {cs : Nat → ClassId} {ad : Nat → Nat} {A : Nat → Prop} (C0 : x_C p s m args meth c D vwCl (xtys cs) A s.heap 4 ad (wfR cs ad) cX5_closeUp 4 RX5 none)  (n : Nat) {res : xM} : ∀ (f : Nat) (σ : xM) (l1 : Int32) (l3 : Int32), B_X5_closeUp_18 n f σ l1 l3 = some res → x_W p l e ({ frames := 1, cells := 0, slots := 0, locals := 21 } : Room) s m args below meth c D vwCl A s.heap 4 ad (wfR cs ad) 4 0 0 (x_E below args s D vwCl 4 ad (wfR cs ad) A none res) σ 18 [(0, .ref (ad 0)), (1, .int l1), (3, .int l3)] [] := by
  intro f
  induction f with
  | zero =>
    intro σ l1 l3 h
    cases h
  | succ f ih =>
    intro σ l1 l3 h
    refine x_iload_n C0 dX5_closeUp_18 rfl 2 rfl ?_
    refine x_iload_n C0 dX5_closeUp_19 rfl 1 rfl ?_
    refine x_aload_n C0 dX5_closeUp_20 rfl 0 rfl ?_
    refine x_get C0 inu5 rfl 0 (by decide) mw_643 (by decide) wfR_0 rfl dX5_closeUp_21 ?_
    refine x_iconst C0 (v := 0) dX5_closeUp_24 ki_0 ?_
    refine x_iload_n C0 dX5_closeUp_25 rfl 1 rfl ?_
    refine x_iadd C0 dX5_closeUp_26 ?_
    refine x_pc (pc' := 27) rfl ?_
    refine x_iald C0 1 rfl (by decide) wfR_1 dX5_closeUp_27 h (fun _ h => ?_)
    refine x_pureS2 C0 (fun ad' => c_X5_cellOf rfl) (x_cwS C0 mw_712 mw_713 mw_84 mw_714 hd_yX5_cellOf ⟨rfl, rfl, Nat.le_of_ble_eq_true rfl, Nat.le_of_ble_eq_true rfl⟩) ⟨Nat.zero_le _, Nat.zero_le _⟩ (Nat.le_of_ble_eq_true rfl) dX5_closeUp_28 ?_
    refine x_icmp_ge C0 (tgt := 54) dX5_closeUp_31 rfl h (fun _ h => ?_) (fun _ h => ?_)
    · refine x_aload_n C0 dX5_closeUp_34 rfl 0 rfl ?_
      refine x_get C0 inu5 rfl 0 (by decide) mw_643 (by decide) wfR_0 rfl dX5_closeUp_35 ?_
      refine x_iload_n C0 dX5_closeUp_38 rfl 2 rfl ?_
      refine x_aload_n C0 dX5_closeUp_39 rfl 0 rfl ?_
      refine x_get C0 inu5 rfl 0 (by decide) mw_643 (by decide) wfR_0 rfl dX5_closeUp_40 ?_
      refine x_iload_n C0 dX5_closeUp_43 rfl 2 rfl ?_
      refine x_iconst C0 (v := 3) dX5_closeUp_44 ki_3 ?_
      refine x_pc (pc' := 45) rfl ?_
      refine x_iadd C0 dX5_closeUp_45 ?_
      refine x_iald C0 1 rfl (by decide) wfR_1 dX5_closeUp_46 h (fun _ h => ?_)
      refine x_iast C0 1 rfl (by decide) wfR_1 wpR_1 (fun r' h' k' => x_up_ne r' h' k') dX5_closeUp_47 h (fun _ h => ?_)
      refine x_iinc C0 (v := 1) (L' := [(3, _), (0, _), (1, _)]) dX5_closeUp_48 2 rfl ki_1 (by decide) rfl ?_
      refine x_goto C0 (tgt := 18) dX5_closeUp_51 rfl ?_
      refine x_sub [1, 2, 0] (L' := [(0, _), (1, _), (3, _)]) rfl ?_
      refine x_pc (pc' := 18) rfl ?_
      exact ih _ _ _ h
    · obtain rfl := x_inj h
      exact x_vret C0 dX5_closeUp_54
set_option maxRecDepth 4000 in
set_option maxHeartbeats 2000000 in
theorem c_X5_closeUp {l : Launch} {D : va_G} {cs : Nat → ClassId} {ad : Nat → Nat} (n : Nat) {σ : xM} {x1 : Int32} {x2 : Int32}  {res : xM} (h : F_X5_closeUp n σ x1 x2 = some res) : x_Met l yX5_closeUp [Cond.code yX5_closeUp cX5_closeUp 4 none] ({ frames := 1, cells := 0, slots := 0, locals := 21 } : Room) D vwCl (xtys cs) 4 ad (wfR cs ad) [.ref (ad 0), .int x1, .int x2] σ none res := by
  refine x_Met_of (L0 := [(0, .ref (ad 0)), (1, .int x1), (2, .int x2)]) (own := RX5) (by decide) rfl rfl wfR_loc (Nat.le_of_ble_eq_true rfl) rfl ?_
  intro p e s m args below meth c A C0
  refine x_aload_n C0 dX5_closeUp_0 rfl 0 rfl ?_
  refine x_get C0 inu5 rfl 0 (by decide) mw_643 (by decide) wfR_0 rfl dX5_closeUp_1 ?_
  refine x_iconst C0 (v := 0) dX5_closeUp_4 ki_0 ?_
  refine x_iload_n C0 dX5_closeUp_5 rfl 1 rfl ?_
  refine x_iadd C0 dX5_closeUp_6 ?_
  refine x_dup2 C0 dX5_closeUp_7 rfl rfl ?_
  refine x_iald C0 1 rfl (by decide) wfR_1 dX5_closeUp_8 h (fun _ h => ?_)
  refine x_pc (pc' := 9) rfl ?_
  refine x_iconst C0 (v := 1) dX5_closeUp_9 ki_1 ?_
  refine x_isub C0 dX5_closeUp_10 ?_
  refine x_iast C0 1 rfl (by decide) wfR_1 wpR_1 (fun r' h' k' => x_up_ne r' h' k') dX5_closeUp_11 h (fun _ h => ?_)
  refine x_iload_n C0 dX5_closeUp_12 rfl 1 rfl ?_
  refine x_iload_n C0 dX5_closeUp_13 rfl 2 rfl ?_
  refine x_pureS2 C0 (fun ad' => c_X5_cellOf rfl) (x_cwS C0 mw_712 mw_713 mw_84 mw_714 hd_yX5_cellOf ⟨rfl, rfl, Nat.le_of_ble_eq_true rfl, Nat.le_of_ble_eq_true rfl⟩) ⟨Nat.zero_le _, Nat.zero_le _⟩ (Nat.le_of_ble_eq_true rfl) dX5_closeUp_14 ?_
  refine x_istore_n C0 dX5_closeUp_17 rfl (L' := [(3, _), (0, _), (1, _), (2, _)]) (by decide) rfl ?_
  refine x_sub [1, 2, 0] (L' := [(0, _), (1, _), (3, _)]) rfl ?_
  refine x_pc (pc' := 18) rfl ?_
  exact b_X5_closeUp_18 C0 n n _ _ _ h
set_option maxRecDepth 4000 in
set_option maxHeartbeats 2000000 in
theorem c_X5_append {l : Launch} {D : va_G} {cs : Nat → ClassId} {ad : Nat → Nat} (n : Nat) {σ : xM} {x1 : Int32} {x2 : Int32} {x3 : Int32} {x4 : Int32}  {res : xM} (h : F_X5_append n σ x1 x2 x3 x4 = some res) : x_Met l yX5_append [Cond.code yX5_append cX5_append 6 none] ({ frames := 1, cells := 0, slots := 0, locals := 21 } : Room) D vwCl (xtys cs) 4 ad (wfR cs ad) [.ref (ad 0), .int x1, .int x2, .int x3, .int x4] σ none res := by
  refine x_Met_of (L0 := [(0, .ref (ad 0)), (1, .int x1), (2, .int x2), (3, .int x3), (4, .int x4)]) (own := RX5) (by decide) rfl rfl wfR_loc (Nat.le_of_ble_eq_true rfl) rfl ?_
  intro p e s m args below meth c A C0
  refine x_iload_n C0 dX5_append_0 rfl 1 rfl ?_
  refine x_aload_n C0 dX5_append_1 rfl 0 rfl ?_
  refine x_get C0 inu5 rfl 0 (by decide) mw_643 (by decide) wfR_0 rfl dX5_append_2 ?_
  refine x_iconst C0 (v := 0) dX5_append_5 ki_0 ?_
  refine x_iload_n C0 dX5_append_6 rfl 1 rfl ?_
  refine x_iadd C0 dX5_append_7 ?_
  refine x_iald C0 1 rfl (by decide) wfR_1 dX5_append_8 h (fun _ h => ?_)
  refine x_pc (pc' := 9) rfl ?_
  refine x_pureS2 C0 (fun ad' => c_X5_cellOf rfl) (x_cwS C0 mw_712 mw_713 mw_84 mw_714 hd_yX5_cellOf ⟨rfl, rfl, Nat.le_of_ble_eq_true rfl, Nat.le_of_ble_eq_true rfl⟩) ⟨Nat.zero_le _, Nat.zero_le _⟩ (Nat.le_of_ble_eq_true rfl) dX5_append_9 ?_
  refine x_istore C0 dX5_append_12 (L' := [(5, _), (0, _), (1, _), (2, _), (3, _), (4, _)]) (by decide) rfl ?_
  refine x_aload_n C0 dX5_append_14 rfl 1 rfl ?_
  refine x_get C0 inu5 rfl 0 (by decide) mw_643 (by decide) wfR_0 rfl dX5_append_15 ?_
  refine x_iload C0 dX5_append_18 0 rfl ?_
  refine x_iload_n C0 dX5_append_20 rfl 3 rfl ?_
  refine x_iast C0 1 rfl (by decide) wfR_1 wpR_1 (fun r' h' k' => x_up_ne r' h' k') dX5_append_21 h (fun _ h => ?_)
  refine x_aload_n C0 dX5_append_22 rfl 1 rfl ?_
  refine x_pc (pc' := 23) rfl ?_
  refine x_get C0 inu5 rfl 0 (by decide) mw_643 (by decide) wfR_0 rfl dX5_append_23 ?_
  refine x_iload C0 dX5_append_26 0 rfl ?_
  refine x_iconst C0 (v := 1) dX5_append_28 ki_1 ?_
  refine x_iadd C0 dX5_append_29 ?_
  refine x_iload_n C0 dX5_append_30 rfl 4 rfl ?_
  refine x_iast C0 1 rfl (by decide) wfR_1 wpR_1 (fun r' h' k' => x_up_ne r' h' k') dX5_append_31 h (fun _ h => ?_)
  refine x_aload_n C0 dX5_append_32 rfl 1 rfl ?_
  refine x_get C0 inu5 rfl 0 (by decide) mw_643 (by decide) wfR_0 rfl dX5_append_33 ?_
  refine x_pc (pc' := 36) rfl ?_
  refine x_iload C0 dX5_append_36 0 rfl ?_
  refine x_iconst C0 (v := 2) dX5_append_38 ki_2 ?_
  refine x_iadd C0 dX5_append_39 ?_
  refine x_iload C0 dX5_append_40 5 rfl ?_
  refine x_iast C0 1 rfl (by decide) wfR_1 wpR_1 (fun r' h' k' => x_up_ne r' h' k') dX5_append_42 h (fun _ h => ?_)
  refine x_aload_n C0 dX5_append_43 rfl 1 rfl ?_
  refine x_get C0 inu5 rfl 0 (by decide) mw_643 (by decide) wfR_0 rfl dX5_append_44 ?_
  refine x_iconst C0 (v := 0) dX5_append_47 ki_0 ?_
  refine x_pc (pc' := 48) rfl ?_
  refine x_iload_n C0 dX5_append_48 rfl 2 rfl ?_
  refine x_iadd C0 dX5_append_49 ?_
  refine x_dup2 C0 dX5_append_50 rfl rfl ?_
  refine x_iald C0 1 rfl (by decide) wfR_1 dX5_append_51 h (fun _ h => ?_)
  refine x_iconst C0 (v := 1) dX5_append_52 ki_1 ?_
  refine x_iadd C0 dX5_append_53 ?_
  refine x_iast C0 1 rfl (by decide) wfR_1 wpR_1 (fun r' h' k' => x_up_ne r' h' k') dX5_append_54 h (fun _ h => ?_)
  obtain rfl := x_inj h
  exact x_vret C0 dX5_append_55
set_option maxRecDepth 4000 in
set_option maxHeartbeats 2000000 in
theorem b_X5_throwOut_99 {p : Program} {l : Launch} {e : Env} {s : State} {m : MethodId} {args : Array Value} {below : List Frame} {meth : Method} {c : Code} {D : va_G} {cs : Nat → ClassId} {ad : Nat → Nat} {A : Nat → Prop} (C0 : x_C p s m args meth c D vwCl (xtys cs) A s.heap 4 ad (wfR cs ad) cX5_throwOut 6 RX5 none)  (n : Nat) {res : xM} : ∀ (σ : xM) (l2 : Int32) (l4 : Int32), B_X5_throwOut_99 n σ l2 l4 = some res → x_W p l e ({ frames := 2, cells := 0, slots := 0, locals := 44 } : Room) s m args below meth c D vwCl A s.heap 4 ad (wfR cs ad) 6 0 0 (x_E below args s D vwCl 4 ad (wfR cs ad) A none res) σ 99 [(0, .ref (ad 0)), (2, .int l2), (4, .int l4)] [] := by
  intro σ l2 l4 h
  refine x_aload_n C0 dX5_throwOut_99 rfl 0 rfl ?_
  refine x_get C0 inu5 rfl 0 (by decide) mw_643 (by decide) wfR_0 rfl dX5_throwOut_100 ?_
  refine x_bipush C0 (v := 104) dX5_throwOut_103 kb_104 ?_
  refine x_iconst C0 (v := 2) dX5_throwOut_105 ki_2 ?_
  refine x_aload_n C0 dX5_throwOut_106 rfl 0 rfl ?_
  refine x_get C0 inu5 rfl 0 (by decide) mw_643 (by decide) wfR_0 rfl dX5_throwOut_107 ?_
  refine x_sipush C0 (v := 348) dX5_throwOut_110 ks_348 ?_
  refine x_pc (pc' := 113) rfl ?_
  refine x_iald C0 1 rfl (by decide) wfR_1 dX5_throwOut_113 h (fun _ h => ?_)
  refine x_imul C0 dX5_throwOut_114 ?_
  refine x_iadd C0 dX5_throwOut_115 ?_
  refine x_iload C0 dX5_throwOut_116 2 rfl ?_
  refine x_iast C0 1 rfl (by decide) wfR_1 wpR_1 (fun r' h' k' => x_up_ne r' h' k') dX5_throwOut_118 h (fun _ h => ?_)
  refine x_aload_n C0 dX5_throwOut_119 rfl 0 rfl ?_
  refine x_get C0 inu5 rfl 0 (by decide) mw_643 (by decide) wfR_0 rfl dX5_throwOut_120 ?_
  refine x_bipush C0 (v := 104) dX5_throwOut_123 kb_104 ?_
  refine x_pc (pc' := 125) rfl ?_
  refine x_iconst C0 (v := 2) dX5_throwOut_125 ki_2 ?_
  refine x_aload_n C0 dX5_throwOut_126 rfl 0 rfl ?_
  refine x_get C0 inu5 rfl 0 (by decide) mw_643 (by decide) wfR_0 rfl dX5_throwOut_127 ?_
  refine x_sipush C0 (v := 348) dX5_throwOut_130 ks_348 ?_
  refine x_iald C0 1 rfl (by decide) wfR_1 dX5_throwOut_133 h (fun _ h => ?_)
  refine x_imul C0 dX5_throwOut_134 ?_
  refine x_iadd C0 dX5_throwOut_135 ?_
  refine x_iconst C0 (v := 1) dX5_throwOut_136 ki_1 ?_
  refine x_pc (pc' := 137) rfl ?_
  refine x_iadd C0 dX5_throwOut_137 ?_
  refine x_iload_n C0 dX5_throwOut_138 rfl 1 rfl ?_
  refine x_iast C0 1 rfl (by decide) wfR_1 wpR_1 (fun r' h' k' => x_up_ne r' h' k') dX5_throwOut_139 h (fun _ h => ?_)
  refine x_aload_n C0 dX5_throwOut_140 rfl 0 rfl ?_
  refine x_get C0 inu5 rfl 0 (by decide) mw_643 (by decide) wfR_0 rfl dX5_throwOut_141 ?_
  refine x_sipush C0 (v := 348) dX5_throwOut_144 ks_348 ?_
  refine x_dup2 C0 dX5_throwOut_147 rfl rfl ?_
  refine x_iald C0 1 rfl (by decide) wfR_1 dX5_throwOut_148 h (fun _ h => ?_)
  refine x_pc (pc' := 149) rfl ?_
  refine x_iconst C0 (v := 1) dX5_throwOut_149 ki_1 ?_
  refine x_iadd C0 dX5_throwOut_150 ?_
  refine x_iast C0 1 rfl (by decide) wfR_1 wpR_1 (fun r' h' k' => x_up_ne r' h' k') dX5_throwOut_151 h (fun _ h => ?_)
  refine x_aload_n C0 dX5_throwOut_152 rfl 0 rfl ?_
  refine x_get C0 inu5 rfl 0 (by decide) mw_643 (by decide) wfR_0 rfl dX5_throwOut_153 ?_
  refine x_sipush C0 (v := 357) dX5_throwOut_156 ks_357 ?_
  refine x_dup2 C0 dX5_throwOut_159 rfl rfl ?_
  refine x_iald C0 1 rfl (by decide) wfR_1 dX5_throwOut_160 h (fun _ h => ?_)
  refine x_pc (pc' := 161) rfl ?_
  refine x_iconst C0 (v := 1) dX5_throwOut_161 ki_1 ?_
  refine x_iadd C0 dX5_throwOut_162 ?_
  refine x_iast C0 1 rfl (by decide) wfR_1 wpR_1 (fun r' h' k' => x_up_ne r' h' k') dX5_throwOut_163 h (fun _ h => ?_)
  obtain rfl := x_inj h
  exact x_vret C0 dX5_throwOut_164
set_option maxRecDepth 4000 in
set_option maxHeartbeats 2000000 in
theorem b_X5_throwOut_69 {p : Program} {l : Launch} {e : Env} {s : State} {m : MethodId} {args : Array Value} {below : List Frame} {meth : Method} {c : Code} {D : va_G} {cs : Nat → ClassId} {ad : Nat → Nat} {A : Nat → Prop} (C0 : x_C p s m args meth c D vwCl (xtys cs) A s.heap 4 ad (wfR cs ad) cX5_throwOut 6 RX5 none)  (n : Nat) {res : xM} : ∀ (σ : xM) (l1 : Int32) (l2 : Int32) (l4 : Int32), B_X5_throwOut_69 n σ l1 l2 l4 = some res → x_W p l e ({ frames := 2, cells := 0, slots := 0, locals := 44 } : Room) s m args below meth c D vwCl A s.heap 4 ad (wfR cs ad) 6 0 0 (x_E below args s D vwCl 4 ad (wfR cs ad) A none res) σ 69 [(0, .ref (ad 0)), (1, .int l1), (2, .int l2), (4, .int l4)] [] := by
  intro σ l1 l2 l4 h
  refine x_aload_n C0 dX5_throwOut_69 rfl 0 rfl ?_
  refine x_iload_n C0 dX5_throwOut_70 rfl 1 rfl ?_
  refine x_iconst C0 (v := 0) dX5_throwOut_71 ki_0 ?_
  obtain ⟨q3, eq3, h⟩ := x_bind h
  refine x_callV20 C0 (c_X5_closeUp n eq3) (x_cwV C0 mw_722 mw_724 mw_52 mw_84 mw_725 hd_yX5_closeUp ⟨rfl, rfl, Nat.le_of_ble_eq_true rfl, Nat.le_of_ble_eq_true rfl⟩) (by decide) rfl wfR_0 rfl ⟨Nat.zero_le _, Nat.zero_le _⟩ (Nat.le_of_ble_eq_true rfl) dX5_throwOut_72 ?_
  refine x_aload_n C0 dX5_throwOut_75 rfl 0 rfl ?_
  refine x_iload C0 dX5_throwOut_76 3 rfl ?_
  obtain ⟨q4, eq4, h⟩ := x_bind h
  refine x_callV10 C0 (c_X5_forgetLine n eq4) (x_cwV C0 mw_726 mw_728 mw_53 mw_84 mw_729 hd_yX5_forgetLine ⟨rfl, rfl, Nat.le_of_ble_eq_true rfl, Nat.le_of_ble_eq_true rfl⟩) (by decide) rfl wfR_0 rfl ⟨Nat.zero_le _, Nat.zero_le _⟩ (Nat.le_of_ble_eq_true rfl) dX5_throwOut_78 ?_
  refine x_pc (pc' := 81) rfl ?_
  refine x_aload_n C0 dX5_throwOut_81 rfl 0 rfl ?_
  refine x_get C0 inu5 rfl 0 (by decide) mw_643 (by decide) wfR_0 rfl dX5_throwOut_82 ?_
  refine x_sipush C0 (v := 348) dX5_throwOut_85 ks_348 ?_
  refine x_iald C0 1 rfl (by decide) wfR_1 dX5_throwOut_88 h (fun _ h => ?_)
  refine x_bipush C0 (v := 8) dX5_throwOut_89 kb_8 ?_
  refine x_icmp_ne C0 (tgt := 99) dX5_throwOut_91 rfl h (fun _ h => ?_) (fun _ h => ?_)
  · refine x_aload_n C0 dX5_throwOut_94 rfl 0 rfl ?_
    refine x_iconst C0 (v := 0) dX5_throwOut_95 ki_0 ?_
    obtain ⟨q5, eq5, h⟩ := x_bind h
    refine x_callV10 C0 (c_X5_forgetOut n eq5) (x_cwV C0 mw_734 mw_736 mw_55 mw_84 mw_737 hd_yX5_forgetOut ⟨rfl, rfl, Nat.le_of_ble_eq_true rfl, Nat.le_of_ble_eq_true rfl⟩) (by decide) rfl wfR_0 rfl ⟨Nat.zero_le _, Nat.zero_le _⟩ (Nat.le_of_ble_eq_true rfl) dX5_throwOut_96 ?_
    refine x_sub [0, 2, 3] (L' := [(0, _), (2, _), (4, _)]) rfl ?_
    refine x_pc (pc' := 99) rfl ?_
    exact b_X5_throwOut_99 C0 n _ _ _ h
  · refine x_sub [0, 2, 3] (L' := [(0, _), (2, _), (4, _)]) rfl ?_
    refine x_pc (pc' := 99) rfl ?_
    exact b_X5_throwOut_99 C0 n _ _ _ h
set_option maxRecDepth 4000 in
set_option maxHeartbeats 2000000 in
theorem c_X5_throwOut {l : Launch} {D : va_G} {cs : Nat → ClassId} {ad : Nat → Nat} (n : Nat) {σ : xM} {x1 : Int32} {x2 : Int32}  {res : xM} (h : F_X5_throwOut n σ x1 x2 = some res) : x_Met l yX5_throwOut [Cond.code yX5_throwOut cX5_throwOut 6 none] ({ frames := 2, cells := 0, slots := 0, locals := 44 } : Room) D vwCl (xtys cs) 4 ad (wfR cs ad) [.ref (ad 0), .int x1, .int x2] σ none res := by
  refine x_Met_of (L0 := [(0, .ref (ad 0)), (1, .int x1), (2, .int x2)]) (own := RX5) (by decide) rfl rfl wfR_loc (Nat.le_of_ble_eq_true rfl) rfl ?_
  intro p e s m args below meth c A C0
  refine x_iload_n C0 dX5_throwOut_0 rfl 1 rfl ?_
  refine x_iconst C0 (v := 0) dX5_throwOut_1 ki_0 ?_
  refine x_pureS2 C0 (fun ad' => c_X5_cellOf rfl) (x_cwS C0 mw_712 mw_713 mw_84 mw_714 hd_yX5_cellOf ⟨rfl, rfl, Nat.le_of_ble_eq_true rfl, Nat.le_of_ble_eq_true rfl⟩) ⟨Nat.zero_le _, Nat.zero_le _⟩ (Nat.le_of_ble_eq_true rfl) dX5_throwOut_2 ?_
  refine x_istore_n C0 dX5_throwOut_5 rfl (L' := [(3, _), (0, _), (1, _), (2, _)]) (by decide) rfl ?_
  refine x_aload_n C0 dX5_throwOut_6 rfl 1 rfl ?_
  refine x_get C0 inu5 rfl 0 (by decide) mw_643 (by decide) wfR_0 rfl dX5_throwOut_7 ?_
  refine x_iload_n C0 dX5_throwOut_10 rfl 0 rfl ?_
  refine x_pc (pc' := 11) rfl ?_
  refine x_iald C0 1 rfl (by decide) wfR_1 dX5_throwOut_11 h (fun _ h => ?_)
  refine x_istore C0 dX5_throwOut_12 (L' := [(4, _), (3, _), (0, _), (1, _), (2, _)]) (by decide) rfl ?_
  refine x_aload_n C0 dX5_throwOut_14 rfl 2 rfl ?_
  refine x_get C0 inu5 rfl 0 (by decide) mw_643 (by decide) wfR_0 rfl dX5_throwOut_15 ?_
  refine x_iload_n C0 dX5_throwOut_18 rfl 1 rfl ?_
  refine x_iconst C0 (v := 1) dX5_throwOut_19 ki_1 ?_
  refine x_iadd C0 dX5_throwOut_20 ?_
  refine x_iald C0 1 rfl (by decide) wfR_1 dX5_throwOut_21 h (fun _ h => ?_)
  refine x_pc (pc' := 22) rfl ?_
  refine x_istore C0 dX5_throwOut_22 (L' := [(5, _), (4, _), (3, _), (0, _), (1, _), (2, _)]) (by decide) rfl ?_
  refine x_aload_n C0 dX5_throwOut_24 rfl 3 rfl ?_
  refine x_get C0 inu5 rfl 0 (by decide) mw_643 (by decide) wfR_0 rfl dX5_throwOut_25 ?_
  refine x_iload_n C0 dX5_throwOut_28 rfl 2 rfl ?_
  refine x_iconst C0 (v := 2) dX5_throwOut_29 ki_2 ?_
  refine x_iadd C0 dX5_throwOut_30 ?_
  refine x_iald C0 1 rfl (by decide) wfR_1 dX5_throwOut_31 h (fun _ h => ?_)
  refine x_iconst C0 (v := 1) dX5_throwOut_32 ki_1 ?_
  refine x_pc (pc' := 33) rfl ?_
  refine x_icmp_ne C0 (tgt := 69) dX5_throwOut_33 rfl h (fun _ h => ?_) (fun _ h => ?_)
  · refine x_aload_n C0 dX5_throwOut_36 rfl 3 rfl ?_
    refine x_get C0 inu5 rfl 0 (by decide) mw_643 (by decide) wfR_0 rfl dX5_throwOut_37 ?_
    refine x_iload C0 dX5_throwOut_40 0 rfl ?_
    refine x_bipush C0 (v := 8) dX5_throwOut_42 kb_8 ?_
    refine x_pureS2 C0 (fun ad' => c_X5_of rfl) (x_cwS C0 mw_715 mw_716 mw_84 mw_717 hd_yX5_of ⟨rfl, rfl, Nat.le_of_ble_eq_true rfl, Nat.le_of_ble_eq_true rfl⟩) ⟨Nat.zero_le _, Nat.zero_le _⟩ (Nat.le_of_ble_eq_true rfl) dX5_throwOut_44 ?_
    refine x_dup2 C0 dX5_throwOut_47 rfl rfl ?_
    refine x_iald C0 1 rfl (by decide) wfR_1 dX5_throwOut_48 h (fun _ h => ?_)
    refine x_pc (pc' := 49) rfl ?_
    refine x_iconst C0 (v := 1) dX5_throwOut_49 ki_1 ?_
    refine x_iadd C0 dX5_throwOut_50 ?_
    refine x_iast C0 1 rfl (by decide) wfR_1 wpR_1 (fun r' h' k' => x_up_ne r' h' k') dX5_throwOut_51 h (fun _ h => ?_)
    refine x_aload_n C0 dX5_throwOut_52 rfl 3 rfl ?_
    refine x_iload C0 dX5_throwOut_53 0 rfl ?_
    refine x_aload_n C0 dX5_throwOut_55 rfl 3 rfl ?_
    refine x_get C0 inu5 rfl 0 (by decide) mw_643 (by decide) wfR_0 rfl dX5_throwOut_56 ?_
    refine x_iload C0 dX5_throwOut_59 0 rfl ?_
    refine x_pc (pc' := 61) rfl ?_
    refine x_iconst C0 (v := 2) dX5_throwOut_61 ki_2 ?_
    refine x_pureS2 C0 (fun ad' => c_X5_of rfl) (x_cwS C0 mw_715 mw_716 mw_84 mw_717 hd_yX5_of ⟨rfl, rfl, Nat.le_of_ble_eq_true rfl, Nat.le_of_ble_eq_true rfl⟩) ⟨Nat.zero_le _, Nat.zero_le _⟩ (Nat.le_of_ble_eq_true rfl) dX5_throwOut_62 ?_
    refine x_iald C0 1 rfl (by decide) wfR_1 dX5_throwOut_65 h (fun _ h => ?_)
    obtain ⟨q2, eq2, h⟩ := x_bind h
    refine x_callV20 C0 (c_X5_giveHours n eq2) (x_cwV C0 mw_718 mw_720 mw_51 mw_84 mw_721 hd_yX5_giveHours ⟨rfl, rfl, Nat.le_of_ble_eq_true rfl, Nat.le_of_ble_eq_true rfl⟩) (by decide) rfl wfR_0 rfl ⟨Nat.zero_le _, Nat.zero_le _⟩ (Nat.le_of_ble_eq_true rfl) dX5_throwOut_66 ?_
    refine x_sub [3, 4, 5, 1] (L' := [(0, _), (1, _), (2, _), (4, _)]) rfl ?_
    refine x_pc (pc' := 69) rfl ?_
    exact b_X5_throwOut_69 C0 n _ _ _ _ h
  · refine x_sub [3, 4, 5, 1] (L' := [(0, _), (1, _), (2, _), (4, _)]) rfl ?_
    refine x_pc (pc' := 69) rfl ?_
    exact b_X5_throwOut_69 C0 n _ _ _ _ h
set_option maxRecDepth 4000 in
set_option maxHeartbeats 2000000 in
theorem b_X5_fetch_55 {p : Program} {l : Launch} {e : Env} {s : State} {m : MethodId} {args : Array Value} {below : List Frame} {meth : Method} {c : Code} {D : va_G} {cs : Nat → ClassId} {ad : Nat → Nat} {A : Nat → Prop} (C0 : x_C p s m args meth c D vwCl (xtys cs) A s.heap 4 ad (wfR cs ad) cX5_fetch 4 RX5 none)  (n : Nat) {res : xM} : ∀ (σ : xM) (s1 : Int32) (s2 : Int32) (s3 : Int32) (s4 : Int32), B_X5_fetch_55 n σ s1 s2 s3 s4 = some res → x_W p l e ({ frames := 3, cells := 0, slots := 0, locals := 69 } : Room) s m args below meth c D vwCl A s.heap 4 ad (wfR cs ad) 4 0 0 (x_E below args s D vwCl 4 ad (wfR cs ad) A none res) σ 55 [] [.int s4, .int s3, .int s2, .int s1, .ref (ad 0)] := by
  intro σ s1 s2 s3 s4 h
  obtain ⟨q3, eq3, h⟩ := x_bind h
  refine x_callV40 C0 (c_X5_append n eq3) (x_cwV C0 mw_799 mw_801 mw_62 mw_84 mw_802 hd_yX5_append ⟨rfl, rfl, Nat.le_of_ble_eq_true rfl, Nat.le_of_ble_eq_true rfl⟩) (by decide) rfl wfR_0 rfl ⟨Nat.zero_le _, Nat.zero_le _⟩ (Nat.le_of_ble_eq_true rfl) dX5_fetch_55 ?_
  obtain rfl := x_inj h
  exact x_vret C0 dX5_fetch_58
set_option maxRecDepth 4000 in
set_option maxHeartbeats 2000000 in
theorem b_X5_fetch_41 {p : Program} {l : Launch} {e : Env} {s : State} {m : MethodId} {args : Array Value} {below : List Frame} {meth : Method} {c : Code} {D : va_G} {cs : Nat → ClassId} {ad : Nat → Nat} {A : Nat → Prop} (C0 : x_C p s m args meth c D vwCl (xtys cs) A s.heap 4 ad (wfR cs ad) cX5_fetch 4 RX5 none)  (n : Nat) {res : xM} : ∀ (σ : xM) (l1 : Int32) (l2 : Int32) (l3 : Int32), B_X5_fetch_41 n σ l1 l2 l3 = some res → x_W p l e ({ frames := 3, cells := 0, slots := 0, locals := 69 } : Room) s m args below meth c D vwCl A s.heap 4 ad (wfR cs ad) 4 0 0 (x_E below args s D vwCl 4 ad (wfR cs ad) A none res) σ 41 [(0, .ref (ad 0)), (1, .int l1), (2, .int l2), (3, .int l3)] [] := by
  intro σ l1 l2 l3 h
  refine x_aload_n C0 dX5_fetch_41 rfl 0 rfl ?_
  refine x_iload_n C0 dX5_fetch_42 rfl 3 rfl ?_
  refine x_iload_n C0 dX5_fetch_43 rfl 1 rfl ?_
  refine x_iload_n C0 dX5_fetch_44 rfl 2 rfl ?_
  refine x_iload_n C0 dX5_fetch_45 rfl 2 rfl ?_
  refine x_iconst C0 (v := (-1)) dX5_fetch_46 ki_m1 ?_
  refine x_icmp_ne C0 (tgt := 54) dX5_fetch_47 rfl h (fun _ h => ?_) (fun _ h => ?_)
  · refine x_iconst C0 (v := 0) dX5_fetch_50 ki_0 ?_
    refine x_goto C0 (tgt := 55) dX5_fetch_51 rfl ?_
    refine x_sub [] (L' := []) rfl ?_
    refine x_pc (pc' := 55) rfl ?_
    exact b_X5_fetch_55 C0 n _ _ _ _ _ h
  · refine x_iconst C0 (v := 1) dX5_fetch_54 ki_1 ?_
    refine x_sub [] (L' := []) rfl ?_
    refine x_pc (pc' := 55) rfl ?_
    exact b_X5_fetch_55 C0 n _ _ _ _ _ h
set_option maxRecDepth 4000 in
set_option maxHeartbeats 2000000 in
theorem c_X5_fetch {l : Launch} {D : va_G} {cs : Nat → ClassId} {ad : Nat → Nat} (n : Nat) {σ : xM} {x1 : Int32} {x2 : Int32}  {res : xM} (h : F_X5_fetch n σ x1 x2 = some res) : x_Met l yX5_fetch [Cond.code yX5_fetch cX5_fetch 4 none] ({ frames := 3, cells := 0, slots := 0, locals := 69 } : Room) D vwCl (xtys cs) 4 ad (wfR cs ad) [.ref (ad 0), .int x1, .int x2] σ none res := by
  refine x_Met_of (L0 := [(0, .ref (ad 0)), (1, .int x1), (2, .int x2)]) (own := RX5) (by decide) rfl rfl wfR_loc (Nat.le_of_ble_eq_true rfl) rfl ?_
  intro p e s m args below meth c A C0
  refine x_iload_n C0 dX5_fetch_0 rfl 1 rfl ?_
  refine x_aload_n C0 dX5_fetch_1 rfl 0 rfl ?_
  refine x_get C0 inu5 rfl 0 (by decide) mw_643 (by decide) wfR_0 rfl dX5_fetch_2 ?_
  refine x_sipush C0 (v := 349) dX5_fetch_5 ks_349 ?_
  refine x_iald C0 1 rfl (by decide) wfR_1 dX5_fetch_8 h (fun _ h => ?_)
  refine x_irem C0 dX5_fetch_9 h (fun _ h => ?_)
  refine x_istore_n C0 dX5_fetch_10 rfl (L' := [(3, _), (0, _), (1, _), (2, _)]) (by decide) rfl ?_
  refine x_pc (pc' := 11) rfl ?_
  refine x_aload_n C0 dX5_fetch_11 rfl 1 rfl ?_
  refine x_iload_n C0 dX5_fetch_12 rfl 2 rfl ?_
  obtain ⟨q1, eq1, h⟩ := x_bind h
  refine x_callV10 C0 (c_X5_forgetLine n eq1) (x_cwV C0 mw_726 mw_728 mw_53 mw_84 mw_729 hd_yX5_forgetLine ⟨rfl, rfl, Nat.le_of_ble_eq_true rfl, Nat.le_of_ble_eq_true rfl⟩) (by decide) rfl wfR_0 rfl ⟨Nat.zero_le _, Nat.zero_le _⟩ (Nat.le_of_ble_eq_true rfl) dX5_fetch_13 ?_
  refine x_aload_n C0 dX5_fetch_16 rfl 1 rfl ?_
  refine x_get C0 inu5 rfl 0 (by decide) mw_643 (by decide) wfR_0 rfl dX5_fetch_17 ?_
  refine x_iconst C0 (v := 0) dX5_fetch_20 ki_0 ?_
  refine x_iload_n C0 dX5_fetch_21 rfl 0 rfl ?_
  refine x_iadd C0 dX5_fetch_22 ?_
  refine x_pc (pc' := 23) rfl ?_
  refine x_iald C0 1 rfl (by decide) wfR_1 dX5_fetch_23 h (fun _ h => ?_)
  refine x_aload_n C0 dX5_fetch_24 rfl 1 rfl ?_
  refine x_get C0 inu5 rfl 0 (by decide) mw_643 (by decide) wfR_0 rfl dX5_fetch_25 ?_
  refine x_sipush C0 (v := 350) dX5_fetch_28 ks_350 ?_
  refine x_iald C0 1 rfl (by decide) wfR_1 dX5_fetch_31 h (fun _ h => ?_)
  refine x_icmp_ne C0 (tgt := 41) dX5_fetch_32 rfl h (fun _ h => ?_) (fun _ h => ?_)
  · refine x_aload_n C0 dX5_fetch_35 rfl 1 rfl ?_
    refine x_iload_n C0 dX5_fetch_36 rfl 0 rfl ?_
    refine x_iload_n C0 dX5_fetch_37 rfl 3 rfl ?_
    obtain ⟨q2, eq2, h⟩ := x_bind h
    refine x_callV20 C0 (c_X5_throwOut n eq2) (x_cwV C0 mw_708 mw_710 mw_50 mw_84 mw_711 hd_yX5_throwOut ⟨rfl, rfl, Nat.le_of_ble_eq_true rfl, Nat.le_of_ble_eq_true rfl⟩) (by decide) rfl wfR_0 rfl ⟨Nat.zero_le _, Nat.zero_le _⟩ (Nat.le_of_ble_eq_true rfl) dX5_fetch_38 ?_
    refine x_sub [1, 2, 3, 0] (L' := [(0, _), (1, _), (2, _), (3, _)]) rfl ?_
    refine x_pc (pc' := 41) rfl ?_
    exact b_X5_fetch_41 C0 n _ _ _ _ h
  · refine x_sub [1, 2, 3, 0] (L' := [(0, _), (1, _), (2, _), (3, _)]) rfl ?_
    refine x_pc (pc' := 41) rfl ?_
    exact b_X5_fetch_41 C0 n _ _ _ _ h
set_option maxRecDepth 4000 in
set_option maxHeartbeats 2000000 in
theorem b_X5_linesIn_4 {p : Program} {l : Launch} {e : Env} {s : State} {m : MethodId} {args : Array Value} {below : List Frame} {meth : Method} {c : Code} {D : va_G} {cs : Nat → ClassId} {ad : Nat → Nat} {A : Nat → Prop} (C0 : x_C p s m args meth c D vwCl (xtys cs) A s.heap 4 ad (wfR cs ad) cX5_linesIn 3 RX5 (some FieldType.int))  (n : Nat) {σ : xM} {res : Int32} : ∀ (f : Nat) (l1 : Int32) (l2 : Int32), B_X5_linesIn_4 n σ f l1 l2 = some res → x_W p l e ({ frames := 0, cells := 0, slots := 0, locals := 0 } : Room) s m args below meth c D vwCl A s.heap 4 ad (wfR cs ad) 3 0 0 (x_E below args s D vwCl 4 ad (wfR cs ad) A (some (.int res)) σ) σ 4 [(0, .ref (ad 0)), (1, .int l1), (2, .int l2)] [] := by
  intro f
  induction f with
  | zero =>
    intro l1 l2 h
    cases h
  | succ f ih =>
    intro l1 l2 h
    refine x_iload_n C0 dX5_linesIn_4 rfl 2 rfl ?_
    refine x_bipush C0 (v := 8) dX5_linesIn_5 kb_8 ?_
    refine x_icmp_ge C0 (tgt := 27) dX5_linesIn_7 rfl h (fun _ h => ?_) (fun _ h => ?_)
    · refine x_iload_n C0 dX5_linesIn_10 rfl 1 rfl ?_
      refine x_aload_n C0 dX5_linesIn_11 rfl 0 rfl ?_
      refine x_get C0 inu5 rfl 0 (by decide) mw_643 (by decide) wfR_0 rfl dX5_linesIn_12 ?_
      refine x_iconst C0 (v := 0) dX5_linesIn_15 ki_0 ?_
      refine x_iload_n C0 dX5_linesIn_16 rfl 2 rfl ?_
      refine x_iadd C0 dX5_linesIn_17 ?_
      refine x_iald C0 1 rfl (by decide) wfR_1 dX5_linesIn_18 h (fun _ h => ?_)
      refine x_pc (pc' := 19) rfl ?_
      refine x_iadd C0 dX5_linesIn_19 ?_
      refine x_istore_n C0 dX5_linesIn_20 rfl (L' := [(1, _), (0, _), (2, _)]) (by decide) rfl ?_
      refine x_iinc C0 (v := 1) (L' := [(2, _), (1, _), (0, _)]) dX5_linesIn_21 2 rfl ki_1 (by decide) rfl ?_
      refine x_goto C0 (tgt := 4) dX5_linesIn_24 rfl ?_
      refine x_sub [2, 1, 0] (L' := [(0, _), (1, _), (2, _)]) rfl ?_
      refine x_pc (pc' := 4) rfl ?_
      exact ih _ _ h
    · refine x_iload_n C0 dX5_linesIn_27 rfl 1 rfl ?_
      obtain rfl := x_inj h
      exact x_iret C0 dX5_linesIn_28
set_option maxRecDepth 4000 in
set_option maxHeartbeats 2000000 in
theorem c_X5_linesIn {l : Launch} {D : va_G} {cs : Nat → ClassId} {ad : Nat → Nat} (n : Nat) {σ : xM}  {res : Int32} (h : F_X5_linesIn n σ = some res) : x_Met l yX5_linesIn [Cond.code yX5_linesIn cX5_linesIn 3 (some FieldType.int)] ({ frames := 0, cells := 0, slots := 0, locals := 0 } : Room) D vwCl (xtys cs) 4 ad (wfR cs ad) [.ref (ad 0)] σ (some (.int res)) σ := by
  refine x_Met_of (L0 := [(0, .ref (ad 0))]) (own := RX5) (by decide) rfl rfl wfR_loc (Nat.le_of_ble_eq_true rfl) rfl ?_
  intro p e s m args below meth c A C0
  refine x_iconst C0 (v := 0) dX5_linesIn_0 ki_0 ?_
  refine x_istore_n C0 dX5_linesIn_1 rfl (L' := [(1, _), (0, _)]) (by decide) rfl ?_
  refine x_iconst C0 (v := 0) dX5_linesIn_2 ki_0 ?_
  refine x_istore_n C0 dX5_linesIn_3 rfl (L' := [(2, _), (1, _), (0, _)]) (by decide) rfl ?_
  refine x_sub [2, 1, 0] (L' := [(0, _), (1, _), (2, _)]) rfl ?_
  refine x_pc (pc' := 4) rfl ?_
  exact b_X5_linesIn_4 C0 n n _ _ h
set_option maxRecDepth 4000 in
set_option maxHeartbeats 2000000 in
theorem b_X5_empty_19 {p : Program} {l : Launch} {e : Env} {s : State} {m : MethodId} {args : Array Value} {below : List Frame} {meth : Method} {c : Code} {D : va_G} {cs : Nat → ClassId} {ad : Nat → Nat} {A : Nat → Prop} (C0 : x_C p s m args meth c D vwCl (xtys cs) A s.heap 4 ad (wfR cs ad) cX5_empty 3 RX5 (some FieldType.int))  (n : Nat) {res : Int32 × xM} {K7 : xM → Int32 → Int32 → Option (Int32 × xM)} (hK7 : ∀ (σ : xM) (l1 : Int32) (l2 : Int32) , K7 σ l1 l2 = some res → x_W p l e ({ frames := 3, cells := 0, slots := 0, locals := 69 } : Room) s m args below meth c D vwCl A s.heap 4 ad (wfR cs ad) 3 0 0 (x_E below args s D vwCl 4 ad (wfR cs ad) A (some (.int res.1)) res.2) σ 7 [(0, .ref (ad 0)), (1, .int l1), (2, .int l2)] []) : ∀ (f : Nat) (σ : xM) (l1 : Int32) (l2 : Int32), B_X5_empty_19 n K7 f σ l1 l2 = some res → x_W p l e ({ frames := 3, cells := 0, slots := 0, locals := 69 } : Room) s m args below meth c D vwCl A s.heap 4 ad (wfR cs ad) 3 0 0 (x_E below args s D vwCl 4 ad (wfR cs ad) A (some (.int res.1)) res.2) σ 19 [(0, .ref (ad 0)), (1, .int l1), (2, .int l2)] [] := by
  intro f
  induction f with
  | zero =>
    intro σ l1 l2 h
    cases h
  | succ f ih =>
    intro σ l1 l2 h
    refine x_aload_n C0 dX5_empty_19 rfl 0 rfl ?_
    refine x_get C0 inu5 rfl 0 (by decide) mw_643 (by decide) wfR_0 rfl dX5_empty_20 ?_
    refine x_iconst C0 (v := 0) dX5_empty_23 ki_0 ?_
    refine x_iload_n C0 dX5_empty_24 rfl 2 rfl ?_
    refine x_iadd C0 dX5_empty_25 ?_
    refine x_iald C0 1 rfl (by decide) wfR_1 dX5_empty_26 h (fun _ h => ?_)
    refine x_if_le C0 (tgt := 39) dX5_empty_27 rfl h (fun _ h => ?_) (fun _ h => ?_)
    · refine x_aload_n C0 dX5_empty_30 rfl 0 rfl ?_
      refine x_iload_n C0 dX5_empty_31 rfl 2 rfl ?_
      refine x_iconst C0 (v := (-1)) dX5_empty_32 ki_m1 ?_
      obtain ⟨q2, eq2, h⟩ := x_bind h
      refine x_callV20 C0 (c_X5_throwOut n eq2) (x_cwV C0 mw_708 mw_710 mw_50 mw_84 mw_711 hd_yX5_throwOut ⟨rfl, rfl, Nat.le_of_ble_eq_true rfl, Nat.le_of_ble_eq_true rfl⟩) (by decide) rfl wfR_0 rfl ⟨Nat.zero_le _, Nat.zero_le _⟩ (Nat.le_of_ble_eq_true rfl) dX5_empty_33 ?_
      refine x_goto C0 (tgt := 19) dX5_empty_36 rfl ?_
      refine x_sub [0, 1, 2] (L' := [(0, _), (1, _), (2, _)]) rfl ?_
      refine x_pc (pc' := 19) rfl ?_
      exact ih _ _ _ h
    · refine x_iinc C0 (v := 1) (L' := [(2, _), (0, _), (1, _)]) dX5_empty_39 2 rfl ki_1 (by decide) rfl ?_
      refine x_goto C0 (tgt := 7) dX5_empty_42 rfl ?_
      refine x_sub [1, 2, 0] (L' := [(0, _), (1, _), (2, _)]) rfl ?_
      refine x_pc (pc' := 7) rfl ?_
      exact hK7 _ _ _ h
set_option maxRecDepth 4000 in
set_option maxHeartbeats 2000000 in
theorem b_X5_empty_7 {p : Program} {l : Launch} {e : Env} {s : State} {m : MethodId} {args : Array Value} {below : List Frame} {meth : Method} {c : Code} {D : va_G} {cs : Nat → ClassId} {ad : Nat → Nat} {A : Nat → Prop} (C0 : x_C p s m args meth c D vwCl (xtys cs) A s.heap 4 ad (wfR cs ad) cX5_empty 3 RX5 (some FieldType.int))  (n : Nat) {res : Int32 × xM} : ∀ (f : Nat) (σ : xM) (l1 : Int32) (l2 : Int32), B_X5_empty_7 n f σ l1 l2 = some res → x_W p l e ({ frames := 3, cells := 0, slots := 0, locals := 69 } : Room) s m args below meth c D vwCl A s.heap 4 ad (wfR cs ad) 3 0 0 (x_E below args s D vwCl 4 ad (wfR cs ad) A (some (.int res.1)) res.2) σ 7 [(0, .ref (ad 0)), (1, .int l1), (2, .int l2)] [] := by
  intro f
  induction f with
  | zero =>
    intro σ l1 l2 h
    cases h
  | succ f ih =>
    intro σ l1 l2 h
    refine x_iload_n C0 dX5_empty_7 rfl 2 rfl ?_
    refine x_aload_n C0 dX5_empty_8 rfl 0 rfl ?_
    refine x_get C0 inu5 rfl 0 (by decide) mw_643 (by decide) wfR_0 rfl dX5_empty_9 ?_
    refine x_sipush C0 (v := 349) dX5_empty_12 ks_349 ?_
    refine x_iald C0 1 rfl (by decide) wfR_1 dX5_empty_15 h (fun _ h => ?_)
    refine x_icmp_ge C0 (tgt := 45) dX5_empty_16 rfl h (fun _ h => ?_) (fun _ h => ?_)
    · refine x_sub [0, 1, 2] (L' := [(0, _), (1, _), (2, _)]) rfl ?_
      refine x_pc (pc' := 19) rfl ?_
      exact b_X5_empty_19 C0 n (fun σ l1 l2 h => ih σ l1 l2 h) n _ _ _ h
    · refine x_iload_n C0 dX5_empty_45 rfl 1 rfl ?_
      obtain rfl := x_inj h
      exact x_iret C0 dX5_empty_46
set_option maxRecDepth 4000 in
set_option maxHeartbeats 2000000 in
theorem c_X5_empty {l : Launch} {D : va_G} {cs : Nat → ClassId} {ad : Nat → Nat} (n : Nat) {σ : xM}  {res : Int32 × xM} (h : F_X5_empty n σ = some res) : x_Met l yX5_empty [Cond.code yX5_empty cX5_empty 3 (some FieldType.int)] ({ frames := 3, cells := 0, slots := 0, locals := 69 } : Room) D vwCl (xtys cs) 4 ad (wfR cs ad) [.ref (ad 0)] σ (some (.int res.1)) res.2 := by
  refine x_Met_of (L0 := [(0, .ref (ad 0))]) (own := RX5) (by decide) rfl rfl wfR_loc (Nat.le_of_ble_eq_true rfl) rfl ?_
  intro p e s m args below meth c A C0
  refine x_aload_n C0 dX5_empty_0 rfl 0 rfl ?_
  obtain ⟨q1, eq1, h⟩ := x_bind h
  refine x_callV01 C0 (c_X5_linesIn n eq1) (x_cwV C0 mw_704 mw_706 mw_49 mw_84 mw_707 hd_yX5_linesIn ⟨rfl, rfl, Nat.le_of_ble_eq_true rfl, Nat.le_of_ble_eq_true rfl⟩) (by decide) rfl wfR_0 rfl ⟨Nat.zero_le _, Nat.zero_le _⟩ (Nat.le_of_ble_eq_true rfl) dX5_empty_1 ?_
  refine x_istore_n C0 dX5_empty_4 rfl (L' := [(1, _), (0, _)]) (by decide) rfl ?_
  refine x_iconst C0 (v := 0) dX5_empty_5 ki_0 ?_
  refine x_istore_n C0 dX5_empty_6 rfl (L' := [(2, _), (1, _), (0, _)]) (by decide) rfl ?_
  refine x_sub [2, 1, 0] (L' := [(0, _), (1, _), (2, _)]) rfl ?_
  refine x_pc (pc' := 7) rfl ?_
  exact b_X5_empty_7 C0 n n _ _ _ h
set_option maxRecDepth 4000 in
set_option maxHeartbeats 2000000 in
theorem b_X5_shape_49 {p : Program} {l : Launch} {e : Env} {s : State} {m : MethodId} {args : Array Value} {below : List Frame} {meth : Method} {c : Code} {D : va_G} {cs : Nat → ClassId} {ad : Nat → Nat} {A : Nat → Prop} (C0 : x_C p s m args meth c D vwCl (xtys cs) A s.heap 4 ad (wfR cs ad) cX5_shape 4 RX5 (some FieldType.int))  (n : Nat) {res : Int32 × xM} : ∀ (σ : xM) (l1 : Int32) (l2 : Int32), B_X5_shape_49 n σ l1 l2 = some res → x_W p l e ({ frames := 4, cells := 0, slots := 0, locals := 91 } : Room) s m args below meth c D vwCl A s.heap 4 ad (wfR cs ad) 4 0 0 (x_E below args s D vwCl 4 ad (wfR cs ad) A (some (.int res.1)) res.2) σ 49 [(0, .ref (ad 0)), (1, .int l1), (2, .int l2)] [] := by
  intro σ l1 l2 h
  refine x_aload_n C0 dX5_shape_49 rfl 0 rfl ?_
  obtain ⟨q1, eq1, h⟩ := x_bind h
  refine x_callV00 C0 (c_X5_record n eq1) (x_cwV C0 mw_688 mw_690 mw_47 mw_84 mw_691 hd_yX5_record ⟨rfl, rfl, Nat.le_of_ble_eq_true rfl, Nat.le_of_ble_eq_true rfl⟩) (by decide) rfl wfR_0 rfl ⟨Nat.zero_le _, Nat.zero_le _⟩ (Nat.le_of_ble_eq_true rfl) dX5_shape_50 ?_
  refine x_aload_n C0 dX5_shape_53 rfl 0 rfl ?_
  obtain ⟨q2, eq2, h⟩ := x_bind h
  refine x_callV01 C0 (c_X5_empty n eq2) (x_cwV C0 mw_700 mw_702 mw_48 mw_84 mw_703 hd_yX5_empty ⟨rfl, rfl, Nat.le_of_ble_eq_true rfl, Nat.le_of_ble_eq_true rfl⟩) (by decide) rfl wfR_0 rfl ⟨Nat.zero_le _, Nat.zero_le _⟩ (Nat.le_of_ble_eq_true rfl) dX5_shape_54 ?_
  refine x_istore_n C0 dX5_shape_57 rfl (L' := [(3, _), (0, _), (1, _), (2, _)]) (by decide) rfl ?_
  refine x_aload_n C0 dX5_shape_58 rfl 1 rfl ?_
  refine x_get C0 inu5 rfl 0 (by decide) mw_643 (by decide) wfR_0 rfl dX5_shape_59 ?_
  refine x_pc (pc' := 62) rfl ?_
  refine x_sipush C0 (v := 348) dX5_shape_62 ks_348 ?_
  refine x_iconst C0 (v := 0) dX5_shape_65 ki_0 ?_
  refine x_iast C0 1 rfl (by decide) wfR_1 wpR_1 (fun r' h' k' => x_up_ne r' h' k') dX5_shape_66 h (fun _ h => ?_)
  refine x_aload_n C0 dX5_shape_67 rfl 1 rfl ?_
  refine x_get C0 inu5 rfl 0 (by decide) mw_643 (by decide) wfR_0 rfl dX5_shape_68 ?_
  refine x_sipush C0 (v := 349) dX5_shape_71 ks_349 ?_
  refine x_iload_n C0 dX5_shape_74 rfl 2 rfl ?_
  refine x_iast C0 1 rfl (by decide) wfR_1 wpR_1 (fun r' h' k' => x_up_ne r' h' k') dX5_shape_75 h (fun _ h => ?_)
  refine x_pc (pc' := 76) rfl ?_
  refine x_aload_n C0 dX5_shape_76 rfl 1 rfl ?_
  refine x_get C0 inu5 rfl 0 (by decide) mw_643 (by decide) wfR_0 rfl dX5_shape_77 ?_
  refine x_sipush C0 (v := 350) dX5_shape_80 ks_350 ?_
  refine x_iload_n C0 dX5_shape_83 rfl 3 rfl ?_
  refine x_iast C0 1 rfl (by decide) wfR_1 wpR_1 (fun r' h' k' => x_up_ne r' h' k') dX5_shape_84 h (fun _ h => ?_)
  refine x_iload_n C0 dX5_shape_85 rfl 0 rfl ?_
  obtain rfl := x_inj h
  exact x_iret C0 dX5_shape_86
set_option maxRecDepth 4000 in
set_option maxHeartbeats 2000000 in
theorem c_X5_shape {l : Launch} {D : va_G} {cs : Nat → ClassId} {ad : Nat → Nat} (n : Nat) {σ : xM} {x1 : Int32} {x2 : Int32}  {res : Int32 × xM} (h : F_X5_shape n σ x1 x2 = some res) : x_Met l yX5_shape [Cond.code yX5_shape cX5_shape 4 (some FieldType.int)] ({ frames := 4, cells := 0, slots := 0, locals := 91 } : Room) D vwCl (xtys cs) 4 ad (wfR cs ad) [.ref (ad 0), .int x1, .int x2] σ (some (.int res.1)) res.2 := by
  refine x_Met_of (L0 := [(0, .ref (ad 0)), (1, .int x1), (2, .int x2)]) (own := RX5) (by decide) rfl rfl wfR_loc (Nat.le_of_ble_eq_true rfl) rfl ?_
  intro p e s m args below meth c A C0
  refine x_iload_n C0 dX5_shape_0 rfl 1 rfl ?_
  refine x_iconst C0 (v := 1) dX5_shape_1 ki_1 ?_
  refine x_bipush C0 (v := 8) dX5_shape_2 kb_8 ?_
  refine x_pureS3 C0 (fun ad' => c_X5_in rfl) (x_cwS C0 mw_696 mw_697 mw_84 mw_698 hd_yX5_in ⟨rfl, rfl, Nat.le_of_ble_eq_true rfl, Nat.le_of_ble_eq_true rfl⟩) ⟨Nat.zero_le _, Nat.zero_le _⟩ (Nat.le_of_ble_eq_true rfl) dX5_shape_4 ?_
  refine x_if_eq C0 (tgt := 19) dX5_shape_7 rfl h (fun _ h => ?_) (fun _ h => ?_)
  · refine x_ldc C0 mw_699 dX5_shape_19 ?_
    obtain rfl := x_inj h
    exact x_iret C0 dX5_shape_21
  · refine x_iload_n C0 dX5_shape_10 rfl 2 rfl ?_
    refine x_iconst C0 (v := 1) dX5_shape_11 ki_1 ?_
    refine x_iconst C0 (v := 4) dX5_shape_12 ki_4 ?_
    refine x_pureS3 C0 (fun ad' => c_X5_in rfl) (x_cwS C0 mw_696 mw_697 mw_84 mw_698 hd_yX5_in ⟨rfl, rfl, Nat.le_of_ble_eq_true rfl, Nat.le_of_ble_eq_true rfl⟩) ⟨Nat.zero_le _, Nat.zero_le _⟩ (Nat.le_of_ble_eq_true rfl) dX5_shape_13 ?_
    refine x_if_ne C0 (tgt := 22) dX5_shape_16 rfl h (fun _ h => ?_) (fun _ h => ?_)
    · refine x_ldc C0 mw_699 dX5_shape_19 ?_
      obtain rfl := x_inj h
      exact x_iret C0 dX5_shape_21
    · refine x_aload_n C0 dX5_shape_22 rfl 0 rfl ?_
      refine x_get C0 inu5 rfl 0 (by decide) mw_643 (by decide) wfR_0 rfl dX5_shape_23 ?_
      refine x_sipush C0 (v := 349) dX5_shape_26 ks_349 ?_
      refine x_iald C0 1 rfl (by decide) wfR_1 dX5_shape_29 h (fun _ h => ?_)
      refine x_iload_n C0 dX5_shape_30 rfl 1 rfl ?_
      refine x_icmp_ne C0 (tgt := 49) dX5_shape_31 rfl h (fun _ h => ?_) (fun _ h => ?_)
      · refine x_aload_n C0 dX5_shape_34 rfl 0 rfl ?_
        refine x_get C0 inu5 rfl 0 (by decide) mw_643 (by decide) wfR_0 rfl dX5_shape_35 ?_
        refine x_sipush C0 (v := 350) dX5_shape_38 ks_350 ?_
        refine x_iald C0 1 rfl (by decide) wfR_1 dX5_shape_41 h (fun _ h => ?_)
        refine x_iload_n C0 dX5_shape_42 rfl 2 rfl ?_
        refine x_icmp_ne C0 (tgt := 49) dX5_shape_43 rfl h (fun _ h => ?_) (fun _ h => ?_)
        · refine x_ldc C0 mw_675 dX5_shape_46 ?_
          obtain rfl := x_inj h
          exact x_iret C0 dX5_shape_48
        · refine x_sub [0, 1, 2] (L' := [(0, _), (1, _), (2, _)]) rfl ?_
          refine x_pc (pc' := 49) rfl ?_
          exact b_X5_shape_49 C0 n _ _ _ h
      · refine x_sub [0, 1, 2] (L' := [(0, _), (1, _), (2, _)]) rfl ?_
        refine x_pc (pc' := 49) rfl ?_
        exact b_X5_shape_49 C0 n _ _ _ h
set_option maxRecDepth 4000 in
set_option maxHeartbeats 2000000 in
theorem c_X5_flush {l : Launch} {D : va_G} {cs : Nat → ClassId} {ad : Nat → Nat} (n : Nat) {σ : xM}  {res : Int32 × xM} (h : F_X5_flush n σ = some res) : x_Met l yX5_flush [Cond.code yX5_flush cX5_flush 1 (some FieldType.int)] ({ frames := 4, cells := 0, slots := 0, locals := 91 } : Room) D vwCl (xtys cs) 4 ad (wfR cs ad) [.ref (ad 0)] σ (some (.int res.1)) res.2 := by
  refine x_Met_of (L0 := [(0, .ref (ad 0))]) (own := RX5) (by decide) rfl rfl wfR_loc (Nat.le_of_ble_eq_true rfl) rfl ?_
  intro p e s m args below meth c A C0
  refine x_aload_n C0 dX5_flush_0 rfl 0 rfl ?_
  obtain ⟨q1, eq1, h⟩ := x_bind h
  refine x_callV01 C0 (c_X5_linesIn n eq1) (x_cwV C0 mw_704 mw_706 mw_49 mw_84 mw_707 hd_yX5_linesIn ⟨rfl, rfl, Nat.le_of_ble_eq_true rfl, Nat.le_of_ble_eq_true rfl⟩) (by decide) rfl wfR_0 rfl ⟨Nat.zero_le _, Nat.zero_le _⟩ (Nat.le_of_ble_eq_true rfl) dX5_flush_1 ?_
  refine x_if_ne C0 (tgt := 10) dX5_flush_4 rfl h (fun _ h => ?_) (fun _ h => ?_)
  · refine x_ldc C0 mw_675 dX5_flush_7 ?_
    obtain rfl := x_inj h
    exact x_iret C0 dX5_flush_9
  · refine x_aload_n C0 dX5_flush_10 rfl 0 rfl ?_
    obtain ⟨q2, eq2, h⟩ := x_bind h
    refine x_callV00 C0 (c_X5_record n eq2) (x_cwV C0 mw_688 mw_690 mw_47 mw_84 mw_691 hd_yX5_record ⟨rfl, rfl, Nat.le_of_ble_eq_true rfl, Nat.le_of_ble_eq_true rfl⟩) (by decide) rfl wfR_0 rfl ⟨Nat.zero_le _, Nat.zero_le _⟩ (Nat.le_of_ble_eq_true rfl) dX5_flush_11 ?_
    refine x_aload_n C0 dX5_flush_14 rfl 0 rfl ?_
    obtain ⟨q3, eq3, h⟩ := x_bind h
    refine x_callV01 C0 (c_X5_empty n eq3) (x_cwV C0 mw_700 mw_702 mw_48 mw_84 mw_703 hd_yX5_empty ⟨rfl, rfl, Nat.le_of_ble_eq_true rfl, Nat.le_of_ble_eq_true rfl⟩) (by decide) rfl wfR_0 rfl ⟨Nat.zero_le _, Nat.zero_le _⟩ (Nat.le_of_ble_eq_true rfl) dX5_flush_15 ?_
    obtain rfl := x_inj h
    exact x_iret C0 dX5_flush_18
set_option maxRecDepth 4000 in
set_option maxHeartbeats 2000000 in
theorem b_X5_addHelper_64 {p : Program} {l : Launch} {e : Env} {s : State} {m : MethodId} {args : Array Value} {below : List Frame} {meth : Method} {c : Code} {D : va_G} {cs : Nat → ClassId} {ad : Nat → Nat} {A : Nat → Prop} (C0 : x_C p s m args meth c D vwCl (xtys cs) A s.heap 4 ad (wfR cs ad) cX5_addHelper 6 RX5 (some FieldType.int))  (n : Nat) {res : Int32 × xM} : ∀ (f : Nat) (σ : xM) (l1 : Int32) (l2 : Int32) (l3 : Int32) (l4 : Int32) (l5 : Int32), B_X5_addHelper_64 n f σ l1 l2 l3 l4 l5 = some res → x_W p l e ({ frames := 2, cells := 0, slots := 0, locals := 44 } : Room) s m args below meth c D vwCl A s.heap 4 ad (wfR cs ad) 6 0 0 (x_E below args s D vwCl 4 ad (wfR cs ad) A (some (.int res.1)) res.2) σ 64 [(0, .ref (ad 0)), (1, .int l1), (2, .int l2), (3, .int l3), (4, .int l4), (5, .int l5)] [] := by
  intro f
  induction f with
  | zero =>
    intro σ l1 l2 l3 l4 l5 h
    cases h
  | succ f ih =>
    intro σ l1 l2 l3 l4 l5 h
    refine x_iload C0 dX5_addHelper_64 5 rfl ?_
    refine x_bipush C0 (v := 14) dX5_addHelper_66 kb_14 ?_
    refine x_icmp_ge C0 (tgt := 90) dX5_addHelper_68 rfl h (fun _ h => ?_) (fun _ h => ?_)
    · refine x_aload_n C0 dX5_addHelper_71 rfl 0 rfl ?_
      refine x_get C0 inu5 rfl 0 (by decide) mw_643 (by decide) wfR_0 rfl dX5_addHelper_72 ?_
      refine x_iload C0 dX5_addHelper_75 4 rfl ?_
      refine x_iload C0 dX5_addHelper_77 5 rfl ?_
      refine x_pureS2 C0 (fun ad' => c_X5_of rfl) (x_cwS C0 mw_715 mw_716 mw_84 mw_717 hd_yX5_of ⟨rfl, rfl, Nat.le_of_ble_eq_true rfl, Nat.le_of_ble_eq_true rfl⟩) ⟨Nat.zero_le _, Nat.zero_le _⟩ (Nat.le_of_ble_eq_true rfl) dX5_addHelper_79 ?_
      refine x_iconst C0 (v := 0) dX5_addHelper_82 ki_0 ?_
      refine x_iast C0 1 rfl (by decide) wfR_1 wpR_1 (fun r' h' k' => x_up_ne r' h' k') dX5_addHelper_83 h (fun _ h => ?_)
      refine x_pc (pc' := 84) rfl ?_
      refine x_iinc C0 (v := 1) (L' := [(5, _), (0, _), (1, _), (2, _), (3, _), (4, _)]) dX5_addHelper_84 5 rfl ki_1 (by decide) rfl ?_
      refine x_goto C0 (tgt := 64) dX5_addHelper_87 rfl ?_
      refine x_sub [1, 2, 3, 4, 5, 0] (L' := [(0, _), (1, _), (2, _), (3, _), (4, _), (5, _)]) rfl ?_
      refine x_pc (pc' := 64) rfl ?_
      exact ih _ _ _ _ _ _ h
    · refine x_aload_n C0 dX5_addHelper_90 rfl 0 rfl ?_
      refine x_get C0 inu5 rfl 0 (by decide) mw_643 (by decide) wfR_0 rfl dX5_addHelper_91 ?_
      refine x_iload C0 dX5_addHelper_94 4 rfl ?_
      refine x_iconst C0 (v := 0) dX5_addHelper_96 ki_0 ?_
      refine x_pureS2 C0 (fun ad' => c_X5_of rfl) (x_cwS C0 mw_715 mw_716 mw_84 mw_717 hd_yX5_of ⟨rfl, rfl, Nat.le_of_ble_eq_true rfl, Nat.le_of_ble_eq_true rfl⟩) ⟨Nat.zero_le _, Nat.zero_le _⟩ (Nat.le_of_ble_eq_true rfl) dX5_addHelper_97 ?_
      refine x_iload_n C0 dX5_addHelper_100 rfl 1 rfl ?_
      refine x_iast C0 1 rfl (by decide) wfR_1 wpR_1 (fun r' h' k' => x_up_ne r' h' k') dX5_addHelper_101 h (fun _ h => ?_)
      refine x_pc (pc' := 102) rfl ?_
      refine x_aload_n C0 dX5_addHelper_102 rfl 0 rfl ?_
      refine x_get C0 inu5 rfl 0 (by decide) mw_643 (by decide) wfR_0 rfl dX5_addHelper_103 ?_
      refine x_iload C0 dX5_addHelper_106 4 rfl ?_
      refine x_iconst C0 (v := 1) dX5_addHelper_108 ki_1 ?_
      refine x_pureS2 C0 (fun ad' => c_X5_of rfl) (x_cwS C0 mw_715 mw_716 mw_84 mw_717 hd_yX5_of ⟨rfl, rfl, Nat.le_of_ble_eq_true rfl, Nat.le_of_ble_eq_true rfl⟩) ⟨Nat.zero_le _, Nat.zero_le _⟩ (Nat.le_of_ble_eq_true rfl) dX5_addHelper_109 ?_
      refine x_iload_n C0 dX5_addHelper_112 rfl 2 rfl ?_
      refine x_iast C0 1 rfl (by decide) wfR_1 wpR_1 (fun r' h' k' => x_up_ne r' h' k') dX5_addHelper_113 h (fun _ h => ?_)
      refine x_aload_n C0 dX5_addHelper_114 rfl 0 rfl ?_
      refine x_pc (pc' := 115) rfl ?_
      refine x_get C0 inu5 rfl 0 (by decide) mw_643 (by decide) wfR_0 rfl dX5_addHelper_115 ?_
      refine x_iload C0 dX5_addHelper_118 4 rfl ?_
      refine x_iconst C0 (v := 2) dX5_addHelper_120 ki_2 ?_
      refine x_pureS2 C0 (fun ad' => c_X5_of rfl) (x_cwS C0 mw_715 mw_716 mw_84 mw_717 hd_yX5_of ⟨rfl, rfl, Nat.le_of_ble_eq_true rfl, Nat.le_of_ble_eq_true rfl⟩) ⟨Nat.zero_le _, Nat.zero_le _⟩ (Nat.le_of_ble_eq_true rfl) dX5_addHelper_121 ?_
      refine x_iload_n C0 dX5_addHelper_124 rfl 3 rfl ?_
      refine x_iast C0 1 rfl (by decide) wfR_1 wpR_1 (fun r' h' k' => x_up_ne r' h' k') dX5_addHelper_125 h (fun _ h => ?_)
      refine x_aload_n C0 dX5_addHelper_126 rfl 0 rfl ?_
      refine x_get C0 inu5 rfl 0 (by decide) mw_643 (by decide) wfR_0 rfl dX5_addHelper_127 ?_
      refine x_pc (pc' := 130) rfl ?_
      refine x_sipush C0 (v := 351) dX5_addHelper_130 ks_351 ?_
      refine x_dup2 C0 dX5_addHelper_133 rfl rfl ?_
      refine x_iald C0 1 rfl (by decide) wfR_1 dX5_addHelper_134 h (fun _ h => ?_)
      refine x_iconst C0 (v := 1) dX5_addHelper_135 ki_1 ?_
      refine x_iadd C0 dX5_addHelper_136 ?_
      refine x_iast C0 1 rfl (by decide) wfR_1 wpR_1 (fun r' h' k' => x_up_ne r' h' k') dX5_addHelper_137 h (fun _ h => ?_)
      refine x_iload C0 dX5_addHelper_138 4 rfl ?_
      obtain rfl := x_inj h
      exact x_iret C0 dX5_addHelper_140
set_option maxRecDepth 4000 in
set_option maxHeartbeats 2000000 in
theorem c_X5_addHelper {l : Launch} {D : va_G} {cs : Nat → ClassId} {ad : Nat → Nat} (n : Nat) {σ : xM} {x1 : Int32} {x2 : Int32} {x3 : Int32}  {res : Int32 × xM} (h : F_X5_addHelper n σ x1 x2 x3 = some res) : x_Met l yX5_addHelper [Cond.code yX5_addHelper cX5_addHelper 6 (some FieldType.int)] ({ frames := 2, cells := 0, slots := 0, locals := 44 } : Room) D vwCl (xtys cs) 4 ad (wfR cs ad) [.ref (ad 0), .int x1, .int x2, .int x3] σ (some (.int res.1)) res.2 := by
  refine x_Met_of (L0 := [(0, .ref (ad 0)), (1, .int x1), (2, .int x2), (3, .int x3)]) (own := RX5) (by decide) rfl rfl wfR_loc (Nat.le_of_ble_eq_true rfl) rfl ?_
  intro p e s m args below meth c A C0
  refine x_iload_n C0 dX5_addHelper_0 rfl 1 rfl ?_
  refine x_iconst C0 (v := 0) dX5_addHelper_1 ki_0 ?_
  refine x_iconst C0 (v := 2) dX5_addHelper_2 ki_2 ?_
  refine x_pureS3 C0 (fun ad' => c_X5_in rfl) (x_cwS C0 mw_696 mw_697 mw_84 mw_698 hd_yX5_in ⟨rfl, rfl, Nat.le_of_ble_eq_true rfl, Nat.le_of_ble_eq_true rfl⟩) ⟨Nat.zero_le _, Nat.zero_le _⟩ (Nat.le_of_ble_eq_true rfl) dX5_addHelper_3 ?_
  refine x_if_eq C0 (tgt := 28) dX5_addHelper_6 rfl h (fun _ h => ?_) (fun _ h => ?_)
  · refine x_ldc C0 mw_699 dX5_addHelper_28 ?_
    obtain rfl := x_inj h
    exact x_iret C0 dX5_addHelper_30
  · refine x_iload_n C0 dX5_addHelper_9 rfl 2 rfl ?_
    refine x_iconst C0 (v := 1) dX5_addHelper_10 ki_1 ?_
    refine x_iconst C0 (v := 4) dX5_addHelper_11 ki_4 ?_
    refine x_pureS3 C0 (fun ad' => c_X5_in rfl) (x_cwS C0 mw_696 mw_697 mw_84 mw_698 hd_yX5_in ⟨rfl, rfl, Nat.le_of_ble_eq_true rfl, Nat.le_of_ble_eq_true rfl⟩) ⟨Nat.zero_le _, Nat.zero_le _⟩ (Nat.le_of_ble_eq_true rfl) dX5_addHelper_12 ?_
    refine x_if_eq C0 (tgt := 28) dX5_addHelper_15 rfl h (fun _ h => ?_) (fun _ h => ?_)
    · refine x_ldc C0 mw_699 dX5_addHelper_28 ?_
      obtain rfl := x_inj h
      exact x_iret C0 dX5_addHelper_30
    · refine x_iload_n C0 dX5_addHelper_18 rfl 3 rfl ?_
      refine x_iconst C0 (v := 1) dX5_addHelper_19 ki_1 ?_
      refine x_bipush C0 (v := 9) dX5_addHelper_20 kb_9 ?_
      refine x_pureS3 C0 (fun ad' => c_X5_in rfl) (x_cwS C0 mw_696 mw_697 mw_84 mw_698 hd_yX5_in ⟨rfl, rfl, Nat.le_of_ble_eq_true rfl, Nat.le_of_ble_eq_true rfl⟩) ⟨Nat.zero_le _, Nat.zero_le _⟩ (Nat.le_of_ble_eq_true rfl) dX5_addHelper_22 ?_
      refine x_if_ne C0 (tgt := 31) dX5_addHelper_25 rfl h (fun _ h => ?_) (fun _ h => ?_)
      · refine x_ldc C0 mw_699 dX5_addHelper_28 ?_
        obtain rfl := x_inj h
        exact x_iret C0 dX5_addHelper_30
      · refine x_aload_n C0 dX5_addHelper_31 rfl 0 rfl ?_
        refine x_get C0 inu5 rfl 0 (by decide) mw_643 (by decide) wfR_0 rfl dX5_addHelper_32 ?_
        refine x_sipush C0 (v := 351) dX5_addHelper_35 ks_351 ?_
        refine x_iald C0 1 rfl (by decide) wfR_1 dX5_addHelper_38 h (fun _ h => ?_)
        refine x_bipush C0 (v := 6) dX5_addHelper_39 kb_6 ?_
        refine x_icmp_ne C0 (tgt := 47) dX5_addHelper_41 rfl h (fun _ h => ?_) (fun _ h => ?_)
        · refine x_ldc C0 mw_746 dX5_addHelper_44 ?_
          obtain rfl := x_inj h
          exact x_iret C0 dX5_addHelper_46
        · refine x_aload_n C0 dX5_addHelper_47 rfl 0 rfl ?_
          obtain ⟨q1, eq1, h⟩ := x_bind h
          refine x_callV00 C0 (c_X5_record n eq1) (x_cwV C0 mw_688 mw_690 mw_47 mw_84 mw_691 hd_yX5_record ⟨rfl, rfl, Nat.le_of_ble_eq_true rfl, Nat.le_of_ble_eq_true rfl⟩) (by decide) rfl wfR_0 rfl ⟨Nat.zero_le _, Nat.zero_le _⟩ (Nat.le_of_ble_eq_true rfl) dX5_addHelper_48 ?_
          refine x_aload_n C0 dX5_addHelper_51 rfl 0 rfl ?_
          refine x_get C0 inu5 rfl 0 (by decide) mw_643 (by decide) wfR_0 rfl dX5_addHelper_52 ?_
          refine x_sipush C0 (v := 351) dX5_addHelper_55 ks_351 ?_
          refine x_iald C0 1 rfl (by decide) wfR_1 dX5_addHelper_58 h (fun _ h => ?_)
          refine x_istore C0 dX5_addHelper_59 (L' := [(4, _), (0, _), (1, _), (2, _), (3, _)]) (by decide) rfl ?_
          refine x_pc (pc' := 61) rfl ?_
          refine x_iconst C0 (v := 0) dX5_addHelper_61 ki_0 ?_
          refine x_istore C0 dX5_addHelper_62 (L' := [(5, _), (4, _), (0, _), (1, _), (2, _), (3, _)]) (by decide) rfl ?_
          refine x_sub [2, 3, 4, 5, 1, 0] (L' := [(0, _), (1, _), (2, _), (3, _), (4, _), (5, _)]) rfl ?_
          refine x_pc (pc' := 64) rfl ?_
          exact b_X5_addHelper_64 C0 n n _ _ _ _ _ _ h
set_option maxRecDepth 4000 in
set_option maxHeartbeats 2000000 in
theorem c_X5_setDegree {l : Launch} {D : va_G} {cs : Nat → ClassId} {ad : Nat → Nat} (n : Nat) {σ : xM} {x1 : Int32} {x2 : Int32}  {res : Int32 × xM} (h : F_X5_setDegree n σ x1 x2 = some res) : x_Met l yX5_setDegree [Cond.code yX5_setDegree cX5_setDegree 4 (some FieldType.int)] ({ frames := 2, cells := 0, slots := 0, locals := 44 } : Room) D vwCl (xtys cs) 4 ad (wfR cs ad) [.ref (ad 0), .int x1, .int x2] σ (some (.int res.1)) res.2 := by
  refine x_Met_of (L0 := [(0, .ref (ad 0)), (1, .int x1), (2, .int x2)]) (own := RX5) (by decide) rfl rfl wfR_loc (Nat.le_of_ble_eq_true rfl) rfl ?_
  intro p e s m args below meth c A C0
  refine x_aload_n C0 dX5_setDegree_0 rfl 0 rfl ?_
  refine x_iload_n C0 dX5_setDegree_1 rfl 1 rfl ?_
  obtain ⟨q1, eq1, h⟩ := x_bind h
  refine x_callV11 C0 (c_X5_isHelper n eq1) (x_cwV C0 mw_751 mw_753 mw_56 mw_84 mw_754 hd_yX5_isHelper ⟨rfl, rfl, Nat.le_of_ble_eq_true rfl, Nat.le_of_ble_eq_true rfl⟩) (by decide) rfl wfR_0 rfl ⟨Nat.zero_le _, Nat.zero_le _⟩ (Nat.le_of_ble_eq_true rfl) dX5_setDegree_2 ?_
  refine x_if_ne C0 (tgt := 11) dX5_setDegree_5 rfl h (fun _ h => ?_) (fun _ h => ?_)
  · refine x_ldc C0 mw_755 dX5_setDegree_8 ?_
    obtain rfl := x_inj h
    exact x_iret C0 dX5_setDegree_10
  · refine x_iload_n C0 dX5_setDegree_11 rfl 2 rfl ?_
    refine x_iconst C0 (v := 1) dX5_setDegree_12 ki_1 ?_
    refine x_iconst C0 (v := 4) dX5_setDegree_13 ki_4 ?_
    refine x_pureS3 C0 (fun ad' => c_X5_in rfl) (x_cwS C0 mw_696 mw_697 mw_84 mw_698 hd_yX5_in ⟨rfl, rfl, Nat.le_of_ble_eq_true rfl, Nat.le_of_ble_eq_true rfl⟩) ⟨Nat.zero_le _, Nat.zero_le _⟩ (Nat.le_of_ble_eq_true rfl) dX5_setDegree_14 ?_
    refine x_if_ne C0 (tgt := 23) dX5_setDegree_17 rfl h (fun _ h => ?_) (fun _ h => ?_)
    · refine x_ldc C0 mw_699 dX5_setDegree_20 ?_
      obtain rfl := x_inj h
      exact x_iret C0 dX5_setDegree_22
    · refine x_aload_n C0 dX5_setDegree_23 rfl 0 rfl ?_
      refine x_get C0 inu5 rfl 0 (by decide) mw_643 (by decide) wfR_0 rfl dX5_setDegree_24 ?_
      refine x_iload_n C0 dX5_setDegree_27 rfl 1 rfl ?_
      refine x_iconst C0 (v := 1) dX5_setDegree_28 ki_1 ?_
      refine x_pureS2 C0 (fun ad' => c_X5_of rfl) (x_cwS C0 mw_715 mw_716 mw_84 mw_717 hd_yX5_of ⟨rfl, rfl, Nat.le_of_ble_eq_true rfl, Nat.le_of_ble_eq_true rfl⟩) ⟨Nat.zero_le _, Nat.zero_le _⟩ (Nat.le_of_ble_eq_true rfl) dX5_setDegree_29 ?_
      refine x_iald C0 1 rfl (by decide) wfR_1 dX5_setDegree_32 h (fun _ h => ?_)
      refine x_istore_n C0 dX5_setDegree_33 rfl (L' := [(3, _), (0, _), (1, _), (2, _)]) (by decide) rfl ?_
      refine x_pc (pc' := 34) rfl ?_
      refine x_iload_n C0 dX5_setDegree_34 rfl 0 rfl ?_
      refine x_iload_n C0 dX5_setDegree_35 rfl 3 rfl ?_
      refine x_icmp_ne C0 (tgt := 42) dX5_setDegree_36 rfl h (fun _ h => ?_) (fun _ h => ?_)
      · refine x_ldc C0 mw_675 dX5_setDegree_39 ?_
        obtain rfl := x_inj h
        exact x_iret C0 dX5_setDegree_41
      · refine x_aload_n C0 dX5_setDegree_42 rfl 1 rfl ?_
        obtain ⟨q2, eq2, h⟩ := x_bind h
        refine x_callV00 C0 (c_X5_record n eq2) (x_cwV C0 mw_688 mw_690 mw_47 mw_84 mw_691 hd_yX5_record ⟨rfl, rfl, Nat.le_of_ble_eq_true rfl, Nat.le_of_ble_eq_true rfl⟩) (by decide) rfl wfR_0 rfl ⟨Nat.zero_le _, Nat.zero_le _⟩ (Nat.le_of_ble_eq_true rfl) dX5_setDegree_43 ?_
        refine x_aload_n C0 dX5_setDegree_46 rfl 1 rfl ?_
        refine x_get C0 inu5 rfl 0 (by decide) mw_643 (by decide) wfR_0 rfl dX5_setDegree_47 ?_
        refine x_iload_n C0 dX5_setDegree_50 rfl 2 rfl ?_
        refine x_iconst C0 (v := 1) dX5_setDegree_51 ki_1 ?_
        refine x_pureS2 C0 (fun ad' => c_X5_of rfl) (x_cwS C0 mw_715 mw_716 mw_84 mw_717 hd_yX5_of ⟨rfl, rfl, Nat.le_of_ble_eq_true rfl, Nat.le_of_ble_eq_true rfl⟩) ⟨Nat.zero_le _, Nat.zero_le _⟩ (Nat.le_of_ble_eq_true rfl) dX5_setDegree_52 ?_
        refine x_pc (pc' := 55) rfl ?_
        refine x_iload_n C0 dX5_setDegree_55 rfl 3 rfl ?_
        refine x_iast C0 1 rfl (by decide) wfR_1 wpR_1 (fun r' h' k' => x_up_ne r' h' k') dX5_setDegree_56 h (fun _ h => ?_)
        refine x_iload_n C0 dX5_setDegree_57 rfl 0 rfl ?_
        obtain rfl := x_inj h
        exact x_iret C0 dX5_setDegree_58
set_option maxRecDepth 4000 in
set_option maxHeartbeats 2000000 in
theorem c_X5_setTrial {l : Launch} {D : va_G} {cs : Nat → ClassId} {ad : Nat → Nat} (n : Nat) {σ : xM} {x1 : Int32}  {res : Int32 × xM} (h : F_X5_setTrial n σ x1 = some res) : x_Met l yX5_setTrial [Cond.code yX5_setTrial cX5_setTrial 3 (some FieldType.int)] ({ frames := 2, cells := 0, slots := 0, locals := 44 } : Room) D vwCl (xtys cs) 4 ad (wfR cs ad) [.ref (ad 0), .int x1] σ (some (.int res.1)) res.2 := by
  refine x_Met_of (L0 := [(0, .ref (ad 0)), (1, .int x1)]) (own := RX5) (by decide) rfl rfl wfR_loc (Nat.le_of_ble_eq_true rfl) rfl ?_
  intro p e s m args below meth c A C0
  refine x_iload_n C0 dX5_setTrial_0 rfl 1 rfl ?_
  refine x_iconst C0 (v := 1) dX5_setTrial_1 ki_1 ?_
  refine x_bipush C0 (v := 9) dX5_setTrial_2 kb_9 ?_
  refine x_pureS3 C0 (fun ad' => c_X5_in rfl) (x_cwS C0 mw_696 mw_697 mw_84 mw_698 hd_yX5_in ⟨rfl, rfl, Nat.le_of_ble_eq_true rfl, Nat.le_of_ble_eq_true rfl⟩) ⟨Nat.zero_le _, Nat.zero_le _⟩ (Nat.le_of_ble_eq_true rfl) dX5_setTrial_4 ?_
  refine x_if_ne C0 (tgt := 13) dX5_setTrial_7 rfl h (fun _ h => ?_) (fun _ h => ?_)
  · refine x_ldc C0 mw_699 dX5_setTrial_10 ?_
    obtain rfl := x_inj h
    exact x_iret C0 dX5_setTrial_12
  · refine x_aload_n C0 dX5_setTrial_13 rfl 0 rfl ?_
    refine x_get C0 inu5 rfl 0 (by decide) mw_643 (by decide) wfR_0 rfl dX5_setTrial_14 ?_
    refine x_sipush C0 (v := 352) dX5_setTrial_17 ks_352 ?_
    refine x_iald C0 1 rfl (by decide) wfR_1 dX5_setTrial_20 h (fun _ h => ?_)
    refine x_istore_n C0 dX5_setTrial_21 rfl (L' := [(2, _), (0, _), (1, _)]) (by decide) rfl ?_
    refine x_iload_n C0 dX5_setTrial_22 rfl 0 rfl ?_
    refine x_iload_n C0 dX5_setTrial_23 rfl 2 rfl ?_
    refine x_pc (pc' := 24) rfl ?_
    refine x_icmp_ne C0 (tgt := 30) dX5_setTrial_24 rfl h (fun _ h => ?_) (fun _ h => ?_)
    · refine x_ldc C0 mw_675 dX5_setTrial_27 ?_
      obtain rfl := x_inj h
      exact x_iret C0 dX5_setTrial_29
    · refine x_aload_n C0 dX5_setTrial_30 rfl 1 rfl ?_
      obtain ⟨q1, eq1, h⟩ := x_bind h
      refine x_callV00 C0 (c_X5_record n eq1) (x_cwV C0 mw_688 mw_690 mw_47 mw_84 mw_691 hd_yX5_record ⟨rfl, rfl, Nat.le_of_ble_eq_true rfl, Nat.le_of_ble_eq_true rfl⟩) (by decide) rfl wfR_0 rfl ⟨Nat.zero_le _, Nat.zero_le _⟩ (Nat.le_of_ble_eq_true rfl) dX5_setTrial_31 ?_
      refine x_aload_n C0 dX5_setTrial_34 rfl 1 rfl ?_
      refine x_get C0 inu5 rfl 0 (by decide) mw_643 (by decide) wfR_0 rfl dX5_setTrial_35 ?_
      refine x_sipush C0 (v := 352) dX5_setTrial_38 ks_352 ?_
      refine x_iload_n C0 dX5_setTrial_41 rfl 2 rfl ?_
      refine x_iast C0 1 rfl (by decide) wfR_1 wpR_1 (fun r' h' k' => x_up_ne r' h' k') dX5_setTrial_42 h (fun _ h => ?_)
      refine x_pc (pc' := 43) rfl ?_
      refine x_iload_n C0 dX5_setTrial_43 rfl 0 rfl ?_
      obtain rfl := x_inj h
      exact x_iret C0 dX5_setTrial_44
set_option maxRecDepth 4000 in
set_option maxHeartbeats 2000000 in
theorem c_X5_pardon {l : Launch} {D : va_G} {cs : Nat → ClassId} {ad : Nat → Nat} (n : Nat) {σ : xM} {x1 : Int32}  {res : Int32 × xM} (h : F_X5_pardon n σ x1 = some res) : x_Met l yX5_pardon [Cond.code yX5_pardon cX5_pardon 3 (some FieldType.int)] ({ frames := 2, cells := 0, slots := 0, locals := 44 } : Room) D vwCl (xtys cs) 4 ad (wfR cs ad) [.ref (ad 0), .int x1] σ (some (.int res.1)) res.2 := by
  refine x_Met_of (L0 := [(0, .ref (ad 0)), (1, .int x1)]) (own := RX5) (by decide) rfl rfl wfR_loc (Nat.le_of_ble_eq_true rfl) rfl ?_
  intro p e s m args below meth c A C0
  refine x_aload_n C0 dX5_pardon_0 rfl 0 rfl ?_
  refine x_iload_n C0 dX5_pardon_1 rfl 1 rfl ?_
  obtain ⟨q1, eq1, h⟩ := x_bind h
  refine x_callV11 C0 (c_X5_isHelper n eq1) (x_cwV C0 mw_751 mw_753 mw_56 mw_84 mw_754 hd_yX5_isHelper ⟨rfl, rfl, Nat.le_of_ble_eq_true rfl, Nat.le_of_ble_eq_true rfl⟩) (by decide) rfl wfR_0 rfl ⟨Nat.zero_le _, Nat.zero_le _⟩ (Nat.le_of_ble_eq_true rfl) dX5_pardon_2 ?_
  refine x_if_ne C0 (tgt := 11) dX5_pardon_5 rfl h (fun _ h => ?_) (fun _ h => ?_)
  · refine x_ldc C0 mw_755 dX5_pardon_8 ?_
    obtain rfl := x_inj h
    exact x_iret C0 dX5_pardon_10
  · refine x_aload_n C0 dX5_pardon_11 rfl 0 rfl ?_
    refine x_get C0 inu5 rfl 0 (by decide) mw_643 (by decide) wfR_0 rfl dX5_pardon_12 ?_
    refine x_iload_n C0 dX5_pardon_15 rfl 1 rfl ?_
    refine x_iconst C0 (v := 3) dX5_pardon_16 ki_3 ?_
    refine x_pureS2 C0 (fun ad' => c_X5_of rfl) (x_cwS C0 mw_715 mw_716 mw_84 mw_717 hd_yX5_of ⟨rfl, rfl, Nat.le_of_ble_eq_true rfl, Nat.le_of_ble_eq_true rfl⟩) ⟨Nat.zero_le _, Nat.zero_le _⟩ (Nat.le_of_ble_eq_true rfl) dX5_pardon_17 ?_
    refine x_iald C0 1 rfl (by decide) wfR_1 dX5_pardon_20 h (fun _ h => ?_)
    refine x_if_ne C0 (tgt := 27) dX5_pardon_21 rfl h (fun _ h => ?_) (fun _ h => ?_)
    · refine x_ldc C0 mw_675 dX5_pardon_24 ?_
      obtain rfl := x_inj h
      exact x_iret C0 dX5_pardon_26
    · refine x_aload_n C0 dX5_pardon_27 rfl 0 rfl ?_
      obtain ⟨q2, eq2, h⟩ := x_bind h
      refine x_callV00 C0 (c_X5_record n eq2) (x_cwV C0 mw_688 mw_690 mw_47 mw_84 mw_691 hd_yX5_record ⟨rfl, rfl, Nat.le_of_ble_eq_true rfl, Nat.le_of_ble_eq_true rfl⟩) (by decide) rfl wfR_0 rfl ⟨Nat.zero_le _, Nat.zero_le _⟩ (Nat.le_of_ble_eq_true rfl) dX5_pardon_28 ?_
      refine x_aload_n C0 dX5_pardon_31 rfl 0 rfl ?_
      refine x_get C0 inu5 rfl 0 (by decide) mw_643 (by decide) wfR_0 rfl dX5_pardon_32 ?_
      refine x_iload_n C0 dX5_pardon_35 rfl 1 rfl ?_
      refine x_iconst C0 (v := 4) dX5_pardon_36 ki_4 ?_
      refine x_pureS2 C0 (fun ad' => c_X5_of rfl) (x_cwS C0 mw_715 mw_716 mw_84 mw_717 hd_yX5_of ⟨rfl, rfl, Nat.le_of_ble_eq_true rfl, Nat.le_of_ble_eq_true rfl⟩) ⟨Nat.zero_le _, Nat.zero_le _⟩ (Nat.le_of_ble_eq_true rfl) dX5_pardon_37 ?_
      refine x_pc (pc' := 40) rfl ?_
      refine x_iald C0 1 rfl (by decide) wfR_1 dX5_pardon_40 h (fun _ h => ?_)
      refine x_istore_n C0 dX5_pardon_41 rfl (L' := [(2, _), (0, _), (1, _)]) (by decide) rfl ?_
      refine x_aload_n C0 dX5_pardon_42 rfl 1 rfl ?_
      refine x_get C0 inu5 rfl 0 (by decide) mw_643 (by decide) wfR_0 rfl dX5_pardon_43 ?_
      refine x_iload_n C0 dX5_pardon_46 rfl 2 rfl ?_
      refine x_bipush C0 (v := 11) dX5_pardon_47 kb_11 ?_
      refine x_pureS2 C0 (fun ad' => c_X5_of rfl) (x_cwS C0 mw_715 mw_716 mw_84 mw_717 hd_yX5_of ⟨rfl, rfl, Nat.le_of_ble_eq_true rfl, Nat.le_of_ble_eq_true rfl⟩) ⟨Nat.zero_le _, Nat.zero_le _⟩ (Nat.le_of_ble_eq_true rfl) dX5_pardon_49 ?_
      refine x_dup2 C0 dX5_pardon_52 rfl rfl ?_
      refine x_pc (pc' := 53) rfl ?_
      refine x_iald C0 1 rfl (by decide) wfR_1 dX5_pardon_53 h (fun _ h => ?_)
      refine x_iload_n C0 dX5_pardon_54 rfl 0 rfl ?_
      refine x_iadd C0 dX5_pardon_55 ?_
      refine x_iast C0 1 rfl (by decide) wfR_1 wpR_1 (fun r' h' k' => x_up_ne r' h' k') dX5_pardon_56 h (fun _ h => ?_)
      refine x_aload_n C0 dX5_pardon_57 rfl 1 rfl ?_
      refine x_get C0 inu5 rfl 0 (by decide) mw_643 (by decide) wfR_0 rfl dX5_pardon_58 ?_
      refine x_iload_n C0 dX5_pardon_61 rfl 2 rfl ?_
      refine x_iconst C0 (v := 4) dX5_pardon_62 ki_4 ?_
      refine x_pc (pc' := 63) rfl ?_
      refine x_pureS2 C0 (fun ad' => c_X5_of rfl) (x_cwS C0 mw_715 mw_716 mw_84 mw_717 hd_yX5_of ⟨rfl, rfl, Nat.le_of_ble_eq_true rfl, Nat.le_of_ble_eq_true rfl⟩) ⟨Nat.zero_le _, Nat.zero_le _⟩ (Nat.le_of_ble_eq_true rfl) dX5_pardon_63 ?_
      refine x_iconst C0 (v := 0) dX5_pardon_66 ki_0 ?_
      refine x_iast C0 1 rfl (by decide) wfR_1 wpR_1 (fun r' h' k' => x_up_ne r' h' k') dX5_pardon_67 h (fun _ h => ?_)
      refine x_aload_n C0 dX5_pardon_68 rfl 1 rfl ?_
      refine x_get C0 inu5 rfl 0 (by decide) mw_643 (by decide) wfR_0 rfl dX5_pardon_69 ?_
      refine x_iload_n C0 dX5_pardon_72 rfl 2 rfl ?_
      refine x_iconst C0 (v := 5) dX5_pardon_73 ki_5 ?_
      refine x_pureS2 C0 (fun ad' => c_X5_of rfl) (x_cwS C0 mw_715 mw_716 mw_84 mw_717 hd_yX5_of ⟨rfl, rfl, Nat.le_of_ble_eq_true rfl, Nat.le_of_ble_eq_true rfl⟩) ⟨Nat.zero_le _, Nat.zero_le _⟩ (Nat.le_of_ble_eq_true rfl) dX5_pardon_74 ?_
      refine x_pc (pc' := 77) rfl ?_
      refine x_iconst C0 (v := 0) dX5_pardon_77 ki_0 ?_
      refine x_iast C0 1 rfl (by decide) wfR_1 wpR_1 (fun r' h' k' => x_up_ne r' h' k') dX5_pardon_78 h (fun _ h => ?_)
      refine x_aload_n C0 dX5_pardon_79 rfl 1 rfl ?_
      refine x_get C0 inu5 rfl 0 (by decide) mw_643 (by decide) wfR_0 rfl dX5_pardon_80 ?_
      refine x_iload_n C0 dX5_pardon_83 rfl 2 rfl ?_
      refine x_iconst C0 (v := 3) dX5_pardon_84 ki_3 ?_
      refine x_pureS2 C0 (fun ad' => c_X5_of rfl) (x_cwS C0 mw_715 mw_716 mw_84 mw_717 hd_yX5_of ⟨rfl, rfl, Nat.le_of_ble_eq_true rfl, Nat.le_of_ble_eq_true rfl⟩) ⟨Nat.zero_le _, Nat.zero_le _⟩ (Nat.le_of_ble_eq_true rfl) dX5_pardon_85 ?_
      refine x_iconst C0 (v := 0) dX5_pardon_88 ki_0 ?_
      refine x_pc (pc' := 89) rfl ?_
      refine x_iast C0 1 rfl (by decide) wfR_1 wpR_1 (fun r' h' k' => x_up_ne r' h' k') dX5_pardon_89 h (fun _ h => ?_)
      refine x_iload_n C0 dX5_pardon_90 rfl 0 rfl ?_
      obtain rfl := x_inj h
      exact x_iret C0 dX5_pardon_91
set_option maxRecDepth 4000 in
set_option maxHeartbeats 2000000 in
theorem c_X5_forget {l : Launch} {D : va_G} {cs : Nat → ClassId} {ad : Nat → Nat} (n : Nat) {σ : xM} {x1 : Int32}  {res : Int32 × xM} (h : F_X5_forget n σ x1 = some res) : x_Met l yX5_forget [Cond.code yX5_forget cX5_forget 3 (some FieldType.int)] ({ frames := 2, cells := 0, slots := 0, locals := 44 } : Room) D vwCl (xtys cs) 4 ad (wfR cs ad) [.ref (ad 0), .int x1] σ (some (.int res.1)) res.2 := by
  refine x_Met_of (L0 := [(0, .ref (ad 0)), (1, .int x1)]) (own := RX5) (by decide) rfl rfl wfR_loc (Nat.le_of_ble_eq_true rfl) rfl ?_
  intro p e s m args below meth c A C0
  refine x_aload_n C0 dX5_forget_0 rfl 0 rfl ?_
  refine x_iload_n C0 dX5_forget_1 rfl 1 rfl ?_
  obtain ⟨q1, eq1, h⟩ := x_bind h
  refine x_callV11 C0 (c_X5_isHelper n eq1) (x_cwV C0 mw_751 mw_753 mw_56 mw_84 mw_754 hd_yX5_isHelper ⟨rfl, rfl, Nat.le_of_ble_eq_true rfl, Nat.le_of_ble_eq_true rfl⟩) (by decide) rfl wfR_0 rfl ⟨Nat.zero_le _, Nat.zero_le _⟩ (Nat.le_of_ble_eq_true rfl) dX5_forget_2 ?_
  refine x_if_ne C0 (tgt := 11) dX5_forget_5 rfl h (fun _ h => ?_) (fun _ h => ?_)
  · refine x_ldc C0 mw_755 dX5_forget_8 ?_
    obtain rfl := x_inj h
    exact x_iret C0 dX5_forget_10
  · refine x_aload_n C0 dX5_forget_11 rfl 0 rfl ?_
    refine x_get C0 inu5 rfl 0 (by decide) mw_643 (by decide) wfR_0 rfl dX5_forget_12 ?_
    refine x_iload_n C0 dX5_forget_15 rfl 1 rfl ?_
    refine x_iconst C0 (v := 0) dX5_forget_16 ki_0 ?_
    refine x_pureS2 C0 (fun ad' => c_X5_of rfl) (x_cwS C0 mw_715 mw_716 mw_84 mw_717 hd_yX5_of ⟨rfl, rfl, Nat.le_of_ble_eq_true rfl, Nat.le_of_ble_eq_true rfl⟩) ⟨Nat.zero_le _, Nat.zero_le _⟩ (Nat.le_of_ble_eq_true rfl) dX5_forget_17 ?_
    refine x_iald C0 1 rfl (by decide) wfR_1 dX5_forget_20 h (fun _ h => ?_)
    refine x_iconst C0 (v := 2) dX5_forget_21 ki_2 ?_
    refine x_pc (pc' := 22) rfl ?_
    refine x_icmp_ne C0 (tgt := 28) dX5_forget_22 rfl h (fun _ h => ?_) (fun _ h => ?_)
    · refine x_ldc C0 mw_768 dX5_forget_25 ?_
      obtain rfl := x_inj h
      exact x_iret C0 dX5_forget_27
    · refine x_aload_n C0 dX5_forget_28 rfl 0 rfl ?_
      refine x_get C0 inu5 rfl 0 (by decide) mw_643 (by decide) wfR_0 rfl dX5_forget_29 ?_
      refine x_iload_n C0 dX5_forget_32 rfl 1 rfl ?_
      refine x_bipush C0 (v := 13) dX5_forget_33 kb_13 ?_
      refine x_pureS2 C0 (fun ad' => c_X5_of rfl) (x_cwS C0 mw_715 mw_716 mw_84 mw_717 hd_yX5_of ⟨rfl, rfl, Nat.le_of_ble_eq_true rfl, Nat.le_of_ble_eq_true rfl⟩) ⟨Nat.zero_le _, Nat.zero_le _⟩ (Nat.le_of_ble_eq_true rfl) dX5_forget_35 ?_
      refine x_iald C0 1 rfl (by decide) wfR_1 dX5_forget_38 h (fun _ h => ?_)
      refine x_istore_n C0 dX5_forget_39 rfl (L' := [(2, _), (0, _), (1, _)]) (by decide) rfl ?_
      refine x_pc (pc' := 40) rfl ?_
      refine x_iload_n C0 dX5_forget_40 rfl 0 rfl ?_
      refine x_if_ne C0 (tgt := 47) dX5_forget_41 rfl h (fun _ h => ?_) (fun _ h => ?_)
      · refine x_ldc C0 mw_675 dX5_forget_44 ?_
        obtain rfl := x_inj h
        exact x_iret C0 dX5_forget_46
      · refine x_aload_n C0 dX5_forget_47 rfl 1 rfl ?_
        obtain ⟨q2, eq2, h⟩ := x_bind h
        refine x_callV00 C0 (c_X5_record n eq2) (x_cwV C0 mw_688 mw_690 mw_47 mw_84 mw_691 hd_yX5_record ⟨rfl, rfl, Nat.le_of_ble_eq_true rfl, Nat.le_of_ble_eq_true rfl⟩) (by decide) rfl wfR_0 rfl ⟨Nat.zero_le _, Nat.zero_le _⟩ (Nat.le_of_ble_eq_true rfl) dX5_forget_48 ?_
        refine x_aload_n C0 dX5_forget_51 rfl 1 rfl ?_
        refine x_get C0 inu5 rfl 0 (by decide) mw_643 (by decide) wfR_0 rfl dX5_forget_52 ?_
        refine x_iload_n C0 dX5_forget_55 rfl 2 rfl ?_
        refine x_bipush C0 (v := 13) dX5_forget_56 kb_13 ?_
        refine x_pureS2 C0 (fun ad' => c_X5_of rfl) (x_cwS C0 mw_715 mw_716 mw_84 mw_717 hd_yX5_of ⟨rfl, rfl, Nat.le_of_ble_eq_true rfl, Nat.le_of_ble_eq_true rfl⟩) ⟨Nat.zero_le _, Nat.zero_le _⟩ (Nat.le_of_ble_eq_true rfl) dX5_forget_58 ?_
        refine x_pc (pc' := 61) rfl ?_
        refine x_iconst C0 (v := 0) dX5_forget_61 ki_0 ?_
        refine x_iast C0 1 rfl (by decide) wfR_1 wpR_1 (fun r' h' k' => x_up_ne r' h' k') dX5_forget_62 h (fun _ h => ?_)
        refine x_iload_n C0 dX5_forget_63 rfl 0 rfl ?_
        obtain rfl := x_inj h
        exact x_iret C0 dX5_forget_64
set_option maxRecDepth 4000 in
set_option maxHeartbeats 2000000 in
theorem c_X5_reachOf {l : Launch} {D : va_G} {cs : Nat → ClassId} {ad : Nat → Nat} (n : Nat) {σ : xM} {x1 : Int32}  {res : Int32} (h : F_X5_reachOf n σ x1 = some res) : x_Met l yX5_reachOf [Cond.code yX5_reachOf cX5_reachOf 3 (some FieldType.int)] ({ frames := 1, cells := 0, slots := 0, locals := 21 } : Room) D vwCl (xtys cs) 4 ad (wfR cs ad) [.ref (ad 0), .int x1] σ (some (.int res)) σ := by
  refine x_Met_of (L0 := [(0, .ref (ad 0)), (1, .int x1)]) (own := RX5) (by decide) rfl rfl wfR_loc (Nat.le_of_ble_eq_true rfl) rfl ?_
  intro p e s m args below meth c A C0
  refine x_aload_n C0 dX5_reachOf_0 rfl 0 rfl ?_
  refine x_get C0 inu5 rfl 0 (by decide) mw_643 (by decide) wfR_0 rfl dX5_reachOf_1 ?_
  refine x_iload_n C0 dX5_reachOf_4 rfl 1 rfl ?_
  refine x_iconst C0 (v := 3) dX5_reachOf_5 ki_3 ?_
  refine x_pureS2 C0 (fun ad' => c_X5_of rfl) (x_cwS C0 mw_715 mw_716 mw_84 mw_717 hd_yX5_of ⟨rfl, rfl, Nat.le_of_ble_eq_true rfl, Nat.le_of_ble_eq_true rfl⟩) ⟨Nat.zero_le _, Nat.zero_le _⟩ (Nat.le_of_ble_eq_true rfl) dX5_reachOf_6 ?_
  refine x_iald C0 1 rfl (by decide) wfR_1 dX5_reachOf_9 h (fun _ h => ?_)
  refine x_istore_n C0 dX5_reachOf_10 rfl (L' := [(2, _), (0, _), (1, _)]) (by decide) rfl ?_
  refine x_pc (pc' := 11) rfl ?_
  refine x_iload_n C0 dX5_reachOf_11 rfl 0 rfl ?_
  refine x_if_ne C0 (tgt := 28) dX5_reachOf_12 rfl h (fun _ h => ?_) (fun _ h => ?_)
  · refine x_aload_n C0 dX5_reachOf_15 rfl 1 rfl ?_
    refine x_get C0 inu5 rfl 0 (by decide) mw_643 (by decide) wfR_0 rfl dX5_reachOf_16 ?_
    refine x_iload_n C0 dX5_reachOf_19 rfl 2 rfl ?_
    refine x_iconst C0 (v := 1) dX5_reachOf_20 ki_1 ?_
    refine x_pureS2 C0 (fun ad' => c_X5_of rfl) (x_cwS C0 mw_715 mw_716 mw_84 mw_717 hd_yX5_of ⟨rfl, rfl, Nat.le_of_ble_eq_true rfl, Nat.le_of_ble_eq_true rfl⟩) ⟨Nat.zero_le _, Nat.zero_le _⟩ (Nat.le_of_ble_eq_true rfl) dX5_reachOf_21 ?_
    refine x_iald C0 1 rfl (by decide) wfR_1 dX5_reachOf_24 h (fun _ h => ?_)
    refine x_goto C0 (tgt := 38) dX5_reachOf_25 rfl ?_
    refine x_pc (pc' := 38) rfl ?_
    obtain rfl := x_inj h
    exact x_iret C0 dX5_reachOf_38
  · refine x_iload_n C0 dX5_reachOf_28 rfl 0 rfl ?_
    refine x_iconst C0 (v := 1) dX5_reachOf_29 ki_1 ?_
    refine x_icmp_ne C0 (tgt := 37) dX5_reachOf_30 rfl h (fun _ h => ?_) (fun _ h => ?_)
    · refine x_iconst C0 (v := 1) dX5_reachOf_33 ki_1 ?_
      refine x_goto C0 (tgt := 38) dX5_reachOf_34 rfl ?_
      obtain rfl := x_inj h
      exact x_iret C0 dX5_reachOf_38
    · refine x_iconst C0 (v := 0) dX5_reachOf_37 ki_0 ?_
      obtain rfl := x_inj h
      exact x_iret C0 dX5_reachOf_38
set_option maxRecDepth 4000 in
set_option maxHeartbeats 2000000 in
theorem c_X5_rowOf {l : Launch} {D : va_G} {cs : Nat → ClassId} {ad : Nat → Nat} {x0 : Int32} {x1 : Int32}  {res : Int32} (h : F_X5_rowOf x0 x1 = res) : x_Met l yX5_rowOf [Cond.code yX5_rowOf cX5_rowOf 2 (some FieldType.int)] ({ frames := 0, cells := 0, slots := 0, locals := 0 } : Room) D vwCl (xtys cs) 0 ad wf0 [.int x0, .int x1] m0 (some (.int res)) m0 := by
  refine x_Met_of (L0 := [(0, .int x0), (1, .int x1)]) (own := RX5) (by decide) rfl rfl wf0_loc (Nat.le_of_ble_eq_true rfl) rfl ?_
  intro p e s m args below meth c A C0
  refine x_sipush C0 (v := 204) dX5_rowOf_0 ks_204 ?_
  refine x_bipush C0 (v := 16) dX5_rowOf_3 kb_16 ?_
  refine x_iload_n C0 dX5_rowOf_5 rfl 0 rfl ?_
  refine x_imul C0 dX5_rowOf_6 ?_
  refine x_iadd C0 dX5_rowOf_7 ?_
  refine x_iconst C0 (v := 4) dX5_rowOf_8 ki_4 ?_
  refine x_iload_n C0 dX5_rowOf_9 rfl 1 rfl ?_
  refine x_pc (pc' := 10) rfl ?_
  refine x_imul C0 dX5_rowOf_10 ?_
  refine x_iadd C0 dX5_rowOf_11 ?_
  subst h
  exact x_iret C0 dX5_rowOf_12
set_option maxRecDepth 4000 in
set_option maxHeartbeats 2000000 in
theorem b_X5_dropRow_21 {p : Program} {l : Launch} {e : Env} {s : State} {m : MethodId} {args : Array Value} {below : List Frame} {meth : Method} {c : Code} {D : va_G} {cs : Nat → ClassId} {ad : Nat → Nat} {A : Nat → Prop} (C0 : x_C p s m args meth c D vwCl (xtys cs) A s.heap 4 ad (wfR cs ad) cX5_dropRow 4 RX5 none)  (n : Nat) {res : xM} : ∀ (f : Nat) (σ : xM) (l1 : Int32) (l3 : Int32), B_X5_dropRow_21 n f σ l1 l3 = some res → x_W p l e ({ frames := 1, cells := 0, slots := 0, locals := 21 } : Room) s m args below meth c D vwCl A s.heap 4 ad (wfR cs ad) 4 0 0 (x_E below args s D vwCl 4 ad (wfR cs ad) A none res) σ 21 [(0, .ref (ad 0)), (1, .int l1), (3, .int l3)] [] := by
  intro f
  induction f with
  | zero =>
    intro σ l1 l3 h
    cases h
  | succ f ih =>
    intro σ l1 l3 h
    refine x_iload_n C0 dX5_dropRow_21 rfl 2 rfl ?_
    refine x_iload_n C0 dX5_dropRow_22 rfl 1 rfl ?_
    refine x_aload_n C0 dX5_dropRow_23 rfl 0 rfl ?_
    refine x_get C0 inu5 rfl 0 (by decide) mw_643 (by decide) wfR_0 rfl dX5_dropRow_24 ?_
    refine x_iload_n C0 dX5_dropRow_27 rfl 1 rfl ?_
    refine x_bipush C0 (v := 13) dX5_dropRow_28 kb_13 ?_
    refine x_pureS2 C0 (fun ad' => c_X5_of rfl) (x_cwS C0 mw_715 mw_716 mw_84 mw_717 hd_yX5_of ⟨rfl, rfl, Nat.le_of_ble_eq_true rfl, Nat.le_of_ble_eq_true rfl⟩) ⟨Nat.zero_le _, Nat.zero_le _⟩ (Nat.le_of_ble_eq_true rfl) dX5_dropRow_30 ?_
    refine x_pc (pc' := 33) rfl ?_
    refine x_iald C0 1 rfl (by decide) wfR_1 dX5_dropRow_33 h (fun _ h => ?_)
    refine x_pureS2 C0 (fun ad' => c_X5_rowOf rfl) (x_cwS C0 mw_815 mw_816 mw_84 mw_817 hd_yX5_rowOf ⟨rfl, rfl, Nat.le_of_ble_eq_true rfl, Nat.le_of_ble_eq_true rfl⟩) ⟨Nat.zero_le _, Nat.zero_le _⟩ (Nat.le_of_ble_eq_true rfl) dX5_dropRow_34 ?_
    refine x_icmp_ge C0 (tgt := 60) dX5_dropRow_37 rfl h (fun _ h => ?_) (fun _ h => ?_)
    · refine x_aload_n C0 dX5_dropRow_40 rfl 0 rfl ?_
      refine x_get C0 inu5 rfl 0 (by decide) mw_643 (by decide) wfR_0 rfl dX5_dropRow_41 ?_
      refine x_iload_n C0 dX5_dropRow_44 rfl 2 rfl ?_
      refine x_aload_n C0 dX5_dropRow_45 rfl 0 rfl ?_
      refine x_get C0 inu5 rfl 0 (by decide) mw_643 (by decide) wfR_0 rfl dX5_dropRow_46 ?_
      refine x_iload_n C0 dX5_dropRow_49 rfl 2 rfl ?_
      refine x_iconst C0 (v := 4) dX5_dropRow_50 ki_4 ?_
      refine x_pc (pc' := 51) rfl ?_
      refine x_iadd C0 dX5_dropRow_51 ?_
      refine x_iald C0 1 rfl (by decide) wfR_1 dX5_dropRow_52 h (fun _ h => ?_)
      refine x_iast C0 1 rfl (by decide) wfR_1 wpR_1 (fun r' h' k' => x_up_ne r' h' k') dX5_dropRow_53 h (fun _ h => ?_)
      refine x_iinc C0 (v := 1) (L' := [(3, _), (0, _), (1, _)]) dX5_dropRow_54 2 rfl ki_1 (by decide) rfl ?_
      refine x_goto C0 (tgt := 21) dX5_dropRow_57 rfl ?_
      refine x_sub [1, 2, 0] (L' := [(0, _), (1, _), (3, _)]) rfl ?_
      refine x_pc (pc' := 21) rfl ?_
      exact ih _ _ _ h
    · obtain rfl := x_inj h
      exact x_vret C0 dX5_dropRow_60
set_option maxRecDepth 4000 in
set_option maxHeartbeats 2000000 in
theorem c_X5_dropRow {l : Launch} {D : va_G} {cs : Nat → ClassId} {ad : Nat → Nat} (n : Nat) {σ : xM} {x1 : Int32} {x2 : Int32}  {res : xM} (h : F_X5_dropRow n σ x1 x2 = some res) : x_Met l yX5_dropRow [Cond.code yX5_dropRow cX5_dropRow 4 none] ({ frames := 1, cells := 0, slots := 0, locals := 21 } : Room) D vwCl (xtys cs) 4 ad (wfR cs ad) [.ref (ad 0), .int x1, .int x2] σ none res := by
  refine x_Met_of (L0 := [(0, .ref (ad 0)), (1, .int x1), (2, .int x2)]) (own := RX5) (by decide) rfl rfl wfR_loc (Nat.le_of_ble_eq_true rfl) rfl ?_
  intro p e s m args below meth c A C0
  refine x_aload_n C0 dX5_dropRow_0 rfl 0 rfl ?_
  refine x_get C0 inu5 rfl 0 (by decide) mw_643 (by decide) wfR_0 rfl dX5_dropRow_1 ?_
  refine x_iload_n C0 dX5_dropRow_4 rfl 1 rfl ?_
  refine x_bipush C0 (v := 13) dX5_dropRow_5 kb_13 ?_
  refine x_pureS2 C0 (fun ad' => c_X5_of rfl) (x_cwS C0 mw_715 mw_716 mw_84 mw_717 hd_yX5_of ⟨rfl, rfl, Nat.le_of_ble_eq_true rfl, Nat.le_of_ble_eq_true rfl⟩) ⟨Nat.zero_le _, Nat.zero_le _⟩ (Nat.le_of_ble_eq_true rfl) dX5_dropRow_7 ?_
  refine x_dup2 C0 dX5_dropRow_10 rfl rfl ?_
  refine x_iald C0 1 rfl (by decide) wfR_1 dX5_dropRow_11 h (fun _ h => ?_)
  refine x_pc (pc' := 12) rfl ?_
  refine x_iconst C0 (v := 1) dX5_dropRow_12 ki_1 ?_
  refine x_isub C0 dX5_dropRow_13 ?_
  refine x_iast C0 1 rfl (by decide) wfR_1 wpR_1 (fun r' h' k' => x_up_ne r' h' k') dX5_dropRow_14 h (fun _ h => ?_)
  refine x_iload_n C0 dX5_dropRow_15 rfl 1 rfl ?_
  refine x_iload_n C0 dX5_dropRow_16 rfl 2 rfl ?_
  refine x_pureS2 C0 (fun ad' => c_X5_rowOf rfl) (x_cwS C0 mw_815 mw_816 mw_84 mw_817 hd_yX5_rowOf ⟨rfl, rfl, Nat.le_of_ble_eq_true rfl, Nat.le_of_ble_eq_true rfl⟩) ⟨Nat.zero_le _, Nat.zero_le _⟩ (Nat.le_of_ble_eq_true rfl) dX5_dropRow_17 ?_
  refine x_istore_n C0 dX5_dropRow_20 rfl (L' := [(3, _), (0, _), (1, _), (2, _)]) (by decide) rfl ?_
  refine x_sub [1, 2, 0] (L' := [(0, _), (1, _), (3, _)]) rfl ?_
  refine x_pc (pc' := 21) rfl ?_
  exact b_X5_dropRow_21 C0 n n _ _ _ h
set_option maxRecDepth 4000 in
set_option maxHeartbeats 2000000 in
theorem c_X5_addRow {l : Launch} {D : va_G} {cs : Nat → ClassId} {ad : Nat → Nat} (n : Nat) {σ : xM} {x1 : Int32} {x2 : Int32} {x3 : Int32} {x4 : Int32} {x5 : Int32}  {res : xM} (h : F_X5_addRow n σ x1 x2 x3 x4 x5 = some res) : x_Met l yX5_addRow [Cond.code yX5_addRow cX5_addRow 7 none] ({ frames := 1, cells := 0, slots := 0, locals := 21 } : Room) D vwCl (xtys cs) 4 ad (wfR cs ad) [.ref (ad 0), .int x1, .int x2, .int x3, .int x4, .int x5] σ none res := by
  refine x_Met_of (L0 := [(0, .ref (ad 0)), (1, .int x1), (2, .int x2), (3, .int x3), (4, .int x4), (5, .int x5)]) (own := RX5) (by decide) rfl rfl wfR_loc (Nat.le_of_ble_eq_true rfl) rfl ?_
  intro p e s m args below meth c A C0
  refine x_iload_n C0 dX5_addRow_0 rfl 1 rfl ?_
  refine x_aload_n C0 dX5_addRow_1 rfl 0 rfl ?_
  refine x_get C0 inu5 rfl 0 (by decide) mw_643 (by decide) wfR_0 rfl dX5_addRow_2 ?_
  refine x_iload_n C0 dX5_addRow_5 rfl 1 rfl ?_
  refine x_bipush C0 (v := 13) dX5_addRow_6 kb_13 ?_
  refine x_pureS2 C0 (fun ad' => c_X5_of rfl) (x_cwS C0 mw_715 mw_716 mw_84 mw_717 hd_yX5_of ⟨rfl, rfl, Nat.le_of_ble_eq_true rfl, Nat.le_of_ble_eq_true rfl⟩) ⟨Nat.zero_le _, Nat.zero_le _⟩ (Nat.le_of_ble_eq_true rfl) dX5_addRow_8 ?_
  refine x_iald C0 1 rfl (by decide) wfR_1 dX5_addRow_11 h (fun _ h => ?_)
  refine x_pc (pc' := 12) rfl ?_
  refine x_pureS2 C0 (fun ad' => c_X5_rowOf rfl) (x_cwS C0 mw_815 mw_816 mw_84 mw_817 hd_yX5_rowOf ⟨rfl, rfl, Nat.le_of_ble_eq_true rfl, Nat.le_of_ble_eq_true rfl⟩) ⟨Nat.zero_le _, Nat.zero_le _⟩ (Nat.le_of_ble_eq_true rfl) dX5_addRow_12 ?_
  refine x_istore C0 dX5_addRow_15 (L' := [(6, _), (0, _), (1, _), (2, _), (3, _), (4, _), (5, _)]) (by decide) rfl ?_
  refine x_aload_n C0 dX5_addRow_17 rfl 1 rfl ?_
  refine x_get C0 inu5 rfl 0 (by decide) mw_643 (by decide) wfR_0 rfl dX5_addRow_18 ?_
  refine x_iload C0 dX5_addRow_21 0 rfl ?_
  refine x_iload_n C0 dX5_addRow_23 rfl 3 rfl ?_
  refine x_iast C0 1 rfl (by decide) wfR_1 wpR_1 (fun r' h' k' => x_up_ne r' h' k') dX5_addRow_24 h (fun _ h => ?_)
  refine x_aload_n C0 dX5_addRow_25 rfl 1 rfl ?_
  refine x_pc (pc' := 26) rfl ?_
  refine x_get C0 inu5 rfl 0 (by decide) mw_643 (by decide) wfR_0 rfl dX5_addRow_26 ?_
  refine x_iload C0 dX5_addRow_29 0 rfl ?_
  refine x_iconst C0 (v := 1) dX5_addRow_31 ki_1 ?_
  refine x_iadd C0 dX5_addRow_32 ?_
  refine x_iload_n C0 dX5_addRow_33 rfl 4 rfl ?_
  refine x_iast C0 1 rfl (by decide) wfR_1 wpR_1 (fun r' h' k' => x_up_ne r' h' k') dX5_addRow_34 h (fun _ h => ?_)
  refine x_aload_n C0 dX5_addRow_35 rfl 1 rfl ?_
  refine x_get C0 inu5 rfl 0 (by decide) mw_643 (by decide) wfR_0 rfl dX5_addRow_36 ?_
  refine x_pc (pc' := 39) rfl ?_
  refine x_iload C0 dX5_addRow_39 0 rfl ?_
  refine x_iconst C0 (v := 2) dX5_addRow_41 ki_2 ?_
  refine x_iadd C0 dX5_addRow_42 ?_
  refine x_iload C0 dX5_addRow_43 5 rfl ?_
  refine x_iast C0 1 rfl (by decide) wfR_1 wpR_1 (fun r' h' k' => x_up_ne r' h' k') dX5_addRow_45 h (fun _ h => ?_)
  refine x_aload_n C0 dX5_addRow_46 rfl 1 rfl ?_
  refine x_get C0 inu5 rfl 0 (by decide) mw_643 (by decide) wfR_0 rfl dX5_addRow_47 ?_
  refine x_iload C0 dX5_addRow_50 0 rfl ?_
  refine x_pc (pc' := 52) rfl ?_
  refine x_iconst C0 (v := 3) dX5_addRow_52 ki_3 ?_
  refine x_iadd C0 dX5_addRow_53 ?_
  refine x_iload C0 dX5_addRow_54 6 rfl ?_
  refine x_iast C0 1 rfl (by decide) wfR_1 wpR_1 (fun r' h' k' => x_up_ne r' h' k') dX5_addRow_56 h (fun _ h => ?_)
  refine x_aload_n C0 dX5_addRow_57 rfl 1 rfl ?_
  refine x_get C0 inu5 rfl 0 (by decide) mw_643 (by decide) wfR_0 rfl dX5_addRow_58 ?_
  refine x_iload_n C0 dX5_addRow_61 rfl 2 rfl ?_
  refine x_bipush C0 (v := 13) dX5_addRow_62 kb_13 ?_
  refine x_pc (pc' := 64) rfl ?_
  refine x_pureS2 C0 (fun ad' => c_X5_of rfl) (x_cwS C0 mw_715 mw_716 mw_84 mw_717 hd_yX5_of ⟨rfl, rfl, Nat.le_of_ble_eq_true rfl, Nat.le_of_ble_eq_true rfl⟩) ⟨Nat.zero_le _, Nat.zero_le _⟩ (Nat.le_of_ble_eq_true rfl) dX5_addRow_64 ?_
  refine x_dup2 C0 dX5_addRow_67 rfl rfl ?_
  refine x_iald C0 1 rfl (by decide) wfR_1 dX5_addRow_68 h (fun _ h => ?_)
  refine x_iconst C0 (v := 1) dX5_addRow_69 ki_1 ?_
  refine x_iadd C0 dX5_addRow_70 ?_
  refine x_iast C0 1 rfl (by decide) wfR_1 wpR_1 (fun r' h' k' => x_up_ne r' h' k') dX5_addRow_71 h (fun _ h => ?_)
  obtain rfl := x_inj h
  exact x_vret C0 dX5_addRow_72
set_option maxRecDepth 4000 in
set_option maxHeartbeats 2000000 in
theorem b_X5_learnStride_44 {p : Program} {l : Launch} {e : Env} {s : State} {m : MethodId} {args : Array Value} {below : List Frame} {meth : Method} {c : Code} {D : va_G} {cs : Nat → ClassId} {ad : Nat → Nat} {A : Nat → Prop} (C0 : x_C p s m args meth c D vwCl (xtys cs) A s.heap 4 ad (wfR cs ad) cX5_learnStride 8 RX5 none)  (n : Nat) {res : xM} {K6 : xM → Int32 → Int32 → Int32 → Int32 → Int32 → Option xM} (hK6 : ∀ (σ : xM) (l1 : Int32) (l2 : Int32) (l3 : Int32) (l4 : Int32) (l5 : Int32) , K6 σ l1 l2 l3 l4 l5 = some res → x_W p l e ({ frames := 2, cells := 0, slots := 0, locals := 47 } : Room) s m args below meth c D vwCl A s.heap 4 ad (wfR cs ad) 8 0 0 (x_E below args s D vwCl 4 ad (wfR cs ad) A none res) σ 6 [(0, .ref (ad 0)), (1, .int l1), (2, .int l2), (3, .int l3), (4, .int l4), (5, .int l5)] []) : ∀ (σ : xM) (l1 : Int32) (l2 : Int32) (l3 : Int32) (l5 : Int32) (s0 : Int32), B_X5_learnStride_44 n K6 σ l1 l2 l3 l5 s0 = some res → x_W p l e ({ frames := 2, cells := 0, slots := 0, locals := 47 } : Room) s m args below meth c D vwCl A s.heap 4 ad (wfR cs ad) 8 0 0 (x_E below args s D vwCl 4 ad (wfR cs ad) A none res) σ 44 [(0, .ref (ad 0)), (1, .int l1), (2, .int l2), (3, .int l3), (5, .int l5)] [.int s0] := by
  intro σ l1 l2 l3 l5 s0 h
  refine x_istore C0 dX5_learnStride_44 (L' := [(4, _), (0, _), (1, _), (2, _), (3, _), (5, _)]) (by decide) rfl ?_
  refine x_iinc C0 (v := 1) (L' := [(5, _), (4, _), (0, _), (1, _), (2, _), (3, _)]) dX5_learnStride_46 5 rfl ki_1 (by decide) rfl ?_
  refine x_goto C0 (tgt := 6) dX5_learnStride_49 rfl ?_
  refine x_sub [2, 3, 4, 5, 1, 0] (L' := [(0, _), (1, _), (2, _), (3, _), (4, _), (5, _)]) rfl ?_
  refine x_pc (pc' := 6) rfl ?_
  exact hK6 _ _ _ _ _ _ h
set_option maxRecDepth 4000 in
set_option maxHeartbeats 2000000 in
theorem b_X5_learnStride_78 {p : Program} {l : Launch} {e : Env} {s : State} {m : MethodId} {args : Array Value} {below : List Frame} {meth : Method} {c : Code} {D : va_G} {cs : Nat → ClassId} {ad : Nat → Nat} {A : Nat → Prop} (C0 : x_C p s m args meth c D vwCl (xtys cs) A s.heap 4 ad (wfR cs ad) cX5_learnStride 8 RX5 none)  (n : Nat) {res : xM} : ∀ (σ : xM) (l1 : Int32) (l2 : Int32) (l3 : Int32), B_X5_learnStride_78 n σ l1 l2 l3 = some res → x_W p l e ({ frames := 2, cells := 0, slots := 0, locals := 47 } : Room) s m args below meth c D vwCl A s.heap 4 ad (wfR cs ad) 8 0 0 (x_E below args s D vwCl 4 ad (wfR cs ad) A none res) σ 78 [(0, .ref (ad 0)), (1, .int l1), (2, .int l2), (3, .int l3)] [] := by
  intro σ l1 l2 l3 h
  refine x_aload_n C0 dX5_learnStride_78 rfl 0 rfl ?_
  refine x_iload_n C0 dX5_learnStride_79 rfl 1 rfl ?_
  refine x_iload_n C0 dX5_learnStride_80 rfl 2 rfl ?_
  refine x_iload_n C0 dX5_learnStride_81 rfl 3 rfl ?_
  refine x_iconst C0 (v := 0) dX5_learnStride_82 ki_0 ?_
  refine x_iconst C0 (v := 0) dX5_learnStride_83 ki_0 ?_
  obtain ⟨q2, eq2, h⟩ := x_bind h
  refine x_callV50 C0 (c_X5_addRow n eq2) (x_cwV C0 mw_822 mw_824 mw_67 mw_84 mw_825 hd_yX5_addRow ⟨rfl, rfl, Nat.le_of_ble_eq_true rfl, Nat.le_of_ble_eq_true rfl⟩) (by decide) rfl wfR_0 rfl ⟨Nat.zero_le _, Nat.zero_le _⟩ (Nat.le_of_ble_eq_true rfl) dX5_learnStride_84 ?_
  refine x_pc (pc' := 87) rfl ?_
  obtain rfl := x_inj h
  exact x_vret C0 dX5_learnStride_87
set_option maxRecDepth 4000 in
set_option maxHeartbeats 2000000 in
theorem b_X5_learnStride_195 {p : Program} {l : Launch} {e : Env} {s : State} {m : MethodId} {args : Array Value} {below : List Frame} {meth : Method} {c : Code} {D : va_G} {cs : Nat → ClassId} {ad : Nat → Nat} {A : Nat → Prop} (C0 : x_C p s m args meth c D vwCl (xtys cs) A s.heap 4 ad (wfR cs ad) cX5_learnStride 8 RX5 none)  (n : Nat) {res : xM} : ∀ (σ : xM) (l1 : Int32) (l2 : Int32) (l3 : Int32) (l4 : Int32) (l6 : Int32) (l7 : Int32), B_X5_learnStride_195 n σ l1 l2 l3 l4 l6 l7 = some res → x_W p l e ({ frames := 2, cells := 0, slots := 0, locals := 47 } : Room) s m args below meth c D vwCl A s.heap 4 ad (wfR cs ad) 8 0 0 (x_E below args s D vwCl 4 ad (wfR cs ad) A none res) σ 195 [(0, .ref (ad 0)), (1, .int l1), (2, .int l2), (3, .int l3), (4, .int l4), (6, .int l6), (7, .int l7)] [] := by
  intro σ l1 l2 l3 l4 l6 l7 h
  refine x_aload_n C0 dX5_learnStride_195 rfl 0 rfl ?_
  refine x_iload_n C0 dX5_learnStride_196 rfl 1 rfl ?_
  refine x_iload C0 dX5_learnStride_197 4 rfl ?_
  obtain ⟨q3, eq3, h⟩ := x_bind h
  refine x_callV20 C0 (c_X5_dropRow n eq3) (x_cwV C0 mw_818 mw_820 mw_66 mw_84 mw_821 hd_yX5_dropRow ⟨rfl, rfl, Nat.le_of_ble_eq_true rfl, Nat.le_of_ble_eq_true rfl⟩) (by decide) rfl wfR_0 rfl ⟨Nat.zero_le _, Nat.zero_le _⟩ (Nat.le_of_ble_eq_true rfl) dX5_learnStride_199 ?_
  refine x_aload_n C0 dX5_learnStride_202 rfl 0 rfl ?_
  refine x_iload_n C0 dX5_learnStride_203 rfl 1 rfl ?_
  refine x_iload_n C0 dX5_learnStride_204 rfl 2 rfl ?_
  refine x_pc (pc' := 205) rfl ?_
  refine x_iload_n C0 dX5_learnStride_205 rfl 3 rfl ?_
  refine x_iload C0 dX5_learnStride_206 5 rfl ?_
  refine x_iload C0 dX5_learnStride_208 6 rfl ?_
  obtain ⟨q4, eq4, h⟩ := x_bind h
  refine x_callV50 C0 (c_X5_addRow n eq4) (x_cwV C0 mw_822 mw_824 mw_67 mw_84 mw_825 hd_yX5_addRow ⟨rfl, rfl, Nat.le_of_ble_eq_true rfl, Nat.le_of_ble_eq_true rfl⟩) (by decide) rfl wfR_0 rfl ⟨Nat.zero_le _, Nat.zero_le _⟩ (Nat.le_of_ble_eq_true rfl) dX5_learnStride_210 ?_
  refine x_aload_n C0 dX5_learnStride_213 rfl 0 rfl ?_
  refine x_iload C0 dX5_learnStride_214 6 rfl ?_
  refine x_iconst C0 (v := 1) dX5_learnStride_216 ki_1 ?_
  refine x_icmp_le C0 (tgt := 225) dX5_learnStride_217 rfl h (fun _ h => ?_) (fun _ h => ?_)
  · refine x_iload C0 dX5_learnStride_220 5 rfl ?_
    refine x_goto C0 (tgt := 226) dX5_learnStride_222 rfl ?_
    refine x_put C0 inu5 tyX5 tyX5_ok nmX5 rfl 5 (by decide) mw_648 rfl rfl rfl (by decide) wfR_0 (Nat.le_of_ble_eq_true rfl) wpR_0_5 (fun r' h' k' => x_up_ne r' h' k') dX5_learnStride_226 ?_
    obtain rfl := x_inj h
    exact x_vret C0 dX5_learnStride_229
  · refine x_iconst C0 (v := 0) dX5_learnStride_225 ki_0 ?_
    refine x_put C0 inu5 tyX5 tyX5_ok nmX5 rfl 5 (by decide) mw_648 rfl rfl rfl (by decide) wfR_0 (Nat.le_of_ble_eq_true rfl) wpR_0_5 (fun r' h' k' => x_up_ne r' h' k') dX5_learnStride_226 ?_
    obtain rfl := x_inj h
    exact x_vret C0 dX5_learnStride_229
set_option maxRecDepth 4000 in
set_option maxHeartbeats 2000000 in
theorem b_X5_learnStride_160 {p : Program} {l : Launch} {e : Env} {s : State} {m : MethodId} {args : Array Value} {below : List Frame} {meth : Method} {c : Code} {D : va_G} {cs : Nat → ClassId} {ad : Nat → Nat} {A : Nat → Prop} (C0 : x_C p s m args meth c D vwCl (xtys cs) A s.heap 4 ad (wfR cs ad) cX5_learnStride 8 RX5 none)  (n : Nat) {res : xM} : ∀ (σ : xM) (l1 : Int32) (l2 : Int32) (l3 : Int32) (l4 : Int32) (l6 : Int32) (s0 : Int32) (s1 : Int32), B_X5_learnStride_160 n σ l1 l2 l3 l4 l6 s0 s1 = some res → x_W p l e ({ frames := 2, cells := 0, slots := 0, locals := 47 } : Room) s m args below meth c D vwCl A s.heap 4 ad (wfR cs ad) 8 0 0 (x_E below args s D vwCl 4 ad (wfR cs ad) A none res) σ 160 [(0, .ref (ad 0)), (1, .int l1), (2, .int l2), (3, .int l3), (4, .int l4), (6, .int l6)] [.int s1, .int s0] := by
  intro σ l1 l2 l3 l4 l6 s0 s1 h
  refine x_iadd C0 dX5_learnStride_160 ?_
  refine x_istore C0 dX5_learnStride_161 (L' := [(7, _), (0, _), (1, _), (2, _), (3, _), (4, _), (6, _)]) (by decide) rfl ?_
  refine x_goto C0 (tgt := 195) dX5_learnStride_163 rfl ?_
  refine x_sub [1, 2, 3, 4, 5, 6, 0] (L' := [(0, _), (1, _), (2, _), (3, _), (4, _), (6, _), (7, _)]) rfl ?_
  refine x_pc (pc' := 195) rfl ?_
  exact b_X5_learnStride_195 C0 n _ _ _ _ _ _ _ h
set_option maxRecDepth 4000 in
set_option maxHeartbeats 2000000 in
theorem b_X5_learnStride_193 {p : Program} {l : Launch} {e : Env} {s : State} {m : MethodId} {args : Array Value} {below : List Frame} {meth : Method} {c : Code} {D : va_G} {cs : Nat → ClassId} {ad : Nat → Nat} {A : Nat → Prop} (C0 : x_C p s m args meth c D vwCl (xtys cs) A s.heap 4 ad (wfR cs ad) cX5_learnStride 8 RX5 none)  (n : Nat) {res : xM} : ∀ (σ : xM) (l1 : Int32) (l2 : Int32) (l3 : Int32) (l4 : Int32) (l7 : Int32) (s0 : Int32), B_X5_learnStride_193 n σ l1 l2 l3 l4 l7 s0 = some res → x_W p l e ({ frames := 2, cells := 0, slots := 0, locals := 47 } : Room) s m args below meth c D vwCl A s.heap 4 ad (wfR cs ad) 8 0 0 (x_E below args s D vwCl 4 ad (wfR cs ad) A none res) σ 193 [(0, .ref (ad 0)), (1, .int l1), (2, .int l2), (3, .int l3), (4, .int l4), (7, .int l7)] [.int s0] := by
  intro σ l1 l2 l3 l4 l7 s0 h
  refine x_istore C0 dX5_learnStride_193 (L' := [(6, _), (0, _), (1, _), (2, _), (3, _), (4, _), (7, _)]) (by decide) rfl ?_
  refine x_sub [1, 2, 3, 4, 5, 0, 6] (L' := [(0, _), (1, _), (2, _), (3, _), (4, _), (6, _), (7, _)]) rfl ?_
  refine x_pc (pc' := 195) rfl ?_
  exact b_X5_learnStride_195 C0 n _ _ _ _ _ _ _ h
set_option maxRecDepth 4000 in
set_option maxHeartbeats 2000000 in
theorem b_X5_learnStride_178 {p : Program} {l : Launch} {e : Env} {s : State} {m : MethodId} {args : Array Value} {below : List Frame} {meth : Method} {c : Code} {D : va_G} {cs : Nat → ClassId} {ad : Nat → Nat} {A : Nat → Prop} (C0 : x_C p s m args meth c D vwCl (xtys cs) A s.heap 4 ad (wfR cs ad) cX5_learnStride 8 RX5 none)  (n : Nat) {res : xM} : ∀ (σ : xM) (l1 : Int32) (l2 : Int32) (l3 : Int32) (l4 : Int32) (l5 : Int32) (l6 : Int32) (s0 : Int32) (s1 : Int32), B_X5_learnStride_178 n σ l1 l2 l3 l4 l5 l6 s0 s1 = some res → x_W p l e ({ frames := 2, cells := 0, slots := 0, locals := 47 } : Room) s m args below meth c D vwCl A s.heap 4 ad (wfR cs ad) 8 0 0 (x_E below args s D vwCl 4 ad (wfR cs ad) A none res) σ 178 [(0, .ref (ad 0)), (1, .int l1), (2, .int l2), (3, .int l3), (4, .int l4), (5, .int l5), (6, .int l6)] [.int s1, .int s0] := by
  intro σ l1 l2 l3 l4 l5 l6 s0 s1 h
  refine x_isub C0 dX5_learnStride_178 ?_
  refine x_istore C0 dX5_learnStride_179 (L' := [(7, _), (0, _), (1, _), (2, _), (3, _), (4, _), (5, _), (6, _)]) (by decide) rfl ?_
  refine x_iload C0 dX5_learnStride_181 0 rfl ?_
  refine x_if_ne C0 (tgt := 191) dX5_learnStride_183 rfl h (fun _ h => ?_) (fun _ h => ?_)
  · refine x_iload C0 dX5_learnStride_186 6 rfl ?_
    refine x_goto C0 (tgt := 193) dX5_learnStride_188 rfl ?_
    refine x_sub [1, 2, 3, 4, 5, 0] (L' := [(0, _), (1, _), (2, _), (3, _), (4, _), (7, _)]) rfl ?_
    refine x_pc (pc' := 193) rfl ?_
    exact b_X5_learnStride_193 C0 n _ _ _ _ _ _ _ h
  · refine x_iload C0 dX5_learnStride_191 7 rfl ?_
    refine x_sub [1, 2, 3, 4, 5, 0] (L' := [(0, _), (1, _), (2, _), (3, _), (4, _), (7, _)]) rfl ?_
    refine x_pc (pc' := 193) rfl ?_
    exact b_X5_learnStride_193 C0 n _ _ _ _ _ _ _ h
set_option maxRecDepth 4000 in
set_option maxHeartbeats 2000000 in
theorem b_X5_learnStride_166 {p : Program} {l : Launch} {e : Env} {s : State} {m : MethodId} {args : Array Value} {below : List Frame} {meth : Method} {c : Code} {D : va_G} {cs : Nat → ClassId} {ad : Nat → Nat} {A : Nat → Prop} (C0 : x_C p s m args meth c D vwCl (xtys cs) A s.heap 4 ad (wfR cs ad) cX5_learnStride 8 RX5 none)  (n : Nat) {res : xM} : ∀ (σ : xM) (l1 : Int32) (l2 : Int32) (l3 : Int32) (l4 : Int32) (l5 : Int32) (l6 : Int32) (l7 : Int32), B_X5_learnStride_166 n σ l1 l2 l3 l4 l5 l6 l7 = some res → x_W p l e ({ frames := 2, cells := 0, slots := 0, locals := 47 } : Room) s m args below meth c D vwCl A s.heap 4 ad (wfR cs ad) 8 0 0 (x_E below args s D vwCl 4 ad (wfR cs ad) A none res) σ 166 [(0, .ref (ad 0)), (1, .int l1), (2, .int l2), (3, .int l3), (4, .int l4), (5, .int l5), (6, .int l6), (7, .int l7)] [] := by
  intro σ l1 l2 l3 l4 l5 l6 l7 h
  refine x_iload C0 dX5_learnStride_166 7 rfl ?_
  refine x_iload C0 dX5_learnStride_168 7 rfl ?_
  refine x_if_le C0 (tgt := 177) dX5_learnStride_170 rfl h (fun _ h => ?_) (fun _ h => ?_)
  · refine x_iconst C0 (v := 1) dX5_learnStride_173 ki_1 ?_
    refine x_goto C0 (tgt := 178) dX5_learnStride_174 rfl ?_
    refine x_sub [0, 1, 2, 3, 4, 5, 6] (L' := [(0, _), (1, _), (2, _), (3, _), (4, _), (5, _), (6, _)]) rfl ?_
    refine x_pc (pc' := 178) rfl ?_
    exact b_X5_learnStride_178 C0 n _ _ _ _ _ _ _ _ _ h
  · refine x_iconst C0 (v := 0) dX5_learnStride_177 ki_0 ?_
    refine x_sub [0, 1, 2, 3, 4, 5, 6] (L' := [(0, _), (1, _), (2, _), (3, _), (4, _), (5, _), (6, _)]) rfl ?_
    refine x_pc (pc' := 178) rfl ?_
    exact b_X5_learnStride_178 C0 n _ _ _ _ _ _ _ _ _ h
set_option maxRecDepth 4000 in
set_option maxHeartbeats 2000000 in
theorem b_X5_learnStride_6 {p : Program} {l : Launch} {e : Env} {s : State} {m : MethodId} {args : Array Value} {below : List Frame} {meth : Method} {c : Code} {D : va_G} {cs : Nat → ClassId} {ad : Nat → Nat} {A : Nat → Prop} (C0 : x_C p s m args meth c D vwCl (xtys cs) A s.heap 4 ad (wfR cs ad) cX5_learnStride 8 RX5 none)  (n : Nat) {res : xM} : ∀ (f : Nat) (σ : xM) (l1 : Int32) (l2 : Int32) (l3 : Int32) (l4 : Int32) (l5 : Int32), B_X5_learnStride_6 n f σ l1 l2 l3 l4 l5 = some res → x_W p l e ({ frames := 2, cells := 0, slots := 0, locals := 47 } : Room) s m args below meth c D vwCl A s.heap 4 ad (wfR cs ad) 8 0 0 (x_E below args s D vwCl 4 ad (wfR cs ad) A none res) σ 6 [(0, .ref (ad 0)), (1, .int l1), (2, .int l2), (3, .int l3), (4, .int l4), (5, .int l5)] [] := by
  intro f
  induction f with
  | zero =>
    intro σ l1 l2 l3 l4 l5 h
    cases h
  | succ f ih =>
    intro σ l1 l2 l3 l4 l5 h
    refine x_iload C0 dX5_learnStride_6 5 rfl ?_
    refine x_aload_n C0 dX5_learnStride_8 rfl 0 rfl ?_
    refine x_get C0 inu5 rfl 0 (by decide) mw_643 (by decide) wfR_0 rfl dX5_learnStride_9 ?_
    refine x_iload_n C0 dX5_learnStride_12 rfl 1 rfl ?_
    refine x_bipush C0 (v := 13) dX5_learnStride_13 kb_13 ?_
    refine x_pureS2 C0 (fun ad' => c_X5_of rfl) (x_cwS C0 mw_715 mw_716 mw_84 mw_717 hd_yX5_of ⟨rfl, rfl, Nat.le_of_ble_eq_true rfl, Nat.le_of_ble_eq_true rfl⟩) ⟨Nat.zero_le _, Nat.zero_le _⟩ (Nat.le_of_ble_eq_true rfl) dX5_learnStride_15 ?_
    refine x_iald C0 1 rfl (by decide) wfR_1 dX5_learnStride_18 h (fun _ h => ?_)
    refine x_pc (pc' := 19) rfl ?_
    refine x_icmp_ge C0 (tgt := 52) dX5_learnStride_19 rfl h (fun _ h => ?_) (fun _ h => ?_)
    · refine x_aload_n C0 dX5_learnStride_22 rfl 0 rfl ?_
      refine x_get C0 inu5 rfl 0 (by decide) mw_643 (by decide) wfR_0 rfl dX5_learnStride_23 ?_
      refine x_iload_n C0 dX5_learnStride_26 rfl 1 rfl ?_
      refine x_iload C0 dX5_learnStride_27 5 rfl ?_
      refine x_pureS2 C0 (fun ad' => c_X5_rowOf rfl) (x_cwS C0 mw_815 mw_816 mw_84 mw_817 hd_yX5_rowOf ⟨rfl, rfl, Nat.le_of_ble_eq_true rfl, Nat.le_of_ble_eq_true rfl⟩) ⟨Nat.zero_le _, Nat.zero_le _⟩ (Nat.le_of_ble_eq_true rfl) dX5_learnStride_29 ?_
      refine x_iald C0 1 rfl (by decide) wfR_1 dX5_learnStride_32 h (fun _ h => ?_)
      refine x_iload_n C0 dX5_learnStride_33 rfl 2 rfl ?_
      refine x_pc (pc' := 34) rfl ?_
      refine x_icmp_ne C0 (tgt := 42) dX5_learnStride_34 rfl h (fun _ h => ?_) (fun _ h => ?_)
      · refine x_iload C0 dX5_learnStride_37 5 rfl ?_
        refine x_goto C0 (tgt := 44) dX5_learnStride_39 rfl ?_
        refine x_sub [0, 1, 2, 3, 5] (L' := [(0, _), (1, _), (2, _), (3, _), (5, _)]) rfl ?_
        refine x_pc (pc' := 44) rfl ?_
        exact b_X5_learnStride_44 C0 n (fun σ l1 l2 l3 l4 l5 h => ih σ l1 l2 l3 l4 l5 h) _ _ _ _ _ _ h
      · refine x_iload C0 dX5_learnStride_42 4 rfl ?_
        refine x_sub [0, 1, 2, 3, 5] (L' := [(0, _), (1, _), (2, _), (3, _), (5, _)]) rfl ?_
        refine x_pc (pc' := 44) rfl ?_
        exact b_X5_learnStride_44 C0 n (fun σ l1 l2 l3 l4 l5 h => ih σ l1 l2 l3 l4 l5 h) _ _ _ _ _ _ h
    · refine x_iload C0 dX5_learnStride_52 4 rfl ?_
      refine x_if_ge C0 (tgt := 88) dX5_learnStride_54 rfl h (fun _ h => ?_) (fun _ h => ?_)
      · refine x_aload_n C0 dX5_learnStride_57 rfl 0 rfl ?_
        refine x_get C0 inu5 rfl 0 (by decide) mw_643 (by decide) wfR_0 rfl dX5_learnStride_58 ?_
        refine x_iload_n C0 dX5_learnStride_61 rfl 1 rfl ?_
        refine x_bipush C0 (v := 13) dX5_learnStride_62 kb_13 ?_
        refine x_pureS2 C0 (fun ad' => c_X5_of rfl) (x_cwS C0 mw_715 mw_716 mw_84 mw_717 hd_yX5_of ⟨rfl, rfl, Nat.le_of_ble_eq_true rfl, Nat.le_of_ble_eq_true rfl⟩) ⟨Nat.zero_le _, Nat.zero_le _⟩ (Nat.le_of_ble_eq_true rfl) dX5_learnStride_64 ?_
        refine x_iald C0 1 rfl (by decide) wfR_1 dX5_learnStride_67 h (fun _ h => ?_)
        refine x_iconst C0 (v := 4) dX5_learnStride_68 ki_4 ?_
        refine x_pc (pc' := 69) rfl ?_
        refine x_icmp_ne C0 (tgt := 78) dX5_learnStride_69 rfl h (fun _ h => ?_) (fun _ h => ?_)
        · refine x_aload_n C0 dX5_learnStride_72 rfl 0 rfl ?_
          refine x_iload_n C0 dX5_learnStride_73 rfl 1 rfl ?_
          refine x_iconst C0 (v := 0) dX5_learnStride_74 ki_0 ?_
          obtain ⟨q1, eq1, h⟩ := x_bind h
          refine x_callV20 C0 (c_X5_dropRow n eq1) (x_cwV C0 mw_818 mw_820 mw_66 mw_84 mw_821 hd_yX5_dropRow ⟨rfl, rfl, Nat.le_of_ble_eq_true rfl, Nat.le_of_ble_eq_true rfl⟩) (by decide) rfl wfR_0 rfl ⟨Nat.zero_le _, Nat.zero_le _⟩ (Nat.le_of_ble_eq_true rfl) dX5_learnStride_75 ?_
          refine x_sub [0, 1, 2, 3] (L' := [(0, _), (1, _), (2, _), (3, _)]) rfl ?_
          refine x_pc (pc' := 78) rfl ?_
          exact b_X5_learnStride_78 C0 n _ _ _ _ h
        · refine x_sub [0, 1, 2, 3] (L' := [(0, _), (1, _), (2, _), (3, _)]) rfl ?_
          refine x_pc (pc' := 78) rfl ?_
          exact b_X5_learnStride_78 C0 n _ _ _ _ h
      · refine x_iload_n C0 dX5_learnStride_88 rfl 3 rfl ?_
        refine x_aload_n C0 dX5_learnStride_89 rfl 0 rfl ?_
        refine x_get C0 inu5 rfl 0 (by decide) mw_643 (by decide) wfR_0 rfl dX5_learnStride_90 ?_
        refine x_iload_n C0 dX5_learnStride_93 rfl 1 rfl ?_
        refine x_iload C0 dX5_learnStride_94 4 rfl ?_
        refine x_pureS2 C0 (fun ad' => c_X5_rowOf rfl) (x_cwS C0 mw_815 mw_816 mw_84 mw_817 hd_yX5_rowOf ⟨rfl, rfl, Nat.le_of_ble_eq_true rfl, Nat.le_of_ble_eq_true rfl⟩) ⟨Nat.zero_le _, Nat.zero_le _⟩ (Nat.le_of_ble_eq_true rfl) dX5_learnStride_96 ?_
        refine x_iconst C0 (v := 1) dX5_learnStride_99 ki_1 ?_
        refine x_pc (pc' := 100) rfl ?_
        refine x_iadd C0 dX5_learnStride_100 ?_
        refine x_iald C0 1 rfl (by decide) wfR_1 dX5_learnStride_101 h (fun _ h => ?_)
        refine x_isub C0 dX5_learnStride_102 ?_
        refine x_istore C0 dX5_learnStride_103 (L' := [(5, _), (0, _), (1, _), (2, _), (3, _), (4, _)]) (by decide) rfl ?_
        refine x_aload_n C0 dX5_learnStride_105 rfl 1 rfl ?_
        refine x_get C0 inu5 rfl 0 (by decide) mw_643 (by decide) wfR_0 rfl dX5_learnStride_106 ?_
        refine x_iload_n C0 dX5_learnStride_109 rfl 2 rfl ?_
        refine x_iload C0 dX5_learnStride_110 5 rfl ?_
        refine x_pc (pc' := 112) rfl ?_
        refine x_pureS2 C0 (fun ad' => c_X5_rowOf rfl) (x_cwS C0 mw_815 mw_816 mw_84 mw_817 hd_yX5_rowOf ⟨rfl, rfl, Nat.le_of_ble_eq_true rfl, Nat.le_of_ble_eq_true rfl⟩) ⟨Nat.zero_le _, Nat.zero_le _⟩ (Nat.le_of_ble_eq_true rfl) dX5_learnStride_112 ?_
        refine x_iconst C0 (v := 2) dX5_learnStride_115 ki_2 ?_
        refine x_iadd C0 dX5_learnStride_116 ?_
        refine x_iald C0 1 rfl (by decide) wfR_1 dX5_learnStride_117 h (fun _ h => ?_)
        refine x_istore C0 dX5_learnStride_118 (L' := [(6, _), (5, _), (0, _), (1, _), (2, _), (3, _), (4, _)]) (by decide) rfl ?_
        refine x_aload_n C0 dX5_learnStride_120 rfl 2 rfl ?_
        refine x_get C0 inu5 rfl 0 (by decide) mw_643 (by decide) wfR_0 rfl dX5_learnStride_121 ?_
        refine x_iload_n C0 dX5_learnStride_124 rfl 3 rfl ?_
        refine x_pc (pc' := 125) rfl ?_
        refine x_iload C0 dX5_learnStride_125 6 rfl ?_
        refine x_pureS2 C0 (fun ad' => c_X5_rowOf rfl) (x_cwS C0 mw_815 mw_816 mw_84 mw_817 hd_yX5_rowOf ⟨rfl, rfl, Nat.le_of_ble_eq_true rfl, Nat.le_of_ble_eq_true rfl⟩) ⟨Nat.zero_le _, Nat.zero_le _⟩ (Nat.le_of_ble_eq_true rfl) dX5_learnStride_127 ?_
        refine x_iconst C0 (v := 3) dX5_learnStride_130 ki_3 ?_
        refine x_iadd C0 dX5_learnStride_131 ?_
        refine x_iald C0 1 rfl (by decide) wfR_1 dX5_learnStride_132 h (fun _ h => ?_)
        refine x_istore C0 dX5_learnStride_133 (L' := [(7, _), (6, _), (5, _), (0, _), (1, _), (2, _), (3, _), (4, _)]) (by decide) rfl ?_
        refine x_iload C0 dX5_learnStride_135 2 rfl ?_
        refine x_iload C0 dX5_learnStride_137 1 rfl ?_
        refine x_pc (pc' := 139) rfl ?_
        refine x_icmp_ne C0 (tgt := 166) dX5_learnStride_139 rfl h (fun _ h => ?_) (fun _ h => ?_)
        · refine x_iload C0 dX5_learnStride_142 2 rfl ?_
          refine x_if_eq C0 (tgt := 166) dX5_learnStride_144 rfl h (fun _ h => ?_) (fun _ h => ?_)
          · refine x_sub [3, 4, 5, 6, 7, 2, 1, 0] (L' := [(0, _), (1, _), (2, _), (3, _), (4, _), (5, _), (6, _), (7, _)]) rfl ?_
            refine x_pc (pc' := 166) rfl ?_
            exact b_X5_learnStride_166 C0 n _ _ _ _ _ _ _ _ h
          · refine x_iload C0 dX5_learnStride_147 0 rfl ?_
            refine x_iload C0 dX5_learnStride_149 0 rfl ?_
            refine x_iconst C0 (v := 3) dX5_learnStride_151 ki_3 ?_
            refine x_icmp_ge C0 (tgt := 159) dX5_learnStride_152 rfl h (fun _ h => ?_) (fun _ h => ?_)
            · refine x_iconst C0 (v := 1) dX5_learnStride_155 ki_1 ?_
              refine x_goto C0 (tgt := 160) dX5_learnStride_156 rfl ?_
              refine x_sub [3, 4, 5, 6, 7, 1] (L' := [(0, _), (1, _), (2, _), (3, _), (4, _), (6, _)]) rfl ?_
              refine x_pc (pc' := 160) rfl ?_
              exact b_X5_learnStride_160 C0 n _ _ _ _ _ _ _ _ h
            · refine x_iconst C0 (v := 0) dX5_learnStride_159 ki_0 ?_
              refine x_sub [3, 4, 5, 6, 7, 1] (L' := [(0, _), (1, _), (2, _), (3, _), (4, _), (6, _)]) rfl ?_
              refine x_pc (pc' := 160) rfl ?_
              exact b_X5_learnStride_160 C0 n _ _ _ _ _ _ _ _ h
        · refine x_sub [3, 4, 5, 6, 7, 2, 1, 0] (L' := [(0, _), (1, _), (2, _), (3, _), (4, _), (5, _), (6, _), (7, _)]) rfl ?_
          refine x_pc (pc' := 166) rfl ?_
          exact b_X5_learnStride_166 C0 n _ _ _ _ _ _ _ _ h
set_option maxRecDepth 4000 in
set_option maxHeartbeats 2000000 in
theorem c_X5_learnStride {l : Launch} {D : va_G} {cs : Nat → ClassId} {ad : Nat → Nat} (n : Nat) {σ : xM} {x1 : Int32} {x2 : Int32} {x3 : Int32}  {res : xM} (h : F_X5_learnStride n σ x1 x2 x3 = some res) : x_Met l yX5_learnStride [Cond.code yX5_learnStride cX5_learnStride 8 none] ({ frames := 2, cells := 0, slots := 0, locals := 47 } : Room) D vwCl (xtys cs) 4 ad (wfR cs ad) [.ref (ad 0), .int x1, .int x2, .int x3] σ none res := by
  refine x_Met_of (L0 := [(0, .ref (ad 0)), (1, .int x1), (2, .int x2), (3, .int x3)]) (own := RX5) (by decide) rfl rfl wfR_loc (Nat.le_of_ble_eq_true rfl) rfl ?_
  intro p e s m args below meth c A C0
  refine x_iconst C0 (v := (-1)) dX5_learnStride_0 ki_m1 ?_
  refine x_istore C0 dX5_learnStride_1 (L' := [(4, _), (0, _), (1, _), (2, _), (3, _)]) (by decide) rfl ?_
  refine x_iconst C0 (v := 0) dX5_learnStride_3 ki_0 ?_
  refine x_istore C0 dX5_learnStride_4 (L' := [(5, _), (4, _), (0, _), (1, _), (2, _), (3, _)]) (by decide) rfl ?_
  refine x_sub [2, 3, 4, 5, 1, 0] (L' := [(0, _), (1, _), (2, _), (3, _), (4, _), (5, _)]) rfl ?_
  refine x_pc (pc' := 6) rfl ?_
  exact b_X5_learnStride_6 C0 n n _ _ _ _ _ _ h
set_option maxRecDepth 4000 in
set_option maxHeartbeats 2000000 in
theorem b_X5_learnStream_60 {p : Program} {l : Launch} {e : Env} {s : State} {m : MethodId} {args : Array Value} {below : List Frame} {meth : Method} {c : Code} {D : va_G} {cs : Nat → ClassId} {ad : Nat → Nat} {A : Nat → Prop} (C0 : x_C p s m args meth c D vwCl (xtys cs) A s.heap 4 ad (wfR cs ad) cX5_learnStream 6 RX5 none)  (n : Nat) {res : xM} {K5 : xM → Int32 → Int32 → Int32 → Int32 → Option xM} (hK5 : ∀ (σ : xM) (l1 : Int32) (l2 : Int32) (l3 : Int32) (l4 : Int32) , K5 σ l1 l2 l3 l4 = some res → x_W p l e ({ frames := 2, cells := 0, slots := 0, locals := 47 } : Room) s m args below meth c D vwCl A s.heap 4 ad (wfR cs ad) 6 0 0 (x_E below args s D vwCl 4 ad (wfR cs ad) A none res) σ 5 [(0, .ref (ad 0)), (1, .int l1), (2, .int l2), (3, .int l3), (4, .int l4)] []) : ∀ (σ : xM) (l1 : Int32) (l2 : Int32) (l4 : Int32) (s0 : Int32), B_X5_learnStream_60 n K5 σ l1 l2 l4 s0 = some res → x_W p l e ({ frames := 2, cells := 0, slots := 0, locals := 47 } : Room) s m args below meth c D vwCl A s.heap 4 ad (wfR cs ad) 6 0 0 (x_E below args s D vwCl 4 ad (wfR cs ad) A none res) σ 60 [(0, .ref (ad 0)), (1, .int l1), (2, .int l2), (4, .int l4)] [.int s0] := by
  intro σ l1 l2 l4 s0 h
  refine x_istore_n C0 dX5_learnStream_60 rfl (L' := [(3, _), (0, _), (1, _), (2, _), (4, _)]) (by decide) rfl ?_
  refine x_iinc C0 (v := 1) (L' := [(4, _), (3, _), (0, _), (1, _), (2, _)]) dX5_learnStream_61 4 rfl ki_1 (by decide) rfl ?_
  refine x_goto C0 (tgt := 5) dX5_learnStream_64 rfl ?_
  refine x_sub [2, 3, 4, 1, 0] (L' := [(0, _), (1, _), (2, _), (3, _), (4, _)]) rfl ?_
  refine x_pc (pc' := 5) rfl ?_
  exact hK5 _ _ _ _ _ h
set_option maxRecDepth 4000 in
set_option maxHeartbeats 2000000 in
theorem b_X5_learnStream_59 {p : Program} {l : Launch} {e : Env} {s : State} {m : MethodId} {args : Array Value} {below : List Frame} {meth : Method} {c : Code} {D : va_G} {cs : Nat → ClassId} {ad : Nat → Nat} {A : Nat → Prop} (C0 : x_C p s m args meth c D vwCl (xtys cs) A s.heap 4 ad (wfR cs ad) cX5_learnStream 6 RX5 none)  (n : Nat) {res : xM} {K5 : xM → Int32 → Int32 → Int32 → Int32 → Option xM} (hK5 : ∀ (σ : xM) (l1 : Int32) (l2 : Int32) (l3 : Int32) (l4 : Int32) , K5 σ l1 l2 l3 l4 = some res → x_W p l e ({ frames := 2, cells := 0, slots := 0, locals := 47 } : Room) s m args below meth c D vwCl A s.heap 4 ad (wfR cs ad) 6 0 0 (x_E below args s D vwCl 4 ad (wfR cs ad) A none res) σ 5 [(0, .ref (ad 0)), (1, .int l1), (2, .int l2), (3, .int l3), (4, .int l4)] []) : ∀ (σ : xM) (l1 : Int32) (l2 : Int32) (l3 : Int32) (l4 : Int32), B_X5_learnStream_59 n K5 σ l1 l2 l3 l4 = some res → x_W p l e ({ frames := 2, cells := 0, slots := 0, locals := 47 } : Room) s m args below meth c D vwCl A s.heap 4 ad (wfR cs ad) 6 0 0 (x_E below args s D vwCl 4 ad (wfR cs ad) A none res) σ 59 [(0, .ref (ad 0)), (1, .int l1), (2, .int l2), (3, .int l3), (4, .int l4)] [] := by
  intro σ l1 l2 l3 l4 h
  refine x_iload_n C0 dX5_learnStream_59 rfl 3 rfl ?_
  refine x_sub [0, 1, 2, 4] (L' := [(0, _), (1, _), (2, _), (4, _)]) rfl ?_
  refine x_pc (pc' := 60) rfl ?_
  exact b_X5_learnStream_60 C0 n hK5 _ _ _ _ _ h
set_option maxRecDepth 4000 in
set_option maxHeartbeats 2000000 in
theorem b_X5_learnStream_92 {p : Program} {l : Launch} {e : Env} {s : State} {m : MethodId} {args : Array Value} {below : List Frame} {meth : Method} {c : Code} {D : va_G} {cs : Nat → ClassId} {ad : Nat → Nat} {A : Nat → Prop} (C0 : x_C p s m args meth c D vwCl (xtys cs) A s.heap 4 ad (wfR cs ad) cX5_learnStream 6 RX5 none)  (n : Nat) {res : xM} : ∀ (σ : xM) (l1 : Int32) (l2 : Int32), B_X5_learnStream_92 n σ l1 l2 = some res → x_W p l e ({ frames := 2, cells := 0, slots := 0, locals := 47 } : Room) s m args below meth c D vwCl A s.heap 4 ad (wfR cs ad) 6 0 0 (x_E below args s D vwCl 4 ad (wfR cs ad) A none res) σ 92 [(0, .ref (ad 0)), (1, .int l1), (2, .int l2)] [] := by
  intro σ l1 l2 h
  refine x_aload_n C0 dX5_learnStream_92 rfl 0 rfl ?_
  refine x_iload_n C0 dX5_learnStream_93 rfl 1 rfl ?_
  refine x_iconst C0 (v := 0) dX5_learnStream_94 ki_0 ?_
  refine x_iload_n C0 dX5_learnStream_95 rfl 2 rfl ?_
  refine x_iconst C0 (v := 0) dX5_learnStream_96 ki_0 ?_
  refine x_iconst C0 (v := 0) dX5_learnStream_97 ki_0 ?_
  obtain ⟨q2, eq2, h⟩ := x_bind h
  refine x_callV50 C0 (c_X5_addRow n eq2) (x_cwV C0 mw_822 mw_824 mw_67 mw_84 mw_825 hd_yX5_addRow ⟨rfl, rfl, Nat.le_of_ble_eq_true rfl, Nat.le_of_ble_eq_true rfl⟩) (by decide) rfl wfR_0 rfl ⟨Nat.zero_le _, Nat.zero_le _⟩ (Nat.le_of_ble_eq_true rfl) dX5_learnStream_98 ?_
  refine x_pc (pc' := 101) rfl ?_
  obtain rfl := x_inj h
  exact x_vret C0 dX5_learnStream_101
set_option maxRecDepth 4000 in
set_option maxHeartbeats 2000000 in
theorem b_X5_learnStream_176 {p : Program} {l : Launch} {e : Env} {s : State} {m : MethodId} {args : Array Value} {below : List Frame} {meth : Method} {c : Code} {D : va_G} {cs : Nat → ClassId} {ad : Nat → Nat} {A : Nat → Prop} (C0 : x_C p s m args meth c D vwCl (xtys cs) A s.heap 4 ad (wfR cs ad) cX5_learnStream 6 RX5 none)  (n : Nat) {res : xM} : ∀ (σ : xM) (l1 : Int32) (l2 : Int32) (l3 : Int32) (l4 : Int32) (s0 : Int32), B_X5_learnStream_176 n σ l1 l2 l3 l4 s0 = some res → x_W p l e ({ frames := 2, cells := 0, slots := 0, locals := 47 } : Room) s m args below meth c D vwCl A s.heap 4 ad (wfR cs ad) 6 0 0 (x_E below args s D vwCl 4 ad (wfR cs ad) A none res) σ 176 [(0, .ref (ad 0)), (1, .int l1), (2, .int l2), (3, .int l3), (4, .int l4)] [.int s0] := by
  intro σ l1 l2 l3 l4 s0 h
  refine x_istore C0 dX5_learnStream_176 (L' := [(5, _), (0, _), (1, _), (2, _), (3, _), (4, _)]) (by decide) rfl ?_
  refine x_aload_n C0 dX5_learnStream_178 rfl 1 rfl ?_
  refine x_iload_n C0 dX5_learnStream_179 rfl 2 rfl ?_
  refine x_iload_n C0 dX5_learnStream_180 rfl 4 rfl ?_
  obtain ⟨q3, eq3, h⟩ := x_bind h
  refine x_callV20 C0 (c_X5_dropRow n eq3) (x_cwV C0 mw_818 mw_820 mw_66 mw_84 mw_821 hd_yX5_dropRow ⟨rfl, rfl, Nat.le_of_ble_eq_true rfl, Nat.le_of_ble_eq_true rfl⟩) (by decide) rfl wfR_0 rfl ⟨Nat.zero_le _, Nat.zero_le _⟩ (Nat.le_of_ble_eq_true rfl) dX5_learnStream_181 ?_
  refine x_aload_n C0 dX5_learnStream_184 rfl 1 rfl ?_
  refine x_iload_n C0 dX5_learnStream_185 rfl 2 rfl ?_
  refine x_pc (pc' := 186) rfl ?_
  refine x_iconst C0 (v := 0) dX5_learnStream_186 ki_0 ?_
  refine x_iload_n C0 dX5_learnStream_187 rfl 3 rfl ?_
  refine x_iload C0 dX5_learnStream_188 5 rfl ?_
  refine x_iload C0 dX5_learnStream_190 0 rfl ?_
  obtain ⟨q4, eq4, h⟩ := x_bind h
  refine x_callV50 C0 (c_X5_addRow n eq4) (x_cwV C0 mw_822 mw_824 mw_67 mw_84 mw_825 hd_yX5_addRow ⟨rfl, rfl, Nat.le_of_ble_eq_true rfl, Nat.le_of_ble_eq_true rfl⟩) (by decide) rfl wfR_0 rfl ⟨Nat.zero_le _, Nat.zero_le _⟩ (Nat.le_of_ble_eq_true rfl) dX5_learnStream_192 ?_
  refine x_aload_n C0 dX5_learnStream_195 rfl 1 rfl ?_
  refine x_iload C0 dX5_learnStream_196 0 rfl ?_
  refine x_iconst C0 (v := 1) dX5_learnStream_198 ki_1 ?_
  refine x_pc (pc' := 199) rfl ?_
  refine x_icmp_le C0 (tgt := 207) dX5_learnStream_199 rfl h (fun _ h => ?_) (fun _ h => ?_)
  · refine x_iload C0 dX5_learnStream_202 5 rfl ?_
    refine x_goto C0 (tgt := 208) dX5_learnStream_204 rfl ?_
    refine x_put C0 inu5 tyX5 tyX5_ok nmX5 rfl 5 (by decide) mw_648 rfl rfl rfl (by decide) wfR_0 (Nat.le_of_ble_eq_true rfl) wpR_0_5 (fun r' h' k' => x_up_ne r' h' k') dX5_learnStream_208 ?_
    obtain rfl := x_inj h
    exact x_vret C0 dX5_learnStream_211
  · refine x_iconst C0 (v := 0) dX5_learnStream_207 ki_0 ?_
    refine x_put C0 inu5 tyX5 tyX5_ok nmX5 rfl 5 (by decide) mw_648 rfl rfl rfl (by decide) wfR_0 (Nat.le_of_ble_eq_true rfl) wpR_0_5 (fun r' h' k' => x_up_ne r' h' k') dX5_learnStream_208 ?_
    obtain rfl := x_inj h
    exact x_vret C0 dX5_learnStream_211
set_option maxRecDepth 4000 in
set_option maxHeartbeats 2000000 in
theorem b_X5_learnStream_123 {p : Program} {l : Launch} {e : Env} {s : State} {m : MethodId} {args : Array Value} {below : List Frame} {meth : Method} {c : Code} {D : va_G} {cs : Nat → ClassId} {ad : Nat → Nat} {A : Nat → Prop} (C0 : x_C p s m args meth c D vwCl (xtys cs) A s.heap 4 ad (wfR cs ad) cX5_learnStream 6 RX5 none)  (n : Nat) {res : xM} : ∀ (σ : xM) (l1 : Int32) (l2 : Int32) (l3 : Int32) (s0 : Int32), B_X5_learnStream_123 n σ l1 l2 l3 s0 = some res → x_W p l e ({ frames := 2, cells := 0, slots := 0, locals := 47 } : Room) s m args below meth c D vwCl A s.heap 4 ad (wfR cs ad) 6 0 0 (x_E below args s D vwCl 4 ad (wfR cs ad) A none res) σ 123 [(0, .ref (ad 0)), (1, .int l1), (2, .int l2), (3, .int l3)] [.int s0] := by
  intro σ l1 l2 l3 s0 h
  refine x_istore C0 dX5_learnStream_123 (L' := [(4, _), (0, _), (1, _), (2, _), (3, _)]) (by decide) rfl ?_
  refine x_aload_n C0 dX5_learnStream_125 rfl 1 rfl ?_
  refine x_get C0 inu5 rfl 0 (by decide) mw_643 (by decide) wfR_0 rfl dX5_learnStream_126 ?_
  refine x_iload_n C0 dX5_learnStream_129 rfl 2 rfl ?_
  refine x_iload_n C0 dX5_learnStream_130 rfl 4 rfl ?_
  refine x_pureS2 C0 (fun ad' => c_X5_rowOf rfl) (x_cwS C0 mw_815 mw_816 mw_84 mw_817 hd_yX5_rowOf ⟨rfl, rfl, Nat.le_of_ble_eq_true rfl, Nat.le_of_ble_eq_true rfl⟩) ⟨Nat.zero_le _, Nat.zero_le _⟩ (Nat.le_of_ble_eq_true rfl) dX5_learnStream_131 ?_
  refine x_iconst C0 (v := 3) dX5_learnStream_134 ki_3 ?_
  refine x_pc (pc' := 135) rfl ?_
  refine x_iadd C0 dX5_learnStream_135 ?_
  refine x_iald C0 1 rfl (by decide) wfR_1 dX5_learnStream_136 h (fun _ h => ?_)
  refine x_istore C0 dX5_learnStream_137 (L' := [(5, _), (4, _), (0, _), (1, _), (2, _), (3, _)]) (by decide) rfl ?_
  refine x_iload C0 dX5_learnStream_139 1 rfl ?_
  refine x_aload_n C0 dX5_learnStream_141 rfl 2 rfl ?_
  refine x_get C0 inu5 rfl 0 (by decide) mw_643 (by decide) wfR_0 rfl dX5_learnStream_142 ?_
  refine x_iload_n C0 dX5_learnStream_145 rfl 3 rfl ?_
  refine x_iload_n C0 dX5_learnStream_146 rfl 5 rfl ?_
  refine x_pc (pc' := 147) rfl ?_
  refine x_pureS2 C0 (fun ad' => c_X5_rowOf rfl) (x_cwS C0 mw_815 mw_816 mw_84 mw_817 hd_yX5_rowOf ⟨rfl, rfl, Nat.le_of_ble_eq_true rfl, Nat.le_of_ble_eq_true rfl⟩) ⟨Nat.zero_le _, Nat.zero_le _⟩ (Nat.le_of_ble_eq_true rfl) dX5_learnStream_147 ?_
  refine x_iconst C0 (v := 2) dX5_learnStream_150 ki_2 ?_
  refine x_iadd C0 dX5_learnStream_151 ?_
  refine x_iald C0 1 rfl (by decide) wfR_1 dX5_learnStream_152 h (fun _ h => ?_)
  refine x_icmp_eq C0 (tgt := 160) dX5_learnStream_153 rfl h (fun _ h => ?_) (fun _ h => ?_)
  · refine x_iload C0 dX5_learnStream_160 0 rfl ?_
    refine x_bipush C0 (v := 9) dX5_learnStream_162 kb_9 ?_
    refine x_icmp_ge C0 (tgt := 174) dX5_learnStream_164 rfl h (fun _ h => ?_) (fun _ h => ?_)
    · refine x_iload C0 dX5_learnStream_167 0 rfl ?_
      refine x_iconst C0 (v := 1) dX5_learnStream_169 ki_1 ?_
      refine x_iadd C0 dX5_learnStream_170 ?_
      refine x_goto C0 (tgt := 176) dX5_learnStream_171 rfl ?_
      refine x_sub [2, 3, 4, 5, 1] (L' := [(0, _), (1, _), (2, _), (3, _), (4, _)]) rfl ?_
      refine x_pc (pc' := 176) rfl ?_
      exact b_X5_learnStream_176 C0 n _ _ _ _ _ _ h
    · refine x_bipush C0 (v := 9) dX5_learnStream_174 kb_9 ?_
      refine x_sub [2, 3, 4, 5, 1] (L' := [(0, _), (1, _), (2, _), (3, _), (4, _)]) rfl ?_
      refine x_pc (pc' := 176) rfl ?_
      exact b_X5_learnStream_176 C0 n _ _ _ _ _ _ h
  · refine x_iconst C0 (v := 1) dX5_learnStream_156 ki_1 ?_
    refine x_goto C0 (tgt := 176) dX5_learnStream_157 rfl ?_
    refine x_sub [2, 3, 4, 5, 1] (L' := [(0, _), (1, _), (2, _), (3, _), (4, _)]) rfl ?_
    refine x_pc (pc' := 176) rfl ?_
    exact b_X5_learnStream_176 C0 n _ _ _ _ _ _ h
set_option maxRecDepth 4000 in
set_option maxHeartbeats 2000000 in
theorem b_X5_learnStream_5 {p : Program} {l : Launch} {e : Env} {s : State} {m : MethodId} {args : Array Value} {below : List Frame} {meth : Method} {c : Code} {D : va_G} {cs : Nat → ClassId} {ad : Nat → Nat} {A : Nat → Prop} (C0 : x_C p s m args meth c D vwCl (xtys cs) A s.heap 4 ad (wfR cs ad) cX5_learnStream 6 RX5 none)  (n : Nat) {res : xM} : ∀ (f : Nat) (σ : xM) (l1 : Int32) (l2 : Int32) (l3 : Int32) (l4 : Int32), B_X5_learnStream_5 n f σ l1 l2 l3 l4 = some res → x_W p l e ({ frames := 2, cells := 0, slots := 0, locals := 47 } : Room) s m args below meth c D vwCl A s.heap 4 ad (wfR cs ad) 6 0 0 (x_E below args s D vwCl 4 ad (wfR cs ad) A none res) σ 5 [(0, .ref (ad 0)), (1, .int l1), (2, .int l2), (3, .int l3), (4, .int l4)] [] := by
  intro f
  induction f with
  | zero =>
    intro σ l1 l2 l3 l4 h
    cases h
  | succ f ih =>
    intro σ l1 l2 l3 l4 h
    refine x_iload C0 dX5_learnStream_5 4 rfl ?_
    refine x_aload_n C0 dX5_learnStream_7 rfl 0 rfl ?_
    refine x_get C0 inu5 rfl 0 (by decide) mw_643 (by decide) wfR_0 rfl dX5_learnStream_8 ?_
    refine x_iload_n C0 dX5_learnStream_11 rfl 1 rfl ?_
    refine x_bipush C0 (v := 13) dX5_learnStream_12 kb_13 ?_
    refine x_pureS2 C0 (fun ad' => c_X5_of rfl) (x_cwS C0 mw_715 mw_716 mw_84 mw_717 hd_yX5_of ⟨rfl, rfl, Nat.le_of_ble_eq_true rfl, Nat.le_of_ble_eq_true rfl⟩) ⟨Nat.zero_le _, Nat.zero_le _⟩ (Nat.le_of_ble_eq_true rfl) dX5_learnStream_14 ?_
    refine x_iald C0 1 rfl (by decide) wfR_1 dX5_learnStream_17 h (fun _ h => ?_)
    refine x_pc (pc' := 18) rfl ?_
    refine x_icmp_ge C0 (tgt := 67) dX5_learnStream_18 rfl h (fun _ h => ?_) (fun _ h => ?_)
    · refine x_iload_n C0 dX5_learnStream_21 rfl 2 rfl ?_
      refine x_aload_n C0 dX5_learnStream_22 rfl 0 rfl ?_
      refine x_get C0 inu5 rfl 0 (by decide) mw_643 (by decide) wfR_0 rfl dX5_learnStream_23 ?_
      refine x_iload_n C0 dX5_learnStream_26 rfl 1 rfl ?_
      refine x_iload C0 dX5_learnStream_27 4 rfl ?_
      refine x_pureS2 C0 (fun ad' => c_X5_rowOf rfl) (x_cwS C0 mw_815 mw_816 mw_84 mw_817 hd_yX5_rowOf ⟨rfl, rfl, Nat.le_of_ble_eq_true rfl, Nat.le_of_ble_eq_true rfl⟩) ⟨Nat.zero_le _, Nat.zero_le _⟩ (Nat.le_of_ble_eq_true rfl) dX5_learnStream_29 ?_
      refine x_iconst C0 (v := 1) dX5_learnStream_32 ki_1 ?_
      refine x_pc (pc' := 33) rfl ?_
      refine x_iadd C0 dX5_learnStream_33 ?_
      refine x_iald C0 1 rfl (by decide) wfR_1 dX5_learnStream_34 h (fun _ h => ?_)
      refine x_isub C0 dX5_learnStream_35 ?_
      refine x_istore C0 dX5_learnStream_36 (L' := [(5, _), (0, _), (1, _), (2, _), (3, _), (4, _)]) (by decide) rfl ?_
      refine x_iload C0 dX5_learnStream_38 0 rfl ?_
      refine x_if_eq C0 (tgt := 59) dX5_learnStream_40 rfl h (fun _ h => ?_) (fun _ h => ?_)
      · refine x_sub [1, 2, 3, 4, 5] (L' := [(0, _), (1, _), (2, _), (3, _), (4, _)]) rfl ?_
        refine x_pc (pc' := 59) rfl ?_
        exact b_X5_learnStream_59 C0 n (fun σ l1 l2 l3 l4 h => ih σ l1 l2 l3 l4 h) _ _ _ _ _ h
      · refine x_iload C0 dX5_learnStream_43 0 rfl ?_
        refine x_bipush C0 (v := (-4)) dX5_learnStream_45 kb_m4 ?_
        refine x_iconst C0 (v := 4) dX5_learnStream_47 ki_4 ?_
        refine x_pureS3 C0 (fun ad' => c_X5_in rfl) (x_cwS C0 mw_696 mw_697 mw_84 mw_698 hd_yX5_in ⟨rfl, rfl, Nat.le_of_ble_eq_true rfl, Nat.le_of_ble_eq_true rfl⟩) ⟨Nat.zero_le _, Nat.zero_le _⟩ (Nat.le_of_ble_eq_true rfl) dX5_learnStream_48 ?_
        refine x_if_eq C0 (tgt := 59) dX5_learnStream_51 rfl h (fun _ h => ?_) (fun _ h => ?_)
        · refine x_sub [1, 2, 3, 4, 5] (L' := [(0, _), (1, _), (2, _), (3, _), (4, _)]) rfl ?_
          refine x_pc (pc' := 59) rfl ?_
          exact b_X5_learnStream_59 C0 n (fun σ l1 l2 l3 l4 h => ih σ l1 l2 l3 l4 h) _ _ _ _ _ h
        · refine x_iload C0 dX5_learnStream_54 5 rfl ?_
          refine x_goto C0 (tgt := 60) dX5_learnStream_56 rfl ?_
          refine x_sub [1, 2, 3, 5] (L' := [(0, _), (1, _), (2, _), (4, _)]) rfl ?_
          refine x_pc (pc' := 60) rfl ?_
          exact b_X5_learnStream_60 C0 n (fun σ l1 l2 l3 l4 h => ih σ l1 l2 l3 l4 h) _ _ _ _ _ h
    · refine x_iload_n C0 dX5_learnStream_67 rfl 3 rfl ?_
      refine x_if_ge C0 (tgt := 102) dX5_learnStream_68 rfl h (fun _ h => ?_) (fun _ h => ?_)
      · refine x_aload_n C0 dX5_learnStream_71 rfl 0 rfl ?_
        refine x_get C0 inu5 rfl 0 (by decide) mw_643 (by decide) wfR_0 rfl dX5_learnStream_72 ?_
        refine x_iload_n C0 dX5_learnStream_75 rfl 1 rfl ?_
        refine x_bipush C0 (v := 13) dX5_learnStream_76 kb_13 ?_
        refine x_pureS2 C0 (fun ad' => c_X5_of rfl) (x_cwS C0 mw_715 mw_716 mw_84 mw_717 hd_yX5_of ⟨rfl, rfl, Nat.le_of_ble_eq_true rfl, Nat.le_of_ble_eq_true rfl⟩) ⟨Nat.zero_le _, Nat.zero_le _⟩ (Nat.le_of_ble_eq_true rfl) dX5_learnStream_78 ?_
        refine x_iald C0 1 rfl (by decide) wfR_1 dX5_learnStream_81 h (fun _ h => ?_)
        refine x_iconst C0 (v := 3) dX5_learnStream_82 ki_3 ?_
        refine x_pc (pc' := 83) rfl ?_
        refine x_icmp_ne C0 (tgt := 92) dX5_learnStream_83 rfl h (fun _ h => ?_) (fun _ h => ?_)
        · refine x_aload_n C0 dX5_learnStream_86 rfl 0 rfl ?_
          refine x_iload_n C0 dX5_learnStream_87 rfl 1 rfl ?_
          refine x_iconst C0 (v := 0) dX5_learnStream_88 ki_0 ?_
          obtain ⟨q1, eq1, h⟩ := x_bind h
          refine x_callV20 C0 (c_X5_dropRow n eq1) (x_cwV C0 mw_818 mw_820 mw_66 mw_84 mw_821 hd_yX5_dropRow ⟨rfl, rfl, Nat.le_of_ble_eq_true rfl, Nat.le_of_ble_eq_true rfl⟩) (by decide) rfl wfR_0 rfl ⟨Nat.zero_le _, Nat.zero_le _⟩ (Nat.le_of_ble_eq_true rfl) dX5_learnStream_89 ?_
          refine x_sub [0, 1, 2] (L' := [(0, _), (1, _), (2, _)]) rfl ?_
          refine x_pc (pc' := 92) rfl ?_
          exact b_X5_learnStream_92 C0 n _ _ _ h
        · refine x_sub [0, 1, 2] (L' := [(0, _), (1, _), (2, _)]) rfl ?_
          refine x_pc (pc' := 92) rfl ?_
          exact b_X5_learnStream_92 C0 n _ _ _ h
      · refine x_iload_n C0 dX5_learnStream_102 rfl 2 rfl ?_
        refine x_aload_n C0 dX5_learnStream_103 rfl 0 rfl ?_
        refine x_get C0 inu5 rfl 0 (by decide) mw_643 (by decide) wfR_0 rfl dX5_learnStream_104 ?_
        refine x_iload_n C0 dX5_learnStream_107 rfl 1 rfl ?_
        refine x_iload_n C0 dX5_learnStream_108 rfl 3 rfl ?_
        refine x_pureS2 C0 (fun ad' => c_X5_rowOf rfl) (x_cwS C0 mw_815 mw_816 mw_84 mw_817 hd_yX5_rowOf ⟨rfl, rfl, Nat.le_of_ble_eq_true rfl, Nat.le_of_ble_eq_true rfl⟩) ⟨Nat.zero_le _, Nat.zero_le _⟩ (Nat.le_of_ble_eq_true rfl) dX5_learnStream_109 ?_
        refine x_iconst C0 (v := 1) dX5_learnStream_112 ki_1 ?_
        refine x_pc (pc' := 113) rfl ?_
        refine x_iadd C0 dX5_learnStream_113 ?_
        refine x_iald C0 1 rfl (by decide) wfR_1 dX5_learnStream_114 h (fun _ h => ?_)
        refine x_icmp_le C0 (tgt := 122) dX5_learnStream_115 rfl h (fun _ h => ?_) (fun _ h => ?_)
        · refine x_iconst C0 (v := 1) dX5_learnStream_118 ki_1 ?_
          refine x_goto C0 (tgt := 123) dX5_learnStream_119 rfl ?_
          refine x_sub [0, 1, 2, 3] (L' := [(0, _), (1, _), (2, _), (3, _)]) rfl ?_
          refine x_pc (pc' := 123) rfl ?_
          exact b_X5_learnStream_123 C0 n _ _ _ _ _ h
        · refine x_iconst C0 (v := (-1)) dX5_learnStream_122 ki_m1 ?_
          refine x_sub [0, 1, 2, 3] (L' := [(0, _), (1, _), (2, _), (3, _)]) rfl ?_
          refine x_pc (pc' := 123) rfl ?_
          exact b_X5_learnStream_123 C0 n _ _ _ _ _ h
set_option maxRecDepth 4000 in
set_option maxHeartbeats 2000000 in
theorem c_X5_learnStream {l : Launch} {D : va_G} {cs : Nat → ClassId} {ad : Nat → Nat} (n : Nat) {σ : xM} {x1 : Int32} {x2 : Int32}  {res : xM} (h : F_X5_learnStream n σ x1 x2 = some res) : x_Met l yX5_learnStream [Cond.code yX5_learnStream cX5_learnStream 6 none] ({ frames := 2, cells := 0, slots := 0, locals := 47 } : Room) D vwCl (xtys cs) 4 ad (wfR cs ad) [.ref (ad 0), .int x1, .int x2] σ none res := by
  refine x_Met_of (L0 := [(0, .ref (ad 0)), (1, .int x1), (2, .int x2)]) (own := RX5) (by decide) rfl rfl wfR_loc (Nat.le_of_ble_eq_true rfl) rfl ?_
  intro p e s m args below meth c A C0
  refine x_iconst C0 (v := (-1)) dX5_learnStream_0 ki_m1 ?_
  refine x_istore_n C0 dX5_learnStream_1 rfl (L' := [(3, _), (0, _), (1, _), (2, _)]) (by decide) rfl ?_
  refine x_iconst C0 (v := 0) dX5_learnStream_2 ki_0 ?_
  refine x_istore C0 dX5_learnStream_3 (L' := [(4, _), (3, _), (0, _), (1, _), (2, _)]) (by decide) rfl ?_
  refine x_sub [2, 3, 4, 1, 0] (L' := [(0, _), (1, _), (2, _), (3, _), (4, _)]) rfl ?_
  refine x_pc (pc' := 5) rfl ?_
  exact b_X5_learnStream_5 C0 n n _ _ _ _ _ h
set_option maxRecDepth 4000 in
set_option maxHeartbeats 2000000 in
theorem c_X5_learn {l : Launch} {D : va_G} {cs : Nat → ClassId} {ad : Nat → Nat} (n : Nat) {σ : xM} {x1 : Int32} {x2 : Int32} {x3 : Int32} {x4 : Int32}  {res : xM} (h : F_X5_learn n σ x1 x2 x3 x4 = some res) : x_Met l yX5_learn [Cond.code yX5_learn cX5_learn 5 none] ({ frames := 3, cells := 0, slots := 0, locals := 74 } : Room) D vwCl (xtys cs) 4 ad (wfR cs ad) [.ref (ad 0), .int x1, .int x2, .int x3, .int x4] σ none res := by
  refine x_Met_of (L0 := [(0, .ref (ad 0)), (1, .int x1), (2, .int x2), (3, .int x3), (4, .int x4)]) (own := RX5) (by decide) rfl rfl wfR_loc (Nat.le_of_ble_eq_true rfl) rfl ?_
  intro p e s m args below meth c A C0
  refine x_aload_n C0 dX5_learn_0 rfl 0 rfl ?_
  refine x_iconst C0 (v := 0) dX5_learn_1 ki_0 ?_
  refine x_put C0 inu5 tyX5 tyX5_ok nmX5 rfl 5 (by decide) mw_648 rfl rfl rfl (by decide) wfR_0 (Nat.le_of_ble_eq_true rfl) wpR_0_5 (fun r' h' k' => x_up_ne r' h' k') dX5_learn_2 ?_
  refine x_aload_n C0 dX5_learn_5 rfl 0 rfl ?_
  refine x_get C0 inu5 rfl 0 (by decide) mw_643 (by decide) wfR_0 rfl dX5_learn_6 ?_
  refine x_iload_n C0 dX5_learn_9 rfl 1 rfl ?_
  refine x_iconst C0 (v := 0) dX5_learn_10 ki_0 ?_
  refine x_pc (pc' := 11) rfl ?_
  refine x_pureS2 C0 (fun ad' => c_X5_of rfl) (x_cwS C0 mw_715 mw_716 mw_84 mw_717 hd_yX5_of ⟨rfl, rfl, Nat.le_of_ble_eq_true rfl, Nat.le_of_ble_eq_true rfl⟩) ⟨Nat.zero_le _, Nat.zero_le _⟩ (Nat.le_of_ble_eq_true rfl) dX5_learn_11 ?_
  refine x_iald C0 1 rfl (by decide) wfR_1 dX5_learn_14 h (fun _ h => ?_)
  refine x_ite h (fun hc h => ?_) (fun hc0 h => ?_)
  · refine x_top (congrArg Value.int hc) ?_
    refine x_lookup C0 (off := 25) (tgt := 40) dX5_learn_15 (by decide) (by decide) rfl ?_
    refine x_aload_n C0 dX5_learn_40 rfl 0 rfl ?_
    refine x_iload_n C0 dX5_learn_41 rfl 1 rfl ?_
    refine x_iload_n C0 dX5_learn_42 rfl 2 rfl ?_
    refine x_iload_n C0 dX5_learn_43 rfl 3 rfl ?_
    obtain ⟨q2, eq2, h⟩ := x_bind h
    refine x_callV30 C0 (c_X5_learnStride n eq2) (x_cwV C0 mw_811 mw_813 mw_65 mw_84 mw_814 hd_yX5_learnStride ⟨rfl, rfl, Nat.le_of_ble_eq_true rfl, Nat.le_of_ble_eq_true rfl⟩) (by decide) rfl wfR_0 rfl ⟨Nat.zero_le _, Nat.zero_le _⟩ (Nat.le_of_ble_eq_true rfl) dX5_learn_44 ?_
    refine x_goto C0 (tgt := 79) dX5_learn_47 rfl ?_
    obtain rfl := x_inj h
    exact x_vret C0 dX5_learn_79
  · refine x_ite h (fun hc h => ?_) (fun hc1 h => ?_)
    · refine x_top (congrArg Value.int hc) ?_
      refine x_lookup C0 (off := 35) (tgt := 50) dX5_learn_15 (by decide) (by decide) rfl ?_
      refine x_iload C0 dX5_learn_50 4 rfl ?_
      refine x_iconst C0 (v := 1) dX5_learn_52 ki_1 ?_
      refine x_icmp_eq C0 (tgt := 79) dX5_learn_53 rfl h (fun _ h => ?_) (fun _ h => ?_)
      · obtain rfl := x_inj h
        exact x_vret C0 dX5_learn_79
      · refine x_aload_n C0 dX5_learn_56 rfl 0 rfl ?_
        refine x_iload_n C0 dX5_learn_57 rfl 1 rfl ?_
        refine x_iload_n C0 dX5_learn_58 rfl 3 rfl ?_
        obtain ⟨q3, eq3, h⟩ := x_bind h
        refine x_callV20 C0 (c_X5_learnStream n eq3) (x_cwV C0 mw_826 mw_828 mw_68 mw_84 mw_829 hd_yX5_learnStream ⟨rfl, rfl, Nat.le_of_ble_eq_true rfl, Nat.le_of_ble_eq_true rfl⟩) (by decide) rfl wfR_0 rfl ⟨Nat.zero_le _, Nat.zero_le _⟩ (Nat.le_of_ble_eq_true rfl) dX5_learn_59 ?_
        refine x_goto C0 (tgt := 79) dX5_learn_62 rfl ?_
        obtain rfl := x_inj h
        exact x_vret C0 dX5_learn_79
    · refine x_lookup C0 (off := 50) (tgt := 65) dX5_learn_15 (by decide) (x_lk01 hc0 hc1) rfl ?_
      refine x_aload_n C0 dX5_learn_65 rfl 0 rfl ?_
      refine x_iload C0 dX5_learn_66 4 rfl ?_
      refine x_if_ne C0 (tgt := 75) dX5_learn_68 rfl h (fun _ h => ?_) (fun _ h => ?_)
      · refine x_iconst C0 (v := 1) dX5_learn_71 ki_1 ?_
        refine x_goto C0 (tgt := 76) dX5_learn_72 rfl ?_
        refine x_put C0 inu5 tyX5 tyX5_ok nmX5 rfl 5 (by decide) mw_648 rfl rfl rfl (by decide) wfR_0 (Nat.le_of_ble_eq_true rfl) wpR_0_5 (fun r' h' k' => x_up_ne r' h' k') dX5_learn_76 ?_
        obtain rfl := x_inj h
        exact x_vret C0 dX5_learn_79
      · refine x_iconst C0 (v := 0) dX5_learn_75 ki_0 ?_
        refine x_put C0 inu5 tyX5 tyX5_ok nmX5 rfl 5 (by decide) mw_648 rfl rfl rfl (by decide) wfR_0 (Nat.le_of_ble_eq_true rfl) wpR_0_5 (fun r' h' k' => x_up_ne r' h' k') dX5_learn_76 ?_
        obtain rfl := x_inj h
        exact x_vret C0 dX5_learn_79
set_option maxRecDepth 4000 in
set_option maxHeartbeats 2000000 in
theorem b_X5_fetchAhead_119 {p : Program} {l : Launch} {e : Env} {s : State} {m : MethodId} {args : Array Value} {below : List Frame} {meth : Method} {c : Code} {D : va_G} {cs : Nat → ClassId} {ad : Nat → Nat} {A : Nat → Prop} (C0 : x_C p s m args meth c D vwCl (xtys cs) A s.heap 4 ad (wfR cs ad) cX5_fetchAhead 7 RX5 (some FieldType.int))  (n : Nat) {res : Int32 × xM} {K23 : xM → Int32 → Int32 → Int32 → Int32 → Int32 → Option (Int32 × xM)} (hK23 : ∀ (σ : xM) (l1 : Int32) (l2 : Int32) (l3 : Int32) (l4 : Int32) (l5 : Int32) , K23 σ l1 l2 l3 l4 l5 = some res → x_W p l e ({ frames := 4, cells := 0, slots := 0, locals := 92 } : Room) s m args below meth c D vwCl A s.heap 4 ad (wfR cs ad) 7 0 0 (x_E below args s D vwCl 4 ad (wfR cs ad) A (some (.int res.1)) res.2) σ 23 [(0, .ref (ad 0)), (1, .int l1), (2, .int l2), (3, .int l3), (4, .int l4), (5, .int l5)] []) : ∀ (σ : xM) (l1 : Int32) (l2 : Int32) (l3 : Int32) (l4 : Int32) (l5 : Int32), B_X5_fetchAhead_119 n K23 σ l1 l2 l3 l4 l5 = some res → x_W p l e ({ frames := 4, cells := 0, slots := 0, locals := 92 } : Room) s m args below meth c D vwCl A s.heap 4 ad (wfR cs ad) 7 0 0 (x_E below args s D vwCl 4 ad (wfR cs ad) A (some (.int res.1)) res.2) σ 119 [(0, .ref (ad 0)), (1, .int l1), (2, .int l2), (3, .int l3), (4, .int l4), (5, .int l5)] [] := by
  intro σ l1 l2 l3 l4 l5 h
  refine x_iinc C0 (v := 1) (L' := [(5, _), (0, _), (1, _), (2, _), (3, _), (4, _)]) dX5_fetchAhead_119 5 rfl ki_1 (by decide) rfl ?_
  refine x_goto C0 (tgt := 23) dX5_fetchAhead_122 rfl ?_
  refine x_sub [1, 2, 3, 4, 5, 0] (L' := [(0, _), (1, _), (2, _), (3, _), (4, _), (5, _)]) rfl ?_
  refine x_pc (pc' := 23) rfl ?_
  exact hK23 _ _ _ _ _ _ h
set_option maxRecDepth 4000 in
set_option maxHeartbeats 2000000 in
theorem b_X5_fetchAhead_77 {p : Program} {l : Launch} {e : Env} {s : State} {m : MethodId} {args : Array Value} {below : List Frame} {meth : Method} {c : Code} {D : va_G} {cs : Nat → ClassId} {ad : Nat → Nat} {A : Nat → Prop} (C0 : x_C p s m args meth c D vwCl (xtys cs) A s.heap 4 ad (wfR cs ad) cX5_fetchAhead 7 RX5 (some FieldType.int))  (n : Nat) {res : Int32 × xM} {K23 : xM → Int32 → Int32 → Int32 → Int32 → Int32 → Option (Int32 × xM)} (hK23 : ∀ (σ : xM) (l1 : Int32) (l2 : Int32) (l3 : Int32) (l4 : Int32) (l5 : Int32) , K23 σ l1 l2 l3 l4 l5 = some res → x_W p l e ({ frames := 4, cells := 0, slots := 0, locals := 92 } : Room) s m args below meth c D vwCl A s.heap 4 ad (wfR cs ad) 7 0 0 (x_E below args s D vwCl 4 ad (wfR cs ad) A (some (.int res.1)) res.2) σ 23 [(0, .ref (ad 0)), (1, .int l1), (2, .int l2), (3, .int l3), (4, .int l4), (5, .int l5)] []) : ∀ (σ : xM) (l1 : Int32) (l2 : Int32) (l3 : Int32) (l4 : Int32) (l5 : Int32) (l6 : Int32), B_X5_fetchAhead_77 n K23 σ l1 l2 l3 l4 l5 l6 = some res → x_W p l e ({ frames := 4, cells := 0, slots := 0, locals := 92 } : Room) s m args below meth c D vwCl A s.heap 4 ad (wfR cs ad) 7 0 0 (x_E below args s D vwCl 4 ad (wfR cs ad) A (some (.int res.1)) res.2) σ 77 [(0, .ref (ad 0)), (1, .int l1), (2, .int l2), (3, .int l3), (4, .int l4), (5, .int l5), (6, .int l6)] [] := by
  intro σ l1 l2 l3 l4 l5 l6 h
  refine x_iload C0 dX5_fetchAhead_77 6 rfl ?_
  refine x_pureS1 C0 (fun ad' => c_X5_isLine rfl) (x_cwS C0 mw_776 mw_777 mw_84 mw_778 hd_yX5_isLine ⟨rfl, rfl, Nat.le_of_ble_eq_true rfl, Nat.le_of_ble_eq_true rfl⟩) ⟨Nat.zero_le _, Nat.zero_le _⟩ (Nat.le_of_ble_eq_true rfl) dX5_fetchAhead_79 ?_
  refine x_if_eq C0 (tgt := 119) dX5_fetchAhead_82 rfl h (fun _ h => ?_) (fun _ h => ?_)
  · refine x_sub [0, 1, 2, 3, 4, 5] (L' := [(0, _), (1, _), (2, _), (3, _), (4, _), (5, _)]) rfl ?_
    refine x_pc (pc' := 119) rfl ?_
    exact b_X5_fetchAhead_119 C0 n hK23 _ _ _ _ _ _ h
  · refine x_aload_n C0 dX5_fetchAhead_85 rfl 0 rfl ?_
    refine x_iload C0 dX5_fetchAhead_86 6 rfl ?_
    obtain ⟨q4, eq4, h⟩ := x_bind h
    refine x_callV11 C0 (c_X5_placeOf n eq4) (x_cwV C0 mw_791 mw_793 mw_60 mw_84 mw_794 hd_yX5_placeOf ⟨rfl, rfl, Nat.le_of_ble_eq_true rfl, Nat.le_of_ble_eq_true rfl⟩) (by decide) rfl wfR_0 rfl ⟨Nat.zero_le _, Nat.zero_le _⟩ (Nat.le_of_ble_eq_true rfl) dX5_fetchAhead_88 ?_
    refine x_if_ge C0 (tgt := 119) dX5_fetchAhead_91 rfl h (fun _ h => ?_) (fun _ h => ?_)
    · refine x_aload_n C0 dX5_fetchAhead_94 rfl 0 rfl ?_
      refine x_iload C0 dX5_fetchAhead_95 6 rfl ?_
      refine x_iload_n C0 dX5_fetchAhead_97 rfl 1 rfl ?_
      obtain ⟨q5, eq5, h⟩ := x_bind h
      refine x_callV20 C0 (c_X5_fetch n eq5) (x_cwV C0 mw_795 mw_797 mw_61 mw_84 mw_798 hd_yX5_fetch ⟨rfl, rfl, Nat.le_of_ble_eq_true rfl, Nat.le_of_ble_eq_true rfl⟩) (by decide) rfl wfR_0 rfl ⟨Nat.zero_le _, Nat.zero_le _⟩ (Nat.le_of_ble_eq_true rfl) dX5_fetchAhead_98 ?_
      refine x_aload_n C0 dX5_fetchAhead_101 rfl 0 rfl ?_
      refine x_get C0 inu5 rfl 0 (by decide) mw_643 (by decide) wfR_0 rfl dX5_fetchAhead_102 ?_
      refine x_iload_n C0 dX5_fetchAhead_105 rfl 1 rfl ?_
      refine x_pc (pc' := 106) rfl ?_
      refine x_bipush C0 (v := 6) dX5_fetchAhead_106 kb_6 ?_
      refine x_pureS2 C0 (fun ad' => c_X5_of rfl) (x_cwS C0 mw_715 mw_716 mw_84 mw_717 hd_yX5_of ⟨rfl, rfl, Nat.le_of_ble_eq_true rfl, Nat.le_of_ble_eq_true rfl⟩) ⟨Nat.zero_le _, Nat.zero_le _⟩ (Nat.le_of_ble_eq_true rfl) dX5_fetchAhead_108 ?_
      refine x_dup2 C0 dX5_fetchAhead_111 rfl rfl ?_
      refine x_iald C0 1 rfl (by decide) wfR_1 dX5_fetchAhead_112 h (fun _ h => ?_)
      refine x_iconst C0 (v := 1) dX5_fetchAhead_113 ki_1 ?_
      refine x_iadd C0 dX5_fetchAhead_114 ?_
      refine x_iast C0 1 rfl (by decide) wfR_1 wpR_1 (fun r' h' k' => x_up_ne r' h' k') dX5_fetchAhead_115 h (fun _ h => ?_)
      refine x_iinc C0 (v := 1) (L' := [(4, _), (0, _), (1, _), (2, _), (3, _), (5, _), (6, _)]) dX5_fetchAhead_116 4 rfl ki_1 (by decide) rfl ?_
      refine x_sub [1, 2, 3, 4, 0, 5] (L' := [(0, _), (1, _), (2, _), (3, _), (4, _), (5, _)]) rfl ?_
      refine x_pc (pc' := 119) rfl ?_
      exact b_X5_fetchAhead_119 C0 n hK23 _ _ _ _ _ _ h
    · refine x_sub [0, 1, 2, 3, 4, 5] (L' := [(0, _), (1, _), (2, _), (3, _), (4, _), (5, _)]) rfl ?_
      refine x_pc (pc' := 119) rfl ?_
      exact b_X5_fetchAhead_119 C0 n hK23 _ _ _ _ _ _ h
set_option maxRecDepth 4000 in
set_option maxHeartbeats 2000000 in
theorem b_X5_fetchAhead_23 {p : Program} {l : Launch} {e : Env} {s : State} {m : MethodId} {args : Array Value} {below : List Frame} {meth : Method} {c : Code} {D : va_G} {cs : Nat → ClassId} {ad : Nat → Nat} {A : Nat → Prop} (C0 : x_C p s m args meth c D vwCl (xtys cs) A s.heap 4 ad (wfR cs ad) cX5_fetchAhead 7 RX5 (some FieldType.int))  (n : Nat) {res : Int32 × xM} : ∀ (f : Nat) (σ : xM) (l1 : Int32) (l2 : Int32) (l3 : Int32) (l4 : Int32) (l5 : Int32), B_X5_fetchAhead_23 n f σ l1 l2 l3 l4 l5 = some res → x_W p l e ({ frames := 4, cells := 0, slots := 0, locals := 92 } : Room) s m args below meth c D vwCl A s.heap 4 ad (wfR cs ad) 7 0 0 (x_E below args s D vwCl 4 ad (wfR cs ad) A (some (.int res.1)) res.2) σ 23 [(0, .ref (ad 0)), (1, .int l1), (2, .int l2), (3, .int l3), (4, .int l4), (5, .int l5)] [] := by
  intro f
  induction f with
  | zero =>
    intro σ l1 l2 l3 l4 l5 h
    cases h
  | succ f ih =>
    intro σ l1 l2 l3 l4 l5 h
    refine x_iload C0 dX5_fetchAhead_23 5 rfl ?_
    refine x_iload_n C0 dX5_fetchAhead_25 rfl 3 rfl ?_
    refine x_icmp_gt C0 (tgt := 125) dX5_fetchAhead_26 rfl h (fun _ h => ?_) (fun _ h => ?_)
    · refine x_iload C0 dX5_fetchAhead_125 4 rfl ?_
      obtain rfl := x_inj h
      exact x_iret C0 dX5_fetchAhead_127
    · refine x_iload_n C0 dX5_fetchAhead_29 rfl 2 rfl ?_
      refine x_iload C0 dX5_fetchAhead_30 5 rfl ?_
      refine x_aload_n C0 dX5_fetchAhead_32 rfl 0 rfl ?_
      refine x_get C0 inu5 rfl 5 (by decide) mw_648 (by decide) wfR_0 rfl dX5_fetchAhead_33 ?_
      refine x_imul C0 dX5_fetchAhead_36 ?_
      refine x_iadd C0 dX5_fetchAhead_37 ?_
      refine x_istore C0 dX5_fetchAhead_38 (L' := [(6, _), (0, _), (1, _), (2, _), (3, _), (4, _), (5, _)]) (by decide) rfl ?_
      refine x_pc (pc' := 40) rfl ?_
      refine x_iload C0 dX5_fetchAhead_40 0 rfl ?_
      refine x_pureS1 C0 (fun ad' => c_X5_isLine rfl) (x_cwS C0 mw_776 mw_777 mw_84 mw_778 hd_yX5_isLine ⟨rfl, rfl, Nat.le_of_ble_eq_true rfl, Nat.le_of_ble_eq_true rfl⟩) ⟨Nat.zero_le _, Nat.zero_le _⟩ (Nat.le_of_ble_eq_true rfl) dX5_fetchAhead_42 ?_
      refine x_if_eq C0 (tgt := 77) dX5_fetchAhead_45 rfl h (fun _ h => ?_) (fun _ h => ?_)
      · refine x_sub [1, 2, 3, 4, 5, 6, 0] (L' := [(0, _), (1, _), (2, _), (3, _), (4, _), (5, _), (6, _)]) rfl ?_
        refine x_pc (pc' := 77) rfl ?_
        exact b_X5_fetchAhead_77 C0 n (fun σ l1 l2 l3 l4 l5 h => ih σ l1 l2 l3 l4 l5 h) _ _ _ _ _ _ _ h
      · refine x_iload_n C0 dX5_fetchAhead_48 rfl 2 rfl ?_
        refine x_aload_n C0 dX5_fetchAhead_49 rfl 1 rfl ?_
        refine x_get C0 inu5 rfl 6 (by decide) mw_649 (by decide) wfR_0 rfl dX5_fetchAhead_50 ?_
        refine x_icmp_ne C0 (tgt := 77) dX5_fetchAhead_53 rfl h (fun _ h => ?_) (fun _ h => ?_)
        · refine x_aload_n C0 dX5_fetchAhead_56 rfl 1 rfl ?_
          refine x_get C0 inu5 rfl 7 (by decide) mw_650 (by decide) wfR_0 rfl dX5_fetchAhead_57 ?_
          refine x_aload_n C0 dX5_fetchAhead_60 rfl 1 rfl ?_
          refine x_get C0 inu5 rfl 8 (by decide) mw_651 (by decide) wfR_0 rfl dX5_fetchAhead_61 ?_
          refine x_iload C0 dX5_fetchAhead_64 0 rfl ?_
          refine x_iast C0 1 rfl (by decide) wfR_3 wpR_3 (fun r' h' k' => x_up_ne r' h' k') dX5_fetchAhead_66 h (fun _ h => ?_)
          refine x_aload_n C0 dX5_fetchAhead_67 rfl 1 rfl ?_
          refine x_pc (pc' := 68) rfl ?_
          refine x_dup C0 dX5_fetchAhead_68 rfl ?_
          refine x_get C0 inu5 rfl 8 (by decide) mw_651 (by decide) wfR_0 rfl dX5_fetchAhead_69 ?_
          refine x_iconst C0 (v := 1) dX5_fetchAhead_72 ki_1 ?_
          refine x_iadd C0 dX5_fetchAhead_73 ?_
          refine x_put C0 inu5 tyX5 tyX5_ok nmX5 rfl 8 (by decide) mw_651 rfl rfl rfl (by decide) wfR_0 (Nat.le_of_ble_eq_true rfl) wpR_0_8 (fun r' h' k' => x_up_ne r' h' k') dX5_fetchAhead_74 ?_
          refine x_sub [1, 2, 3, 4, 5, 6, 0] (L' := [(0, _), (1, _), (2, _), (3, _), (4, _), (5, _), (6, _)]) rfl ?_
          refine x_pc (pc' := 77) rfl ?_
          exact b_X5_fetchAhead_77 C0 n (fun σ l1 l2 l3 l4 l5 h => ih σ l1 l2 l3 l4 l5 h) _ _ _ _ _ _ _ h
        · refine x_sub [1, 2, 3, 4, 5, 6, 0] (L' := [(0, _), (1, _), (2, _), (3, _), (4, _), (5, _), (6, _)]) rfl ?_
          refine x_pc (pc' := 77) rfl ?_
          exact b_X5_fetchAhead_77 C0 n (fun σ l1 l2 l3 l4 l5 h => ih σ l1 l2 l3 l4 l5 h) _ _ _ _ _ _ _ h
set_option maxRecDepth 4000 in
set_option maxHeartbeats 2000000 in
theorem b_X5_fetchAhead_16 {p : Program} {l : Launch} {e : Env} {s : State} {m : MethodId} {args : Array Value} {below : List Frame} {meth : Method} {c : Code} {D : va_G} {cs : Nat → ClassId} {ad : Nat → Nat} {A : Nat → Prop} (C0 : x_C p s m args meth c D vwCl (xtys cs) A s.heap 4 ad (wfR cs ad) cX5_fetchAhead 7 RX5 (some FieldType.int))  (n : Nat) {res : Int32 × xM} : ∀ (σ : xM) (l1 : Int32) (l2 : Int32) (s0 : Int32), B_X5_fetchAhead_16 n σ l1 l2 s0 = some res → x_W p l e ({ frames := 4, cells := 0, slots := 0, locals := 92 } : Room) s m args below meth c D vwCl A s.heap 4 ad (wfR cs ad) 7 0 0 (x_E below args s D vwCl 4 ad (wfR cs ad) A (some (.int res.1)) res.2) σ 16 [(0, .ref (ad 0)), (1, .int l1), (2, .int l2)] [.int s0] := by
  intro σ l1 l2 s0 h
  refine x_istore_n C0 dX5_fetchAhead_16 rfl (L' := [(3, _), (0, _), (1, _), (2, _)]) (by decide) rfl ?_
  refine x_iconst C0 (v := 0) dX5_fetchAhead_17 ki_0 ?_
  refine x_istore C0 dX5_fetchAhead_18 (L' := [(4, _), (3, _), (0, _), (1, _), (2, _)]) (by decide) rfl ?_
  refine x_iconst C0 (v := 1) dX5_fetchAhead_20 ki_1 ?_
  refine x_istore C0 dX5_fetchAhead_21 (L' := [(5, _), (4, _), (3, _), (0, _), (1, _), (2, _)]) (by decide) rfl ?_
  refine x_sub [3, 4, 5, 2, 1, 0] (L' := [(0, _), (1, _), (2, _), (3, _), (4, _), (5, _)]) rfl ?_
  refine x_pc (pc' := 23) rfl ?_
  exact b_X5_fetchAhead_23 C0 n n _ _ _ _ _ _ h
set_option maxRecDepth 4000 in
set_option maxHeartbeats 2000000 in
theorem c_X5_fetchAhead {l : Launch} {D : va_G} {cs : Nat → ClassId} {ad : Nat → Nat} (n : Nat) {σ : xM} {x1 : Int32} {x2 : Int32}  {res : Int32 × xM} (h : F_X5_fetchAhead n σ x1 x2 = some res) : x_Met l yX5_fetchAhead [Cond.code yX5_fetchAhead cX5_fetchAhead 7 (some FieldType.int)] ({ frames := 4, cells := 0, slots := 0, locals := 92 } : Room) D vwCl (xtys cs) 4 ad (wfR cs ad) [.ref (ad 0), .int x1, .int x2] σ (some (.int res.1)) res.2 := by
  refine x_Met_of (L0 := [(0, .ref (ad 0)), (1, .int x1), (2, .int x2)]) (own := RX5) (by decide) rfl rfl wfR_loc (Nat.le_of_ble_eq_true rfl) rfl ?_
  intro p e s m args below meth c A C0
  refine x_aload_n C0 dX5_fetchAhead_0 rfl 0 rfl ?_
  refine x_get C0 inu5 rfl 5 (by decide) mw_648 (by decide) wfR_0 rfl dX5_fetchAhead_1 ?_
  refine x_if_ne C0 (tgt := 11) dX5_fetchAhead_4 rfl h (fun _ h => ?_) (fun _ h => ?_)
  · refine x_iconst C0 (v := 0) dX5_fetchAhead_7 ki_0 ?_
    refine x_goto C0 (tgt := 16) dX5_fetchAhead_8 rfl ?_
    refine x_sub [0, 1, 2] (L' := [(0, _), (1, _), (2, _)]) rfl ?_
    refine x_pc (pc' := 16) rfl ?_
    exact b_X5_fetchAhead_16 C0 n _ _ _ _ h
  · refine x_aload_n C0 dX5_fetchAhead_11 rfl 0 rfl ?_
    refine x_iload_n C0 dX5_fetchAhead_12 rfl 1 rfl ?_
    obtain ⟨q1, eq1, h⟩ := x_bind h
    refine x_callV11 C0 (c_X5_reachOf n eq1) (x_cwV C0 mw_834 mw_836 mw_70 mw_84 mw_837 hd_yX5_reachOf ⟨rfl, rfl, Nat.le_of_ble_eq_true rfl, Nat.le_of_ble_eq_true rfl⟩) (by decide) rfl wfR_0 rfl ⟨Nat.zero_le _, Nat.zero_le _⟩ (Nat.le_of_ble_eq_true rfl) dX5_fetchAhead_13 ?_
    refine x_sub [0, 1, 2] (L' := [(0, _), (1, _), (2, _)]) rfl ?_
    refine x_pc (pc' := 16) rfl ?_
    exact b_X5_fetchAhead_16 C0 n _ _ _ _ h
set_option maxRecDepth 4000 in
set_option maxHeartbeats 2000000 in
theorem b_X5_work_114 {p : Program} {l : Launch} {e : Env} {s : State} {m : MethodId} {args : Array Value} {below : List Frame} {meth : Method} {c : Code} {D : va_G} {cs : Nat → ClassId} {ad : Nat → Nat} {A : Nat → Prop} (C0 : x_C p s m args meth c D vwCl (xtys cs) A s.heap 4 ad (wfR cs ad) cX5_work 2 RX5 none)  (n : Nat) {res : xM} {K2 : xM → Int32 → Option xM} (hK2 : ∀ (σ : xM) (l1 : Int32) , K2 σ l1 = some res → x_W p l e ({ frames := 1, cells := 0, slots := 0, locals := 21 } : Room) s m args below meth c D vwCl A s.heap 4 ad (wfR cs ad) 2 0 0 (x_E below args s D vwCl 4 ad (wfR cs ad) A none res) σ 2 [(0, .ref (ad 0)), (1, .int l1)] []) : ∀ (σ : xM) (l1 : Int32), B_X5_work_114 n K2 σ l1 = some res → x_W p l e ({ frames := 1, cells := 0, slots := 0, locals := 21 } : Room) s m args below meth c D vwCl A s.heap 4 ad (wfR cs ad) 2 0 0 (x_E below args s D vwCl 4 ad (wfR cs ad) A none res) σ 114 [(0, .ref (ad 0)), (1, .int l1)] [] := by
  intro σ l1 h
  refine x_iinc C0 (v := 1) (L' := [(1, _), (0, _)]) dX5_work_114 1 rfl ki_1 (by decide) rfl ?_
  refine x_goto C0 (tgt := 2) dX5_work_117 rfl ?_
  refine x_sub [1, 0] (L' := [(0, _), (1, _)]) rfl ?_
  refine x_pc (pc' := 2) rfl ?_
  exact hK2 _ _ h
set_option maxRecDepth 4000 in
set_option maxHeartbeats 2000000 in
theorem b_X5_work_2 {p : Program} {l : Launch} {e : Env} {s : State} {m : MethodId} {args : Array Value} {below : List Frame} {meth : Method} {c : Code} {D : va_G} {cs : Nat → ClassId} {ad : Nat → Nat} {A : Nat → Prop} (C0 : x_C p s m args meth c D vwCl (xtys cs) A s.heap 4 ad (wfR cs ad) cX5_work 2 RX5 none)  (n : Nat) {res : xM} : ∀ (f : Nat) (σ : xM) (l1 : Int32), B_X5_work_2 n f σ l1 = some res → x_W p l e ({ frames := 1, cells := 0, slots := 0, locals := 21 } : Room) s m args below meth c D vwCl A s.heap 4 ad (wfR cs ad) 2 0 0 (x_E below args s D vwCl 4 ad (wfR cs ad) A none res) σ 2 [(0, .ref (ad 0)), (1, .int l1)] [] := by
  intro f
  induction f with
  | zero =>
    intro σ l1 h
    cases h
  | succ f ih =>
    intro σ l1 h
    refine x_iload_n C0 dX5_work_2 rfl 1 rfl ?_
    refine x_aload_n C0 dX5_work_3 rfl 0 rfl ?_
    refine x_get C0 inu5 rfl 0 (by decide) mw_643 (by decide) wfR_0 rfl dX5_work_4 ?_
    refine x_sipush C0 (v := 351) dX5_work_7 ks_351 ?_
    refine x_iald C0 1 rfl (by decide) wfR_1 dX5_work_10 h (fun _ h => ?_)
    refine x_icmp_ge C0 (tgt := 120) dX5_work_11 rfl h (fun _ h => ?_) (fun _ h => ?_)
    · refine x_aload_n C0 dX5_work_14 rfl 0 rfl ?_
      refine x_get C0 inu5 rfl 0 (by decide) mw_643 (by decide) wfR_0 rfl dX5_work_15 ?_
      refine x_iload_n C0 dX5_work_18 rfl 1 rfl ?_
      refine x_iconst C0 (v := 3) dX5_work_19 ki_3 ?_
      refine x_pureS2 C0 (fun ad' => c_X5_of rfl) (x_cwS C0 mw_715 mw_716 mw_84 mw_717 hd_yX5_of ⟨rfl, rfl, Nat.le_of_ble_eq_true rfl, Nat.le_of_ble_eq_true rfl⟩) ⟨Nat.zero_le _, Nat.zero_le _⟩ (Nat.le_of_ble_eq_true rfl) dX5_work_20 ?_
      refine x_iald C0 1 rfl (by decide) wfR_1 dX5_work_23 h (fun _ h => ?_)
      refine x_iconst C0 (v := 2) dX5_work_24 ki_2 ?_
      refine x_pc (pc' := 25) rfl ?_
      refine x_icmp_ne C0 (tgt := 114) dX5_work_25 rfl h (fun _ h => ?_) (fun _ h => ?_)
      · refine x_aload_n C0 dX5_work_28 rfl 0 rfl ?_
        refine x_get C0 inu5 rfl 0 (by decide) mw_643 (by decide) wfR_0 rfl dX5_work_29 ?_
        refine x_iload_n C0 dX5_work_32 rfl 1 rfl ?_
        refine x_iconst C0 (v := 4) dX5_work_33 ki_4 ?_
        refine x_pureS2 C0 (fun ad' => c_X5_of rfl) (x_cwS C0 mw_715 mw_716 mw_84 mw_717 hd_yX5_of ⟨rfl, rfl, Nat.le_of_ble_eq_true rfl, Nat.le_of_ble_eq_true rfl⟩) ⟨Nat.zero_le _, Nat.zero_le _⟩ (Nat.le_of_ble_eq_true rfl) dX5_work_34 ?_
        refine x_dup2 C0 dX5_work_37 rfl rfl ?_
        refine x_iald C0 1 rfl (by decide) wfR_1 dX5_work_38 h (fun _ h => ?_)
        refine x_pc (pc' := 39) rfl ?_
        refine x_iconst C0 (v := 1) dX5_work_39 ki_1 ?_
        refine x_isub C0 dX5_work_40 ?_
        refine x_iast C0 1 rfl (by decide) wfR_1 wpR_1 (fun r' h' k' => x_up_ne r' h' k') dX5_work_41 h (fun _ h => ?_)
        refine x_aload_n C0 dX5_work_42 rfl 0 rfl ?_
        refine x_get C0 inu5 rfl 0 (by decide) mw_643 (by decide) wfR_0 rfl dX5_work_43 ?_
        refine x_iload_n C0 dX5_work_46 rfl 1 rfl ?_
        refine x_bipush C0 (v := 10) dX5_work_47 kb_10 ?_
        refine x_pureS2 C0 (fun ad' => c_X5_of rfl) (x_cwS C0 mw_715 mw_716 mw_84 mw_717 hd_yX5_of ⟨rfl, rfl, Nat.le_of_ble_eq_true rfl, Nat.le_of_ble_eq_true rfl⟩) ⟨Nat.zero_le _, Nat.zero_le _⟩ (Nat.le_of_ble_eq_true rfl) dX5_work_49 ?_
        refine x_pc (pc' := 52) rfl ?_
        refine x_dup2 C0 dX5_work_52 rfl rfl ?_
        refine x_iald C0 1 rfl (by decide) wfR_1 dX5_work_53 h (fun _ h => ?_)
        refine x_iconst C0 (v := 1) dX5_work_54 ki_1 ?_
        refine x_iadd C0 dX5_work_55 ?_
        refine x_iast C0 1 rfl (by decide) wfR_1 wpR_1 (fun r' h' k' => x_up_ne r' h' k') dX5_work_56 h (fun _ h => ?_)
        refine x_aload_n C0 dX5_work_57 rfl 0 rfl ?_
        refine x_get C0 inu5 rfl 0 (by decide) mw_643 (by decide) wfR_0 rfl dX5_work_58 ?_
        refine x_iload_n C0 dX5_work_61 rfl 1 rfl ?_
        refine x_pc (pc' := 62) rfl ?_
        refine x_iconst C0 (v := 4) dX5_work_62 ki_4 ?_
        refine x_pureS2 C0 (fun ad' => c_X5_of rfl) (x_cwS C0 mw_715 mw_716 mw_84 mw_717 hd_yX5_of ⟨rfl, rfl, Nat.le_of_ble_eq_true rfl, Nat.le_of_ble_eq_true rfl⟩) ⟨Nat.zero_le _, Nat.zero_le _⟩ (Nat.le_of_ble_eq_true rfl) dX5_work_63 ?_
        refine x_iald C0 1 rfl (by decide) wfR_1 dX5_work_66 h (fun _ h => ?_)
        refine x_if_ne C0 (tgt := 114) dX5_work_67 rfl h (fun _ h => ?_) (fun _ h => ?_)
        · refine x_aload_n C0 dX5_work_70 rfl 0 rfl ?_
          refine x_get C0 inu5 rfl 0 (by decide) mw_643 (by decide) wfR_0 rfl dX5_work_71 ?_
          refine x_iload_n C0 dX5_work_74 rfl 1 rfl ?_
          refine x_iconst C0 (v := 3) dX5_work_75 ki_3 ?_
          refine x_pureS2 C0 (fun ad' => c_X5_of rfl) (x_cwS C0 mw_715 mw_716 mw_84 mw_717 hd_yX5_of ⟨rfl, rfl, Nat.le_of_ble_eq_true rfl, Nat.le_of_ble_eq_true rfl⟩) ⟨Nat.zero_le _, Nat.zero_le _⟩ (Nat.le_of_ble_eq_true rfl) dX5_work_76 ?_
          refine x_iconst C0 (v := 1) dX5_work_79 ki_1 ?_
          refine x_iast C0 1 rfl (by decide) wfR_1 wpR_1 (fun r' h' k' => x_up_ne r' h' k') dX5_work_80 h (fun _ h => ?_)
          refine x_pc (pc' := 81) rfl ?_
          refine x_aload_n C0 dX5_work_81 rfl 0 rfl ?_
          refine x_get C0 inu5 rfl 0 (by decide) mw_643 (by decide) wfR_0 rfl dX5_work_82 ?_
          refine x_iload_n C0 dX5_work_85 rfl 1 rfl ?_
          refine x_iconst C0 (v := 5) dX5_work_86 ki_5 ?_
          refine x_pureS2 C0 (fun ad' => c_X5_of rfl) (x_cwS C0 mw_715 mw_716 mw_84 mw_717 hd_yX5_of ⟨rfl, rfl, Nat.le_of_ble_eq_true rfl, Nat.le_of_ble_eq_true rfl⟩) ⟨Nat.zero_le _, Nat.zero_le _⟩ (Nat.le_of_ble_eq_true rfl) dX5_work_87 ?_
          refine x_aload_n C0 dX5_work_90 rfl 0 rfl ?_
          refine x_get C0 inu5 rfl 0 (by decide) mw_643 (by decide) wfR_0 rfl dX5_work_91 ?_
          refine x_sipush C0 (v := 352) dX5_work_94 ks_352 ?_
          refine x_pc (pc' := 97) rfl ?_
          refine x_iald C0 1 rfl (by decide) wfR_1 dX5_work_97 h (fun _ h => ?_)
          refine x_iast C0 1 rfl (by decide) wfR_1 wpR_1 (fun r' h' k' => x_up_ne r' h' k') dX5_work_98 h (fun _ h => ?_)
          refine x_aload_n C0 dX5_work_99 rfl 0 rfl ?_
          refine x_get C0 inu5 rfl 0 (by decide) mw_643 (by decide) wfR_0 rfl dX5_work_100 ?_
          refine x_iload_n C0 dX5_work_103 rfl 1 rfl ?_
          refine x_bipush C0 (v := 12) dX5_work_104 kb_12 ?_
          refine x_pureS2 C0 (fun ad' => c_X5_of rfl) (x_cwS C0 mw_715 mw_716 mw_84 mw_717 hd_yX5_of ⟨rfl, rfl, Nat.le_of_ble_eq_true rfl, Nat.le_of_ble_eq_true rfl⟩) ⟨Nat.zero_le _, Nat.zero_le _⟩ (Nat.le_of_ble_eq_true rfl) dX5_work_106 ?_
          refine x_dup2 C0 dX5_work_109 rfl rfl ?_
          refine x_pc (pc' := 110) rfl ?_
          refine x_iald C0 1 rfl (by decide) wfR_1 dX5_work_110 h (fun _ h => ?_)
          refine x_iconst C0 (v := 1) dX5_work_111 ki_1 ?_
          refine x_iadd C0 dX5_work_112 ?_
          refine x_iast C0 1 rfl (by decide) wfR_1 wpR_1 (fun r' h' k' => x_up_ne r' h' k') dX5_work_113 h (fun _ h => ?_)
          refine x_sub [0, 1] (L' := [(0, _), (1, _)]) rfl ?_
          refine x_pc (pc' := 114) rfl ?_
          exact b_X5_work_114 C0 n (fun σ l1 h => ih σ l1 h) _ _ h
        · refine x_sub [0, 1] (L' := [(0, _), (1, _)]) rfl ?_
          refine x_pc (pc' := 114) rfl ?_
          exact b_X5_work_114 C0 n (fun σ l1 h => ih σ l1 h) _ _ h
      · refine x_sub [0, 1] (L' := [(0, _), (1, _)]) rfl ?_
        refine x_pc (pc' := 114) rfl ?_
        exact b_X5_work_114 C0 n (fun σ l1 h => ih σ l1 h) _ _ h
    · obtain rfl := x_inj h
      exact x_vret C0 dX5_work_120
set_option maxRecDepth 4000 in
set_option maxHeartbeats 2000000 in
theorem c_X5_work {l : Launch} {D : va_G} {cs : Nat → ClassId} {ad : Nat → Nat} (n : Nat) {σ : xM}  {res : xM} (h : F_X5_work n σ = some res) : x_Met l yX5_work [Cond.code yX5_work cX5_work 2 none] ({ frames := 1, cells := 0, slots := 0, locals := 21 } : Room) D vwCl (xtys cs) 4 ad (wfR cs ad) [.ref (ad 0)] σ none res := by
  refine x_Met_of (L0 := [(0, .ref (ad 0))]) (own := RX5) (by decide) rfl rfl wfR_loc (Nat.le_of_ble_eq_true rfl) rfl ?_
  intro p e s m args below meth c A C0
  refine x_iconst C0 (v := 0) dX5_work_0 ki_0 ?_
  refine x_istore_n C0 dX5_work_1 rfl (L' := [(1, _), (0, _)]) (by decide) rfl ?_
  refine x_sub [1, 0] (L' := [(0, _), (1, _)]) rfl ?_
  refine x_pc (pc' := 2) rfl ?_
  exact b_X5_work_2 C0 n n _ _ h
set_option maxRecDepth 4000 in
set_option maxHeartbeats 2000000 in
theorem b_X5_use_70 {p : Program} {l : Launch} {e : Env} {s : State} {m : MethodId} {args : Array Value} {below : List Frame} {meth : Method} {c : Code} {D : va_G} {cs : Nat → ClassId} {ad : Nat → Nat} {A : Nat → Prop} (C0 : x_C p s m args meth c D vwCl (xtys cs) A s.heap 4 ad (wfR cs ad) cX5_use 2 RX5 none)  (n : Nat) {res : xM} : ∀ (σ : xM) (s1 : Int32) (s2 : Int32), B_X5_use_70 n σ s1 s2 = some res → x_W p l e ({ frames := 1, cells := 0, slots := 0, locals := 21 } : Room) s m args below meth c D vwCl A s.heap 4 ad (wfR cs ad) 2 0 0 (x_E below args s D vwCl 4 ad (wfR cs ad) A none res) σ 70 [] [.int s2, .int s1, .ref (ad 1)] := by
  intro σ s1 s2 h
  refine x_iast C0 1 rfl (by decide) wfR_1 wpR_1 (fun r' h' k' => x_up_ne r' h' k') dX5_use_70 h (fun _ h => ?_)
  obtain rfl := x_inj h
  exact x_vret C0 dX5_use_71
set_option maxRecDepth 4000 in
set_option maxHeartbeats 2000000 in
theorem c_X5_use {l : Launch} {D : va_G} {cs : Nat → ClassId} {ad : Nat → Nat} (n : Nat) {σ : xM} {x1 : Int32}  {res : xM} (h : F_X5_use n σ x1 = some res) : x_Met l yX5_use [Cond.code yX5_use cX5_use 2 none] ({ frames := 1, cells := 0, slots := 0, locals := 21 } : Room) D vwCl (xtys cs) 4 ad (wfR cs ad) [.ref (ad 0), .int x1] σ none res := by
  refine x_Met_of (L0 := [(0, .ref (ad 0)), (1, .int x1)]) (own := RX5) (by decide) rfl rfl wfR_loc (Nat.le_of_ble_eq_true rfl) rfl ?_
  intro p e s m args below meth c A C0
  refine x_aload_n C0 dX5_use_0 rfl 0 rfl ?_
  refine x_get C0 inu5 rfl 0 (by decide) mw_643 (by decide) wfR_0 rfl dX5_use_1 ?_
  refine x_iload_n C0 dX5_use_4 rfl 1 rfl ?_
  refine x_bipush C0 (v := 7) dX5_use_5 kb_7 ?_
  refine x_pureS2 C0 (fun ad' => c_X5_of rfl) (x_cwS C0 mw_715 mw_716 mw_84 mw_717 hd_yX5_of ⟨rfl, rfl, Nat.le_of_ble_eq_true rfl, Nat.le_of_ble_eq_true rfl⟩) ⟨Nat.zero_le _, Nat.zero_le _⟩ (Nat.le_of_ble_eq_true rfl) dX5_use_7 ?_
  refine x_dup2 C0 dX5_use_10 rfl rfl ?_
  refine x_iald C0 1 rfl (by decide) wfR_1 dX5_use_11 h (fun _ h => ?_)
  refine x_pc (pc' := 12) rfl ?_
  refine x_iconst C0 (v := 1) dX5_use_12 ki_1 ?_
  refine x_iadd C0 dX5_use_13 ?_
  refine x_iast C0 1 rfl (by decide) wfR_1 wpR_1 (fun r' h' k' => x_up_ne r' h' k') dX5_use_14 h (fun _ h => ?_)
  refine x_aload_n C0 dX5_use_15 rfl 0 rfl ?_
  refine x_get C0 inu5 rfl 0 (by decide) mw_643 (by decide) wfR_0 rfl dX5_use_16 ?_
  refine x_iload_n C0 dX5_use_19 rfl 1 rfl ?_
  refine x_iconst C0 (v := 3) dX5_use_20 ki_3 ?_
  refine x_pureS2 C0 (fun ad' => c_X5_of rfl) (x_cwS C0 mw_715 mw_716 mw_84 mw_717 hd_yX5_of ⟨rfl, rfl, Nat.le_of_ble_eq_true rfl, Nat.le_of_ble_eq_true rfl⟩) ⟨Nat.zero_le _, Nat.zero_le _⟩ (Nat.le_of_ble_eq_true rfl) dX5_use_21 ?_
  refine x_pc (pc' := 24) rfl ?_
  refine x_iald C0 1 rfl (by decide) wfR_1 dX5_use_24 h (fun _ h => ?_)
  refine x_iconst C0 (v := 1) dX5_use_25 ki_1 ?_
  refine x_icmp_ne C0 (tgt := 71) dX5_use_26 rfl h (fun _ h => ?_) (fun _ h => ?_)
  · refine x_aload_n C0 dX5_use_29 rfl 0 rfl ?_
    refine x_get C0 inu5 rfl 0 (by decide) mw_643 (by decide) wfR_0 rfl dX5_use_30 ?_
    refine x_iload_n C0 dX5_use_33 rfl 1 rfl ?_
    refine x_iconst C0 (v := 5) dX5_use_34 ki_5 ?_
    refine x_pureS2 C0 (fun ad' => c_X5_of rfl) (x_cwS C0 mw_715 mw_716 mw_84 mw_717 hd_yX5_of ⟨rfl, rfl, Nat.le_of_ble_eq_true rfl, Nat.le_of_ble_eq_true rfl⟩) ⟨Nat.zero_le _, Nat.zero_le _⟩ (Nat.le_of_ble_eq_true rfl) dX5_use_35 ?_
    refine x_dup2 C0 dX5_use_38 rfl rfl ?_
    refine x_iald C0 1 rfl (by decide) wfR_1 dX5_use_39 h (fun _ h => ?_)
    refine x_pc (pc' := 40) rfl ?_
    refine x_iconst C0 (v := 1) dX5_use_40 ki_1 ?_
    refine x_isub C0 dX5_use_41 ?_
    refine x_iast C0 1 rfl (by decide) wfR_1 wpR_1 (fun r' h' k' => x_up_ne r' h' k') dX5_use_42 h (fun _ h => ?_)
    refine x_aload_n C0 dX5_use_43 rfl 0 rfl ?_
    refine x_get C0 inu5 rfl 0 (by decide) mw_643 (by decide) wfR_0 rfl dX5_use_44 ?_
    refine x_iload_n C0 dX5_use_47 rfl 1 rfl ?_
    refine x_iconst C0 (v := 3) dX5_use_48 ki_3 ?_
    refine x_pureS2 C0 (fun ad' => c_X5_of rfl) (x_cwS C0 mw_715 mw_716 mw_84 mw_717 hd_yX5_of ⟨rfl, rfl, Nat.le_of_ble_eq_true rfl, Nat.le_of_ble_eq_true rfl⟩) ⟨Nat.zero_le _, Nat.zero_le _⟩ (Nat.le_of_ble_eq_true rfl) dX5_use_49 ?_
    refine x_pc (pc' := 52) rfl ?_
    refine x_aload_n C0 dX5_use_52 rfl 0 rfl ?_
    refine x_get C0 inu5 rfl 0 (by decide) mw_643 (by decide) wfR_0 rfl dX5_use_53 ?_
    refine x_iload_n C0 dX5_use_56 rfl 1 rfl ?_
    refine x_iconst C0 (v := 5) dX5_use_57 ki_5 ?_
    refine x_pureS2 C0 (fun ad' => c_X5_of rfl) (x_cwS C0 mw_715 mw_716 mw_84 mw_717 hd_yX5_of ⟨rfl, rfl, Nat.le_of_ble_eq_true rfl, Nat.le_of_ble_eq_true rfl⟩) ⟨Nat.zero_le _, Nat.zero_le _⟩ (Nat.le_of_ble_eq_true rfl) dX5_use_58 ?_
    refine x_iald C0 1 rfl (by decide) wfR_1 dX5_use_61 h (fun _ h => ?_)
    refine x_if_ne C0 (tgt := 69) dX5_use_62 rfl h (fun _ h => ?_) (fun _ h => ?_)
    · refine x_iconst C0 (v := 0) dX5_use_65 ki_0 ?_
      refine x_goto C0 (tgt := 70) dX5_use_66 rfl ?_
      refine x_sub [] (L' := []) rfl ?_
      refine x_pc (pc' := 70) rfl ?_
      exact b_X5_use_70 C0 n _ _ _ h
    · refine x_iconst C0 (v := 1) dX5_use_69 ki_1 ?_
      refine x_sub [] (L' := []) rfl ?_
      refine x_pc (pc' := 70) rfl ?_
      exact b_X5_use_70 C0 n _ _ _ h
  · obtain rfl := x_inj h
    exact x_vret C0 dX5_use_71
set_option maxRecDepth 4000 in
set_option maxHeartbeats 2000000 in
theorem b_X5_find_82 {p : Program} {l : Launch} {e : Env} {s : State} {m : MethodId} {args : Array Value} {below : List Frame} {meth : Method} {c : Code} {D : va_G} {cs : Nat → ClassId} {ad : Nat → Nat} {A : Nat → Prop} (C0 : x_C p s m args meth c D vwCl (xtys cs) A s.heap 4 ad (wfR cs ad) cX5_find 6 RX5 (some FieldType.int))  (n : Nat) {res : Int32 × xM} : ∀ (σ : xM) (l1 : Int32), B_X5_find_82 n σ l1 = some res → x_W p l e ({ frames := 4, cells := 0, slots := 0, locals := 92 } : Room) s m args below meth c D vwCl A s.heap 4 ad (wfR cs ad) 6 0 0 (x_E below args s D vwCl 4 ad (wfR cs ad) A (some (.int res.1)) res.2) σ 82 [(0, .ref (ad 0)), (1, .int l1)] [] := by
  intro σ l1 h
  refine x_aload_n C0 dX5_find_82 rfl 0 rfl ?_
  refine x_iload_n C0 dX5_find_83 rfl 1 rfl ?_
  refine x_iconst C0 (v := (-1)) dX5_find_84 ki_m1 ?_
  obtain ⟨q8, eq8, h⟩ := x_bind h
  refine x_callV20 C0 (c_X5_fetch n eq8) (x_cwV C0 mw_795 mw_797 mw_61 mw_84 mw_798 hd_yX5_fetch ⟨rfl, rfl, Nat.le_of_ble_eq_true rfl, Nat.le_of_ble_eq_true rfl⟩) (by decide) rfl wfR_0 rfl ⟨Nat.zero_le _, Nat.zero_le _⟩ (Nat.le_of_ble_eq_true rfl) dX5_find_85 ?_
  refine x_iconst C0 (v := 0) dX5_find_88 ki_0 ?_
  obtain rfl := x_inj h
  exact x_iret C0 dX5_find_89
set_option maxRecDepth 4000 in
set_option maxHeartbeats 2000000 in
theorem b_X5_find_51 {p : Program} {l : Launch} {e : Env} {s : State} {m : MethodId} {args : Array Value} {below : List Frame} {meth : Method} {c : Code} {D : va_G} {cs : Nat → ClassId} {ad : Nat → Nat} {A : Nat → Prop} (C0 : x_C p s m args meth c D vwCl (xtys cs) A s.heap 4 ad (wfR cs ad) cX5_find 6 RX5 (some FieldType.int))  (n : Nat) {res : Int32 × xM} : ∀ (σ : xM) (l1 : Int32) (s0 : Int32), B_X5_find_51 n σ l1 s0 = some res → x_W p l e ({ frames := 4, cells := 0, slots := 0, locals := 92 } : Room) s m args below meth c D vwCl A s.heap 4 ad (wfR cs ad) 6 0 0 (x_E below args s D vwCl 4 ad (wfR cs ad) A (some (.int res.1)) res.2) σ 51 [(0, .ref (ad 0)), (1, .int l1)] [.int s0] := by
  intro σ l1 s0 h
  refine x_istore C0 dX5_find_51 (L' := [(5, _), (0, _), (1, _)]) (by decide) rfl ?_
  refine x_iload C0 dX5_find_53 0 rfl ?_
  refine x_iconst C0 (v := (-1)) dX5_find_55 ki_m1 ?_
  refine x_icmp_eq C0 (tgt := 82) dX5_find_56 rfl h (fun _ h => ?_) (fun _ h => ?_)
  · refine x_sub [1, 2] (L' := [(0, _), (1, _)]) rfl ?_
    refine x_pc (pc' := 82) rfl ?_
    exact b_X5_find_82 C0 n _ _ h
  · refine x_aload_n C0 dX5_find_59 rfl 1 rfl ?_
    refine x_iload C0 dX5_find_60 0 rfl ?_
    refine x_iconst C0 (v := 2) dX5_find_62 ki_2 ?_
    obtain ⟨q3, eq3, h⟩ := x_bind h
    refine x_callV20 C0 (c_X5_giveHours n eq3) (x_cwV C0 mw_718 mw_720 mw_51 mw_84 mw_721 hd_yX5_giveHours ⟨rfl, rfl, Nat.le_of_ble_eq_true rfl, Nat.le_of_ble_eq_true rfl⟩) (by decide) rfl wfR_0 rfl ⟨Nat.zero_le _, Nat.zero_le _⟩ (Nat.le_of_ble_eq_true rfl) dX5_find_63 ?_
    refine x_aload_n C0 dX5_find_66 rfl 1 rfl ?_
    refine x_get C0 inu5 rfl 0 (by decide) mw_643 (by decide) wfR_0 rfl dX5_find_67 ?_
    refine x_iload C0 dX5_find_70 0 rfl ?_
    refine x_pc (pc' := 72) rfl ?_
    refine x_bipush C0 (v := 9) dX5_find_72 kb_9 ?_
    refine x_pureS2 C0 (fun ad' => c_X5_of rfl) (x_cwS C0 mw_715 mw_716 mw_84 mw_717 hd_yX5_of ⟨rfl, rfl, Nat.le_of_ble_eq_true rfl, Nat.le_of_ble_eq_true rfl⟩) ⟨Nat.zero_le _, Nat.zero_le _⟩ (Nat.le_of_ble_eq_true rfl) dX5_find_74 ?_
    refine x_dup2 C0 dX5_find_77 rfl rfl ?_
    refine x_iald C0 1 rfl (by decide) wfR_1 dX5_find_78 h (fun _ h => ?_)
    refine x_iconst C0 (v := 1) dX5_find_79 ki_1 ?_
    refine x_iadd C0 dX5_find_80 ?_
    refine x_iast C0 1 rfl (by decide) wfR_1 wpR_1 (fun r' h' k' => x_up_ne r' h' k') dX5_find_81 h (fun _ h => ?_)
    refine x_sub [1, 2] (L' := [(0, _), (1, _)]) rfl ?_
    refine x_pc (pc' := 82) rfl ?_
    exact b_X5_find_82 C0 n _ _ h
set_option maxRecDepth 4000 in
set_option maxHeartbeats 2000000 in
theorem b_X5_find_153 {p : Program} {l : Launch} {e : Env} {s : State} {m : MethodId} {args : Array Value} {below : List Frame} {meth : Method} {c : Code} {D : va_G} {cs : Nat → ClassId} {ad : Nat → Nat} {A : Nat → Prop} (C0 : x_C p s m args meth c D vwCl (xtys cs) A s.heap 4 ad (wfR cs ad) cX5_find 6 RX5 (some FieldType.int))  (n : Nat) {res : Int32 × xM} : ∀ (σ : xM) (l5 : Int32), B_X5_find_153 n σ l5 = some res → x_W p l e ({ frames := 4, cells := 0, slots := 0, locals := 92 } : Room) s m args below meth c D vwCl A s.heap 4 ad (wfR cs ad) 6 0 0 (x_E below args s D vwCl 4 ad (wfR cs ad) A (some (.int res.1)) res.2) σ 153 [(5, .int l5)] [] := by
  intro σ l5 h
  refine x_iload C0 dX5_find_153 0 rfl ?_
  refine x_if_eq C0 (tgt := 162) dX5_find_155 rfl h (fun _ h => ?_) (fun _ h => ?_)
  · refine x_iconst C0 (v := 1) dX5_find_162 ki_1 ?_
    obtain rfl := x_inj h
    exact x_iret C0 dX5_find_163
  · refine x_iconst C0 (v := 2) dX5_find_158 ki_2 ?_
    refine x_goto C0 (tgt := 163) dX5_find_159 rfl ?_
    obtain rfl := x_inj h
    exact x_iret C0 dX5_find_163
set_option maxRecDepth 4000 in
set_option maxHeartbeats 2000000 in
theorem b_X5_find_125 {p : Program} {l : Launch} {e : Env} {s : State} {m : MethodId} {args : Array Value} {below : List Frame} {meth : Method} {c : Code} {D : va_G} {cs : Nat → ClassId} {ad : Nat → Nat} {A : Nat → Prop} (C0 : x_C p s m args meth c D vwCl (xtys cs) A s.heap 4 ad (wfR cs ad) cX5_find 6 RX5 (some FieldType.int))  (n : Nat) {res : Int32 × xM} : ∀ (σ : xM) (l1 : Int32) (l2 : Int32) (l3 : Int32) (l4 : Int32) (s0 : Int32), B_X5_find_125 n σ l1 l2 l3 l4 s0 = some res → x_W p l e ({ frames := 4, cells := 0, slots := 0, locals := 92 } : Room) s m args below meth c D vwCl A s.heap 4 ad (wfR cs ad) 6 0 0 (x_E below args s D vwCl 4 ad (wfR cs ad) A (some (.int res.1)) res.2) σ 125 [(0, .ref (ad 0)), (1, .int l1), (2, .int l2), (3, .int l3), (4, .int l4)] [.int s0] := by
  intro σ l1 l2 l3 l4 s0 h
  refine x_istore C0 dX5_find_125 (L' := [(5, _), (0, _), (1, _), (2, _), (3, _), (4, _)]) (by decide) rfl ?_
  refine x_aload_n C0 dX5_find_127 rfl 1 rfl ?_
  refine x_iload_n C0 dX5_find_128 rfl 3 rfl ?_
  refine x_iload_n C0 dX5_find_129 rfl 4 rfl ?_
  obtain ⟨q5, eq5, h⟩ := x_bind h
  refine x_callV20 C0 (c_X5_closeUp n eq5) (x_cwV C0 mw_722 mw_724 mw_52 mw_84 mw_725 hd_yX5_closeUp ⟨rfl, rfl, Nat.le_of_ble_eq_true rfl, Nat.le_of_ble_eq_true rfl⟩) (by decide) rfl wfR_0 rfl ⟨Nat.zero_le _, Nat.zero_le _⟩ (Nat.le_of_ble_eq_true rfl) dX5_find_130 ?_
  refine x_aload_n C0 dX5_find_133 rfl 1 rfl ?_
  refine x_iload_n C0 dX5_find_134 rfl 3 rfl ?_
  refine x_pc (pc' := 135) rfl ?_
  refine x_iload_n C0 dX5_find_135 rfl 2 rfl ?_
  refine x_iload C0 dX5_find_136 5 rfl ?_
  refine x_iconst C0 (v := 0) dX5_find_138 ki_0 ?_
  obtain ⟨q6, eq6, h⟩ := x_bind h
  refine x_callV40 C0 (c_X5_append n eq6) (x_cwV C0 mw_799 mw_801 mw_62 mw_84 mw_802 hd_yX5_append ⟨rfl, rfl, Nat.le_of_ble_eq_true rfl, Nat.le_of_ble_eq_true rfl⟩) (by decide) rfl wfR_0 rfl ⟨Nat.zero_le _, Nat.zero_le _⟩ (Nat.le_of_ble_eq_true rfl) dX5_find_139 ?_
  refine x_iload C0 dX5_find_142 0 rfl ?_
  refine x_if_eq C0 (tgt := 153) dX5_find_144 rfl h (fun _ h => ?_) (fun _ h => ?_)
  · refine x_sub [0] (L' := [(5, _)]) rfl ?_
    refine x_pc (pc' := 153) rfl ?_
    exact b_X5_find_153 C0 n _ _ h
  · refine x_aload_n C0 dX5_find_147 rfl 1 rfl ?_
    refine x_iload C0 dX5_find_148 5 rfl ?_
    obtain ⟨q7, eq7, h⟩ := x_bind h
    refine x_callV10 C0 (c_X5_use n eq7) (x_cwV C0 mw_803 mw_805 mw_63 mw_84 mw_806 hd_yX5_use ⟨rfl, rfl, Nat.le_of_ble_eq_true rfl, Nat.le_of_ble_eq_true rfl⟩) (by decide) rfl wfR_0 rfl ⟨Nat.zero_le _, Nat.zero_le _⟩ (Nat.le_of_ble_eq_true rfl) dX5_find_150 ?_
    refine x_sub [0] (L' := [(5, _)]) rfl ?_
    refine x_pc (pc' := 153) rfl ?_
    exact b_X5_find_153 C0 n _ _ h
set_option maxRecDepth 4000 in
set_option maxHeartbeats 2000000 in
theorem c_X5_find {l : Launch} {D : va_G} {cs : Nat → ClassId} {ad : Nat → Nat} (n : Nat) {σ : xM} {x1 : Int32}  {res : Int32 × xM} (h : F_X5_find n σ x1 = some res) : x_Met l yX5_find [Cond.code yX5_find cX5_find 6 (some FieldType.int)] ({ frames := 4, cells := 0, slots := 0, locals := 92 } : Room) D vwCl (xtys cs) 4 ad (wfR cs ad) [.ref (ad 0), .int x1] σ (some (.int res.1)) res.2 := by
  refine x_Met_of (L0 := [(0, .ref (ad 0)), (1, .int x1)]) (own := RX5) (by decide) rfl rfl wfR_loc (Nat.le_of_ble_eq_true rfl) rfl ?_
  intro p e s m args below meth c A C0
  refine x_iload_n C0 dX5_find_0 rfl 1 rfl ?_
  refine x_aload_n C0 dX5_find_1 rfl 0 rfl ?_
  refine x_get C0 inu5 rfl 0 (by decide) mw_643 (by decide) wfR_0 rfl dX5_find_2 ?_
  refine x_sipush C0 (v := 349) dX5_find_5 ks_349 ?_
  refine x_iald C0 1 rfl (by decide) wfR_1 dX5_find_8 h (fun _ h => ?_)
  refine x_irem C0 dX5_find_9 h (fun _ h => ?_)
  refine x_istore_n C0 dX5_find_10 rfl (L' := [(2, _), (0, _), (1, _)]) (by decide) rfl ?_
  refine x_pc (pc' := 11) rfl ?_
  refine x_aload_n C0 dX5_find_11 rfl 1 rfl ?_
  refine x_iload_n C0 dX5_find_12 rfl 2 rfl ?_
  obtain ⟨q1, eq1, h⟩ := x_bind h
  refine x_callV11 C0 (c_X5_placeOf n eq1) (x_cwV C0 mw_791 mw_793 mw_60 mw_84 mw_794 hd_yX5_placeOf ⟨rfl, rfl, Nat.le_of_ble_eq_true rfl, Nat.le_of_ble_eq_true rfl⟩) (by decide) rfl wfR_0 rfl ⟨Nat.zero_le _, Nat.zero_le _⟩ (Nat.le_of_ble_eq_true rfl) dX5_find_13 ?_
  refine x_istore_n C0 dX5_find_16 rfl (L' := [(3, _), (2, _), (0, _), (1, _)]) (by decide) rfl ?_
  refine x_iload_n C0 dX5_find_17 rfl 0 rfl ?_
  refine x_if_ge C0 (tgt := 90) dX5_find_18 rfl h (fun _ h => ?_) (fun _ h => ?_)
  · refine x_aload_n C0 dX5_find_21 rfl 2 rfl ?_
    refine x_iload_n C0 dX5_find_22 rfl 3 rfl ?_
    obtain ⟨q2, eq2, h⟩ := x_bind h
    refine x_callV11 C0 (c_X5_outPlaceOf n eq2) (x_cwV C0 mw_730 mw_732 mw_54 mw_84 mw_733 hd_yX5_outPlaceOf ⟨rfl, rfl, Nat.le_of_ble_eq_true rfl, Nat.le_of_ble_eq_true rfl⟩) (by decide) rfl wfR_0 rfl ⟨Nat.zero_le _, Nat.zero_le _⟩ (Nat.le_of_ble_eq_true rfl) dX5_find_23 ?_
    refine x_istore C0 dX5_find_26 (L' := [(4, _), (3, _), (2, _), (0, _), (1, _)]) (by decide) rfl ?_
    refine x_iload C0 dX5_find_28 0 rfl ?_
    refine x_if_ge C0 (tgt := 37) dX5_find_30 rfl h (fun _ h => ?_) (fun _ h => ?_)
    · refine x_iconst C0 (v := (-1)) dX5_find_33 ki_m1 ?_
      refine x_goto C0 (tgt := 51) dX5_find_34 rfl ?_
      refine x_sub [3, 4] (L' := [(0, _), (1, _)]) rfl ?_
      refine x_pc (pc' := 51) rfl ?_
      exact b_X5_find_51 C0 n _ _ _ h
    · refine x_aload_n C0 dX5_find_37 rfl 3 rfl ?_
      refine x_get C0 inu5 rfl 0 (by decide) mw_643 (by decide) wfR_0 rfl dX5_find_38 ?_
      refine x_bipush C0 (v := 104) dX5_find_41 kb_104 ?_
      refine x_iconst C0 (v := 2) dX5_find_43 ki_2 ?_
      refine x_iload C0 dX5_find_44 0 rfl ?_
      refine x_imul C0 dX5_find_46 ?_
      refine x_iadd C0 dX5_find_47 ?_
      refine x_pc (pc' := 48) rfl ?_
      refine x_iconst C0 (v := 1) dX5_find_48 ki_1 ?_
      refine x_iadd C0 dX5_find_49 ?_
      refine x_iald C0 1 rfl (by decide) wfR_1 dX5_find_50 h (fun _ h => ?_)
      refine x_sub [3, 4] (L' := [(0, _), (1, _)]) rfl ?_
      refine x_pc (pc' := 51) rfl ?_
      exact b_X5_find_51 C0 n _ _ _ h
  · refine x_aload_n C0 dX5_find_90 rfl 2 rfl ?_
    refine x_get C0 inu5 rfl 0 (by decide) mw_643 (by decide) wfR_0 rfl dX5_find_91 ?_
    refine x_iload_n C0 dX5_find_94 rfl 1 rfl ?_
    refine x_iload_n C0 dX5_find_95 rfl 0 rfl ?_
    refine x_pureS2 C0 (fun ad' => c_X5_cellOf rfl) (x_cwS C0 mw_712 mw_713 mw_84 mw_714 hd_yX5_cellOf ⟨rfl, rfl, Nat.le_of_ble_eq_true rfl, Nat.le_of_ble_eq_true rfl⟩) ⟨Nat.zero_le _, Nat.zero_le _⟩ (Nat.le_of_ble_eq_true rfl) dX5_find_96 ?_
    refine x_iconst C0 (v := 1) dX5_find_99 ki_1 ?_
    refine x_iadd C0 dX5_find_100 ?_
    refine x_pc (pc' := 101) rfl ?_
    refine x_iald C0 1 rfl (by decide) wfR_1 dX5_find_101 h (fun _ h => ?_)
    refine x_istore C0 dX5_find_102 (L' := [(4, _), (3, _), (2, _), (0, _), (1, _)]) (by decide) rfl ?_
    refine x_aload_n C0 dX5_find_104 rfl 3 rfl ?_
    refine x_get C0 inu5 rfl 0 (by decide) mw_643 (by decide) wfR_0 rfl dX5_find_105 ?_
    refine x_iload_n C0 dX5_find_108 rfl 2 rfl ?_
    refine x_iload_n C0 dX5_find_109 rfl 1 rfl ?_
    refine x_pureS2 C0 (fun ad' => c_X5_cellOf rfl) (x_cwS C0 mw_712 mw_713 mw_84 mw_714 hd_yX5_cellOf ⟨rfl, rfl, Nat.le_of_ble_eq_true rfl, Nat.le_of_ble_eq_true rfl⟩) ⟨Nat.zero_le _, Nat.zero_le _⟩ (Nat.le_of_ble_eq_true rfl) dX5_find_110 ?_
    refine x_iconst C0 (v := 2) dX5_find_113 ki_2 ?_
    refine x_pc (pc' := 114) rfl ?_
    refine x_iadd C0 dX5_find_114 ?_
    refine x_iald C0 1 rfl (by decide) wfR_1 dX5_find_115 h (fun _ h => ?_)
    refine x_iconst C0 (v := 1) dX5_find_116 ki_1 ?_
    refine x_icmp_ne C0 (tgt := 124) dX5_find_117 rfl h (fun _ h => ?_) (fun _ h => ?_)
    · refine x_iconst C0 (v := 1) dX5_find_120 ki_1 ?_
      refine x_goto C0 (tgt := 125) dX5_find_121 rfl ?_
      refine x_sub [3, 4, 2, 1, 0] (L' := [(0, _), (1, _), (2, _), (3, _), (4, _)]) rfl ?_
      refine x_pc (pc' := 125) rfl ?_
      exact b_X5_find_125 C0 n _ _ _ _ _ _ h
    · refine x_iconst C0 (v := 0) dX5_find_124 ki_0 ?_
      refine x_sub [3, 4, 2, 1, 0] (L' := [(0, _), (1, _), (2, _), (3, _), (4, _)]) rfl ?_
      refine x_pc (pc' := 125) rfl ?_
      exact b_X5_find_125 C0 n _ _ _ _ _ _ h
set_option maxRecDepth 4000 in
set_option maxHeartbeats 2000000 in
theorem b_X5_go_165 {p : Program} {l : Launch} {e : Env} {s : State} {m : MethodId} {args : Array Value} {below : List Frame} {meth : Method} {c : Code} {D : va_G} {cs : Nat → ClassId} {ad : Nat → Nat} {A : Nat → Prop} (C0 : x_C p s m args meth c D vwCl (xtys cs) A s.heap 4 ad (wfR cs ad) cX5_go 6 RX5 (some FieldType.int))  (n : Nat) {res : Int32 × xM} : ∀ (σ : xM) (l3 : Int32) (l4 : Int32) (s1 : Int32) (s2 : Int32) (s3 : Int32), B_X5_go_165 n σ l3 l4 s1 s2 s3 = some res → x_W p l e ({ frames := 5, cells := 0, slots := 0, locals := 118 } : Room) s m args below meth c D vwCl A s.heap 4 ad (wfR cs ad) 6 0 0 (x_E below args s D vwCl 4 ad (wfR cs ad) A (some (.int res.1)) res.2) σ 165 [(0, .ref (ad 0)), (3, .int l3), (4, .int l4)] [.int s3, .int s2, .int s1, .ref (ad 1)] := by
  intro σ l3 l4 s1 s2 s3 h
  refine x_iadd C0 dX5_go_165 ?_
  refine x_iast C0 1 rfl (by decide) wfR_1 wpR_1 (fun r' h' k' => x_up_ne r' h' k') dX5_go_166 h (fun _ h => ?_)
  refine x_aload_n C0 dX5_go_167 rfl 0 rfl ?_
  refine x_get C0 inu5 rfl 0 (by decide) mw_643 (by decide) wfR_0 rfl dX5_go_168 ?_
  refine x_sipush C0 (v := 356) dX5_go_171 ks_356 ?_
  refine x_dup2 C0 dX5_go_174 rfl rfl ?_
  refine x_iald C0 1 rfl (by decide) wfR_1 dX5_go_175 h (fun _ h => ?_)
  refine x_pc (pc' := 176) rfl ?_
  refine x_iload C0 dX5_go_176 2 rfl ?_
  refine x_iadd C0 dX5_go_178 ?_
  refine x_iast C0 1 rfl (by decide) wfR_1 wpR_1 (fun r' h' k' => x_up_ne r' h' k') dX5_go_179 h (fun _ h => ?_)
  refine x_iload_n C0 dX5_go_180 rfl 1 rfl ?_
  obtain rfl := x_inj h
  exact x_iret C0 dX5_go_181
set_option maxRecDepth 4000 in
set_option maxHeartbeats 2000000 in
theorem b_X5_go_144 {p : Program} {l : Launch} {e : Env} {s : State} {m : MethodId} {args : Array Value} {below : List Frame} {meth : Method} {c : Code} {D : va_G} {cs : Nat → ClassId} {ad : Nat → Nat} {A : Nat → Prop} (C0 : x_C p s m args meth c D vwCl (xtys cs) A s.heap 4 ad (wfR cs ad) cX5_go 6 RX5 (some FieldType.int))  (n : Nat) {res : Int32 × xM} : ∀ (σ : xM) (l3 : Int32) (l4 : Int32) (s1 : Int32) (s2 : Int32) (s3 : Int32), B_X5_go_144 n σ l3 l4 s1 s2 s3 = some res → x_W p l e ({ frames := 5, cells := 0, slots := 0, locals := 118 } : Room) s m args below meth c D vwCl A s.heap 4 ad (wfR cs ad) 6 0 0 (x_E below args s D vwCl 4 ad (wfR cs ad) A (some (.int res.1)) res.2) σ 144 [(0, .ref (ad 0)), (3, .int l3), (4, .int l4)] [.int s3, .int s2, .int s1, .ref (ad 1)] := by
  intro σ l3 l4 s1 s2 s3 h
  refine x_iadd C0 dX5_go_144 ?_
  refine x_iast C0 1 rfl (by decide) wfR_1 wpR_1 (fun r' h' k' => x_up_ne r' h' k') dX5_go_145 h (fun _ h => ?_)
  refine x_aload_n C0 dX5_go_146 rfl 0 rfl ?_
  refine x_get C0 inu5 rfl 0 (by decide) mw_643 (by decide) wfR_0 rfl dX5_go_147 ?_
  refine x_sipush C0 (v := 355) dX5_go_150 ks_355 ?_
  refine x_dup2 C0 dX5_go_153 rfl rfl ?_
  refine x_iald C0 1 rfl (by decide) wfR_1 dX5_go_154 h (fun _ h => ?_)
  refine x_pc (pc' := 155) rfl ?_
  refine x_iload_n C0 dX5_go_155 rfl 1 rfl ?_
  refine x_iconst C0 (v := 2) dX5_go_156 ki_2 ?_
  refine x_icmp_ne C0 (tgt := 164) dX5_go_157 rfl h (fun _ h => ?_) (fun _ h => ?_)
  · refine x_iconst C0 (v := 1) dX5_go_160 ki_1 ?_
    refine x_goto C0 (tgt := 165) dX5_go_161 rfl ?_
    refine x_sub [0, 1, 2] (L' := [(0, _), (3, _), (4, _)]) rfl ?_
    refine x_pc (pc' := 165) rfl ?_
    exact b_X5_go_165 C0 n _ _ _ _ _ _ h
  · refine x_iconst C0 (v := 0) dX5_go_164 ki_0 ?_
    refine x_sub [0, 1, 2] (L' := [(0, _), (3, _), (4, _)]) rfl ?_
    refine x_pc (pc' := 165) rfl ?_
    exact b_X5_go_165 C0 n _ _ _ _ _ _ h
set_option maxRecDepth 4000 in
set_option maxHeartbeats 2000000 in
theorem b_X5_go_16 {p : Program} {l : Launch} {e : Env} {s : State} {m : MethodId} {args : Array Value} {below : List Frame} {meth : Method} {c : Code} {D : va_G} {cs : Nat → ClassId} {ad : Nat → Nat} {A : Nat → Prop} (C0 : x_C p s m args meth c D vwCl (xtys cs) A s.heap 4 ad (wfR cs ad) cX5_go 6 RX5 (some FieldType.int))  (n : Nat) {res : Int32 × xM} : ∀ (f : Nat) (σ : xM) (l1 : Int32) (l2 : Int32) (l3 : Int32) (l4 : Int32) (l5 : Int32), B_X5_go_16 n f σ l1 l2 l3 l4 l5 = some res → x_W p l e ({ frames := 5, cells := 0, slots := 0, locals := 118 } : Room) s m args below meth c D vwCl A s.heap 4 ad (wfR cs ad) 6 0 0 (x_E below args s D vwCl 4 ad (wfR cs ad) A (some (.int res.1)) res.2) σ 16 [(0, .ref (ad 0)), (1, .int l1), (2, .int l2), (3, .int l3), (4, .int l4), (5, .int l5)] [] := by
  intro f
  induction f with
  | zero =>
    intro σ l1 l2 l3 l4 l5 h
    cases h
  | succ f ih =>
    intro σ l1 l2 l3 l4 l5 h
    refine x_iload C0 dX5_go_16 5 rfl ?_
    refine x_aload_n C0 dX5_go_18 rfl 0 rfl ?_
    refine x_get C0 inu5 rfl 0 (by decide) mw_643 (by decide) wfR_0 rfl dX5_go_19 ?_
    refine x_sipush C0 (v := 351) dX5_go_22 ks_351 ?_
    refine x_iald C0 1 rfl (by decide) wfR_1 dX5_go_25 h (fun _ h => ?_)
    refine x_icmp_ge C0 (tgt := 56) dX5_go_26 rfl h (fun _ h => ?_) (fun _ h => ?_)
    · refine x_aload_n C0 dX5_go_29 rfl 0 rfl ?_
      refine x_iload C0 dX5_go_30 5 rfl ?_
      refine x_iload_n C0 dX5_go_32 rfl 1 rfl ?_
      refine x_iload_n C0 dX5_go_33 rfl 2 rfl ?_
      refine x_iload_n C0 dX5_go_34 rfl 3 rfl ?_
      obtain ⟨q3, eq3, h⟩ := x_bind h
      refine x_callV40 C0 (c_X5_learn n eq3) (x_cwV C0 mw_807 mw_809 mw_64 mw_84 mw_810 hd_yX5_learn ⟨rfl, rfl, Nat.le_of_ble_eq_true rfl, Nat.le_of_ble_eq_true rfl⟩) (by decide) rfl wfR_0 rfl ⟨Nat.zero_le _, Nat.zero_le _⟩ (Nat.le_of_ble_eq_true rfl) dX5_go_35 ?_
      refine x_iload C0 dX5_go_38 4 rfl ?_
      refine x_pc (pc' := 40) rfl ?_
      refine x_aload_n C0 dX5_go_40 rfl 0 rfl ?_
      refine x_iload C0 dX5_go_41 5 rfl ?_
      refine x_iload_n C0 dX5_go_43 rfl 2 rfl ?_
      obtain ⟨q4, eq4, h⟩ := x_bind h
      refine x_callV21 C0 (c_X5_fetchAhead n eq4) (x_cwV C0 mw_830 mw_832 mw_69 mw_84 mw_833 hd_yX5_fetchAhead ⟨rfl, rfl, Nat.le_of_ble_eq_true rfl, Nat.le_of_ble_eq_true rfl⟩) (by decide) rfl wfR_0 rfl ⟨Nat.zero_le _, Nat.zero_le _⟩ (Nat.le_of_ble_eq_true rfl) dX5_go_44 ?_
      refine x_iadd C0 dX5_go_47 ?_
      refine x_istore C0 dX5_go_48 (L' := [(4, _), (0, _), (1, _), (2, _), (3, _), (5, _)]) (by decide) rfl ?_
      refine x_iinc C0 (v := 1) (L' := [(5, _), (4, _), (0, _), (1, _), (2, _), (3, _)]) dX5_go_50 5 rfl ki_1 (by decide) rfl ?_
      refine x_goto C0 (tgt := 16) dX5_go_53 rfl ?_
      refine x_sub [2, 3, 4, 5, 1, 0] (L' := [(0, _), (1, _), (2, _), (3, _), (4, _), (5, _)]) rfl ?_
      refine x_pc (pc' := 16) rfl ?_
      exact ih _ _ _ _ _ _ h
    · refine x_sipush C0 (v := 300) dX5_go_56 ks_300 ?_
      refine x_iconst C0 (v := 4) dX5_go_59 ki_4 ?_
      refine x_aload_n C0 dX5_go_60 rfl 0 rfl ?_
      refine x_get C0 inu5 rfl 0 (by decide) mw_643 (by decide) wfR_0 rfl dX5_go_61 ?_
      refine x_sipush C0 (v := 353) dX5_go_64 ks_353 ?_
      refine x_iald C0 1 rfl (by decide) wfR_1 dX5_go_67 h (fun _ h => ?_)
      refine x_bipush C0 (v := 12) dX5_go_68 kb_12 ?_
      refine x_pc (pc' := 70) rfl ?_
      refine x_irem C0 dX5_go_70 h (fun _ h => ?_)
      refine x_imul C0 dX5_go_71 ?_
      refine x_iadd C0 dX5_go_72 ?_
      refine x_istore C0 dX5_go_73 (L' := [(5, _), (0, _), (1, _), (2, _), (3, _), (4, _)]) (by decide) rfl ?_
      refine x_aload_n C0 dX5_go_75 rfl 1 rfl ?_
      refine x_get C0 inu5 rfl 0 (by decide) mw_643 (by decide) wfR_0 rfl dX5_go_76 ?_
      refine x_iload C0 dX5_go_79 0 rfl ?_
      refine x_iload_n C0 dX5_go_81 rfl 2 rfl ?_
      refine x_pc (pc' := 82) rfl ?_
      refine x_iast C0 1 rfl (by decide) wfR_1 wpR_1 (fun r' h' k' => x_up_ne r' h' k') dX5_go_82 h (fun _ h => ?_)
      refine x_aload_n C0 dX5_go_83 rfl 1 rfl ?_
      refine x_get C0 inu5 rfl 0 (by decide) mw_643 (by decide) wfR_0 rfl dX5_go_84 ?_
      refine x_iload C0 dX5_go_87 0 rfl ?_
      refine x_iconst C0 (v := 1) dX5_go_89 ki_1 ?_
      refine x_iadd C0 dX5_go_90 ?_
      refine x_iload_n C0 dX5_go_91 rfl 3 rfl ?_
      refine x_iast C0 1 rfl (by decide) wfR_1 wpR_1 (fun r' h' k' => x_up_ne r' h' k') dX5_go_92 h (fun _ h => ?_)
      refine x_pc (pc' := 93) rfl ?_
      refine x_aload_n C0 dX5_go_93 rfl 1 rfl ?_
      refine x_get C0 inu5 rfl 0 (by decide) mw_643 (by decide) wfR_0 rfl dX5_go_94 ?_
      refine x_iload C0 dX5_go_97 0 rfl ?_
      refine x_iconst C0 (v := 2) dX5_go_99 ki_2 ?_
      refine x_iadd C0 dX5_go_100 ?_
      refine x_iload_n C0 dX5_go_101 rfl 4 rfl ?_
      refine x_iast C0 1 rfl (by decide) wfR_1 wpR_1 (fun r' h' k' => x_up_ne r' h' k') dX5_go_102 h (fun _ h => ?_)
      refine x_aload_n C0 dX5_go_103 rfl 1 rfl ?_
      refine x_pc (pc' := 104) rfl ?_
      refine x_get C0 inu5 rfl 0 (by decide) mw_643 (by decide) wfR_0 rfl dX5_go_104 ?_
      refine x_iload C0 dX5_go_107 0 rfl ?_
      refine x_iconst C0 (v := 3) dX5_go_109 ki_3 ?_
      refine x_iadd C0 dX5_go_110 ?_
      refine x_iload C0 dX5_go_111 5 rfl ?_
      refine x_iast C0 1 rfl (by decide) wfR_1 wpR_1 (fun r' h' k' => x_up_ne r' h' k') dX5_go_113 h (fun _ h => ?_)
      refine x_aload_n C0 dX5_go_114 rfl 1 rfl ?_
      refine x_get C0 inu5 rfl 0 (by decide) mw_643 (by decide) wfR_0 rfl dX5_go_115 ?_
      refine x_pc (pc' := 118) rfl ?_
      refine x_sipush C0 (v := 353) dX5_go_118 ks_353 ?_
      refine x_dup2 C0 dX5_go_121 rfl rfl ?_
      refine x_iald C0 1 rfl (by decide) wfR_1 dX5_go_122 h (fun _ h => ?_)
      refine x_iconst C0 (v := 1) dX5_go_123 ki_1 ?_
      refine x_iadd C0 dX5_go_124 ?_
      refine x_iast C0 1 rfl (by decide) wfR_1 wpR_1 (fun r' h' k' => x_up_ne r' h' k') dX5_go_125 h (fun _ h => ?_)
      refine x_aload_n C0 dX5_go_126 rfl 1 rfl ?_
      refine x_get C0 inu5 rfl 0 (by decide) mw_643 (by decide) wfR_0 rfl dX5_go_127 ?_
      refine x_pc (pc' := 130) rfl ?_
      refine x_sipush C0 (v := 354) dX5_go_130 ks_354 ?_
      refine x_dup2 C0 dX5_go_133 rfl rfl ?_
      refine x_iald C0 1 rfl (by decide) wfR_1 dX5_go_134 h (fun _ h => ?_)
      refine x_iload_n C0 dX5_go_135 rfl 4 rfl ?_
      refine x_if_ne C0 (tgt := 143) dX5_go_136 rfl h (fun _ h => ?_) (fun _ h => ?_)
      · refine x_iconst C0 (v := 0) dX5_go_139 ki_0 ?_
        refine x_goto C0 (tgt := 144) dX5_go_140 rfl ?_
        refine x_sub [1, 4, 5] (L' := [(0, _), (3, _), (4, _)]) rfl ?_
        refine x_pc (pc' := 144) rfl ?_
        exact b_X5_go_144 C0 n _ _ _ _ _ _ h
      · refine x_iconst C0 (v := 1) dX5_go_143 ki_1 ?_
        refine x_sub [1, 4, 5] (L' := [(0, _), (3, _), (4, _)]) rfl ?_
        refine x_pc (pc' := 144) rfl ?_
        exact b_X5_go_144 C0 n _ _ _ _ _ _ h
set_option maxRecDepth 4000 in
set_option maxHeartbeats 2000000 in
theorem c_X5_go {l : Launch} {D : va_G} {cs : Nat → ClassId} {ad : Nat → Nat} (n : Nat) {σ : xM} {x1 : Int32} {x2 : Int32}  {res : Int32 × xM} (h : F_X5_go n σ x1 x2 = some res) : x_Met l yX5_go [Cond.code yX5_go cX5_go 6 (some FieldType.int)] ({ frames := 5, cells := 0, slots := 0, locals := 118 } : Room) D vwCl (xtys cs) 4 ad (wfR cs ad) [.ref (ad 0), .int x1, .int x2] σ (some (.int res.1)) res.2 := by
  refine x_Met_of (L0 := [(0, .ref (ad 0)), (1, .int x1), (2, .int x2)]) (own := RX5) (by decide) rfl rfl wfR_loc (Nat.le_of_ble_eq_true rfl) rfl ?_
  intro p e s m args below meth c A C0
  refine x_aload_n C0 dX5_go_0 rfl 0 rfl ?_
  obtain ⟨q1, eq1, h⟩ := x_bind h
  refine x_callV00 C0 (c_X5_work n eq1) (x_cwV C0 mw_783 mw_785 mw_58 mw_84 mw_786 hd_yX5_work ⟨rfl, rfl, Nat.le_of_ble_eq_true rfl, Nat.le_of_ble_eq_true rfl⟩) (by decide) rfl wfR_0 rfl ⟨Nat.zero_le _, Nat.zero_le _⟩ (Nat.le_of_ble_eq_true rfl) dX5_go_1 ?_
  refine x_aload_n C0 dX5_go_4 rfl 0 rfl ?_
  refine x_iload_n C0 dX5_go_5 rfl 2 rfl ?_
  obtain ⟨q2, eq2, h⟩ := x_bind h
  refine x_callV11 C0 (c_X5_find n eq2) (x_cwV C0 mw_787 mw_789 mw_59 mw_84 mw_790 hd_yX5_find ⟨rfl, rfl, Nat.le_of_ble_eq_true rfl, Nat.le_of_ble_eq_true rfl⟩) (by decide) rfl wfR_0 rfl ⟨Nat.zero_le _, Nat.zero_le _⟩ (Nat.le_of_ble_eq_true rfl) dX5_go_6 ?_
  refine x_istore_n C0 dX5_go_9 rfl (L' := [(3, _), (0, _), (1, _), (2, _)]) (by decide) rfl ?_
  refine x_iconst C0 (v := 0) dX5_go_10 ki_0 ?_
  refine x_pc (pc' := 11) rfl ?_
  refine x_istore C0 dX5_go_11 (L' := [(4, _), (3, _), (0, _), (1, _), (2, _)]) (by decide) rfl ?_
  refine x_iconst C0 (v := 0) dX5_go_13 ki_0 ?_
  refine x_istore C0 dX5_go_14 (L' := [(5, _), (4, _), (3, _), (0, _), (1, _), (2, _)]) (by decide) rfl ?_
  refine x_sub [3, 4, 5, 2, 1, 0] (L' := [(0, _), (1, _), (2, _), (3, _), (4, _), (5, _)]) rfl ?_
  refine x_pc (pc' := 16) rfl ?_
  exact b_X5_go_16 C0 n n _ _ _ _ _ _ h
set_option maxRecDepth 4000 in
set_option maxHeartbeats 2000000 in
theorem c_X5_isAccess {l : Launch} {D : va_G} {cs : Nat → ClassId} {ad : Nat → Nat} {x0 : Int32} {x1 : Int32}  {res : Int32} (h : F_X5_isAccess x0 x1 = res) : x_Met l yX5_isAccess [Cond.code yX5_isAccess cX5_isAccess 2 (some FieldType.boolean)] ({ frames := 2, cells := 0, slots := 0, locals := 42 } : Room) D vwCl (xtys cs) 0 ad wf0 [.int x0, .int x1] m0 (some (.int res)) m0 := by
  refine x_Met_of (L0 := [(0, .int x0), (1, .int x1)]) (own := RX5) (by decide) rfl rfl wf0_loc (Nat.le_of_ble_eq_true rfl) rfl ?_
  intro p e s m args below meth c A C0
  refine x_iload_n C0 dX5_isAccess_0 rfl 0 rfl ?_
  refine x_iconst C0 (v := 0) dX5_isAccess_1 ki_0 ?_
  refine x_bipush C0 (v := 15) dX5_isAccess_2 kb_15 ?_
  refine x_pureS3 C0 (fun ad' => c_X5_in rfl) (x_cwS C0 mw_696 mw_697 mw_84 mw_698 hd_yX5_in ⟨rfl, rfl, Nat.le_of_ble_eq_true rfl, Nat.le_of_ble_eq_true rfl⟩) ⟨Nat.zero_le _, Nat.zero_le _⟩ (Nat.le_of_ble_eq_true rfl) dX5_isAccess_4 ?_
  refine x_if_eq C0 (tgt := 21) dX5_isAccess_7 rfl h (fun _ h => ?_) (fun _ h => ?_)
  · refine x_iconst C0 (v := 0) dX5_isAccess_21 ki_0 ?_
    subst h
    exact x_zret (v := 0) C0 rfl dX5_isAccess_22
  · refine x_iload_n C0 dX5_isAccess_10 rfl 1 rfl ?_
    refine x_pureS1 C0 (fun ad' => c_X5_isLine rfl) (x_cwS C0 mw_776 mw_777 mw_84 mw_778 hd_yX5_isLine ⟨rfl, rfl, Nat.le_of_ble_eq_true rfl, Nat.le_of_ble_eq_true rfl⟩) ⟨Nat.zero_le _, Nat.zero_le _⟩ (Nat.le_of_ble_eq_true rfl) dX5_isAccess_11 ?_
    refine x_if_eq C0 (tgt := 21) dX5_isAccess_14 rfl h (fun _ h => ?_) (fun _ h => ?_)
    · refine x_iconst C0 (v := 0) dX5_isAccess_21 ki_0 ?_
      subst h
      exact x_zret (v := 0) C0 rfl dX5_isAccess_22
    · refine x_iconst C0 (v := 1) dX5_isAccess_17 ki_1 ?_
      refine x_goto C0 (tgt := 22) dX5_isAccess_18 rfl ?_
      subst h
      exact x_zret (v := 1) C0 rfl dX5_isAccess_22
set_option maxRecDepth 4000 in
set_option maxHeartbeats 2000000 in
theorem c_X5_access {l : Launch} {D : va_G} {cs : Nat → ClassId} {ad : Nat → Nat} (n : Nat) {σ : xM} {x1 : Int32} {x2 : Int32}  {res : Int32 × xM} (h : F_X5_access n σ x1 x2 = some res) : x_Met l yX5_access [Cond.code yX5_access cX5_access 3 (some FieldType.int)] ({ frames := 6, cells := 0, slots := 0, locals := 143 } : Room) D vwCl (xtys cs) 4 ad (wfR cs ad) [.ref (ad 0), .int x1, .int x2] σ (some (.int res.1)) res.2 := by
  refine x_Met_of (L0 := [(0, .ref (ad 0)), (1, .int x1), (2, .int x2)]) (own := RX5) (by decide) rfl rfl wfR_loc (Nat.le_of_ble_eq_true rfl) rfl ?_
  intro p e s m args below meth c A C0
  refine x_iload_n C0 dX5_access_0 rfl 1 rfl ?_
  refine x_iload_n C0 dX5_access_1 rfl 2 rfl ?_
  refine x_pureS2 C0 (fun ad' => c_X5_isAccess rfl) (x_cwS C0 mw_773 mw_774 mw_84 mw_775 hd_yX5_isAccess ⟨rfl, rfl, Nat.le_of_ble_eq_true rfl, Nat.le_of_ble_eq_true rfl⟩) ⟨Nat.zero_le _, Nat.zero_le _⟩ (Nat.le_of_ble_eq_true rfl) dX5_access_2 ?_
  refine x_if_ne C0 (tgt := 11) dX5_access_5 rfl h (fun _ h => ?_) (fun _ h => ?_)
  · refine x_ldc C0 mw_699 dX5_access_8 ?_
    obtain rfl := x_inj h
    exact x_iret C0 dX5_access_10
  · refine x_aload_n C0 dX5_access_11 rfl 0 rfl ?_
    obtain ⟨q1, eq1, h⟩ := x_bind h
    refine x_callV00 C0 (c_X5_record n eq1) (x_cwV C0 mw_688 mw_690 mw_47 mw_84 mw_691 hd_yX5_record ⟨rfl, rfl, Nat.le_of_ble_eq_true rfl, Nat.le_of_ble_eq_true rfl⟩) (by decide) rfl wfR_0 rfl ⟨Nat.zero_le _, Nat.zero_le _⟩ (Nat.le_of_ble_eq_true rfl) dX5_access_12 ?_
    refine x_aload_n C0 dX5_access_15 rfl 0 rfl ?_
    refine x_iload_n C0 dX5_access_16 rfl 1 rfl ?_
    refine x_iload_n C0 dX5_access_17 rfl 2 rfl ?_
    obtain ⟨q2, eq2, h⟩ := x_bind h
    refine x_callV21 C0 (c_X5_go n eq2) (x_cwV C0 mw_779 mw_781 mw_57 mw_84 mw_782 hd_yX5_go ⟨rfl, rfl, Nat.le_of_ble_eq_true rfl, Nat.le_of_ble_eq_true rfl⟩) (by decide) rfl wfR_0 rfl ⟨Nat.zero_le _, Nat.zero_le _⟩ (Nat.le_of_ble_eq_true rfl) dX5_access_18 ?_
    obtain rfl := x_inj h
    exact x_iret C0 dX5_access_21
set_option maxRecDepth 4000 in
set_option maxHeartbeats 2000000 in
theorem c_X5_isWalk {l : Launch} {D : va_G} {cs : Nat → ClassId} {ad : Nat → Nat} {x0 : Int32} {x1 : Int32} {x2 : Int32} {x3 : Int32}  {res : Int32} (h : F_X5_isWalk x0 x1 x2 x3 = res) : x_Met l yX5_isWalk [Cond.code yX5_isWalk cX5_isWalk 4 (some FieldType.boolean)] ({ frames := 3, cells := 0, slots := 0, locals := 63 } : Room) D vwCl (xtys cs) 0 ad wf0 [.int x0, .int x1, .int x2, .int x3] m0 (some (.int res)) m0 := by
  refine x_Met_of (L0 := [(0, .int x0), (1, .int x1), (2, .int x2), (3, .int x3)]) (own := RX5) (by decide) rfl rfl wf0_loc (Nat.le_of_ble_eq_true rfl) rfl ?_
  intro p e s m args below meth c A C0
  refine x_iload_n C0 dX5_isWalk_0 rfl 0 rfl ?_
  refine x_iload_n C0 dX5_isWalk_1 rfl 1 rfl ?_
  refine x_pureS2 C0 (fun ad' => c_X5_isAccess rfl) (x_cwS C0 mw_773 mw_774 mw_84 mw_775 hd_yX5_isAccess ⟨rfl, rfl, Nat.le_of_ble_eq_true rfl, Nat.le_of_ble_eq_true rfl⟩) ⟨Nat.zero_le _, Nat.zero_le _⟩ (Nat.le_of_ble_eq_true rfl) dX5_isWalk_2 ?_
  refine x_if_eq C0 (tgt := 48) dX5_isWalk_5 rfl h (fun _ h => ?_) (fun _ h => ?_)
  · refine x_iconst C0 (v := 0) dX5_isWalk_48 ki_0 ?_
    subst h
    exact x_zret (v := 0) C0 rfl dX5_isWalk_49
  · refine x_iload_n C0 dX5_isWalk_8 rfl 2 rfl ?_
    refine x_sipush C0 (v := (-999)) dX5_isWalk_9 ks_m999 ?_
    refine x_sipush C0 (v := 999) dX5_isWalk_12 ks_999 ?_
    refine x_pureS3 C0 (fun ad' => c_X5_in rfl) (x_cwS C0 mw_696 mw_697 mw_84 mw_698 hd_yX5_in ⟨rfl, rfl, Nat.le_of_ble_eq_true rfl, Nat.le_of_ble_eq_true rfl⟩) ⟨Nat.zero_le _, Nat.zero_le _⟩ (Nat.le_of_ble_eq_true rfl) dX5_isWalk_15 ?_
    refine x_if_eq C0 (tgt := 48) dX5_isWalk_18 rfl h (fun _ h => ?_) (fun _ h => ?_)
    · refine x_iconst C0 (v := 0) dX5_isWalk_48 ki_0 ?_
      subst h
      exact x_zret (v := 0) C0 rfl dX5_isWalk_49
    · refine x_iload_n C0 dX5_isWalk_21 rfl 3 rfl ?_
      refine x_iconst C0 (v := 1) dX5_isWalk_22 ki_1 ?_
      refine x_bipush C0 (v := 30) dX5_isWalk_23 kb_30 ?_
      refine x_pureS3 C0 (fun ad' => c_X5_in rfl) (x_cwS C0 mw_696 mw_697 mw_84 mw_698 hd_yX5_in ⟨rfl, rfl, Nat.le_of_ble_eq_true rfl, Nat.le_of_ble_eq_true rfl⟩) ⟨Nat.zero_le _, Nat.zero_le _⟩ (Nat.le_of_ble_eq_true rfl) dX5_isWalk_25 ?_
      refine x_if_eq C0 (tgt := 48) dX5_isWalk_28 rfl h (fun _ h => ?_) (fun _ h => ?_)
      · refine x_iconst C0 (v := 0) dX5_isWalk_48 ki_0 ?_
        subst h
        exact x_zret (v := 0) C0 rfl dX5_isWalk_49
      · refine x_iload_n C0 dX5_isWalk_31 rfl 1 rfl ?_
        refine x_iload_n C0 dX5_isWalk_32 rfl 2 rfl ?_
        refine x_iload_n C0 dX5_isWalk_33 rfl 3 rfl ?_
        refine x_iconst C0 (v := 1) dX5_isWalk_34 ki_1 ?_
        refine x_isub C0 dX5_isWalk_35 ?_
        refine x_imul C0 dX5_isWalk_36 ?_
        refine x_iadd C0 dX5_isWalk_37 ?_
        refine x_pc (pc' := 38) rfl ?_
        refine x_pureS1 C0 (fun ad' => c_X5_isLine rfl) (x_cwS C0 mw_776 mw_777 mw_84 mw_778 hd_yX5_isLine ⟨rfl, rfl, Nat.le_of_ble_eq_true rfl, Nat.le_of_ble_eq_true rfl⟩) ⟨Nat.zero_le _, Nat.zero_le _⟩ (Nat.le_of_ble_eq_true rfl) dX5_isWalk_38 ?_
        refine x_if_eq C0 (tgt := 48) dX5_isWalk_41 rfl h (fun _ h => ?_) (fun _ h => ?_)
        · refine x_iconst C0 (v := 0) dX5_isWalk_48 ki_0 ?_
          subst h
          exact x_zret (v := 0) C0 rfl dX5_isWalk_49
        · refine x_iconst C0 (v := 1) dX5_isWalk_44 ki_1 ?_
          refine x_goto C0 (tgt := 49) dX5_isWalk_45 rfl ?_
          subst h
          exact x_zret (v := 1) C0 rfl dX5_isWalk_49
set_option maxRecDepth 4000 in
set_option maxHeartbeats 2000000 in
theorem b_X5_goOn_34 {p : Program} {l : Launch} {e : Env} {s : State} {m : MethodId} {args : Array Value} {below : List Frame} {meth : Method} {c : Code} {D : va_G} {cs : Nat → ClassId} {ad : Nat → Nat} {A : Nat → Prop} (C0 : x_C p s m args meth c D vwCl (xtys cs) A s.heap 4 ad (wfR cs ad) cX5_goOn 7 RX5 (some FieldType.int))  (n : Nat) {res : Int32 × xM} {K6 : xM → Int32 → Int32 → Int32 → Int32 → Int32 → Int32 → Option (Int32 × xM)} (hK6 : ∀ (σ : xM) (l1 : Int32) (l2 : Int32) (l3 : Int32) (l4 : Int32) (l5 : Int32) (l6 : Int32) , K6 σ l1 l2 l3 l4 l5 l6 = some res → x_W p l e ({ frames := 6, cells := 0, slots := 0, locals := 143 } : Room) s m args below meth c D vwCl A s.heap 4 ad (wfR cs ad) 7 0 0 (x_E below args s D vwCl 4 ad (wfR cs ad) A (some (.int res.1)) res.2) σ 6 [(0, .ref (ad 0)), (1, .int l1), (2, .int l2), (3, .int l3), (4, .int l4), (5, .int l5), (6, .int l6)] []) : ∀ (σ : xM) (l1 : Int32) (l2 : Int32) (l3 : Int32) (l4 : Int32) (l6 : Int32) (s0 : Int32) (s1 : Int32), B_X5_goOn_34 n K6 σ l1 l2 l3 l4 l6 s0 s1 = some res → x_W p l e ({ frames := 6, cells := 0, slots := 0, locals := 143 } : Room) s m args below meth c D vwCl A s.heap 4 ad (wfR cs ad) 7 0 0 (x_E below args s D vwCl 4 ad (wfR cs ad) A (some (.int res.1)) res.2) σ 34 [(0, .ref (ad 0)), (1, .int l1), (2, .int l2), (3, .int l3), (4, .int l4), (6, .int l6)] [.int s1, .int s0] := by
  intro σ l1 l2 l3 l4 l6 s0 s1 h
  refine x_iadd C0 dX5_goOn_34 ?_
  refine x_istore C0 dX5_goOn_35 (L' := [(5, _), (0, _), (1, _), (2, _), (3, _), (4, _), (6, _)]) (by decide) rfl ?_
  refine x_iinc C0 (v := 1) (L' := [(6, _), (5, _), (0, _), (1, _), (2, _), (3, _), (4, _)]) dX5_goOn_37 6 rfl ki_1 (by decide) rfl ?_
  refine x_goto C0 (tgt := 6) dX5_goOn_40 rfl ?_
  refine x_sub [2, 3, 4, 5, 6, 1, 0] (L' := [(0, _), (1, _), (2, _), (3, _), (4, _), (5, _), (6, _)]) rfl ?_
  refine x_pc (pc' := 6) rfl ?_
  exact hK6 _ _ _ _ _ _ _ h
set_option maxRecDepth 4000 in
set_option maxHeartbeats 2000000 in
theorem b_X5_goOn_6 {p : Program} {l : Launch} {e : Env} {s : State} {m : MethodId} {args : Array Value} {below : List Frame} {meth : Method} {c : Code} {D : va_G} {cs : Nat → ClassId} {ad : Nat → Nat} {A : Nat → Prop} (C0 : x_C p s m args meth c D vwCl (xtys cs) A s.heap 4 ad (wfR cs ad) cX5_goOn 7 RX5 (some FieldType.int))  (n : Nat) {res : Int32 × xM} : ∀ (f : Nat) (σ : xM) (l1 : Int32) (l2 : Int32) (l3 : Int32) (l4 : Int32) (l5 : Int32) (l6 : Int32), B_X5_goOn_6 n f σ l1 l2 l3 l4 l5 l6 = some res → x_W p l e ({ frames := 6, cells := 0, slots := 0, locals := 143 } : Room) s m args below meth c D vwCl A s.heap 4 ad (wfR cs ad) 7 0 0 (x_E below args s D vwCl 4 ad (wfR cs ad) A (some (.int res.1)) res.2) σ 6 [(0, .ref (ad 0)), (1, .int l1), (2, .int l2), (3, .int l3), (4, .int l4), (5, .int l5), (6, .int l6)] [] := by
  intro f
  induction f with
  | zero =>
    intro σ l1 l2 l3 l4 l5 l6 h
    cases h
  | succ f ih =>
    intro σ l1 l2 l3 l4 l5 l6 h
    refine x_iload C0 dX5_goOn_6 6 rfl ?_
    refine x_iload C0 dX5_goOn_8 4 rfl ?_
    refine x_icmp_ge C0 (tgt := 43) dX5_goOn_10 rfl h (fun _ h => ?_) (fun _ h => ?_)
    · refine x_iload C0 dX5_goOn_13 5 rfl ?_
      refine x_aload_n C0 dX5_goOn_15 rfl 0 rfl ?_
      refine x_iload_n C0 dX5_goOn_16 rfl 1 rfl ?_
      refine x_iload_n C0 dX5_goOn_17 rfl 2 rfl ?_
      refine x_iload C0 dX5_goOn_18 6 rfl ?_
      refine x_iload_n C0 dX5_goOn_20 rfl 3 rfl ?_
      refine x_imul C0 dX5_goOn_21 ?_
      refine x_pc (pc' := 22) rfl ?_
      refine x_iadd C0 dX5_goOn_22 ?_
      obtain ⟨q1, eq1, h⟩ := x_bind h
      refine x_callV21 C0 (c_X5_go n eq1) (x_cwV C0 mw_779 mw_781 mw_57 mw_84 mw_782 hd_yX5_go ⟨rfl, rfl, Nat.le_of_ble_eq_true rfl, Nat.le_of_ble_eq_true rfl⟩) (by decide) rfl wfR_0 rfl ⟨Nat.zero_le _, Nat.zero_le _⟩ (Nat.le_of_ble_eq_true rfl) dX5_goOn_23 ?_
      refine x_if_ne C0 (tgt := 33) dX5_goOn_26 rfl h (fun _ h => ?_) (fun _ h => ?_)
      · refine x_iconst C0 (v := 0) dX5_goOn_29 ki_0 ?_
        refine x_goto C0 (tgt := 34) dX5_goOn_30 rfl ?_
        refine x_sub [0, 1, 2, 3, 4, 6] (L' := [(0, _), (1, _), (2, _), (3, _), (4, _), (6, _)]) rfl ?_
        refine x_pc (pc' := 34) rfl ?_
        exact b_X5_goOn_34 C0 n (fun σ l1 l2 l3 l4 l5 l6 h => ih σ l1 l2 l3 l4 l5 l6 h) _ _ _ _ _ _ _ _ h
      · refine x_iconst C0 (v := 1) dX5_goOn_33 ki_1 ?_
        refine x_sub [0, 1, 2, 3, 4, 6] (L' := [(0, _), (1, _), (2, _), (3, _), (4, _), (6, _)]) rfl ?_
        refine x_pc (pc' := 34) rfl ?_
        exact b_X5_goOn_34 C0 n (fun σ l1 l2 l3 l4 l5 l6 h => ih σ l1 l2 l3 l4 l5 l6 h) _ _ _ _ _ _ _ _ h
    · refine x_iload C0 dX5_goOn_43 5 rfl ?_
      obtain rfl := x_inj h
      exact x_iret C0 dX5_goOn_45
set_option maxRecDepth 4000 in
set_option maxHeartbeats 2000000 in
theorem c_X5_goOn {l : Launch} {D : va_G} {cs : Nat → ClassId} {ad : Nat → Nat} (n : Nat) {σ : xM} {x1 : Int32} {x2 : Int32} {x3 : Int32} {x4 : Int32}  {res : Int32 × xM} (h : F_X5_goOn n σ x1 x2 x3 x4 = some res) : x_Met l yX5_goOn [Cond.code yX5_goOn cX5_goOn 7 (some FieldType.int)] ({ frames := 6, cells := 0, slots := 0, locals := 143 } : Room) D vwCl (xtys cs) 4 ad (wfR cs ad) [.ref (ad 0), .int x1, .int x2, .int x3, .int x4] σ (some (.int res.1)) res.2 := by
  refine x_Met_of (L0 := [(0, .ref (ad 0)), (1, .int x1), (2, .int x2), (3, .int x3), (4, .int x4)]) (own := RX5) (by decide) rfl rfl wfR_loc (Nat.le_of_ble_eq_true rfl) rfl ?_
  intro p e s m args below meth c A C0
  refine x_iconst C0 (v := 0) dX5_goOn_0 ki_0 ?_
  refine x_istore C0 dX5_goOn_1 (L' := [(5, _), (0, _), (1, _), (2, _), (3, _), (4, _)]) (by decide) rfl ?_
  refine x_iconst C0 (v := 0) dX5_goOn_3 ki_0 ?_
  refine x_istore C0 dX5_goOn_4 (L' := [(6, _), (5, _), (0, _), (1, _), (2, _), (3, _), (4, _)]) (by decide) rfl ?_
  refine x_sub [2, 3, 4, 5, 6, 1, 0] (L' := [(0, _), (1, _), (2, _), (3, _), (4, _), (5, _), (6, _)]) rfl ?_
  refine x_pc (pc' := 6) rfl ?_
  exact b_X5_goOn_6 C0 n n _ _ _ _ _ _ _ h
set_option maxRecDepth 4000 in
set_option maxHeartbeats 2000000 in
theorem c_X5_walk {l : Launch} {D : va_G} {cs : Nat → ClassId} {ad : Nat → Nat} (n : Nat) {σ : xM} {x1 : Int32} {x2 : Int32} {x3 : Int32} {x4 : Int32}  {res : Int32 × xM} (h : F_X5_walk n σ x1 x2 x3 x4 = some res) : x_Met l yX5_walk [Cond.code yX5_walk cX5_walk 5 (some FieldType.int)] ({ frames := 7, cells := 0, slots := 0, locals := 169 } : Room) D vwCl (xtys cs) 4 ad (wfR cs ad) [.ref (ad 0), .int x1, .int x2, .int x3, .int x4] σ (some (.int res.1)) res.2 := by
  refine x_Met_of (L0 := [(0, .ref (ad 0)), (1, .int x1), (2, .int x2), (3, .int x3), (4, .int x4)]) (own := RX5) (by decide) rfl rfl wfR_loc (Nat.le_of_ble_eq_true rfl) rfl ?_
  intro p e s m args below meth c A C0
  refine x_iload_n C0 dX5_walk_0 rfl 1 rfl ?_
  refine x_iload_n C0 dX5_walk_1 rfl 2 rfl ?_
  refine x_iload_n C0 dX5_walk_2 rfl 3 rfl ?_
  refine x_iload C0 dX5_walk_3 4 rfl ?_
  refine x_pureS4 C0 (fun ad' => c_X5_isWalk rfl) (x_cwS C0 mw_842 mw_843 mw_84 mw_844 hd_yX5_isWalk ⟨rfl, rfl, Nat.le_of_ble_eq_true rfl, Nat.le_of_ble_eq_true rfl⟩) ⟨Nat.zero_le _, Nat.zero_le _⟩ (Nat.le_of_ble_eq_true rfl) dX5_walk_5 ?_
  refine x_if_ne C0 (tgt := 14) dX5_walk_8 rfl h (fun _ h => ?_) (fun _ h => ?_)
  · refine x_ldc C0 mw_699 dX5_walk_11 ?_
    obtain rfl := x_inj h
    exact x_iret C0 dX5_walk_13
  · refine x_aload_n C0 dX5_walk_14 rfl 0 rfl ?_
    obtain ⟨q1, eq1, h⟩ := x_bind h
    refine x_callV00 C0 (c_X5_record n eq1) (x_cwV C0 mw_688 mw_690 mw_47 mw_84 mw_691 hd_yX5_record ⟨rfl, rfl, Nat.le_of_ble_eq_true rfl, Nat.le_of_ble_eq_true rfl⟩) (by decide) rfl wfR_0 rfl ⟨Nat.zero_le _, Nat.zero_le _⟩ (Nat.le_of_ble_eq_true rfl) dX5_walk_15 ?_
    refine x_aload_n C0 dX5_walk_18 rfl 0 rfl ?_
    refine x_iload_n C0 dX5_walk_19 rfl 1 rfl ?_
    refine x_iload_n C0 dX5_walk_20 rfl 2 rfl ?_
    refine x_iload_n C0 dX5_walk_21 rfl 3 rfl ?_
    refine x_iload C0 dX5_walk_22 4 rfl ?_
    refine x_pc (pc' := 24) rfl ?_
    obtain ⟨q2, eq2, h⟩ := x_bind h
    refine x_callV41 C0 (c_X5_goOn n eq2) (x_cwV C0 mw_845 mw_847 mw_71 mw_84 mw_848 hd_yX5_goOn ⟨rfl, rfl, Nat.le_of_ble_eq_true rfl, Nat.le_of_ble_eq_true rfl⟩) (by decide) rfl wfR_0 rfl ⟨Nat.zero_le _, Nat.zero_le _⟩ (Nat.le_of_ble_eq_true rfl) dX5_walk_24 ?_
    obtain rfl := x_inj h
    exact x_iret C0 dX5_walk_27
set_option maxRecDepth 4000 in
set_option maxHeartbeats 2000000 in
theorem c_X5_wouldHit {l : Launch} {D : va_G} {cs : Nat → ClassId} {ad : Nat → Nat} (n : Nat) {σ : xM} {x1 : Int32} {x2 : Int32} {x3 : Int32} {x4 : Int32}  {res : Int32 × xM} (h : F_X5_wouldHit n σ x1 x2 x3 x4 = some res) : x_Met l yX5_wouldHit [Cond.code yX5_wouldHit cX5_wouldHit 6 (some FieldType.int)] ({ frames := 7, cells := 0, slots := 0, locals := 169 } : Room) D vwCl (xtys cs) 4 ad (wfR cs ad) [.ref (ad 0), .int x1, .int x2, .int x3, .int x4] σ (some (.int res.1)) res.2 := by
  refine x_Met_of (L0 := [(0, .ref (ad 0)), (1, .int x1), (2, .int x2), (3, .int x3), (4, .int x4)]) (own := RX5) (by decide) rfl rfl wfR_loc (Nat.le_of_ble_eq_true rfl) rfl ?_
  intro p e s m args below meth c A C0
  refine x_iload_n C0 dX5_wouldHit_0 rfl 1 rfl ?_
  refine x_iload_n C0 dX5_wouldHit_1 rfl 2 rfl ?_
  refine x_iload_n C0 dX5_wouldHit_2 rfl 3 rfl ?_
  refine x_iload C0 dX5_wouldHit_3 4 rfl ?_
  refine x_pureS4 C0 (fun ad' => c_X5_isWalk rfl) (x_cwS C0 mw_842 mw_843 mw_84 mw_844 hd_yX5_isWalk ⟨rfl, rfl, Nat.le_of_ble_eq_true rfl, Nat.le_of_ble_eq_true rfl⟩) ⟨Nat.zero_le _, Nat.zero_le _⟩ (Nat.le_of_ble_eq_true rfl) dX5_wouldHit_5 ?_
  refine x_if_ne C0 (tgt := 14) dX5_wouldHit_8 rfl h (fun _ h => ?_) (fun _ h => ?_)
  · refine x_ldc C0 mw_699 dX5_wouldHit_11 ?_
    obtain rfl := x_inj h
    exact x_iret C0 dX5_wouldHit_13
  · refine x_aload_n C0 dX5_wouldHit_14 rfl 0 rfl ?_
    refine x_iconst C0 (v := 0) dX5_wouldHit_15 ki_0 ?_
    refine x_sipush C0 (v := 2148) dX5_wouldHit_16 ks_2148 ?_
    obtain ⟨q1, eq1, h⟩ := x_bind h
    refine x_callV20 C0 (c_X5_copy n eq1) (x_cwV C0 mw_676 mw_678 mw_46 mw_84 mw_679 hd_yX5_copy ⟨rfl, rfl, Nat.le_of_ble_eq_true rfl, Nat.le_of_ble_eq_true rfl⟩) (by decide) rfl wfR_0 rfl ⟨Nat.zero_le _, Nat.zero_le _⟩ (Nat.le_of_ble_eq_true rfl) dX5_wouldHit_19 ?_
    refine x_aload_n C0 dX5_wouldHit_22 rfl 0 rfl ?_
    refine x_iload_n C0 dX5_wouldHit_23 rfl 1 rfl ?_
    refine x_iload_n C0 dX5_wouldHit_24 rfl 2 rfl ?_
    refine x_pc (pc' := 25) rfl ?_
    refine x_iload_n C0 dX5_wouldHit_25 rfl 3 rfl ?_
    refine x_iload C0 dX5_wouldHit_26 4 rfl ?_
    obtain ⟨q2, eq2, h⟩ := x_bind h
    refine x_callV41 C0 (c_X5_goOn n eq2) (x_cwV C0 mw_845 mw_847 mw_71 mw_84 mw_848 hd_yX5_goOn ⟨rfl, rfl, Nat.le_of_ble_eq_true rfl, Nat.le_of_ble_eq_true rfl⟩) (by decide) rfl wfR_0 rfl ⟨Nat.zero_le _, Nat.zero_le _⟩ (Nat.le_of_ble_eq_true rfl) dX5_wouldHit_28 ?_
    refine x_istore C0 dX5_wouldHit_31 (L' := [(5, _), (0, _), (1, _), (2, _), (3, _), (4, _)]) (by decide) rfl ?_
    refine x_aload_n C0 dX5_wouldHit_33 rfl 1 rfl ?_
    refine x_sipush C0 (v := 2148) dX5_wouldHit_34 ks_2148 ?_
    refine x_iconst C0 (v := 0) dX5_wouldHit_37 ki_0 ?_
    obtain ⟨q3, eq3, h⟩ := x_bind h
    refine x_callV20 C0 (c_X5_copy n eq3) (x_cwV C0 mw_676 mw_678 mw_46 mw_84 mw_679 hd_yX5_copy ⟨rfl, rfl, Nat.le_of_ble_eq_true rfl, Nat.le_of_ble_eq_true rfl⟩) (by decide) rfl wfR_0 rfl ⟨Nat.zero_le _, Nat.zero_le _⟩ (Nat.le_of_ble_eq_true rfl) dX5_wouldHit_38 ?_
    refine x_pc (pc' := 41) rfl ?_
    refine x_iload C0 dX5_wouldHit_41 0 rfl ?_
    obtain rfl := x_inj h
    exact x_iret C0 dX5_wouldHit_43
set_option maxRecDepth 4000 in
set_option maxHeartbeats 2000000 in
theorem c_X5_wouldAsk {l : Launch} {D : va_G} {cs : Nat → ClassId} {ad : Nat → Nat} (n : Nat) {σ : xM} {x1 : Int32} {x2 : Int32} {x3 : Int32} {x4 : Int32}  {res : Int32 × xM} (h : F_X5_wouldAsk n σ x1 x2 x3 x4 = some res) : x_Met l yX5_wouldAsk [Cond.code yX5_wouldAsk cX5_wouldAsk 5 (some FieldType.int)] ({ frames := 6, cells := 0, slots := 0, locals := 143 } : Room) D vwCl (xtys cs) 4 ad (wfR cs ad) [.ref (ad 0), .int x1, .int x2, .int x3, .int x4] σ (some (.int res.1)) res.2 := by
  refine x_Met_of (L0 := [(0, .ref (ad 0)), (1, .int x1), (2, .int x2), (3, .int x3), (4, .int x4)]) (own := RX5) (by decide) rfl rfl wfR_loc (Nat.le_of_ble_eq_true rfl) rfl ?_
  intro p e s m args below meth c A C0
  refine x_aload_n C0 dX5_wouldAsk_0 rfl 0 rfl ?_
  refine x_iload_n C0 dX5_wouldAsk_1 rfl 1 rfl ?_
  obtain ⟨q1, eq1, h⟩ := x_bind h
  refine x_callV11 C0 (c_X5_isHelper n eq1) (x_cwV C0 mw_751 mw_753 mw_56 mw_84 mw_754 hd_yX5_isHelper ⟨rfl, rfl, Nat.le_of_ble_eq_true rfl, Nat.le_of_ble_eq_true rfl⟩) (by decide) rfl wfR_0 rfl ⟨Nat.zero_le _, Nat.zero_le _⟩ (Nat.le_of_ble_eq_true rfl) dX5_wouldAsk_2 ?_
  refine x_if_ne C0 (tgt := 11) dX5_wouldAsk_5 rfl h (fun _ h => ?_) (fun _ h => ?_)
  · refine x_ldc C0 mw_755 dX5_wouldAsk_8 ?_
    obtain rfl := x_inj h
    exact x_iret C0 dX5_wouldAsk_10
  · refine x_iload_n C0 dX5_wouldAsk_11 rfl 2 rfl ?_
    refine x_iload_n C0 dX5_wouldAsk_12 rfl 3 rfl ?_
    refine x_pureS2 C0 (fun ad' => c_X5_isAccess rfl) (x_cwS C0 mw_773 mw_774 mw_84 mw_775 hd_yX5_isAccess ⟨rfl, rfl, Nat.le_of_ble_eq_true rfl, Nat.le_of_ble_eq_true rfl⟩) ⟨Nat.zero_le _, Nat.zero_le _⟩ (Nat.le_of_ble_eq_true rfl) dX5_wouldAsk_13 ?_
    refine x_if_eq C0 (tgt := 24) dX5_wouldAsk_16 rfl h (fun _ h => ?_) (fun _ h => ?_)
    · refine x_ldc C0 mw_699 dX5_wouldAsk_24 ?_
      obtain rfl := x_inj h
      exact x_iret C0 dX5_wouldAsk_26
    · refine x_iload C0 dX5_wouldAsk_19 4 rfl ?_
      refine x_if_ge C0 (tgt := 27) dX5_wouldAsk_21 rfl h (fun _ h => ?_) (fun _ h => ?_)
      · refine x_ldc C0 mw_699 dX5_wouldAsk_24 ?_
        obtain rfl := x_inj h
        exact x_iret C0 dX5_wouldAsk_26
      · refine x_aload_n C0 dX5_wouldAsk_27 rfl 0 rfl ?_
        refine x_iconst C0 (v := 0) dX5_wouldAsk_28 ki_0 ?_
        refine x_sipush C0 (v := 2148) dX5_wouldAsk_29 ks_2148 ?_
        obtain ⟨q2, eq2, h⟩ := x_bind h
        refine x_callV20 C0 (c_X5_copy n eq2) (x_cwV C0 mw_676 mw_678 mw_46 mw_84 mw_679 hd_yX5_copy ⟨rfl, rfl, Nat.le_of_ble_eq_true rfl, Nat.le_of_ble_eq_true rfl⟩) (by decide) rfl wfR_0 rfl ⟨Nat.zero_le _, Nat.zero_le _⟩ (Nat.le_of_ble_eq_true rfl) dX5_wouldAsk_32 ?_
        refine x_aload_n C0 dX5_wouldAsk_35 rfl 0 rfl ?_
        refine x_iload_n C0 dX5_wouldAsk_36 rfl 1 rfl ?_
        refine x_put C0 inu5 tyX5 tyX5_ok nmX5 rfl 6 (by decide) mw_649 rfl rfl rfl (by decide) wfR_0 (Nat.le_of_ble_eq_true rfl) wpR_0_6 (fun r' h' k' => x_up_ne r' h' k') dX5_wouldAsk_37 ?_
        refine x_pc (pc' := 40) rfl ?_
        refine x_aload_n C0 dX5_wouldAsk_40 rfl 0 rfl ?_
        refine x_iconst C0 (v := 0) dX5_wouldAsk_41 ki_0 ?_
        refine x_put C0 inu5 tyX5 tyX5_ok nmX5 rfl 8 (by decide) mw_651 rfl rfl rfl (by decide) wfR_0 (Nat.le_of_ble_eq_true rfl) wpR_0_8 (fun r' h' k' => x_up_ne r' h' k') dX5_wouldAsk_42 ?_
        refine x_aload_n C0 dX5_wouldAsk_45 rfl 0 rfl ?_
        refine x_iload_n C0 dX5_wouldAsk_46 rfl 2 rfl ?_
        refine x_iload_n C0 dX5_wouldAsk_47 rfl 3 rfl ?_
        obtain ⟨q5, eq5, h⟩ := x_bind h
        refine x_callV21 C0 (c_X5_go n eq5) (x_cwV C0 mw_779 mw_781 mw_57 mw_84 mw_782 hd_yX5_go ⟨rfl, rfl, Nat.le_of_ble_eq_true rfl, Nat.le_of_ble_eq_true rfl⟩) (by decide) rfl wfR_0 rfl ⟨Nat.zero_le _, Nat.zero_le _⟩ (Nat.le_of_ble_eq_true rfl) dX5_wouldAsk_48 ?_
        refine x_pop C0 dX5_wouldAsk_51 rfl ?_
        refine x_pc (pc' := 52) rfl ?_
        refine x_aload_n C0 dX5_wouldAsk_52 rfl 0 rfl ?_
        refine x_iconst C0 (v := (-1)) dX5_wouldAsk_53 ki_m1 ?_
        refine x_put C0 inu5 tyX5 tyX5_ok nmX5 rfl 6 (by decide) mw_649 rfl rfl rfl (by decide) wfR_0 (Nat.le_of_ble_eq_true rfl) wpR_0_6 (fun r' h' k' => x_up_ne r' h' k') dX5_wouldAsk_54 ?_
        refine x_aload_n C0 dX5_wouldAsk_57 rfl 0 rfl ?_
        refine x_sipush C0 (v := 2148) dX5_wouldAsk_58 ks_2148 ?_
        refine x_iconst C0 (v := 0) dX5_wouldAsk_61 ki_0 ?_
        obtain ⟨q7, eq7, h⟩ := x_bind h
        refine x_callV20 C0 (c_X5_copy n eq7) (x_cwV C0 mw_676 mw_678 mw_46 mw_84 mw_679 hd_yX5_copy ⟨rfl, rfl, Nat.le_of_ble_eq_true rfl, Nat.le_of_ble_eq_true rfl⟩) (by decide) rfl wfR_0 rfl ⟨Nat.zero_le _, Nat.zero_le _⟩ (Nat.le_of_ble_eq_true rfl) dX5_wouldAsk_62 ?_
        refine x_iload C0 dX5_wouldAsk_65 4 rfl ?_
        refine x_pc (pc' := 67) rfl ?_
        refine x_aload_n C0 dX5_wouldAsk_67 rfl 0 rfl ?_
        refine x_get C0 inu5 rfl 8 (by decide) mw_651 (by decide) wfR_0 rfl dX5_wouldAsk_68 ?_
        refine x_icmp_ge C0 (tgt := 84) dX5_wouldAsk_71 rfl h (fun _ h => ?_) (fun _ h => ?_)
        · refine x_aload_n C0 dX5_wouldAsk_74 rfl 0 rfl ?_
          refine x_get C0 inu5 rfl 7 (by decide) mw_650 (by decide) wfR_0 rfl dX5_wouldAsk_75 ?_
          refine x_iload C0 dX5_wouldAsk_78 4 rfl ?_
          refine x_iald C0 1 rfl (by decide) wfR_3 dX5_wouldAsk_80 h (fun _ h => ?_)
          refine x_goto C0 (tgt := 86) dX5_wouldAsk_81 rfl ?_
          obtain rfl := x_inj h
          exact x_iret C0 dX5_wouldAsk_86
        · refine x_ldc C0 mw_675 dX5_wouldAsk_84 ?_
          obtain rfl := x_inj h
          exact x_iret C0 dX5_wouldAsk_86
set_option maxRecDepth 4000 in
set_option maxHeartbeats 2000000 in
theorem c_X5_type {l : Launch} {D : va_G} {cs : Nat → ClassId} {ad : Nat → Nat} (n : Nat) {σ : xM} {x1 : Int32}  {res : Int32 × xM} (h : F_X5_type n σ x1 = some res) : x_Met l yX5_type [Cond.code yX5_type cX5_type 2 (some FieldType.int)] ({ frames := 0, cells := 0, slots := 0, locals := 0 } : Room) D vwCl (xtys cs) 4 ad (wfR cs ad) [.ref (ad 0), .int x1] σ (some (.int res.1)) res.2 := by
  refine x_Met_of (L0 := [(0, .ref (ad 0)), (1, .int x1)]) (own := RX5) (by decide) rfl rfl wfR_loc (Nat.le_of_ble_eq_true rfl) rfl ?_
  intro p e s m args below meth c A C0
  refine x_aload_n C0 dX5_type_0 rfl 0 rfl ?_
  refine x_get C0 inu5 rfl 4 (by decide) mw_647 (by decide) wfR_0 rfl dX5_type_1 ?_
  refine x_bipush C0 (v := 80) dX5_type_4 kb_80 ?_
  refine x_icmp_ne C0 (tgt := 12) dX5_type_6 rfl h (fun _ h => ?_) (fun _ h => ?_)
  · refine x_ldc C0 mw_746 dX5_type_9 ?_
    obtain rfl := x_inj h
    exact x_iret C0 dX5_type_11
  · refine x_aload_n C0 dX5_type_12 rfl 0 rfl ?_
    refine x_get C0 inu5 rfl 3 (by decide) mw_646 (by decide) wfR_0 rfl dX5_type_13 ?_
    refine x_aload_n C0 dX5_type_16 rfl 0 rfl ?_
    refine x_get C0 inu5 rfl 4 (by decide) mw_647 (by decide) wfR_0 rfl dX5_type_17 ?_
    refine x_iload_n C0 dX5_type_20 rfl 1 rfl ?_
    refine x_iast C0 1 rfl (by decide) wfR_2 wpR_2 (fun r' h' k' => x_up_ne r' h' k') dX5_type_21 h (fun _ h => ?_)
    refine x_aload_n C0 dX5_type_22 rfl 0 rfl ?_
    refine x_pc (pc' := 23) rfl ?_
    refine x_dup C0 dX5_type_23 rfl ?_
    refine x_get C0 inu5 rfl 4 (by decide) mw_647 (by decide) wfR_0 rfl dX5_type_24 ?_
    refine x_iconst C0 (v := 1) dX5_type_27 ki_1 ?_
    refine x_iadd C0 dX5_type_28 ?_
    refine x_put C0 inu5 tyX5 tyX5_ok nmX5 rfl 4 (by decide) mw_647 rfl rfl rfl (by decide) wfR_0 (Nat.le_of_ble_eq_true rfl) wpR_0_4 (fun r' h' k' => x_up_ne r' h' k') dX5_type_29 ?_
    refine x_aload_n C0 dX5_type_32 rfl 0 rfl ?_
    refine x_get C0 inu5 rfl 4 (by decide) mw_647 (by decide) wfR_0 rfl dX5_type_33 ?_
    obtain rfl := x_inj h
    exact x_iret C0 dX5_type_36
set_option maxRecDepth 4000 in
set_option maxHeartbeats 2000000 in
theorem c_X5_clearText {l : Launch} {D : va_G} {cs : Nat → ClassId} {ad : Nat → Nat} (n : Nat) {σ : xM}  {res : Int32 × xM} (h : F_X5_clearText n σ = some res) : x_Met l yX5_clearText [Cond.code yX5_clearText cX5_clearText 2 (some FieldType.int)] ({ frames := 0, cells := 0, slots := 0, locals := 0 } : Room) D vwCl (xtys cs) 4 ad (wfR cs ad) [.ref (ad 0)] σ (some (.int res.1)) res.2 := by
  refine x_Met_of (L0 := [(0, .ref (ad 0))]) (own := RX5) (by decide) rfl rfl wfR_loc (Nat.le_of_ble_eq_true rfl) rfl ?_
  intro p e s m args below meth c A C0
  refine x_aload_n C0 dX5_clearText_0 rfl 0 rfl ?_
  refine x_get C0 inu5 rfl 4 (by decide) mw_647 (by decide) wfR_0 rfl dX5_clearText_1 ?_
  refine x_istore_n C0 dX5_clearText_4 rfl (L' := [(1, _), (0, _)]) (by decide) rfl ?_
  refine x_aload_n C0 dX5_clearText_5 rfl 1 rfl ?_
  refine x_iconst C0 (v := 0) dX5_clearText_6 ki_0 ?_
  refine x_put C0 inu5 tyX5 tyX5_ok nmX5 rfl 4 (by decide) mw_647 rfl rfl rfl (by decide) wfR_0 (Nat.le_of_ble_eq_true rfl) wpR_0_4 (fun r' h' k' => x_up_ne r' h' k') dX5_clearText_7 ?_
  refine x_iload_n C0 dX5_clearText_10 rfl 0 rfl ?_
  refine x_pc (pc' := 11) rfl ?_
  obtain rfl := x_inj h
  exact x_iret C0 dX5_clearText_11
set_option maxRecDepth 4000 in
set_option maxHeartbeats 2000000 in
theorem b_X5_faultOf_117 {p : Program} {l : Launch} {e : Env} {s : State} {m : MethodId} {args : Array Value} {below : List Frame} {meth : Method} {c : Code} {D : va_G} {cs : Nat → ClassId} {ad : Nat → Nat} {A : Nat → Prop} (C0 : x_C p s m args meth c D vwCl (xtys cs) A s.heap 4 ad (wfR cs ad) cX5_faultOf 6 RX5 (some FieldType.int))  (n : Nat) {σ : xM} {res : Int32} {K7 : Int32 → Int32 → Int32 → Option Int32} (hK7 : ∀ (l1 : Int32) (l2 : Int32) (l3 : Int32) , K7 l1 l2 l3 = some res → x_W p l e ({ frames := 1, cells := 0, slots := 0, locals := 22 } : Room) s m args below meth c D vwCl A s.heap 4 ad (wfR cs ad) 6 0 0 (x_E below args s D vwCl 4 ad (wfR cs ad) A (some (.int res)) σ) σ 7 [(0, .ref (ad 0)), (1, .int l1), (2, .int l2), (3, .int l3)] []) : ∀ (l1 : Int32) (l2 : Int32) (l3 : Int32), B_X5_faultOf_117 n σ K7 l1 l2 l3 = some res → x_W p l e ({ frames := 1, cells := 0, slots := 0, locals := 22 } : Room) s m args below meth c D vwCl A s.heap 4 ad (wfR cs ad) 6 0 0 (x_E below args s D vwCl 4 ad (wfR cs ad) A (some (.int res)) σ) σ 117 [(0, .ref (ad 0)), (1, .int l1), (2, .int l2), (3, .int l3)] [] := by
  intro l1 l2 l3 h
  refine x_iinc C0 (v := 1) (L' := [(3, _), (0, _), (1, _), (2, _)]) dX5_faultOf_117 3 rfl ki_1 (by decide) rfl ?_
  refine x_goto C0 (tgt := 7) dX5_faultOf_120 rfl ?_
  refine x_sub [1, 2, 3, 0] (L' := [(0, _), (1, _), (2, _), (3, _)]) rfl ?_
  refine x_pc (pc' := 7) rfl ?_
  exact hK7 _ _ _ h
set_option maxRecDepth 4000 in
set_option maxHeartbeats 2000000 in
theorem b_X5_faultOf_91 {p : Program} {l : Launch} {e : Env} {s : State} {m : MethodId} {args : Array Value} {below : List Frame} {meth : Method} {c : Code} {D : va_G} {cs : Nat → ClassId} {ad : Nat → Nat} {A : Nat → Prop} (C0 : x_C p s m args meth c D vwCl (xtys cs) A s.heap 4 ad (wfR cs ad) cX5_faultOf 6 RX5 (some FieldType.int))  (n : Nat) {σ : xM} {res : Int32} {K7 : Int32 → Int32 → Int32 → Option Int32} (hK7 : ∀ (l1 : Int32) (l2 : Int32) (l3 : Int32) , K7 l1 l2 l3 = some res → x_W p l e ({ frames := 1, cells := 0, slots := 0, locals := 22 } : Room) s m args below meth c D vwCl A s.heap 4 ad (wfR cs ad) 6 0 0 (x_E below args s D vwCl 4 ad (wfR cs ad) A (some (.int res)) σ) σ 7 [(0, .ref (ad 0)), (1, .int l1), (2, .int l2), (3, .int l3)] []) : ∀ (l1 : Int32) (l3 : Int32) (s0 : Int32), B_X5_faultOf_91 n σ K7 l1 l3 s0 = some res → x_W p l e ({ frames := 1, cells := 0, slots := 0, locals := 22 } : Room) s m args below meth c D vwCl A s.heap 4 ad (wfR cs ad) 6 0 0 (x_E below args s D vwCl 4 ad (wfR cs ad) A (some (.int res)) σ) σ 91 [(0, .ref (ad 0)), (1, .int l1), (3, .int l3)] [.int s0] := by
  intro l1 l3 s0 h
  refine x_istore_n C0 dX5_faultOf_91 rfl (L' := [(2, _), (0, _), (1, _), (3, _)]) (by decide) rfl ?_
  refine x_iinc C0 (v := 1) (L' := [(1, _), (2, _), (0, _), (3, _)]) dX5_faultOf_92 2 rfl ki_1 (by decide) rfl ?_
  refine x_goto C0 (tgt := 117) dX5_faultOf_95 rfl ?_
  refine x_sub [2, 0, 1, 3] (L' := [(0, _), (1, _), (2, _), (3, _)]) rfl ?_
  refine x_pc (pc' := 117) rfl ?_
  exact b_X5_faultOf_117 C0 n hK7 _ _ _ h
set_option maxRecDepth 4000 in
set_option maxHeartbeats 2000000 in
theorem b_X5_faultOf_90 {p : Program} {l : Launch} {e : Env} {s : State} {m : MethodId} {args : Array Value} {below : List Frame} {meth : Method} {c : Code} {D : va_G} {cs : Nat → ClassId} {ad : Nat → Nat} {A : Nat → Prop} (C0 : x_C p s m args meth c D vwCl (xtys cs) A s.heap 4 ad (wfR cs ad) cX5_faultOf 6 RX5 (some FieldType.int))  (n : Nat) {σ : xM} {res : Int32} {K7 : Int32 → Int32 → Int32 → Option Int32} (hK7 : ∀ (l1 : Int32) (l2 : Int32) (l3 : Int32) , K7 l1 l2 l3 = some res → x_W p l e ({ frames := 1, cells := 0, slots := 0, locals := 22 } : Room) s m args below meth c D vwCl A s.heap 4 ad (wfR cs ad) 6 0 0 (x_E below args s D vwCl 4 ad (wfR cs ad) A (some (.int res)) σ) σ 7 [(0, .ref (ad 0)), (1, .int l1), (2, .int l2), (3, .int l3)] []) : ∀ (l1 : Int32) (l3 : Int32), B_X5_faultOf_90 n σ K7 l1 l3 = some res → x_W p l e ({ frames := 1, cells := 0, slots := 0, locals := 22 } : Room) s m args below meth c D vwCl A s.heap 4 ad (wfR cs ad) 6 0 0 (x_E below args s D vwCl 4 ad (wfR cs ad) A (some (.int res)) σ) σ 90 [(0, .ref (ad 0)), (1, .int l1), (3, .int l3)] [] := by
  intro l1 l3 h
  refine x_iconst C0 (v := 0) dX5_faultOf_90 ki_0 ?_
  refine x_sub [0, 1, 2] (L' := [(0, _), (1, _), (3, _)]) rfl ?_
  refine x_pc (pc' := 91) rfl ?_
  exact b_X5_faultOf_91 C0 n hK7 _ _ _ h
set_option maxRecDepth 4000 in
set_option maxHeartbeats 2000000 in
theorem b_X5_faultOf_98 {p : Program} {l : Launch} {e : Env} {s : State} {m : MethodId} {args : Array Value} {below : List Frame} {meth : Method} {c : Code} {D : va_G} {cs : Nat → ClassId} {ad : Nat → Nat} {A : Nat → Prop} (C0 : x_C p s m args meth c D vwCl (xtys cs) A s.heap 4 ad (wfR cs ad) cX5_faultOf 6 RX5 (some FieldType.int))  (n : Nat) {σ : xM} {res : Int32} {K7 : Int32 → Int32 → Int32 → Option Int32} (hK7 : ∀ (l1 : Int32) (l2 : Int32) (l3 : Int32) , K7 l1 l2 l3 = some res → x_W p l e ({ frames := 1, cells := 0, slots := 0, locals := 22 } : Room) s m args below meth c D vwCl A s.heap 4 ad (wfR cs ad) 6 0 0 (x_E below args s D vwCl 4 ad (wfR cs ad) A (some (.int res)) σ) σ 7 [(0, .ref (ad 0)), (1, .int l1), (2, .int l2), (3, .int l3)] []) : ∀ (l1 : Int32) (l2 : Int32) (l3 : Int32) (l4 : Int32), B_X5_faultOf_98 n σ K7 l1 l2 l3 l4 = some res → x_W p l e ({ frames := 1, cells := 0, slots := 0, locals := 22 } : Room) s m args below meth c D vwCl A s.heap 4 ad (wfR cs ad) 6 0 0 (x_E below args s D vwCl 4 ad (wfR cs ad) A (some (.int res)) σ) σ 98 [(0, .ref (ad 0)), (1, .int l1), (2, .int l2), (3, .int l3), (4, .int l4)] [] := by
  intro l1 l2 l3 l4 h
  refine x_iload C0 dX5_faultOf_98 4 rfl ?_
  refine x_bipush C0 (v := 44) dX5_faultOf_100 kb_44 ?_
  refine x_icmp_ne C0 (tgt := 115) dX5_faultOf_102 rfl h (fun _ h => ?_) (fun _ h => ?_)
  · refine x_iload_n C0 dX5_faultOf_105 rfl 1 rfl ?_
    refine x_if_le C0 (tgt := 115) dX5_faultOf_106 rfl h (fun _ h => ?_) (fun _ h => ?_)
    · refine x_bipush C0 (v := (-2)) dX5_faultOf_109 kb_m2 ?_
      refine x_istore_n C0 dX5_faultOf_111 rfl (L' := [(1, _), (0, _), (2, _), (3, _), (4, _)]) (by decide) rfl ?_
      refine x_goto C0 (tgt := 117) dX5_faultOf_112 rfl ?_
      refine x_sub [1, 0, 2, 3] (L' := [(0, _), (1, _), (2, _), (3, _)]) rfl ?_
      refine x_pc (pc' := 117) rfl ?_
      exact b_X5_faultOf_117 C0 n hK7 _ _ _ h
    · refine x_iload_n C0 dX5_faultOf_115 rfl 3 rfl ?_
      obtain rfl := x_inj h
      exact x_iret C0 dX5_faultOf_116
  · refine x_iload_n C0 dX5_faultOf_115 rfl 3 rfl ?_
    obtain rfl := x_inj h
    exact x_iret C0 dX5_faultOf_116
set_option maxRecDepth 4000 in
set_option maxHeartbeats 2000000 in
theorem b_X5_faultOf_7 {p : Program} {l : Launch} {e : Env} {s : State} {m : MethodId} {args : Array Value} {below : List Frame} {meth : Method} {c : Code} {D : va_G} {cs : Nat → ClassId} {ad : Nat → Nat} {A : Nat → Prop} (C0 : x_C p s m args meth c D vwCl (xtys cs) A s.heap 4 ad (wfR cs ad) cX5_faultOf 6 RX5 (some FieldType.int))  (n : Nat) {σ : xM} {res : Int32} : ∀ (f : Nat) (l1 : Int32) (l2 : Int32) (l3 : Int32), B_X5_faultOf_7 n σ f l1 l2 l3 = some res → x_W p l e ({ frames := 1, cells := 0, slots := 0, locals := 22 } : Room) s m args below meth c D vwCl A s.heap 4 ad (wfR cs ad) 6 0 0 (x_E below args s D vwCl 4 ad (wfR cs ad) A (some (.int res)) σ) σ 7 [(0, .ref (ad 0)), (1, .int l1), (2, .int l2), (3, .int l3)] [] := by
  intro f
  induction f with
  | zero =>
    intro l1 l2 l3 h
    cases h
  | succ f ih =>
    intro l1 l2 l3 h
    refine x_iload_n C0 dX5_faultOf_7 rfl 3 rfl ?_
    refine x_aload_n C0 dX5_faultOf_8 rfl 0 rfl ?_
    refine x_get C0 inu5 rfl 4 (by decide) mw_647 (by decide) wfR_0 rfl dX5_faultOf_9 ?_
    refine x_icmp_ge C0 (tgt := 123) dX5_faultOf_12 rfl h (fun _ h => ?_) (fun _ h => ?_)
    · refine x_aload_n C0 dX5_faultOf_15 rfl 0 rfl ?_
      refine x_get C0 inu5 rfl 3 (by decide) mw_646 (by decide) wfR_0 rfl dX5_faultOf_16 ?_
      refine x_iload_n C0 dX5_faultOf_19 rfl 3 rfl ?_
      refine x_iald C0 1 rfl (by decide) wfR_2 dX5_faultOf_20 h (fun _ h => ?_)
      refine x_istore C0 dX5_faultOf_21 (L' := [(4, _), (0, _), (1, _), (2, _), (3, _)]) (by decide) rfl ?_
      refine x_iload C0 dX5_faultOf_23 0 rfl ?_
      refine x_bipush C0 (v := 48) dX5_faultOf_25 kb_48 ?_
      refine x_pc (pc' := 27) rfl ?_
      refine x_bipush C0 (v := 57) dX5_faultOf_27 kb_57 ?_
      refine x_pureS3 C0 (fun ad' => c_X5_in rfl) (x_cwS C0 mw_696 mw_697 mw_84 mw_698 hd_yX5_in ⟨rfl, rfl, Nat.le_of_ble_eq_true rfl, Nat.le_of_ble_eq_true rfl⟩) ⟨Nat.zero_le _, Nat.zero_le _⟩ (Nat.le_of_ble_eq_true rfl) dX5_faultOf_29 ?_
      refine x_istore C0 dX5_faultOf_32 (L' := [(5, _), (4, _), (0, _), (1, _), (2, _), (3, _)]) (by decide) rfl ?_
      refine x_iload_n C0 dX5_faultOf_34 rfl 3 rfl ?_
      refine x_bipush C0 (v := (-2)) dX5_faultOf_35 kb_m2 ?_
      refine x_icmp_ne C0 (tgt := 61) dX5_faultOf_37 rfl h (fun _ h => ?_) (fun _ h => ?_)
      · refine x_iload C0 dX5_faultOf_40 1 rfl ?_
        refine x_bipush C0 (v := 97) dX5_faultOf_42 kb_97 ?_
        refine x_bipush C0 (v := 112) dX5_faultOf_44 kb_112 ?_
        refine x_pureS3 C0 (fun ad' => c_X5_in rfl) (x_cwS C0 mw_696 mw_697 mw_84 mw_698 hd_yX5_in ⟨rfl, rfl, Nat.le_of_ble_eq_true rfl, Nat.le_of_ble_eq_true rfl⟩) ⟨Nat.zero_le _, Nat.zero_le _⟩ (Nat.le_of_ble_eq_true rfl) dX5_faultOf_46 ?_
        refine x_if_ne C0 (tgt := 54) dX5_faultOf_49 rfl h (fun _ h => ?_) (fun _ h => ?_)
        · refine x_iload_n C0 dX5_faultOf_52 rfl 5 rfl ?_
          obtain rfl := x_inj h
          exact x_iret C0 dX5_faultOf_53
        · refine x_iconst C0 (v := 0) dX5_faultOf_54 ki_0 ?_
          refine x_istore_n C0 dX5_faultOf_55 rfl (L' := [(1, _), (5, _), (4, _), (0, _), (2, _), (3, _)]) (by decide) rfl ?_
          refine x_iconst C0 (v := 0) dX5_faultOf_56 ki_0 ?_
          refine x_istore_n C0 dX5_faultOf_57 rfl (L' := [(2, _), (1, _), (5, _), (4, _), (0, _), (3, _)]) (by decide) rfl ?_
          refine x_goto C0 (tgt := 117) dX5_faultOf_58 rfl ?_
          refine x_sub [4, 1, 0, 5] (L' := [(0, _), (1, _), (2, _), (3, _)]) rfl ?_
          refine x_pc (pc' := 117) rfl ?_
          exact b_X5_faultOf_117 C0 n (fun l1 l2 l3 h => ih l1 l2 l3 h) _ _ _ h
      · refine x_iload C0 dX5_faultOf_61 0 rfl ?_
        refine x_if_eq C0 (tgt := 98) dX5_faultOf_63 rfl h (fun _ h => ?_) (fun _ h => ?_)
        · refine x_sub [2, 3, 4, 5, 1] (L' := [(0, _), (1, _), (2, _), (3, _), (4, _)]) rfl ?_
          refine x_pc (pc' := 98) rfl ?_
          exact b_X5_faultOf_98 C0 n (fun l1 l2 l3 h => ih l1 l2 l3 h) _ _ _ _ h
        · refine x_iload_n C0 dX5_faultOf_66 rfl 3 rfl ?_
          refine x_iconst C0 (v := 4) dX5_faultOf_67 ki_4 ?_
          refine x_icmp_ge C0 (tgt := 98) dX5_faultOf_68 rfl h (fun _ h => ?_) (fun _ h => ?_)
          · refine x_iload_n C0 dX5_faultOf_71 rfl 4 rfl ?_
            refine x_if_ne C0 (tgt := 98) dX5_faultOf_72 rfl h (fun _ h => ?_) (fun _ h => ?_)
            · refine x_iload_n C0 dX5_faultOf_75 rfl 3 rfl ?_
              refine x_if_ne C0 (tgt := 90) dX5_faultOf_76 rfl h (fun _ h => ?_) (fun _ h => ?_)
              · refine x_iload C0 dX5_faultOf_79 1 rfl ?_
                refine x_bipush C0 (v := 48) dX5_faultOf_81 kb_48 ?_
                refine x_icmp_ne C0 (tgt := 90) dX5_faultOf_83 rfl h (fun _ h => ?_) (fun _ h => ?_)
                · refine x_iconst C0 (v := 1) dX5_faultOf_86 ki_1 ?_
                  refine x_goto C0 (tgt := 91) dX5_faultOf_87 rfl ?_
                  refine x_sub [2, 3, 5] (L' := [(0, _), (1, _), (3, _)]) rfl ?_
                  refine x_pc (pc' := 91) rfl ?_
                  exact b_X5_faultOf_91 C0 n (fun l1 l2 l3 h => ih l1 l2 l3 h) _ _ _ h
                · refine x_sub [2, 3, 5] (L' := [(0, _), (1, _), (3, _)]) rfl ?_
                  refine x_pc (pc' := 90) rfl ?_
                  exact b_X5_faultOf_90 C0 n (fun l1 l2 l3 h => ih l1 l2 l3 h) _ _ h
              · refine x_sub [2, 3, 5] (L' := [(0, _), (1, _), (3, _)]) rfl ?_
                refine x_pc (pc' := 90) rfl ?_
                exact b_X5_faultOf_90 C0 n (fun l1 l2 l3 h => ih l1 l2 l3 h) _ _ h
            · refine x_sub [2, 3, 4, 5, 1] (L' := [(0, _), (1, _), (2, _), (3, _), (4, _)]) rfl ?_
              refine x_pc (pc' := 98) rfl ?_
              exact b_X5_faultOf_98 C0 n (fun l1 l2 l3 h => ih l1 l2 l3 h) _ _ _ _ h
          · refine x_sub [2, 3, 4, 5, 1] (L' := [(0, _), (1, _), (2, _), (3, _), (4, _)]) rfl ?_
            refine x_pc (pc' := 98) rfl ?_
            exact b_X5_faultOf_98 C0 n (fun l1 l2 l3 h => ih l1 l2 l3 h) _ _ _ _ h
    · refine x_iload_n C0 dX5_faultOf_123 rfl 1 rfl ?_
      refine x_if_le C0 (tgt := 131) dX5_faultOf_124 rfl h (fun _ h => ?_) (fun _ h => ?_)
      · refine x_iconst C0 (v := (-1)) dX5_faultOf_127 ki_m1 ?_
        refine x_goto C0 (tgt := 135) dX5_faultOf_128 rfl ?_
        obtain rfl := x_inj h
        exact x_iret C0 dX5_faultOf_135
      · refine x_aload_n C0 dX5_faultOf_131 rfl 0 rfl ?_
        refine x_get C0 inu5 rfl 4 (by decide) mw_647 (by decide) wfR_0 rfl dX5_faultOf_132 ?_
        obtain rfl := x_inj h
        exact x_iret C0 dX5_faultOf_135
set_option maxRecDepth 4000 in
set_option maxHeartbeats 2000000 in
theorem c_X5_faultOf {l : Launch} {D : va_G} {cs : Nat → ClassId} {ad : Nat → Nat} (n : Nat) {σ : xM}  {res : Int32} (h : F_X5_faultOf n σ = some res) : x_Met l yX5_faultOf [Cond.code yX5_faultOf cX5_faultOf 6 (some FieldType.int)] ({ frames := 1, cells := 0, slots := 0, locals := 22 } : Room) D vwCl (xtys cs) 4 ad (wfR cs ad) [.ref (ad 0)] σ (some (.int res)) σ := by
  refine x_Met_of (L0 := [(0, .ref (ad 0))]) (own := RX5) (by decide) rfl rfl wfR_loc (Nat.le_of_ble_eq_true rfl) rfl ?_
  intro p e s m args below meth c A C0
  refine x_bipush C0 (v := (-2)) dX5_faultOf_0 kb_m2 ?_
  refine x_istore_n C0 dX5_faultOf_2 rfl (L' := [(1, _), (0, _)]) (by decide) rfl ?_
  refine x_iconst C0 (v := 0) dX5_faultOf_3 ki_0 ?_
  refine x_istore_n C0 dX5_faultOf_4 rfl (L' := [(2, _), (1, _), (0, _)]) (by decide) rfl ?_
  refine x_iconst C0 (v := 0) dX5_faultOf_5 ki_0 ?_
  refine x_istore_n C0 dX5_faultOf_6 rfl (L' := [(3, _), (2, _), (1, _), (0, _)]) (by decide) rfl ?_
  refine x_sub [3, 2, 1, 0] (L' := [(0, _), (1, _), (2, _), (3, _)]) rfl ?_
  refine x_pc (pc' := 7) rfl ?_
  exact b_X5_faultOf_7 C0 n n _ _ _ h
set_option maxRecDepth 4000 in
set_option maxHeartbeats 2000000 in
theorem b_X5_run_125 {p : Program} {l : Launch} {e : Env} {s : State} {m : MethodId} {args : Array Value} {below : List Frame} {meth : Method} {c : Code} {D : va_G} {cs : Nat → ClassId} {ad : Nat → Nat} {A : Nat → Prop} (C0 : x_C p s m args meth c D vwCl (xtys cs) A s.heap 4 ad (wfR cs ad) cX5_run 7 RX5 (some FieldType.int))  (n : Nat) {res : Int32 × xM} {K28 : xM → Int32 → Int32 → Int32 → Int32 → Option (Int32 × xM)} (hK28 : ∀ (σ : xM) (l2 : Int32) (l3 : Int32) (l4 : Int32) (l5 : Int32) , K28 σ l2 l3 l4 l5 = some res → x_W p l e ({ frames := 6, cells := 0, slots := 0, locals := 143 } : Room) s m args below meth c D vwCl A s.heap 4 ad (wfR cs ad) 7 0 0 (x_E below args s D vwCl 4 ad (wfR cs ad) A (some (.int res.1)) res.2) σ 28 [(0, .ref (ad 0)), (2, .int l2), (3, .int l3), (4, .int l4), (5, .int l5)] []) : ∀ (σ : xM) (l2 : Int32) (l3 : Int32) (l4 : Int32) (l5 : Int32), B_X5_run_125 n K28 σ l2 l3 l4 l5 = some res → x_W p l e ({ frames := 6, cells := 0, slots := 0, locals := 143 } : Room) s m args below meth c D vwCl A s.heap 4 ad (wfR cs ad) 7 0 0 (x_E below args s D vwCl 4 ad (wfR cs ad) A (some (.int res.1)) res.2) σ 125 [(0, .ref (ad 0)), (2, .int l2), (3, .int l3), (4, .int l4), (5, .int l5)] [] := by
  intro σ l2 l3 l4 l5 h
  refine x_iinc C0 (v := 1) (L' := [(5, _), (0, _), (2, _), (3, _), (4, _)]) dX5_run_125 4 rfl ki_1 (by decide) rfl ?_
  refine x_goto C0 (tgt := 28) dX5_run_128 rfl ?_
  refine x_sub [1, 2, 3, 4, 0] (L' := [(0, _), (2, _), (3, _), (4, _), (5, _)]) rfl ?_
  refine x_pc (pc' := 28) rfl ?_
  exact hK28 _ _ _ _ _ h
set_option maxRecDepth 4000 in
set_option maxHeartbeats 2000000 in
theorem b_X5_run_83 {p : Program} {l : Launch} {e : Env} {s : State} {m : MethodId} {args : Array Value} {below : List Frame} {meth : Method} {c : Code} {D : va_G} {cs : Nat → ClassId} {ad : Nat → Nat} {A : Nat → Prop} (C0 : x_C p s m args meth c D vwCl (xtys cs) A s.heap 4 ad (wfR cs ad) cX5_run 7 RX5 (some FieldType.int))  (n : Nat) {res : Int32 × xM} {K28 : xM → Int32 → Int32 → Int32 → Int32 → Option (Int32 × xM)} (hK28 : ∀ (σ : xM) (l2 : Int32) (l3 : Int32) (l4 : Int32) (l5 : Int32) , K28 σ l2 l3 l4 l5 = some res → x_W p l e ({ frames := 6, cells := 0, slots := 0, locals := 143 } : Room) s m args below meth c D vwCl A s.heap 4 ad (wfR cs ad) 7 0 0 (x_E below args s D vwCl 4 ad (wfR cs ad) A (some (.int res.1)) res.2) σ 28 [(0, .ref (ad 0)), (2, .int l2), (3, .int l3), (4, .int l4), (5, .int l5)] []) : ∀ (σ : xM) (l3 : Int32) (l5 : Int32) (s0 : Int32) (s1 : Int32), B_X5_run_83 n K28 σ l3 l5 s0 s1 = some res → x_W p l e ({ frames := 6, cells := 0, slots := 0, locals := 143 } : Room) s m args below meth c D vwCl A s.heap 4 ad (wfR cs ad) 7 0 0 (x_E below args s D vwCl 4 ad (wfR cs ad) A (some (.int res.1)) res.2) σ 83 [(0, .ref (ad 0)), (3, .int l3), (5, .int l5)] [.int s1, .int s0] := by
  intro σ l3 l5 s0 s1 h
  refine x_iadd C0 dX5_run_83 ?_
  refine x_istore_n C0 dX5_run_84 rfl (L' := [(2, _), (0, _), (3, _), (5, _)]) (by decide) rfl ?_
  refine x_iconst C0 (v := 0) dX5_run_85 ki_0 ?_
  refine x_istore C0 dX5_run_86 (L' := [(4, _), (2, _), (0, _), (3, _), (5, _)]) (by decide) rfl ?_
  refine x_goto C0 (tgt := 125) dX5_run_88 rfl ?_
  refine x_sub [2, 1, 3, 0, 4] (L' := [(0, _), (2, _), (3, _), (4, _), (5, _)]) rfl ?_
  refine x_pc (pc' := 125) rfl ?_
  exact b_X5_run_125 C0 n hK28 _ _ _ _ _ h
set_option maxRecDepth 4000 in
set_option maxHeartbeats 2000000 in
theorem b_X5_run_58 {p : Program} {l : Launch} {e : Env} {s : State} {m : MethodId} {args : Array Value} {below : List Frame} {meth : Method} {c : Code} {D : va_G} {cs : Nat → ClassId} {ad : Nat → Nat} {A : Nat → Prop} (C0 : x_C p s m args meth c D vwCl (xtys cs) A s.heap 4 ad (wfR cs ad) cX5_run 7 RX5 (some FieldType.int))  (n : Nat) {res : Int32 × xM} {K28 : xM → Int32 → Int32 → Int32 → Int32 → Option (Int32 × xM)} (hK28 : ∀ (σ : xM) (l2 : Int32) (l3 : Int32) (l4 : Int32) (l5 : Int32) , K28 σ l2 l3 l4 l5 = some res → x_W p l e ({ frames := 6, cells := 0, slots := 0, locals := 143 } : Room) s m args below meth c D vwCl A s.heap 4 ad (wfR cs ad) 7 0 0 (x_E below args s D vwCl 4 ad (wfR cs ad) A (some (.int res.1)) res.2) σ 28 [(0, .ref (ad 0)), (2, .int l2), (3, .int l3), (4, .int l4), (5, .int l5)] []) : ∀ (σ : xM) (l2 : Int32) (l3 : Int32) (l4 : Int32) (l5 : Int32) (s0 : Int32), B_X5_run_58 n K28 σ l2 l3 l4 l5 s0 = some res → x_W p l e ({ frames := 6, cells := 0, slots := 0, locals := 143 } : Room) s m args below meth c D vwCl A s.heap 4 ad (wfR cs ad) 7 0 0 (x_E below args s D vwCl 4 ad (wfR cs ad) A (some (.int res.1)) res.2) σ 58 [(0, .ref (ad 0)), (2, .int l2), (3, .int l3), (4, .int l4), (5, .int l5)] [.int s0] := by
  intro σ l2 l3 l4 l5 s0 h
  refine x_istore C0 dX5_run_58 (L' := [(6, _), (0, _), (2, _), (3, _), (4, _), (5, _)]) (by decide) rfl ?_
  refine x_iload C0 dX5_run_60 0 rfl ?_
  refine x_bipush C0 (v := 44) dX5_run_62 kb_44 ?_
  refine x_icmp_ne C0 (tgt := 91) dX5_run_64 rfl h (fun _ h => ?_) (fun _ h => ?_)
  · refine x_iload_n C0 dX5_run_67 rfl 2 rfl ?_
    refine x_aload_n C0 dX5_run_68 rfl 1 rfl ?_
    refine x_iload_n C0 dX5_run_69 rfl 3 rfl ?_
    refine x_iload C0 dX5_run_70 4 rfl ?_
    obtain ⟨q3, eq3, h⟩ := x_bind h
    refine x_callV21 C0 (c_X5_go n eq3) (x_cwV C0 mw_779 mw_781 mw_57 mw_84 mw_782 hd_yX5_go ⟨rfl, rfl, Nat.le_of_ble_eq_true rfl, Nat.le_of_ble_eq_true rfl⟩) (by decide) rfl wfR_0 rfl ⟨Nat.zero_le _, Nat.zero_le _⟩ (Nat.le_of_ble_eq_true rfl) dX5_run_72 ?_
    refine x_if_ne C0 (tgt := 82) dX5_run_75 rfl h (fun _ h => ?_) (fun _ h => ?_)
    · refine x_iconst C0 (v := 0) dX5_run_78 ki_0 ?_
      refine x_goto C0 (tgt := 83) dX5_run_79 rfl ?_
      refine x_sub [1, 3, 5] (L' := [(0, _), (3, _), (5, _)]) rfl ?_
      refine x_pc (pc' := 83) rfl ?_
      exact b_X5_run_83 C0 n hK28 _ _ _ _ _ h
    · refine x_iconst C0 (v := 1) dX5_run_82 ki_1 ?_
      refine x_sub [1, 3, 5] (L' := [(0, _), (3, _), (5, _)]) rfl ?_
      refine x_pc (pc' := 83) rfl ?_
      exact b_X5_run_83 C0 n hK28 _ _ _ _ _ h
  · refine x_iload C0 dX5_run_91 0 rfl ?_
    refine x_bipush C0 (v := 48) dX5_run_93 kb_48 ?_
    refine x_bipush C0 (v := 57) dX5_run_95 kb_57 ?_
    refine x_pureS3 C0 (fun ad' => c_X5_in rfl) (x_cwS C0 mw_696 mw_697 mw_84 mw_698 hd_yX5_in ⟨rfl, rfl, Nat.le_of_ble_eq_true rfl, Nat.le_of_ble_eq_true rfl⟩) ⟨Nat.zero_le _, Nat.zero_le _⟩ (Nat.le_of_ble_eq_true rfl) dX5_run_97 ?_
    refine x_if_eq C0 (tgt := 119) dX5_run_100 rfl h (fun _ h => ?_) (fun _ h => ?_)
    · refine x_iload C0 dX5_run_119 0 rfl ?_
      refine x_bipush C0 (v := 97) dX5_run_121 kb_97 ?_
      refine x_isub C0 dX5_run_123 ?_
      refine x_istore_n C0 dX5_run_124 rfl (L' := [(3, _), (6, _), (0, _), (2, _), (4, _), (5, _)]) (by decide) rfl ?_
      refine x_sub [2, 3, 0, 4, 5] (L' := [(0, _), (2, _), (3, _), (4, _), (5, _)]) rfl ?_
      refine x_pc (pc' := 125) rfl ?_
      exact b_X5_run_125 C0 n hK28 _ _ _ _ _ h
    · refine x_bipush C0 (v := 10) dX5_run_103 kb_10 ?_
      refine x_iload C0 dX5_run_105 4 rfl ?_
      refine x_imul C0 dX5_run_107 ?_
      refine x_iload C0 dX5_run_108 0 rfl ?_
      refine x_iadd C0 dX5_run_110 ?_
      refine x_bipush C0 (v := 48) dX5_run_111 kb_48 ?_
      refine x_isub C0 dX5_run_113 ?_
      refine x_pc (pc' := 114) rfl ?_
      refine x_istore C0 dX5_run_114 (L' := [(4, _), (6, _), (0, _), (2, _), (3, _), (5, _)]) (by decide) rfl ?_
      refine x_goto C0 (tgt := 125) dX5_run_116 rfl ?_
      refine x_sub [2, 3, 4, 0, 5] (L' := [(0, _), (2, _), (3, _), (4, _), (5, _)]) rfl ?_
      refine x_pc (pc' := 125) rfl ?_
      exact b_X5_run_125 C0 n hK28 _ _ _ _ _ h
set_option maxRecDepth 4000 in
set_option maxHeartbeats 2000000 in
theorem b_X5_run_28 {p : Program} {l : Launch} {e : Env} {s : State} {m : MethodId} {args : Array Value} {below : List Frame} {meth : Method} {c : Code} {D : va_G} {cs : Nat → ClassId} {ad : Nat → Nat} {A : Nat → Prop} (C0 : x_C p s m args meth c D vwCl (xtys cs) A s.heap 4 ad (wfR cs ad) cX5_run 7 RX5 (some FieldType.int))  (n : Nat) {res : Int32 × xM} : ∀ (f : Nat) (σ : xM) (l2 : Int32) (l3 : Int32) (l4 : Int32) (l5 : Int32), B_X5_run_28 n f σ l2 l3 l4 l5 = some res → x_W p l e ({ frames := 6, cells := 0, slots := 0, locals := 143 } : Room) s m args below meth c D vwCl A s.heap 4 ad (wfR cs ad) 7 0 0 (x_E below args s D vwCl 4 ad (wfR cs ad) A (some (.int res.1)) res.2) σ 28 [(0, .ref (ad 0)), (2, .int l2), (3, .int l3), (4, .int l4), (5, .int l5)] [] := by
  intro f
  induction f with
  | zero =>
    intro σ l2 l3 l4 l5 h
    cases h
  | succ f ih =>
    intro σ l2 l3 l4 l5 h
    refine x_iload C0 dX5_run_28 4 rfl ?_
    refine x_aload_n C0 dX5_run_30 rfl 0 rfl ?_
    refine x_get C0 inu5 rfl 4 (by decide) mw_647 (by decide) wfR_0 rfl dX5_run_31 ?_
    refine x_icmp_gt C0 (tgt := 131) dX5_run_34 rfl h (fun _ h => ?_) (fun _ h => ?_)
    · refine x_iload_n C0 dX5_run_131 rfl 1 rfl ?_
      obtain rfl := x_inj h
      exact x_iret C0 dX5_run_132
    · refine x_iload C0 dX5_run_37 4 rfl ?_
      refine x_aload_n C0 dX5_run_39 rfl 0 rfl ?_
      refine x_get C0 inu5 rfl 4 (by decide) mw_647 (by decide) wfR_0 rfl dX5_run_40 ?_
      refine x_icmp_ge C0 (tgt := 56) dX5_run_43 rfl h (fun _ h => ?_) (fun _ h => ?_)
      · refine x_aload_n C0 dX5_run_46 rfl 0 rfl ?_
        refine x_get C0 inu5 rfl 3 (by decide) mw_646 (by decide) wfR_0 rfl dX5_run_47 ?_
        refine x_iload C0 dX5_run_50 4 rfl ?_
        refine x_iald C0 1 rfl (by decide) wfR_2 dX5_run_52 h (fun _ h => ?_)
        refine x_goto C0 (tgt := 58) dX5_run_53 rfl ?_
        refine x_sub [0, 1, 2, 3, 4] (L' := [(0, _), (2, _), (3, _), (4, _), (5, _)]) rfl ?_
        refine x_pc (pc' := 58) rfl ?_
        exact b_X5_run_58 C0 n (fun σ l2 l3 l4 l5 h => ih σ l2 l3 l4 l5 h) _ _ _ _ _ _ h
      · refine x_bipush C0 (v := 44) dX5_run_56 kb_44 ?_
        refine x_sub [0, 1, 2, 3, 4] (L' := [(0, _), (2, _), (3, _), (4, _), (5, _)]) rfl ?_
        refine x_pc (pc' := 58) rfl ?_
        exact b_X5_run_58 C0 n (fun σ l2 l3 l4 l5 h => ih σ l2 l3 l4 l5 h) _ _ _ _ _ _ h
set_option maxRecDepth 4000 in
set_option maxHeartbeats 2000000 in
theorem c_X5_run {l : Launch} {D : va_G} {cs : Nat → ClassId} {ad : Nat → Nat} (n : Nat) {σ : xM}  {res : Int32 × xM} (h : F_X5_run n σ = some res) : x_Met l yX5_run [Cond.code yX5_run cX5_run 7 (some FieldType.int)] ({ frames := 6, cells := 0, slots := 0, locals := 143 } : Room) D vwCl (xtys cs) 4 ad (wfR cs ad) [.ref (ad 0)] σ (some (.int res.1)) res.2 := by
  refine x_Met_of (L0 := [(0, .ref (ad 0))]) (own := RX5) (by decide) rfl rfl wfR_loc (Nat.le_of_ble_eq_true rfl) rfl ?_
  intro p e s m args below meth c A C0
  refine x_aload_n C0 dX5_run_0 rfl 0 rfl ?_
  obtain ⟨q1, eq1, h⟩ := x_bind h
  refine x_callV01 C0 (c_X5_faultOf n eq1) (x_cwV C0 mw_869 mw_871 mw_72 mw_84 mw_872 hd_yX5_faultOf ⟨rfl, rfl, Nat.le_of_ble_eq_true rfl, Nat.le_of_ble_eq_true rfl⟩) (by decide) rfl wfR_0 rfl ⟨Nat.zero_le _, Nat.zero_le _⟩ (Nat.le_of_ble_eq_true rfl) dX5_run_1 ?_
  refine x_istore_n C0 dX5_run_4 rfl (L' := [(1, _), (0, _)]) (by decide) rfl ?_
  refine x_iload_n C0 dX5_run_5 rfl 0 rfl ?_
  refine x_if_lt C0 (tgt := 14) dX5_run_6 rfl h (fun _ h => ?_) (fun _ h => ?_)
  · refine x_aload_n C0 dX5_run_14 rfl 1 rfl ?_
    obtain ⟨q2, eq2, h⟩ := x_bind h
    refine x_callV00 C0 (c_X5_record n eq2) (x_cwV C0 mw_688 mw_690 mw_47 mw_84 mw_691 hd_yX5_record ⟨rfl, rfl, Nat.le_of_ble_eq_true rfl, Nat.le_of_ble_eq_true rfl⟩) (by decide) rfl wfR_0 rfl ⟨Nat.zero_le _, Nat.zero_le _⟩ (Nat.le_of_ble_eq_true rfl) dX5_run_15 ?_
    refine x_iconst C0 (v := 0) dX5_run_18 ki_0 ?_
    refine x_istore_n C0 dX5_run_19 rfl (L' := [(2, _), (1, _), (0, _)]) (by decide) rfl ?_
    refine x_iconst C0 (v := 0) dX5_run_20 ki_0 ?_
    refine x_istore_n C0 dX5_run_21 rfl (L' := [(3, _), (2, _), (1, _), (0, _)]) (by decide) rfl ?_
    refine x_iconst C0 (v := 0) dX5_run_22 ki_0 ?_
    refine x_pc (pc' := 23) rfl ?_
    refine x_istore C0 dX5_run_23 (L' := [(4, _), (3, _), (2, _), (1, _), (0, _)]) (by decide) rfl ?_
    refine x_iconst C0 (v := 0) dX5_run_25 ki_0 ?_
    refine x_istore C0 dX5_run_26 (L' := [(5, _), (4, _), (3, _), (2, _), (1, _), (0, _)]) (by decide) rfl ?_
    refine x_sub [5, 3, 2, 1, 0] (L' := [(0, _), (2, _), (3, _), (4, _), (5, _)]) rfl ?_
    refine x_pc (pc' := 28) rfl ?_
    exact b_X5_run_28 C0 n n _ _ _ _ _ h
  · refine x_bipush C0 (v := (-100)) dX5_run_9 kb_m100 ?_
    refine x_iload_n C0 dX5_run_11 rfl 0 rfl ?_
    refine x_isub C0 dX5_run_12 ?_
    obtain rfl := x_inj h
    exact x_iret C0 dX5_run_13
set_option maxRecDepth 4000 in
set_option maxHeartbeats 2000000 in
theorem b_X5_line_108 {p : Program} {l : Launch} {e : Env} {s : State} {m : MethodId} {args : Array Value} {below : List Frame} {meth : Method} {c : Code} {D : va_G} {cs : Nat → ClassId} {ad : Nat → Nat} {A : Nat → Prop} (C0 : x_C p s m args meth c D vwCl (xtys cs) A s.heap 4 ad (wfR cs ad) cX5_line 7 RX5 (some FieldType.int))  (n : Nat) {σ : xM} {res : Int32} : ∀ (l2 : Int32) (l3 : Int32) (l4 : Int32) (l5 : Int32) (s0 : Int32), B_X5_line_108 n σ l2 l3 l4 l5 s0 = some res → x_W p l e ({ frames := 2, cells := 0, slots := 0, locals := 45 } : Room) s m args below meth c D vwCl A s.heap 4 ad (wfR cs ad) 7 0 0 (x_E below args s D vwCl 4 ad (wfR cs ad) A (some (.int res)) σ) σ 108 [(0, .ref (ad 0)), (2, .int l2), (3, .int l3), (4, .int l4), (5, .int l5)] [.int s0] := by
  intro l2 l3 l4 l5 s0 h
  refine x_istore C0 dX5_line_108 (L' := [(6, _), (0, _), (2, _), (3, _), (4, _), (5, _)]) (by decide) rfl ?_
  refine x_iload_n C0 dX5_line_110 rfl 2 rfl ?_
  refine x_ite h (fun hc h => ?_) (fun hc0 h => ?_)
  · refine x_top (congrArg Value.int hc) ?_
    refine x_tableIn C0 (off := 33) (tgt := 144) dX5_line_111 (by decide) (by decide) (by decide) rfl ?_
    refine x_iload_n C0 dX5_line_144 rfl 3 rfl ?_
    refine x_if_ge C0 (tgt := 152) dX5_line_145 rfl h (fun _ h => ?_) (fun _ h => ?_)
    · refine x_iconst C0 (v := 0) dX5_line_148 ki_0 ?_
      refine x_goto C0 (tgt := 153) dX5_line_149 rfl ?_
      obtain rfl := x_inj h
      exact x_iret C0 dX5_line_153
    · refine x_iconst C0 (v := 1) dX5_line_152 ki_1 ?_
      obtain rfl := x_inj h
      exact x_iret C0 dX5_line_153
  · refine x_ite h (fun hc h => ?_) (fun hc1 h => ?_)
    · refine x_top (congrArg Value.int hc) ?_
      refine x_tableIn C0 (off := 43) (tgt := 154) dX5_line_111 (by decide) (by decide) (by decide) rfl ?_
      refine x_iload_n C0 dX5_line_154 rfl 3 rfl ?_
      refine x_if_ge C0 (tgt := 162) dX5_line_155 rfl h (fun _ h => ?_) (fun _ h => ?_)
      · refine x_iconst C0 (v := 0) dX5_line_158 ki_0 ?_
        refine x_goto C0 (tgt := 171) dX5_line_159 rfl ?_
        obtain rfl := x_inj h
        exact x_iret C0 dX5_line_171
      · refine x_aload_n C0 dX5_line_162 rfl 1 rfl ?_
        refine x_get C0 inu5 rfl 0 (by decide) mw_643 (by decide) wfR_0 rfl dX5_line_163 ?_
        refine x_iload C0 dX5_line_166 4 rfl ?_
        refine x_iconst C0 (v := 2) dX5_line_168 ki_2 ?_
        refine x_iadd C0 dX5_line_169 ?_
        refine x_iald C0 1 rfl (by decide) wfR_1 dX5_line_170 h (fun _ h => ?_)
        obtain rfl := x_inj h
        exact x_iret C0 dX5_line_171
    · refine x_ite h (fun hc h => ?_) (fun hc2 h => ?_)
      · refine x_top (congrArg Value.int hc) ?_
        refine x_tableIn C0 (off := 85) (tgt := 196) dX5_line_111 (by decide) (by decide) (by decide) rfl ?_
        refine x_iload C0 dX5_line_196 0 rfl ?_
        refine x_iconst C0 (v := (-1)) dX5_line_198 ki_m1 ?_
        refine x_icmp_ne C0 (tgt := 207) dX5_line_199 rfl h (fun _ h => ?_) (fun _ h => ?_)
        · refine x_ldc C0 mw_675 dX5_line_202 ?_
          refine x_goto C0 (tgt := 209) dX5_line_204 rfl ?_
          obtain rfl := x_inj h
          exact x_iret C0 dX5_line_209
        · refine x_iload C0 dX5_line_207 0 rfl ?_
          obtain rfl := x_inj h
          exact x_iret C0 dX5_line_209
      · refine x_ite h (fun hc h => ?_) (fun hc3 h => ?_)
        · refine x_top (congrArg Value.int hc) ?_
          refine x_tableIn C0 (off := 61) (tgt := 172) dX5_line_111 (by decide) (by decide) (by decide) rfl ?_
          refine x_iload_n C0 dX5_line_172 rfl 3 rfl ?_
          refine x_if_ge C0 (tgt := 181) dX5_line_173 rfl h (fun _ h => ?_) (fun _ h => ?_)
          · refine x_ldc C0 mw_675 dX5_line_176 ?_
            refine x_goto C0 (tgt := 182) dX5_line_178 rfl ?_
            obtain rfl := x_inj h
            exact x_iret C0 dX5_line_182
          · refine x_iload_n C0 dX5_line_181 rfl 3 rfl ?_
            obtain rfl := x_inj h
            exact x_iret C0 dX5_line_182
        · refine x_ite h (fun hc h => ?_) (fun hc4 h => ?_)
          · refine x_top (congrArg Value.int hc) ?_
            refine x_tableIn C0 (off := 72) (tgt := 183) dX5_line_111 (by decide) (by decide) (by decide) rfl ?_
            refine x_iload C0 dX5_line_183 5 rfl ?_
            refine x_if_ge C0 (tgt := 193) dX5_line_185 rfl h (fun _ h => ?_) (fun _ h => ?_)
            · refine x_ldc C0 mw_675 dX5_line_188 ?_
              refine x_goto C0 (tgt := 195) dX5_line_190 rfl ?_
              obtain rfl := x_inj h
              exact x_iret C0 dX5_line_195
            · refine x_iload C0 dX5_line_193 5 rfl ?_
              obtain rfl := x_inj h
              exact x_iret C0 dX5_line_195
          · refine x_tableOut C0 (tgt := 196) dX5_line_111 (x_swo_4 hc0 hc1 hc2 hc3 hc4) rfl ?_
            refine x_iload C0 dX5_line_196 0 rfl ?_
            refine x_iconst C0 (v := (-1)) dX5_line_198 ki_m1 ?_
            refine x_icmp_ne C0 (tgt := 207) dX5_line_199 rfl h (fun _ h => ?_) (fun _ h => ?_)
            · refine x_ldc C0 mw_675 dX5_line_202 ?_
              refine x_goto C0 (tgt := 209) dX5_line_204 rfl ?_
              obtain rfl := x_inj h
              exact x_iret C0 dX5_line_209
            · refine x_iload C0 dX5_line_207 0 rfl ?_
              obtain rfl := x_inj h
              exact x_iret C0 dX5_line_209
set_option maxRecDepth 4000 in
set_option maxHeartbeats 2000000 in
theorem b_X5_line_50 {p : Program} {l : Launch} {e : Env} {s : State} {m : MethodId} {args : Array Value} {below : List Frame} {meth : Method} {c : Code} {D : va_G} {cs : Nat → ClassId} {ad : Nat → Nat} {A : Nat → Prop} (C0 : x_C p s m args meth c D vwCl (xtys cs) A s.heap 4 ad (wfR cs ad) cX5_line 7 RX5 (some FieldType.int))  (n : Nat) {σ : xM} {res : Int32} : ∀ (l1 : Int32) (l2 : Int32) (l3 : Int32) (s0 : Int32), B_X5_line_50 n σ l1 l2 l3 s0 = some res → x_W p l e ({ frames := 2, cells := 0, slots := 0, locals := 45 } : Room) s m args below meth c D vwCl A s.heap 4 ad (wfR cs ad) 7 0 0 (x_E below args s D vwCl 4 ad (wfR cs ad) A (some (.int res)) σ) σ 50 [(0, .ref (ad 0)), (1, .int l1), (2, .int l2), (3, .int l3)] [.int s0] := by
  intro l1 l2 l3 s0 h
  refine x_istore C0 dX5_line_50 (L' := [(4, _), (0, _), (1, _), (2, _), (3, _)]) (by decide) rfl ?_
  refine x_aload_n C0 dX5_line_52 rfl 1 rfl ?_
  refine x_iload_n C0 dX5_line_53 rfl 2 rfl ?_
  obtain ⟨q2, eq2, h⟩ := x_bind h
  refine x_callV11 C0 (c_X5_outPlaceOf n eq2) (x_cwV C0 mw_730 mw_732 mw_54 mw_84 mw_733 hd_yX5_outPlaceOf ⟨rfl, rfl, Nat.le_of_ble_eq_true rfl, Nat.le_of_ble_eq_true rfl⟩) (by decide) rfl wfR_0 rfl ⟨Nat.zero_le _, Nat.zero_le _⟩ (Nat.le_of_ble_eq_true rfl) dX5_line_54 ?_
  refine x_istore C0 dX5_line_57 (L' := [(5, _), (4, _), (0, _), (1, _), (2, _), (3, _)]) (by decide) rfl ?_
  refine x_iload_n C0 dX5_line_59 rfl 4 rfl ?_
  refine x_iconst C0 (v := 5) dX5_line_60 ki_5 ?_
  refine x_pc (pc' := 61) rfl ?_
  refine x_icmp_ne C0 (tgt := 90) dX5_line_61 rfl h (fun _ h => ?_) (fun _ h => ?_)
  · refine x_iload C0 dX5_line_64 0 rfl ?_
    refine x_if_ge C0 (tgt := 73) dX5_line_66 rfl h (fun _ h => ?_) (fun _ h => ?_)
    · refine x_iconst C0 (v := (-1)) dX5_line_69 ki_m1 ?_
      refine x_goto C0 (tgt := 108) dX5_line_70 rfl ?_
      refine x_sub [2, 4, 5, 1, 0] (L' := [(0, _), (2, _), (3, _), (4, _), (5, _)]) rfl ?_
      refine x_pc (pc' := 108) rfl ?_
      exact b_X5_line_108 C0 n _ _ _ _ _ h
    · refine x_aload_n C0 dX5_line_73 rfl 2 rfl ?_
      refine x_get C0 inu5 rfl 0 (by decide) mw_643 (by decide) wfR_0 rfl dX5_line_74 ?_
      refine x_bipush C0 (v := 104) dX5_line_77 kb_104 ?_
      refine x_iconst C0 (v := 2) dX5_line_79 ki_2 ?_
      refine x_iload C0 dX5_line_80 0 rfl ?_
      refine x_imul C0 dX5_line_82 ?_
      refine x_iadd C0 dX5_line_83 ?_
      refine x_pc (pc' := 84) rfl ?_
      refine x_iconst C0 (v := 1) dX5_line_84 ki_1 ?_
      refine x_iadd C0 dX5_line_85 ?_
      refine x_iald C0 1 rfl (by decide) wfR_1 dX5_line_86 h (fun _ h => ?_)
      refine x_goto C0 (tgt := 108) dX5_line_87 rfl ?_
      refine x_sub [2, 4, 5, 1, 0] (L' := [(0, _), (2, _), (3, _), (4, _), (5, _)]) rfl ?_
      refine x_pc (pc' := 108) rfl ?_
      exact b_X5_line_108 C0 n _ _ _ _ _ h
  · refine x_iload C0 dX5_line_90 1 rfl ?_
    refine x_if_ge C0 (tgt := 99) dX5_line_92 rfl h (fun _ h => ?_) (fun _ h => ?_)
    · refine x_iconst C0 (v := (-1)) dX5_line_95 ki_m1 ?_
      refine x_goto C0 (tgt := 108) dX5_line_96 rfl ?_
      refine x_sub [2, 4, 5, 1, 0] (L' := [(0, _), (2, _), (3, _), (4, _), (5, _)]) rfl ?_
      refine x_pc (pc' := 108) rfl ?_
      exact b_X5_line_108 C0 n _ _ _ _ _ h
    · refine x_aload_n C0 dX5_line_99 rfl 2 rfl ?_
      refine x_get C0 inu5 rfl 0 (by decide) mw_643 (by decide) wfR_0 rfl dX5_line_100 ?_
      refine x_iload C0 dX5_line_103 1 rfl ?_
      refine x_iconst C0 (v := 1) dX5_line_105 ki_1 ?_
      refine x_iadd C0 dX5_line_106 ?_
      refine x_iald C0 1 rfl (by decide) wfR_1 dX5_line_107 h (fun _ h => ?_)
      refine x_sub [2, 4, 5, 1, 0] (L' := [(0, _), (2, _), (3, _), (4, _), (5, _)]) rfl ?_
      refine x_pc (pc' := 108) rfl ?_
      exact b_X5_line_108 C0 n _ _ _ _ _ h
set_option maxRecDepth 4000 in
set_option maxHeartbeats 2000000 in
theorem c_X5_line {l : Launch} {D : va_G} {cs : Nat → ClassId} {ad : Nat → Nat} (n : Nat) {σ : xM} {x1 : Int32} {x2 : Int32}  {res : Int32} (h : F_X5_line n σ x1 x2 = some res) : x_Met l yX5_line [Cond.code yX5_line cX5_line 7 (some FieldType.int)] ({ frames := 2, cells := 0, slots := 0, locals := 45 } : Room) D vwCl (xtys cs) 4 ad (wfR cs ad) [.ref (ad 0), .int x1, .int x2] σ (some (.int res)) σ := by
  refine x_Met_of (L0 := [(0, .ref (ad 0)), (1, .int x1), (2, .int x2)]) (own := RX5) (by decide) rfl rfl wfR_loc (Nat.le_of_ble_eq_true rfl) rfl ?_
  intro p e s m args below meth c A C0
  refine x_iload_n C0 dX5_line_0 rfl 1 rfl ?_
  refine x_pureS1 C0 (fun ad' => c_X5_isLine rfl) (x_cwS C0 mw_776 mw_777 mw_84 mw_778 hd_yX5_isLine ⟨rfl, rfl, Nat.le_of_ble_eq_true rfl, Nat.le_of_ble_eq_true rfl⟩) ⟨Nat.zero_le _, Nat.zero_le _⟩ (Nat.le_of_ble_eq_true rfl) dX5_line_1 ?_
  refine x_if_ne C0 (tgt := 10) dX5_line_4 rfl h (fun _ h => ?_) (fun _ h => ?_)
  · refine x_ldc C0 mw_755 dX5_line_7 ?_
    obtain rfl := x_inj h
    exact x_iret C0 dX5_line_9
  · refine x_iload_n C0 dX5_line_10 rfl 2 rfl ?_
    refine x_iconst C0 (v := 0) dX5_line_11 ki_0 ?_
    refine x_iconst C0 (v := 5) dX5_line_12 ki_5 ?_
    refine x_pureS3 C0 (fun ad' => c_X5_in rfl) (x_cwS C0 mw_696 mw_697 mw_84 mw_698 hd_yX5_in ⟨rfl, rfl, Nat.le_of_ble_eq_true rfl, Nat.le_of_ble_eq_true rfl⟩) ⟨Nat.zero_le _, Nat.zero_le _⟩ (Nat.le_of_ble_eq_true rfl) dX5_line_13 ?_
    refine x_if_ne C0 (tgt := 22) dX5_line_16 rfl h (fun _ h => ?_) (fun _ h => ?_)
    · refine x_ldc C0 mw_699 dX5_line_19 ?_
      obtain rfl := x_inj h
      exact x_iret C0 dX5_line_21
    · refine x_aload_n C0 dX5_line_22 rfl 0 rfl ?_
      refine x_iload_n C0 dX5_line_23 rfl 1 rfl ?_
      obtain ⟨q1, eq1, h⟩ := x_bind h
      refine x_callV11 C0 (c_X5_placeOf n eq1) (x_cwV C0 mw_791 mw_793 mw_60 mw_84 mw_794 hd_yX5_placeOf ⟨rfl, rfl, Nat.le_of_ble_eq_true rfl, Nat.le_of_ble_eq_true rfl⟩) (by decide) rfl wfR_0 rfl ⟨Nat.zero_le _, Nat.zero_le _⟩ (Nat.le_of_ble_eq_true rfl) dX5_line_24 ?_
      refine x_istore_n C0 dX5_line_27 rfl (L' := [(3, _), (0, _), (1, _), (2, _)]) (by decide) rfl ?_
      refine x_iload_n C0 dX5_line_28 rfl 0 rfl ?_
      refine x_if_ge C0 (tgt := 36) dX5_line_29 rfl h (fun _ h => ?_) (fun _ h => ?_)
      · refine x_iconst C0 (v := (-1)) dX5_line_32 ki_m1 ?_
        refine x_goto C0 (tgt := 50) dX5_line_33 rfl ?_
        refine x_sub [1, 2, 3, 0] (L' := [(0, _), (1, _), (2, _), (3, _)]) rfl ?_
        refine x_pc (pc' := 50) rfl ?_
        exact b_X5_line_50 C0 n _ _ _ _ h
      · refine x_iload_n C0 dX5_line_36 rfl 2 rfl ?_
        refine x_aload_n C0 dX5_line_37 rfl 1 rfl ?_
        refine x_get C0 inu5 rfl 0 (by decide) mw_643 (by decide) wfR_0 rfl dX5_line_38 ?_
        refine x_sipush C0 (v := 349) dX5_line_41 ks_349 ?_
        refine x_iald C0 1 rfl (by decide) wfR_1 dX5_line_44 h (fun _ h => ?_)
        refine x_irem C0 dX5_line_45 h (fun _ h => ?_)
        refine x_iload_n C0 dX5_line_46 rfl 0 rfl ?_
        refine x_pc (pc' := 47) rfl ?_
        refine x_pureS2 C0 (fun ad' => c_X5_cellOf rfl) (x_cwS C0 mw_712 mw_713 mw_84 mw_714 hd_yX5_cellOf ⟨rfl, rfl, Nat.le_of_ble_eq_true rfl, Nat.le_of_ble_eq_true rfl⟩) ⟨Nat.zero_le _, Nat.zero_le _⟩ (Nat.le_of_ble_eq_true rfl) dX5_line_47 ?_
        refine x_sub [1, 2, 3, 0] (L' := [(0, _), (1, _), (2, _), (3, _)]) rfl ?_
        refine x_pc (pc' := 50) rfl ?_
        exact b_X5_line_50 C0 n _ _ _ _ h
set_option maxRecDepth 4000 in
set_option maxHeartbeats 2000000 in
theorem c_X5_inSet {l : Launch} {D : va_G} {cs : Nat → ClassId} {ad : Nat → Nat} (n : Nat) {σ : xM} {x1 : Int32} {x2 : Int32}  {res : Int32} (h : F_X5_inSet n σ x1 x2 = some res) : x_Met l yX5_inSet [Cond.code yX5_inSet cX5_inSet 3 (some FieldType.int)] ({ frames := 1, cells := 0, slots := 0, locals := 22 } : Room) D vwCl (xtys cs) 4 ad (wfR cs ad) [.ref (ad 0), .int x1, .int x2] σ (some (.int res)) σ := by
  refine x_Met_of (L0 := [(0, .ref (ad 0)), (1, .int x1), (2, .int x2)]) (own := RX5) (by decide) rfl rfl wfR_loc (Nat.le_of_ble_eq_true rfl) rfl ?_
  intro p e s m args below meth c A C0
  refine x_iload_n C0 dX5_inSet_0 rfl 1 rfl ?_
  refine x_iconst C0 (v := 0) dX5_inSet_1 ki_0 ?_
  refine x_aload_n C0 dX5_inSet_2 rfl 0 rfl ?_
  refine x_get C0 inu5 rfl 0 (by decide) mw_643 (by decide) wfR_0 rfl dX5_inSet_3 ?_
  refine x_sipush C0 (v := 349) dX5_inSet_6 ks_349 ?_
  refine x_iald C0 1 rfl (by decide) wfR_1 dX5_inSet_9 h (fun _ h => ?_)
  refine x_iconst C0 (v := 1) dX5_inSet_10 ki_1 ?_
  refine x_pc (pc' := 11) rfl ?_
  refine x_isub C0 dX5_inSet_11 ?_
  refine x_pureS3 C0 (fun ad' => c_X5_in rfl) (x_cwS C0 mw_696 mw_697 mw_84 mw_698 hd_yX5_in ⟨rfl, rfl, Nat.le_of_ble_eq_true rfl, Nat.le_of_ble_eq_true rfl⟩) ⟨Nat.zero_le _, Nat.zero_le _⟩ (Nat.le_of_ble_eq_true rfl) dX5_inSet_12 ?_
  refine x_if_ne C0 (tgt := 21) dX5_inSet_15 rfl h (fun _ h => ?_) (fun _ h => ?_)
  · refine x_ldc C0 mw_755 dX5_inSet_18 ?_
    obtain rfl := x_inj h
    exact x_iret C0 dX5_inSet_20
  · refine x_iload_n C0 dX5_inSet_21 rfl 2 rfl ?_
    refine x_if_ge C0 (tgt := 28) dX5_inSet_22 rfl h (fun _ h => ?_) (fun _ h => ?_)
    · refine x_ldc C0 mw_699 dX5_inSet_25 ?_
      obtain rfl := x_inj h
      exact x_iret C0 dX5_inSet_27
    · refine x_iload_n C0 dX5_inSet_28 rfl 2 rfl ?_
      refine x_aload_n C0 dX5_inSet_29 rfl 0 rfl ?_
      refine x_get C0 inu5 rfl 0 (by decide) mw_643 (by decide) wfR_0 rfl dX5_inSet_30 ?_
      refine x_iconst C0 (v := 0) dX5_inSet_33 ki_0 ?_
      refine x_iload_n C0 dX5_inSet_34 rfl 1 rfl ?_
      refine x_iadd C0 dX5_inSet_35 ?_
      refine x_iald C0 1 rfl (by decide) wfR_1 dX5_inSet_36 h (fun _ h => ?_)
      refine x_pc (pc' := 37) rfl ?_
      refine x_icmp_ge C0 (tgt := 53) dX5_inSet_37 rfl h (fun _ h => ?_) (fun _ h => ?_)
      · refine x_aload_n C0 dX5_inSet_40 rfl 0 rfl ?_
        refine x_get C0 inu5 rfl 0 (by decide) mw_643 (by decide) wfR_0 rfl dX5_inSet_41 ?_
        refine x_iload_n C0 dX5_inSet_44 rfl 1 rfl ?_
        refine x_iload_n C0 dX5_inSet_45 rfl 2 rfl ?_
        refine x_pureS2 C0 (fun ad' => c_X5_cellOf rfl) (x_cwS C0 mw_712 mw_713 mw_84 mw_714 hd_yX5_cellOf ⟨rfl, rfl, Nat.le_of_ble_eq_true rfl, Nat.le_of_ble_eq_true rfl⟩) ⟨Nat.zero_le _, Nat.zero_le _⟩ (Nat.le_of_ble_eq_true rfl) dX5_inSet_46 ?_
        refine x_iald C0 1 rfl (by decide) wfR_1 dX5_inSet_49 h (fun _ h => ?_)
        refine x_goto C0 (tgt := 55) dX5_inSet_50 rfl ?_
        refine x_pc (pc' := 55) rfl ?_
        obtain rfl := x_inj h
        exact x_iret C0 dX5_inSet_55
      · refine x_ldc C0 mw_675 dX5_inSet_53 ?_
        obtain rfl := x_inj h
        exact x_iret C0 dX5_inSet_55
set_option maxRecDepth 4000 in
set_option maxHeartbeats 2000000 in
theorem c_X5_thrownOut {l : Launch} {D : va_G} {cs : Nat → ClassId} {ad : Nat → Nat} (n : Nat) {σ : xM} {x1 : Int32}  {res : Int32} (h : F_X5_thrownOut n σ x1 = some res) : x_Met l yX5_thrownOut [Cond.code yX5_thrownOut cX5_thrownOut 2 (some FieldType.int)] ({ frames := 0, cells := 0, slots := 0, locals := 0 } : Room) D vwCl (xtys cs) 4 ad (wfR cs ad) [.ref (ad 0), .int x1] σ (some (.int res)) σ := by
  refine x_Met_of (L0 := [(0, .ref (ad 0)), (1, .int x1)]) (own := RX5) (by decide) rfl rfl wfR_loc (Nat.le_of_ble_eq_true rfl) rfl ?_
  intro p e s m args below meth c A C0
  refine x_iload_n C0 dX5_thrownOut_0 rfl 1 rfl ?_
  refine x_if_ge C0 (tgt := 7) dX5_thrownOut_1 rfl h (fun _ h => ?_) (fun _ h => ?_)
  · refine x_ldc C0 mw_699 dX5_thrownOut_4 ?_
    obtain rfl := x_inj h
    exact x_iret C0 dX5_thrownOut_6
  · refine x_iload_n C0 dX5_thrownOut_7 rfl 1 rfl ?_
    refine x_aload_n C0 dX5_thrownOut_8 rfl 0 rfl ?_
    refine x_get C0 inu5 rfl 0 (by decide) mw_643 (by decide) wfR_0 rfl dX5_thrownOut_9 ?_
    refine x_sipush C0 (v := 348) dX5_thrownOut_12 ks_348 ?_
    refine x_iald C0 1 rfl (by decide) wfR_1 dX5_thrownOut_15 h (fun _ h => ?_)
    refine x_icmp_ge C0 (tgt := 33) dX5_thrownOut_16 rfl h (fun _ h => ?_) (fun _ h => ?_)
    · refine x_aload_n C0 dX5_thrownOut_19 rfl 0 rfl ?_
      refine x_get C0 inu5 rfl 0 (by decide) mw_643 (by decide) wfR_0 rfl dX5_thrownOut_20 ?_
      refine x_bipush C0 (v := 104) dX5_thrownOut_23 kb_104 ?_
      refine x_iconst C0 (v := 2) dX5_thrownOut_25 ki_2 ?_
      refine x_iload_n C0 dX5_thrownOut_26 rfl 1 rfl ?_
      refine x_imul C0 dX5_thrownOut_27 ?_
      refine x_iadd C0 dX5_thrownOut_28 ?_
      refine x_pc (pc' := 29) rfl ?_
      refine x_iald C0 1 rfl (by decide) wfR_1 dX5_thrownOut_29 h (fun _ h => ?_)
      refine x_goto C0 (tgt := 35) dX5_thrownOut_30 rfl ?_
      obtain rfl := x_inj h
      exact x_iret C0 dX5_thrownOut_35
    · refine x_ldc C0 mw_675 dX5_thrownOut_33 ?_
      obtain rfl := x_inj h
      exact x_iret C0 dX5_thrownOut_35
set_option maxRecDepth 4000 in
set_option maxHeartbeats 2000000 in
theorem b_X5_newOf_76 {p : Program} {l : Launch} {e : Env} {s : State} {m : MethodId} {args : Array Value} {below : List Frame} {meth : Method} {c : Code} {D : va_G} {cs : Nat → ClassId} {ad : Nat → Nat} {A : Nat → Prop} (C0 : x_C p s m args meth c D vwCl (xtys cs) A s.heap 4 ad (wfR cs ad) cX5_newOf 6 RX5 (some FieldType.int))  (n : Nat) {σ : xM} {res : Int32} {K4 : Int32 → Int32 → Int32 → Option Int32} {K19 : Int32 → Int32 → Int32 → Int32 → Option Int32} (hK4 : ∀ (l1 : Int32) (l2 : Int32) (l3 : Int32) , K4 l1 l2 l3 = some res → x_W p l e ({ frames := 1, cells := 0, slots := 0, locals := 21 } : Room) s m args below meth c D vwCl A s.heap 4 ad (wfR cs ad) 6 0 0 (x_E below args s D vwCl 4 ad (wfR cs ad) A (some (.int res)) σ) σ 4 [(0, .ref (ad 0)), (1, .int l1), (2, .int l2), (3, .int l3)] []) (hK19 : ∀ (l1 : Int32) (l2 : Int32) (l3 : Int32) (l4 : Int32) , K19 l1 l2 l3 l4 = some res → x_W p l e ({ frames := 1, cells := 0, slots := 0, locals := 21 } : Room) s m args below meth c D vwCl A s.heap 4 ad (wfR cs ad) 6 0 0 (x_E below args s D vwCl 4 ad (wfR cs ad) A (some (.int res)) σ) σ 19 [(0, .ref (ad 0)), (1, .int l1), (2, .int l2), (3, .int l3), (4, .int l4)] []) : ∀ (l1 : Int32) (l3 : Int32) (l4 : Int32) (s0 : Int32) (s1 : Int32), B_X5_newOf_76 n σ K4 K19 l1 l3 l4 s0 s1 = some res → x_W p l e ({ frames := 1, cells := 0, slots := 0, locals := 21 } : Room) s m args below meth c D vwCl A s.heap 4 ad (wfR cs ad) 6 0 0 (x_E below args s D vwCl 4 ad (wfR cs ad) A (some (.int res)) σ) σ 76 [(0, .ref (ad 0)), (1, .int l1), (3, .int l3), (4, .int l4)] [.int s1, .int s0] := by
  intro l1 l3 l4 s0 s1 h
  refine x_iadd C0 dX5_newOf_76 ?_
  refine x_istore_n C0 dX5_newOf_77 rfl (L' := [(2, _), (0, _), (1, _), (3, _), (4, _)]) (by decide) rfl ?_
  refine x_iinc C0 (v := 1) (L' := [(4, _), (2, _), (0, _), (1, _), (3, _)]) dX5_newOf_78 4 rfl ki_1 (by decide) rfl ?_
  refine x_goto C0 (tgt := 19) dX5_newOf_81 rfl ?_
  refine x_sub [2, 3, 1, 4, 0] (L' := [(0, _), (1, _), (2, _), (3, _), (4, _)]) rfl ?_
  refine x_pc (pc' := 19) rfl ?_
  exact hK19 _ _ _ _ h
set_option maxRecDepth 4000 in
set_option maxHeartbeats 2000000 in
theorem b_X5_newOf_71 {p : Program} {l : Launch} {e : Env} {s : State} {m : MethodId} {args : Array Value} {below : List Frame} {meth : Method} {c : Code} {D : va_G} {cs : Nat → ClassId} {ad : Nat → Nat} {A : Nat → Prop} (C0 : x_C p s m args meth c D vwCl (xtys cs) A s.heap 4 ad (wfR cs ad) cX5_newOf 6 RX5 (some FieldType.int))  (n : Nat) {σ : xM} {res : Int32} {K4 : Int32 → Int32 → Int32 → Option Int32} {K19 : Int32 → Int32 → Int32 → Int32 → Option Int32} (hK4 : ∀ (l1 : Int32) (l2 : Int32) (l3 : Int32) , K4 l1 l2 l3 = some res → x_W p l e ({ frames := 1, cells := 0, slots := 0, locals := 21 } : Room) s m args below meth c D vwCl A s.heap 4 ad (wfR cs ad) 6 0 0 (x_E below args s D vwCl 4 ad (wfR cs ad) A (some (.int res)) σ) σ 4 [(0, .ref (ad 0)), (1, .int l1), (2, .int l2), (3, .int l3)] []) (hK19 : ∀ (l1 : Int32) (l2 : Int32) (l3 : Int32) (l4 : Int32) , K19 l1 l2 l3 l4 = some res → x_W p l e ({ frames := 1, cells := 0, slots := 0, locals := 21 } : Room) s m args below meth c D vwCl A s.heap 4 ad (wfR cs ad) 6 0 0 (x_E below args s D vwCl 4 ad (wfR cs ad) A (some (.int res)) σ) σ 19 [(0, .ref (ad 0)), (1, .int l1), (2, .int l2), (3, .int l3), (4, .int l4)] []) : ∀ (l1 : Int32) (l3 : Int32) (l4 : Int32) (s0 : Int32), B_X5_newOf_71 n σ K4 K19 l1 l3 l4 s0 = some res → x_W p l e ({ frames := 1, cells := 0, slots := 0, locals := 21 } : Room) s m args below meth c D vwCl A s.heap 4 ad (wfR cs ad) 6 0 0 (x_E below args s D vwCl 4 ad (wfR cs ad) A (some (.int res)) σ) σ 71 [(0, .ref (ad 0)), (1, .int l1), (3, .int l3), (4, .int l4)] [.int s0] := by
  intro l1 l3 l4 s0 h
  refine x_iconst C0 (v := 1) dX5_newOf_71 ki_1 ?_
  refine x_goto C0 (tgt := 76) dX5_newOf_72 rfl ?_
  refine x_sub [0, 1, 2, 3] (L' := [(0, _), (1, _), (3, _), (4, _)]) rfl ?_
  refine x_pc (pc' := 76) rfl ?_
  exact b_X5_newOf_76 C0 n hK4 hK19 _ _ _ _ _ h
set_option maxRecDepth 4000 in
set_option maxHeartbeats 2000000 in
theorem b_X5_newOf_75 {p : Program} {l : Launch} {e : Env} {s : State} {m : MethodId} {args : Array Value} {below : List Frame} {meth : Method} {c : Code} {D : va_G} {cs : Nat → ClassId} {ad : Nat → Nat} {A : Nat → Prop} (C0 : x_C p s m args meth c D vwCl (xtys cs) A s.heap 4 ad (wfR cs ad) cX5_newOf 6 RX5 (some FieldType.int))  (n : Nat) {σ : xM} {res : Int32} {K4 : Int32 → Int32 → Int32 → Option Int32} {K19 : Int32 → Int32 → Int32 → Int32 → Option Int32} (hK4 : ∀ (l1 : Int32) (l2 : Int32) (l3 : Int32) , K4 l1 l2 l3 = some res → x_W p l e ({ frames := 1, cells := 0, slots := 0, locals := 21 } : Room) s m args below meth c D vwCl A s.heap 4 ad (wfR cs ad) 6 0 0 (x_E below args s D vwCl 4 ad (wfR cs ad) A (some (.int res)) σ) σ 4 [(0, .ref (ad 0)), (1, .int l1), (2, .int l2), (3, .int l3)] []) (hK19 : ∀ (l1 : Int32) (l2 : Int32) (l3 : Int32) (l4 : Int32) , K19 l1 l2 l3 l4 = some res → x_W p l e ({ frames := 1, cells := 0, slots := 0, locals := 21 } : Room) s m args below meth c D vwCl A s.heap 4 ad (wfR cs ad) 6 0 0 (x_E below args s D vwCl 4 ad (wfR cs ad) A (some (.int res)) σ) σ 19 [(0, .ref (ad 0)), (1, .int l1), (2, .int l2), (3, .int l3), (4, .int l4)] []) : ∀ (l1 : Int32) (l3 : Int32) (l4 : Int32) (s0 : Int32), B_X5_newOf_75 n σ K4 K19 l1 l3 l4 s0 = some res → x_W p l e ({ frames := 1, cells := 0, slots := 0, locals := 21 } : Room) s m args below meth c D vwCl A s.heap 4 ad (wfR cs ad) 6 0 0 (x_E below args s D vwCl 4 ad (wfR cs ad) A (some (.int res)) σ) σ 75 [(0, .ref (ad 0)), (1, .int l1), (3, .int l3), (4, .int l4)] [.int s0] := by
  intro l1 l3 l4 s0 h
  refine x_iconst C0 (v := 0) dX5_newOf_75 ki_0 ?_
  refine x_sub [0, 1, 2, 3] (L' := [(0, _), (1, _), (3, _), (4, _)]) rfl ?_
  refine x_pc (pc' := 76) rfl ?_
  exact b_X5_newOf_76 C0 n hK4 hK19 _ _ _ _ _ h
set_option maxRecDepth 4000 in
set_option maxHeartbeats 2000000 in
theorem b_X5_newOf_19 {p : Program} {l : Launch} {e : Env} {s : State} {m : MethodId} {args : Array Value} {below : List Frame} {meth : Method} {c : Code} {D : va_G} {cs : Nat → ClassId} {ad : Nat → Nat} {A : Nat → Prop} (C0 : x_C p s m args meth c D vwCl (xtys cs) A s.heap 4 ad (wfR cs ad) cX5_newOf 6 RX5 (some FieldType.int))  (n : Nat) {σ : xM} {res : Int32} {K4 : Int32 → Int32 → Int32 → Option Int32} (hK4 : ∀ (l1 : Int32) (l2 : Int32) (l3 : Int32) , K4 l1 l2 l3 = some res → x_W p l e ({ frames := 1, cells := 0, slots := 0, locals := 21 } : Room) s m args below meth c D vwCl A s.heap 4 ad (wfR cs ad) 6 0 0 (x_E below args s D vwCl 4 ad (wfR cs ad) A (some (.int res)) σ) σ 4 [(0, .ref (ad 0)), (1, .int l1), (2, .int l2), (3, .int l3)] []) : ∀ (f : Nat) (l1 : Int32) (l2 : Int32) (l3 : Int32) (l4 : Int32), B_X5_newOf_19 n σ K4 f l1 l2 l3 l4 = some res → x_W p l e ({ frames := 1, cells := 0, slots := 0, locals := 21 } : Room) s m args below meth c D vwCl A s.heap 4 ad (wfR cs ad) 6 0 0 (x_E below args s D vwCl 4 ad (wfR cs ad) A (some (.int res)) σ) σ 19 [(0, .ref (ad 0)), (1, .int l1), (2, .int l2), (3, .int l3), (4, .int l4)] [] := by
  intro f
  induction f with
  | zero =>
    intro l1 l2 l3 l4 h
    cases h
  | succ f ih =>
    intro l1 l2 l3 l4 h
    refine x_iload C0 dX5_newOf_19 4 rfl ?_
    refine x_aload_n C0 dX5_newOf_21 rfl 0 rfl ?_
    refine x_get C0 inu5 rfl 0 (by decide) mw_643 (by decide) wfR_0 rfl dX5_newOf_22 ?_
    refine x_iconst C0 (v := 0) dX5_newOf_25 ki_0 ?_
    refine x_iload_n C0 dX5_newOf_26 rfl 3 rfl ?_
    refine x_iadd C0 dX5_newOf_27 ?_
    refine x_iald C0 1 rfl (by decide) wfR_1 dX5_newOf_28 h (fun _ h => ?_)
    refine x_pc (pc' := 29) rfl ?_
    refine x_icmp_ge C0 (tgt := 84) dX5_newOf_29 rfl h (fun _ h => ?_) (fun _ h => ?_)
    · refine x_iload_n C0 dX5_newOf_32 rfl 3 rfl ?_
      refine x_iload C0 dX5_newOf_33 4 rfl ?_
      refine x_pureS2 C0 (fun ad' => c_X5_cellOf rfl) (x_cwS C0 mw_712 mw_713 mw_84 mw_714 hd_yX5_cellOf ⟨rfl, rfl, Nat.le_of_ble_eq_true rfl, Nat.le_of_ble_eq_true rfl⟩) ⟨Nat.zero_le _, Nat.zero_le _⟩ (Nat.le_of_ble_eq_true rfl) dX5_newOf_35 ?_
      refine x_istore C0 dX5_newOf_38 (L' := [(5, _), (0, _), (1, _), (2, _), (3, _), (4, _)]) (by decide) rfl ?_
      refine x_iload_n C0 dX5_newOf_40 rfl 3 rfl ?_
      refine x_aload_n C0 dX5_newOf_41 rfl 1 rfl ?_
      refine x_get C0 inu5 rfl 0 (by decide) mw_643 (by decide) wfR_0 rfl dX5_newOf_42 ?_
      refine x_pc (pc' := 45) rfl ?_
      refine x_iload C0 dX5_newOf_45 0 rfl ?_
      refine x_iconst C0 (v := 2) dX5_newOf_47 ki_2 ?_
      refine x_iadd C0 dX5_newOf_48 ?_
      refine x_iald C0 1 rfl (by decide) wfR_1 dX5_newOf_49 h (fun _ h => ?_)
      refine x_iconst C0 (v := 1) dX5_newOf_50 ki_1 ?_
      refine x_icmp_ne C0 (tgt := 75) dX5_newOf_51 rfl h (fun _ h => ?_) (fun _ h => ?_)
      · refine x_iload_n C0 dX5_newOf_54 rfl 2 rfl ?_
        refine x_if_lt C0 (tgt := 71) dX5_newOf_55 rfl h (fun _ h => ?_) (fun _ h => ?_)
        · refine x_sub [1, 2, 4, 5] (L' := [(0, _), (1, _), (3, _), (4, _)]) rfl ?_
          refine x_pc (pc' := 71) rfl ?_
          exact b_X5_newOf_71 C0 n hK4 (fun l1 l2 l3 l4 h => ih l1 l2 l3 l4 h) _ _ _ _ h
        · refine x_aload_n C0 dX5_newOf_58 rfl 1 rfl ?_
          refine x_get C0 inu5 rfl 0 (by decide) mw_643 (by decide) wfR_0 rfl dX5_newOf_59 ?_
          refine x_iload C0 dX5_newOf_62 0 rfl ?_
          refine x_iconst C0 (v := 1) dX5_newOf_64 ki_1 ?_
          refine x_iadd C0 dX5_newOf_65 ?_
          refine x_iald C0 1 rfl (by decide) wfR_1 dX5_newOf_66 h (fun _ h => ?_)
          refine x_iload_n C0 dX5_newOf_67 rfl 2 rfl ?_
          refine x_pc (pc' := 68) rfl ?_
          refine x_icmp_ne C0 (tgt := 75) dX5_newOf_68 rfl h (fun _ h => ?_) (fun _ h => ?_)
          · refine x_sub [1, 2, 4, 5] (L' := [(0, _), (1, _), (3, _), (4, _)]) rfl ?_
            refine x_pc (pc' := 71) rfl ?_
            exact b_X5_newOf_71 C0 n hK4 (fun l1 l2 l3 l4 h => ih l1 l2 l3 l4 h) _ _ _ _ h
          · refine x_sub [1, 2, 4, 5] (L' := [(0, _), (1, _), (3, _), (4, _)]) rfl ?_
            refine x_pc (pc' := 75) rfl ?_
            exact b_X5_newOf_75 C0 n hK4 (fun l1 l2 l3 l4 h => ih l1 l2 l3 l4 h) _ _ _ _ h
      · refine x_sub [1, 2, 4, 5] (L' := [(0, _), (1, _), (3, _), (4, _)]) rfl ?_
        refine x_pc (pc' := 75) rfl ?_
        exact b_X5_newOf_75 C0 n hK4 (fun l1 l2 l3 l4 h => ih l1 l2 l3 l4 h) _ _ _ _ h
    · refine x_iinc C0 (v := 1) (L' := [(3, _), (0, _), (1, _), (2, _), (4, _)]) dX5_newOf_84 3 rfl ki_1 (by decide) rfl ?_
      refine x_goto C0 (tgt := 4) dX5_newOf_87 rfl ?_
      refine x_sub [1, 2, 3, 0] (L' := [(0, _), (1, _), (2, _), (3, _)]) rfl ?_
      refine x_pc (pc' := 4) rfl ?_
      exact hK4 _ _ _ h
set_option maxRecDepth 4000 in
set_option maxHeartbeats 2000000 in
theorem b_X5_newOf_4 {p : Program} {l : Launch} {e : Env} {s : State} {m : MethodId} {args : Array Value} {below : List Frame} {meth : Method} {c : Code} {D : va_G} {cs : Nat → ClassId} {ad : Nat → Nat} {A : Nat → Prop} (C0 : x_C p s m args meth c D vwCl (xtys cs) A s.heap 4 ad (wfR cs ad) cX5_newOf 6 RX5 (some FieldType.int))  (n : Nat) {σ : xM} {res : Int32} : ∀ (f : Nat) (l1 : Int32) (l2 : Int32) (l3 : Int32), B_X5_newOf_4 n σ f l1 l2 l3 = some res → x_W p l e ({ frames := 1, cells := 0, slots := 0, locals := 21 } : Room) s m args below meth c D vwCl A s.heap 4 ad (wfR cs ad) 6 0 0 (x_E below args s D vwCl 4 ad (wfR cs ad) A (some (.int res)) σ) σ 4 [(0, .ref (ad 0)), (1, .int l1), (2, .int l2), (3, .int l3)] [] := by
  intro f
  induction f with
  | zero =>
    intro l1 l2 l3 h
    cases h
  | succ f ih =>
    intro l1 l2 l3 h
    refine x_iload_n C0 dX5_newOf_4 rfl 3 rfl ?_
    refine x_aload_n C0 dX5_newOf_5 rfl 0 rfl ?_
    refine x_get C0 inu5 rfl 0 (by decide) mw_643 (by decide) wfR_0 rfl dX5_newOf_6 ?_
    refine x_sipush C0 (v := 349) dX5_newOf_9 ks_349 ?_
    refine x_iald C0 1 rfl (by decide) wfR_1 dX5_newOf_12 h (fun _ h => ?_)
    refine x_icmp_ge C0 (tgt := 90) dX5_newOf_13 rfl h (fun _ h => ?_) (fun _ h => ?_)
    · refine x_iconst C0 (v := 0) dX5_newOf_16 ki_0 ?_
      refine x_istore C0 dX5_newOf_17 (L' := [(4, _), (0, _), (1, _), (2, _), (3, _)]) (by decide) rfl ?_
      refine x_sub [1, 2, 3, 4, 0] (L' := [(0, _), (1, _), (2, _), (3, _), (4, _)]) rfl ?_
      refine x_pc (pc' := 19) rfl ?_
      exact b_X5_newOf_19 C0 n (fun l1 l2 l3 h => ih l1 l2 l3 h) n _ _ _ _ h
    · refine x_iload_n C0 dX5_newOf_90 rfl 2 rfl ?_
      obtain rfl := x_inj h
      exact x_iret C0 dX5_newOf_91
set_option maxRecDepth 4000 in
set_option maxHeartbeats 2000000 in
theorem c_X5_newOf {l : Launch} {D : va_G} {cs : Nat → ClassId} {ad : Nat → Nat} (n : Nat) {σ : xM} {x1 : Int32}  {res : Int32} (h : F_X5_newOf n σ x1 = some res) : x_Met l yX5_newOf [Cond.code yX5_newOf cX5_newOf 6 (some FieldType.int)] ({ frames := 1, cells := 0, slots := 0, locals := 21 } : Room) D vwCl (xtys cs) 4 ad (wfR cs ad) [.ref (ad 0), .int x1] σ (some (.int res)) σ := by
  refine x_Met_of (L0 := [(0, .ref (ad 0)), (1, .int x1)]) (own := RX5) (by decide) rfl rfl wfR_loc (Nat.le_of_ble_eq_true rfl) rfl ?_
  intro p e s m args below meth c A C0
  refine x_iconst C0 (v := 0) dX5_newOf_0 ki_0 ?_
  refine x_istore_n C0 dX5_newOf_1 rfl (L' := [(2, _), (0, _), (1, _)]) (by decide) rfl ?_
  refine x_iconst C0 (v := 0) dX5_newOf_2 ki_0 ?_
  refine x_istore_n C0 dX5_newOf_3 rfl (L' := [(3, _), (2, _), (0, _), (1, _)]) (by decide) rfl ?_
  refine x_sub [2, 3, 1, 0] (L' := [(0, _), (1, _), (2, _), (3, _)]) rfl ?_
  refine x_pc (pc' := 4) rfl ?_
  exact b_X5_newOf_4 C0 n n _ _ _ h
set_option maxRecDepth 4000 in
set_option maxHeartbeats 2000000 in
theorem c_X5_helper {l : Launch} {D : va_G} {cs : Nat → ClassId} {ad : Nat → Nat} (n : Nat) {σ : xM} {x1 : Int32} {x2 : Int32}  {res : Int32} (h : F_X5_helper n σ x1 x2 = some res) : x_Met l yX5_helper [Cond.code yX5_helper cX5_helper 3 (some FieldType.int)] ({ frames := 2, cells := 0, slots := 0, locals := 46 } : Room) D vwCl (xtys cs) 4 ad (wfR cs ad) [.ref (ad 0), .int x1, .int x2] σ (some (.int res)) σ := by
  refine x_Met_of (L0 := [(0, .ref (ad 0)), (1, .int x1), (2, .int x2)]) (own := RX5) (by decide) rfl rfl wfR_loc (Nat.le_of_ble_eq_true rfl) rfl ?_
  intro p e s m args below meth c A C0
  refine x_aload_n C0 dX5_helper_0 rfl 0 rfl ?_
  refine x_iload_n C0 dX5_helper_1 rfl 1 rfl ?_
  obtain ⟨q1, eq1, h⟩ := x_bind h
  refine x_callV11 C0 (c_X5_isHelper n eq1) (x_cwV C0 mw_751 mw_753 mw_56 mw_84 mw_754 hd_yX5_isHelper ⟨rfl, rfl, Nat.le_of_ble_eq_true rfl, Nat.le_of_ble_eq_true rfl⟩) (by decide) rfl wfR_0 rfl ⟨Nat.zero_le _, Nat.zero_le _⟩ (Nat.le_of_ble_eq_true rfl) dX5_helper_2 ?_
  refine x_if_ne C0 (tgt := 11) dX5_helper_5 rfl h (fun _ h => ?_) (fun _ h => ?_)
  · refine x_ldc C0 mw_755 dX5_helper_8 ?_
    obtain rfl := x_inj h
    exact x_iret C0 dX5_helper_10
  · refine x_iload_n C0 dX5_helper_11 rfl 2 rfl ?_
    refine x_ite h (fun hc h => ?_) (fun hc0 h => ?_)
    · refine x_top (congrArg Value.int hc) ?_
      refine x_tableIn C0 (off := 80) (tgt := 92) dX5_helper_12 (by decide) (by decide) (by decide) rfl ?_
      refine x_aload_n C0 dX5_helper_92 rfl 0 rfl ?_
      refine x_get C0 inu5 rfl 0 (by decide) mw_643 (by decide) wfR_0 rfl dX5_helper_93 ?_
      refine x_iload_n C0 dX5_helper_96 rfl 1 rfl ?_
      refine x_iload_n C0 dX5_helper_97 rfl 2 rfl ?_
      refine x_pureS2 C0 (fun ad' => c_X5_of rfl) (x_cwS C0 mw_715 mw_716 mw_84 mw_717 hd_yX5_of ⟨rfl, rfl, Nat.le_of_ble_eq_true rfl, Nat.le_of_ble_eq_true rfl⟩) ⟨Nat.zero_le _, Nat.zero_le _⟩ (Nat.le_of_ble_eq_true rfl) dX5_helper_98 ?_
      refine x_iald C0 1 rfl (by decide) wfR_1 dX5_helper_101 h (fun _ h => ?_)
      obtain rfl := x_inj h
      exact x_iret C0 dX5_helper_102
    · refine x_ite h (fun hc h => ?_) (fun hc1 h => ?_)
      · refine x_top (congrArg Value.int hc) ?_
        refine x_tableIn C0 (off := 80) (tgt := 92) dX5_helper_12 (by decide) (by decide) (by decide) rfl ?_
        refine x_aload_n C0 dX5_helper_92 rfl 0 rfl ?_
        refine x_get C0 inu5 rfl 0 (by decide) mw_643 (by decide) wfR_0 rfl dX5_helper_93 ?_
        refine x_iload_n C0 dX5_helper_96 rfl 1 rfl ?_
        refine x_iload_n C0 dX5_helper_97 rfl 2 rfl ?_
        refine x_pureS2 C0 (fun ad' => c_X5_of rfl) (x_cwS C0 mw_715 mw_716 mw_84 mw_717 hd_yX5_of ⟨rfl, rfl, Nat.le_of_ble_eq_true rfl, Nat.le_of_ble_eq_true rfl⟩) ⟨Nat.zero_le _, Nat.zero_le _⟩ (Nat.le_of_ble_eq_true rfl) dX5_helper_98 ?_
        refine x_iald C0 1 rfl (by decide) wfR_1 dX5_helper_101 h (fun _ h => ?_)
        obtain rfl := x_inj h
        exact x_iret C0 dX5_helper_102
      · refine x_ite h (fun hc h => ?_) (fun hc2 h => ?_)
        · refine x_top (congrArg Value.int hc) ?_
          refine x_tableIn C0 (off := 80) (tgt := 92) dX5_helper_12 (by decide) (by decide) (by decide) rfl ?_
          refine x_aload_n C0 dX5_helper_92 rfl 0 rfl ?_
          refine x_get C0 inu5 rfl 0 (by decide) mw_643 (by decide) wfR_0 rfl dX5_helper_93 ?_
          refine x_iload_n C0 dX5_helper_96 rfl 1 rfl ?_
          refine x_iload_n C0 dX5_helper_97 rfl 2 rfl ?_
          refine x_pureS2 C0 (fun ad' => c_X5_of rfl) (x_cwS C0 mw_715 mw_716 mw_84 mw_717 hd_yX5_of ⟨rfl, rfl, Nat.le_of_ble_eq_true rfl, Nat.le_of_ble_eq_true rfl⟩) ⟨Nat.zero_le _, Nat.zero_le _⟩ (Nat.le_of_ble_eq_true rfl) dX5_helper_98 ?_
          refine x_iald C0 1 rfl (by decide) wfR_1 dX5_helper_101 h (fun _ h => ?_)
          obtain rfl := x_inj h
          exact x_iret C0 dX5_helper_102
        · refine x_ite h (fun hc h => ?_) (fun hc3 h => ?_)
          · refine x_top (congrArg Value.int hc) ?_
            refine x_tableIn C0 (off := 80) (tgt := 92) dX5_helper_12 (by decide) (by decide) (by decide) rfl ?_
            refine x_aload_n C0 dX5_helper_92 rfl 0 rfl ?_
            refine x_get C0 inu5 rfl 0 (by decide) mw_643 (by decide) wfR_0 rfl dX5_helper_93 ?_
            refine x_iload_n C0 dX5_helper_96 rfl 1 rfl ?_
            refine x_iload_n C0 dX5_helper_97 rfl 2 rfl ?_
            refine x_pureS2 C0 (fun ad' => c_X5_of rfl) (x_cwS C0 mw_715 mw_716 mw_84 mw_717 hd_yX5_of ⟨rfl, rfl, Nat.le_of_ble_eq_true rfl, Nat.le_of_ble_eq_true rfl⟩) ⟨Nat.zero_le _, Nat.zero_le _⟩ (Nat.le_of_ble_eq_true rfl) dX5_helper_98 ?_
            refine x_iald C0 1 rfl (by decide) wfR_1 dX5_helper_101 h (fun _ h => ?_)
            obtain rfl := x_inj h
            exact x_iret C0 dX5_helper_102
          · refine x_ite h (fun hc h => ?_) (fun hc4 h => ?_)
            · refine x_top (congrArg Value.int hc) ?_
              refine x_tableIn C0 (off := 80) (tgt := 92) dX5_helper_12 (by decide) (by decide) (by decide) rfl ?_
              refine x_aload_n C0 dX5_helper_92 rfl 0 rfl ?_
              refine x_get C0 inu5 rfl 0 (by decide) mw_643 (by decide) wfR_0 rfl dX5_helper_93 ?_
              refine x_iload_n C0 dX5_helper_96 rfl 1 rfl ?_
              refine x_iload_n C0 dX5_helper_97 rfl 2 rfl ?_
              refine x_pureS2 C0 (fun ad' => c_X5_of rfl) (x_cwS C0 mw_715 mw_716 mw_84 mw_717 hd_yX5_of ⟨rfl, rfl, Nat.le_of_ble_eq_true rfl, Nat.le_of_ble_eq_true rfl⟩) ⟨Nat.zero_le _, Nat.zero_le _⟩ (Nat.le_of_ble_eq_true rfl) dX5_helper_98 ?_
              refine x_iald C0 1 rfl (by decide) wfR_1 dX5_helper_101 h (fun _ h => ?_)
              obtain rfl := x_inj h
              exact x_iret C0 dX5_helper_102
            · refine x_ite h (fun hc h => ?_) (fun hc5 h => ?_)
              · refine x_top (congrArg Value.int hc) ?_
                refine x_tableIn C0 (off := 80) (tgt := 92) dX5_helper_12 (by decide) (by decide) (by decide) rfl ?_
                refine x_aload_n C0 dX5_helper_92 rfl 0 rfl ?_
                refine x_get C0 inu5 rfl 0 (by decide) mw_643 (by decide) wfR_0 rfl dX5_helper_93 ?_
                refine x_iload_n C0 dX5_helper_96 rfl 1 rfl ?_
                refine x_iload_n C0 dX5_helper_97 rfl 2 rfl ?_
                refine x_pureS2 C0 (fun ad' => c_X5_of rfl) (x_cwS C0 mw_715 mw_716 mw_84 mw_717 hd_yX5_of ⟨rfl, rfl, Nat.le_of_ble_eq_true rfl, Nat.le_of_ble_eq_true rfl⟩) ⟨Nat.zero_le _, Nat.zero_le _⟩ (Nat.le_of_ble_eq_true rfl) dX5_helper_98 ?_
                refine x_iald C0 1 rfl (by decide) wfR_1 dX5_helper_101 h (fun _ h => ?_)
                obtain rfl := x_inj h
                exact x_iret C0 dX5_helper_102
              · refine x_ite h (fun hc h => ?_) (fun hc6 h => ?_)
                · refine x_top (congrArg Value.int hc) ?_
                  refine x_tableIn C0 (off := 91) (tgt := 103) dX5_helper_12 (by decide) (by decide) (by decide) rfl ?_
                  refine x_aload_n C0 dX5_helper_103 rfl 0 rfl ?_
                  refine x_iload_n C0 dX5_helper_104 rfl 1 rfl ?_
                  obtain ⟨q2, eq2, h⟩ := x_bind h
                  refine x_callV11 C0 (c_X5_reachOf n eq2) (x_cwV C0 mw_834 mw_836 mw_70 mw_84 mw_837 hd_yX5_reachOf ⟨rfl, rfl, Nat.le_of_ble_eq_true rfl, Nat.le_of_ble_eq_true rfl⟩) (by decide) rfl wfR_0 rfl ⟨Nat.zero_le _, Nat.zero_le _⟩ (Nat.le_of_ble_eq_true rfl) dX5_helper_105 ?_
                  obtain rfl := x_inj h
                  exact x_iret C0 dX5_helper_108
                · refine x_ite h (fun hc h => ?_) (fun hc7 h => ?_)
                  · refine x_top (congrArg Value.int hc) ?_
                    refine x_tableIn C0 (off := 97) (tgt := 109) dX5_helper_12 (by decide) (by decide) (by decide) rfl ?_
                    refine x_aload_n C0 dX5_helper_109 rfl 0 rfl ?_
                    refine x_get C0 inu5 rfl 0 (by decide) mw_643 (by decide) wfR_0 rfl dX5_helper_110 ?_
                    refine x_iload_n C0 dX5_helper_113 rfl 1 rfl ?_
                    refine x_iload_n C0 dX5_helper_114 rfl 2 rfl ?_
                    refine x_iconst C0 (v := 1) dX5_helper_115 ki_1 ?_
                    refine x_isub C0 dX5_helper_116 ?_
                    refine x_pureS2 C0 (fun ad' => c_X5_of rfl) (x_cwS C0 mw_715 mw_716 mw_84 mw_717 hd_yX5_of ⟨rfl, rfl, Nat.le_of_ble_eq_true rfl, Nat.le_of_ble_eq_true rfl⟩) ⟨Nat.zero_le _, Nat.zero_le _⟩ (Nat.le_of_ble_eq_true rfl) dX5_helper_117 ?_
                    refine x_pc (pc' := 120) rfl ?_
                    refine x_iald C0 1 rfl (by decide) wfR_1 dX5_helper_120 h (fun _ h => ?_)
                    obtain rfl := x_inj h
                    exact x_iret C0 dX5_helper_121
                  · refine x_ite h (fun hc h => ?_) (fun hc8 h => ?_)
                    · refine x_top (congrArg Value.int hc) ?_
                      refine x_tableIn C0 (off := 97) (tgt := 109) dX5_helper_12 (by decide) (by decide) (by decide) rfl ?_
                      refine x_aload_n C0 dX5_helper_109 rfl 0 rfl ?_
                      refine x_get C0 inu5 rfl 0 (by decide) mw_643 (by decide) wfR_0 rfl dX5_helper_110 ?_
                      refine x_iload_n C0 dX5_helper_113 rfl 1 rfl ?_
                      refine x_iload_n C0 dX5_helper_114 rfl 2 rfl ?_
                      refine x_iconst C0 (v := 1) dX5_helper_115 ki_1 ?_
                      refine x_isub C0 dX5_helper_116 ?_
                      refine x_pureS2 C0 (fun ad' => c_X5_of rfl) (x_cwS C0 mw_715 mw_716 mw_84 mw_717 hd_yX5_of ⟨rfl, rfl, Nat.le_of_ble_eq_true rfl, Nat.le_of_ble_eq_true rfl⟩) ⟨Nat.zero_le _, Nat.zero_le _⟩ (Nat.le_of_ble_eq_true rfl) dX5_helper_117 ?_
                      refine x_pc (pc' := 120) rfl ?_
                      refine x_iald C0 1 rfl (by decide) wfR_1 dX5_helper_120 h (fun _ h => ?_)
                      obtain rfl := x_inj h
                      exact x_iret C0 dX5_helper_121
                    · refine x_ite h (fun hc h => ?_) (fun hc9 h => ?_)
                      · refine x_top (congrArg Value.int hc) ?_
                        refine x_tableIn C0 (off := 97) (tgt := 109) dX5_helper_12 (by decide) (by decide) (by decide) rfl ?_
                        refine x_aload_n C0 dX5_helper_109 rfl 0 rfl ?_
                        refine x_get C0 inu5 rfl 0 (by decide) mw_643 (by decide) wfR_0 rfl dX5_helper_110 ?_
                        refine x_iload_n C0 dX5_helper_113 rfl 1 rfl ?_
                        refine x_iload_n C0 dX5_helper_114 rfl 2 rfl ?_
                        refine x_iconst C0 (v := 1) dX5_helper_115 ki_1 ?_
                        refine x_isub C0 dX5_helper_116 ?_
                        refine x_pureS2 C0 (fun ad' => c_X5_of rfl) (x_cwS C0 mw_715 mw_716 mw_84 mw_717 hd_yX5_of ⟨rfl, rfl, Nat.le_of_ble_eq_true rfl, Nat.le_of_ble_eq_true rfl⟩) ⟨Nat.zero_le _, Nat.zero_le _⟩ (Nat.le_of_ble_eq_true rfl) dX5_helper_117 ?_
                        refine x_pc (pc' := 120) rfl ?_
                        refine x_iald C0 1 rfl (by decide) wfR_1 dX5_helper_120 h (fun _ h => ?_)
                        obtain rfl := x_inj h
                        exact x_iret C0 dX5_helper_121
                      · refine x_ite h (fun hc h => ?_) (fun hc10 h => ?_)
                        · refine x_top (congrArg Value.int hc) ?_
                          refine x_tableIn C0 (off := 110) (tgt := 122) dX5_helper_12 (by decide) (by decide) (by decide) rfl ?_
                          refine x_aload_n C0 dX5_helper_122 rfl 0 rfl ?_
                          refine x_iload_n C0 dX5_helper_123 rfl 1 rfl ?_
                          obtain ⟨q3, eq3, h⟩ := x_bind h
                          refine x_callV11 C0 (c_X5_newOf n eq3) (x_cwV C0 mw_889 mw_891 mw_73 mw_84 mw_892 hd_yX5_newOf ⟨rfl, rfl, Nat.le_of_ble_eq_true rfl, Nat.le_of_ble_eq_true rfl⟩) (by decide) rfl wfR_0 rfl ⟨Nat.zero_le _, Nat.zero_le _⟩ (Nat.le_of_ble_eq_true rfl) dX5_helper_124 ?_
                          obtain rfl := x_inj h
                          exact x_iret C0 dX5_helper_127
                        · refine x_ite h (fun hc h => ?_) (fun hc11 h => ?_)
                          · refine x_top (congrArg Value.int hc) ?_
                            refine x_tableIn C0 (off := 116) (tgt := 128) dX5_helper_12 (by decide) (by decide) (by decide) rfl ?_
                            refine x_aload_n C0 dX5_helper_128 rfl 0 rfl ?_
                            refine x_get C0 inu5 rfl 0 (by decide) mw_643 (by decide) wfR_0 rfl dX5_helper_129 ?_
                            refine x_iload_n C0 dX5_helper_132 rfl 1 rfl ?_
                            refine x_iload_n C0 dX5_helper_133 rfl 2 rfl ?_
                            refine x_iconst C0 (v := 2) dX5_helper_134 ki_2 ?_
                            refine x_isub C0 dX5_helper_135 ?_
                            refine x_pureS2 C0 (fun ad' => c_X5_of rfl) (x_cwS C0 mw_715 mw_716 mw_84 mw_717 hd_yX5_of ⟨rfl, rfl, Nat.le_of_ble_eq_true rfl, Nat.le_of_ble_eq_true rfl⟩) ⟨Nat.zero_le _, Nat.zero_le _⟩ (Nat.le_of_ble_eq_true rfl) dX5_helper_136 ?_
                            refine x_pc (pc' := 139) rfl ?_
                            refine x_iald C0 1 rfl (by decide) wfR_1 dX5_helper_139 h (fun _ h => ?_)
                            obtain rfl := x_inj h
                            exact x_iret C0 dX5_helper_140
                          · refine x_ite h (fun hc h => ?_) (fun hc12 h => ?_)
                            · refine x_top (congrArg Value.int hc) ?_
                              refine x_tableIn C0 (off := 116) (tgt := 128) dX5_helper_12 (by decide) (by decide) (by decide) rfl ?_
                              refine x_aload_n C0 dX5_helper_128 rfl 0 rfl ?_
                              refine x_get C0 inu5 rfl 0 (by decide) mw_643 (by decide) wfR_0 rfl dX5_helper_129 ?_
                              refine x_iload_n C0 dX5_helper_132 rfl 1 rfl ?_
                              refine x_iload_n C0 dX5_helper_133 rfl 2 rfl ?_
                              refine x_iconst C0 (v := 2) dX5_helper_134 ki_2 ?_
                              refine x_isub C0 dX5_helper_135 ?_
                              refine x_pureS2 C0 (fun ad' => c_X5_of rfl) (x_cwS C0 mw_715 mw_716 mw_84 mw_717 hd_yX5_of ⟨rfl, rfl, Nat.le_of_ble_eq_true rfl, Nat.le_of_ble_eq_true rfl⟩) ⟨Nat.zero_le _, Nat.zero_le _⟩ (Nat.le_of_ble_eq_true rfl) dX5_helper_136 ?_
                              refine x_pc (pc' := 139) rfl ?_
                              refine x_iald C0 1 rfl (by decide) wfR_1 dX5_helper_139 h (fun _ h => ?_)
                              obtain rfl := x_inj h
                              exact x_iret C0 dX5_helper_140
                            · refine x_ite h (fun hc h => ?_) (fun hc13 h => ?_)
                              · refine x_top (congrArg Value.int hc) ?_
                                refine x_tableIn C0 (off := 116) (tgt := 128) dX5_helper_12 (by decide) (by decide) (by decide) rfl ?_
                                refine x_aload_n C0 dX5_helper_128 rfl 0 rfl ?_
                                refine x_get C0 inu5 rfl 0 (by decide) mw_643 (by decide) wfR_0 rfl dX5_helper_129 ?_
                                refine x_iload_n C0 dX5_helper_132 rfl 1 rfl ?_
                                refine x_iload_n C0 dX5_helper_133 rfl 2 rfl ?_
                                refine x_iconst C0 (v := 2) dX5_helper_134 ki_2 ?_
                                refine x_isub C0 dX5_helper_135 ?_
                                refine x_pureS2 C0 (fun ad' => c_X5_of rfl) (x_cwS C0 mw_715 mw_716 mw_84 mw_717 hd_yX5_of ⟨rfl, rfl, Nat.le_of_ble_eq_true rfl, Nat.le_of_ble_eq_true rfl⟩) ⟨Nat.zero_le _, Nat.zero_le _⟩ (Nat.le_of_ble_eq_true rfl) dX5_helper_136 ?_
                                refine x_pc (pc' := 139) rfl ?_
                                refine x_iald C0 1 rfl (by decide) wfR_1 dX5_helper_139 h (fun _ h => ?_)
                                obtain rfl := x_inj h
                                exact x_iret C0 dX5_helper_140
                              · refine x_ite h (fun hc h => ?_) (fun hc14 h => ?_)
                                · refine x_top (congrArg Value.int hc) ?_
                                  refine x_tableIn C0 (off := 129) (tgt := 141) dX5_helper_12 (by decide) (by decide) (by decide) rfl ?_
                                  refine x_aload_n C0 dX5_helper_141 rfl 0 rfl ?_
                                  refine x_get C0 inu5 rfl 0 (by decide) mw_643 (by decide) wfR_0 rfl dX5_helper_142 ?_
                                  refine x_iload_n C0 dX5_helper_145 rfl 1 rfl ?_
                                  refine x_bipush C0 (v := 13) dX5_helper_146 kb_13 ?_
                                  refine x_pureS2 C0 (fun ad' => c_X5_of rfl) (x_cwS C0 mw_715 mw_716 mw_84 mw_717 hd_yX5_of ⟨rfl, rfl, Nat.le_of_ble_eq_true rfl, Nat.le_of_ble_eq_true rfl⟩) ⟨Nat.zero_le _, Nat.zero_le _⟩ (Nat.le_of_ble_eq_true rfl) dX5_helper_148 ?_
                                  refine x_iald C0 1 rfl (by decide) wfR_1 dX5_helper_151 h (fun _ h => ?_)
                                  obtain rfl := x_inj h
                                  exact x_iret C0 dX5_helper_152
                                · refine x_ite h (fun hc h => ?_) (fun hc15 h => ?_)
                                  · refine x_top (congrArg Value.int hc) ?_
                                    refine x_tableIn C0 (off := 141) (tgt := 153) dX5_helper_12 (by decide) (by decide) (by decide) rfl ?_
                                    refine x_aload_n C0 dX5_helper_153 rfl 0 rfl ?_
                                    refine x_get C0 inu5 rfl 0 (by decide) mw_643 (by decide) wfR_0 rfl dX5_helper_154 ?_
                                    refine x_iload_n C0 dX5_helper_157 rfl 1 rfl ?_
                                    refine x_bipush C0 (v := 12) dX5_helper_158 kb_12 ?_
                                    refine x_pureS2 C0 (fun ad' => c_X5_of rfl) (x_cwS C0 mw_715 mw_716 mw_84 mw_717 hd_yX5_of ⟨rfl, rfl, Nat.le_of_ble_eq_true rfl, Nat.le_of_ble_eq_true rfl⟩) ⟨Nat.zero_le _, Nat.zero_le _⟩ (Nat.le_of_ble_eq_true rfl) dX5_helper_160 ?_
                                    refine x_iald C0 1 rfl (by decide) wfR_1 dX5_helper_163 h (fun _ h => ?_)
                                    obtain rfl := x_inj h
                                    exact x_iret C0 dX5_helper_164
                                  · refine x_tableOut C0 (tgt := 165) dX5_helper_12 (x_swo_15 hc0 hc1 hc2 hc3 hc4 hc5 hc6 hc7 hc8 hc9 hc10 hc11 hc12 hc13 hc14 hc15) rfl ?_
                                    refine x_ldc C0 mw_699 dX5_helper_165 ?_
                                    obtain rfl := x_inj h
                                    exact x_iret C0 dX5_helper_167
set_option maxRecDepth 4000 in
set_option maxHeartbeats 2000000 in
theorem b_X5_table_68 {p : Program} {l : Launch} {e : Env} {s : State} {m : MethodId} {args : Array Value} {below : List Frame} {meth : Method} {c : Code} {D : va_G} {cs : Nat → ClassId} {ad : Nat → Nat} {A : Nat → Prop} (C0 : x_C p s m args meth c D vwCl (xtys cs) A s.heap 4 ad (wfR cs ad) cX5_table 4 RX5 (some FieldType.int))  (n : Nat) {σ : xM} {res : Int32} : ∀ (l1 : Int32) (l2 : Int32) (l3 : Int32), B_X5_table_68 n σ l1 l2 l3 = some res → x_W p l e ({ frames := 2, cells := 0, slots := 0, locals := 43 } : Room) s m args below meth c D vwCl A s.heap 4 ad (wfR cs ad) 4 0 0 (x_E below args s D vwCl 4 ad (wfR cs ad) A (some (.int res)) σ) σ 68 [(0, .ref (ad 0)), (1, .int l1), (2, .int l2), (3, .int l3)] [] := by
  intro l1 l2 l3 h
  refine x_aload_n C0 dX5_table_68 rfl 0 rfl ?_
  refine x_get C0 inu5 rfl 0 (by decide) mw_643 (by decide) wfR_0 rfl dX5_table_69 ?_
  refine x_iload_n C0 dX5_table_72 rfl 1 rfl ?_
  refine x_iload_n C0 dX5_table_73 rfl 2 rfl ?_
  refine x_pureS2 C0 (fun ad' => c_X5_rowOf rfl) (x_cwS C0 mw_815 mw_816 mw_84 mw_817 hd_yX5_rowOf ⟨rfl, rfl, Nat.le_of_ble_eq_true rfl, Nat.le_of_ble_eq_true rfl⟩) ⟨Nat.zero_le _, Nat.zero_le _⟩ (Nat.le_of_ble_eq_true rfl) dX5_table_74 ?_
  refine x_iload_n C0 dX5_table_77 rfl 3 rfl ?_
  refine x_iadd C0 dX5_table_78 ?_
  refine x_pc (pc' := 79) rfl ?_
  refine x_iald C0 1 rfl (by decide) wfR_1 dX5_table_79 h (fun _ h => ?_)
  obtain rfl := x_inj h
  exact x_iret C0 dX5_table_80
set_option maxRecDepth 4000 in
set_option maxHeartbeats 2000000 in
theorem c_X5_table {l : Launch} {D : va_G} {cs : Nat → ClassId} {ad : Nat → Nat} (n : Nat) {σ : xM} {x1 : Int32} {x2 : Int32} {x3 : Int32}  {res : Int32} (h : F_X5_table n σ x1 x2 x3 = some res) : x_Met l yX5_table [Cond.code yX5_table cX5_table 4 (some FieldType.int)] ({ frames := 2, cells := 0, slots := 0, locals := 43 } : Room) D vwCl (xtys cs) 4 ad (wfR cs ad) [.ref (ad 0), .int x1, .int x2, .int x3] σ (some (.int res)) σ := by
  refine x_Met_of (L0 := [(0, .ref (ad 0)), (1, .int x1), (2, .int x2), (3, .int x3)]) (own := RX5) (by decide) rfl rfl wfR_loc (Nat.le_of_ble_eq_true rfl) rfl ?_
  intro p e s m args below meth c A C0
  refine x_aload_n C0 dX5_table_0 rfl 0 rfl ?_
  refine x_iload_n C0 dX5_table_1 rfl 1 rfl ?_
  obtain ⟨q1, eq1, h⟩ := x_bind h
  refine x_callV11 C0 (c_X5_isHelper n eq1) (x_cwV C0 mw_751 mw_753 mw_56 mw_84 mw_754 hd_yX5_isHelper ⟨rfl, rfl, Nat.le_of_ble_eq_true rfl, Nat.le_of_ble_eq_true rfl⟩) (by decide) rfl wfR_0 rfl ⟨Nat.zero_le _, Nat.zero_le _⟩ (Nat.le_of_ble_eq_true rfl) dX5_table_2 ?_
  refine x_if_ne C0 (tgt := 11) dX5_table_5 rfl h (fun _ h => ?_) (fun _ h => ?_)
  · refine x_ldc C0 mw_755 dX5_table_8 ?_
    obtain rfl := x_inj h
    exact x_iret C0 dX5_table_10
  · refine x_iload_n C0 dX5_table_11 rfl 2 rfl ?_
    refine x_if_lt C0 (tgt := 24) dX5_table_12 rfl h (fun _ h => ?_) (fun _ h => ?_)
    · refine x_ldc C0 mw_699 dX5_table_24 ?_
      obtain rfl := x_inj h
      exact x_iret C0 dX5_table_26
    · refine x_iload_n C0 dX5_table_15 rfl 3 rfl ?_
      refine x_iconst C0 (v := 0) dX5_table_16 ki_0 ?_
      refine x_iconst C0 (v := 3) dX5_table_17 ki_3 ?_
      refine x_pureS3 C0 (fun ad' => c_X5_in rfl) (x_cwS C0 mw_696 mw_697 mw_84 mw_698 hd_yX5_in ⟨rfl, rfl, Nat.le_of_ble_eq_true rfl, Nat.le_of_ble_eq_true rfl⟩) ⟨Nat.zero_le _, Nat.zero_le _⟩ (Nat.le_of_ble_eq_true rfl) dX5_table_18 ?_
      refine x_if_ne C0 (tgt := 27) dX5_table_21 rfl h (fun _ h => ?_) (fun _ h => ?_)
      · refine x_ldc C0 mw_699 dX5_table_24 ?_
        obtain rfl := x_inj h
        exact x_iret C0 dX5_table_26
      · refine x_iload_n C0 dX5_table_27 rfl 2 rfl ?_
        refine x_aload_n C0 dX5_table_28 rfl 0 rfl ?_
        refine x_get C0 inu5 rfl 0 (by decide) mw_643 (by decide) wfR_0 rfl dX5_table_29 ?_
        refine x_iload_n C0 dX5_table_32 rfl 1 rfl ?_
        refine x_bipush C0 (v := 13) dX5_table_33 kb_13 ?_
        refine x_pureS2 C0 (fun ad' => c_X5_of rfl) (x_cwS C0 mw_715 mw_716 mw_84 mw_717 hd_yX5_of ⟨rfl, rfl, Nat.le_of_ble_eq_true rfl, Nat.le_of_ble_eq_true rfl⟩) ⟨Nat.zero_le _, Nat.zero_le _⟩ (Nat.le_of_ble_eq_true rfl) dX5_table_35 ?_
        refine x_iald C0 1 rfl (by decide) wfR_1 dX5_table_38 h (fun _ h => ?_)
        refine x_pc (pc' := 39) rfl ?_
        refine x_icmp_lt C0 (tgt := 45) dX5_table_39 rfl h (fun _ h => ?_) (fun _ h => ?_)
        · refine x_iload_n C0 dX5_table_45 rfl 3 rfl ?_
          refine x_if_ne C0 (tgt := 68) dX5_table_46 rfl h (fun _ h => ?_) (fun _ h => ?_)
          · refine x_aload_n C0 dX5_table_49 rfl 0 rfl ?_
            refine x_get C0 inu5 rfl 0 (by decide) mw_643 (by decide) wfR_0 rfl dX5_table_50 ?_
            refine x_iload_n C0 dX5_table_53 rfl 1 rfl ?_
            refine x_iconst C0 (v := 0) dX5_table_54 ki_0 ?_
            refine x_pureS2 C0 (fun ad' => c_X5_of rfl) (x_cwS C0 mw_715 mw_716 mw_84 mw_717 hd_yX5_of ⟨rfl, rfl, Nat.le_of_ble_eq_true rfl, Nat.le_of_ble_eq_true rfl⟩) ⟨Nat.zero_le _, Nat.zero_le _⟩ (Nat.le_of_ble_eq_true rfl) dX5_table_55 ?_
            refine x_iald C0 1 rfl (by decide) wfR_1 dX5_table_58 h (fun _ h => ?_)
            refine x_iconst C0 (v := 1) dX5_table_59 ki_1 ?_
            refine x_pc (pc' := 60) rfl ?_
            refine x_icmp_ne C0 (tgt := 68) dX5_table_60 rfl h (fun _ h => ?_) (fun _ h => ?_)
            · refine x_ldc C0 mw_675 dX5_table_63 ?_
              refine x_goto C0 (tgt := 80) dX5_table_65 rfl ?_
              obtain rfl := x_inj h
              exact x_iret C0 dX5_table_80
            · refine x_sub [0, 1, 2, 3] (L' := [(0, _), (1, _), (2, _), (3, _)]) rfl ?_
              refine x_pc (pc' := 68) rfl ?_
              exact b_X5_table_68 C0 n _ _ _ h
          · refine x_sub [0, 1, 2, 3] (L' := [(0, _), (1, _), (2, _), (3, _)]) rfl ?_
            refine x_pc (pc' := 68) rfl ?_
            exact b_X5_table_68 C0 n _ _ _ h
        · refine x_ldc C0 mw_675 dX5_table_42 ?_
          obtain rfl := x_inj h
          exact x_iret C0 dX5_table_44
set_option maxRecDepth 4000 in
set_option maxHeartbeats 2000000 in
theorem b_X5_bestHelper_61 {p : Program} {l : Launch} {e : Env} {s : State} {m : MethodId} {args : Array Value} {below : List Frame} {meth : Method} {c : Code} {D : va_G} {cs : Nat → ClassId} {ad : Nat → Nat} {A : Nat → Prop} (C0 : x_C p s m args meth c D vwCl (xtys cs) A s.heap 4 ad (wfR cs ad) cX5_bestHelper 5 RX5 (some FieldType.int))  (n : Nat) {σ : xM} {res : Int32} {K7 : Int32 → Int32 → Int32 → Option Int32} (hK7 : ∀ (l1 : Int32) (l2 : Int32) (l3 : Int32) , K7 l1 l2 l3 = some res → x_W p l e ({ frames := 1, cells := 0, slots := 0, locals := 21 } : Room) s m args below meth c D vwCl A s.heap 4 ad (wfR cs ad) 5 0 0 (x_E below args s D vwCl 4 ad (wfR cs ad) A (some (.int res)) σ) σ 7 [(0, .ref (ad 0)), (1, .int l1), (2, .int l2), (3, .int l3)] []) : ∀ (l1 : Int32) (l2 : Int32) (l3 : Int32), B_X5_bestHelper_61 n σ K7 l1 l2 l3 = some res → x_W p l e ({ frames := 1, cells := 0, slots := 0, locals := 21 } : Room) s m args below meth c D vwCl A s.heap 4 ad (wfR cs ad) 5 0 0 (x_E below args s D vwCl 4 ad (wfR cs ad) A (some (.int res)) σ) σ 61 [(0, .ref (ad 0)), (1, .int l1), (2, .int l2), (3, .int l3)] [] := by
  intro l1 l2 l3 h
  refine x_iinc C0 (v := 1) (L' := [(3, _), (0, _), (1, _), (2, _)]) dX5_bestHelper_61 3 rfl ki_1 (by decide) rfl ?_
  refine x_goto C0 (tgt := 7) dX5_bestHelper_64 rfl ?_
  refine x_sub [1, 2, 3, 0] (L' := [(0, _), (1, _), (2, _), (3, _)]) rfl ?_
  refine x_pc (pc' := 7) rfl ?_
  exact hK7 _ _ _ h
set_option maxRecDepth 4000 in
set_option maxHeartbeats 2000000 in
theorem b_X5_bestHelper_56 {p : Program} {l : Launch} {e : Env} {s : State} {m : MethodId} {args : Array Value} {below : List Frame} {meth : Method} {c : Code} {D : va_G} {cs : Nat → ClassId} {ad : Nat → Nat} {A : Nat → Prop} (C0 : x_C p s m args meth c D vwCl (xtys cs) A s.heap 4 ad (wfR cs ad) cX5_bestHelper 5 RX5 (some FieldType.int))  (n : Nat) {σ : xM} {res : Int32} {K7 : Int32 → Int32 → Int32 → Option Int32} (hK7 : ∀ (l1 : Int32) (l2 : Int32) (l3 : Int32) , K7 l1 l2 l3 = some res → x_W p l e ({ frames := 1, cells := 0, slots := 0, locals := 21 } : Room) s m args below meth c D vwCl A s.heap 4 ad (wfR cs ad) 5 0 0 (x_E below args s D vwCl 4 ad (wfR cs ad) A (some (.int res)) σ) σ 7 [(0, .ref (ad 0)), (1, .int l1), (2, .int l2), (3, .int l3)] []) : ∀ (l3 : Int32) (l4 : Int32), B_X5_bestHelper_56 n σ K7 l3 l4 = some res → x_W p l e ({ frames := 1, cells := 0, slots := 0, locals := 21 } : Room) s m args below meth c D vwCl A s.heap 4 ad (wfR cs ad) 5 0 0 (x_E below args s D vwCl 4 ad (wfR cs ad) A (some (.int res)) σ) σ 56 [(0, .ref (ad 0)), (3, .int l3), (4, .int l4)] [] := by
  intro l3 l4 h
  refine x_iload_n C0 dX5_bestHelper_56 rfl 1 rfl ?_
  refine x_istore_n C0 dX5_bestHelper_57 rfl (L' := [(1, _), (0, _), (3, _), (4, _)]) (by decide) rfl ?_
  refine x_iload C0 dX5_bestHelper_58 3 rfl ?_
  refine x_istore_n C0 dX5_bestHelper_60 rfl (L' := [(2, _), (1, _), (0, _), (3, _), (4, _)]) (by decide) rfl ?_
  refine x_sub [2, 1, 0, 3] (L' := [(0, _), (1, _), (2, _), (3, _)]) rfl ?_
  refine x_pc (pc' := 61) rfl ?_
  exact b_X5_bestHelper_61 C0 n hK7 _ _ _ h
set_option maxRecDepth 4000 in
set_option maxHeartbeats 2000000 in
theorem b_X5_bestHelper_7 {p : Program} {l : Launch} {e : Env} {s : State} {m : MethodId} {args : Array Value} {below : List Frame} {meth : Method} {c : Code} {D : va_G} {cs : Nat → ClassId} {ad : Nat → Nat} {A : Nat → Prop} (C0 : x_C p s m args meth c D vwCl (xtys cs) A s.heap 4 ad (wfR cs ad) cX5_bestHelper 5 RX5 (some FieldType.int))  (n : Nat) {σ : xM} {res : Int32} : ∀ (f : Nat) (l1 : Int32) (l2 : Int32) (l3 : Int32), B_X5_bestHelper_7 n σ f l1 l2 l3 = some res → x_W p l e ({ frames := 1, cells := 0, slots := 0, locals := 21 } : Room) s m args below meth c D vwCl A s.heap 4 ad (wfR cs ad) 5 0 0 (x_E below args s D vwCl 4 ad (wfR cs ad) A (some (.int res)) σ) σ 7 [(0, .ref (ad 0)), (1, .int l1), (2, .int l2), (3, .int l3)] [] := by
  intro f
  induction f with
  | zero =>
    intro l1 l2 l3 h
    cases h
  | succ f ih =>
    intro l1 l2 l3 h
    refine x_iload_n C0 dX5_bestHelper_7 rfl 3 rfl ?_
    refine x_aload_n C0 dX5_bestHelper_8 rfl 0 rfl ?_
    refine x_get C0 inu5 rfl 0 (by decide) mw_643 (by decide) wfR_0 rfl dX5_bestHelper_9 ?_
    refine x_sipush C0 (v := 351) dX5_bestHelper_12 ks_351 ?_
    refine x_iald C0 1 rfl (by decide) wfR_1 dX5_bestHelper_15 h (fun _ h => ?_)
    refine x_icmp_ge C0 (tgt := 67) dX5_bestHelper_16 rfl h (fun _ h => ?_) (fun _ h => ?_)
    · refine x_aload_n C0 dX5_bestHelper_19 rfl 0 rfl ?_
      refine x_get C0 inu5 rfl 0 (by decide) mw_643 (by decide) wfR_0 rfl dX5_bestHelper_20 ?_
      refine x_iload_n C0 dX5_bestHelper_23 rfl 3 rfl ?_
      refine x_bipush C0 (v := 7) dX5_bestHelper_24 kb_7 ?_
      refine x_pureS2 C0 (fun ad' => c_X5_of rfl) (x_cwS C0 mw_715 mw_716 mw_84 mw_717 hd_yX5_of ⟨rfl, rfl, Nat.le_of_ble_eq_true rfl, Nat.le_of_ble_eq_true rfl⟩) ⟨Nat.zero_le _, Nat.zero_le _⟩ (Nat.le_of_ble_eq_true rfl) dX5_bestHelper_26 ?_
      refine x_iald C0 1 rfl (by decide) wfR_1 dX5_bestHelper_29 h (fun _ h => ?_)
      refine x_aload_n C0 dX5_bestHelper_30 rfl 0 rfl ?_
      refine x_pc (pc' := 31) rfl ?_
      refine x_get C0 inu5 rfl 0 (by decide) mw_643 (by decide) wfR_0 rfl dX5_bestHelper_31 ?_
      refine x_iload_n C0 dX5_bestHelper_34 rfl 3 rfl ?_
      refine x_bipush C0 (v := 8) dX5_bestHelper_35 kb_8 ?_
      refine x_pureS2 C0 (fun ad' => c_X5_of rfl) (x_cwS C0 mw_715 mw_716 mw_84 mw_717 hd_yX5_of ⟨rfl, rfl, Nat.le_of_ble_eq_true rfl, Nat.le_of_ble_eq_true rfl⟩) ⟨Nat.zero_le _, Nat.zero_le _⟩ (Nat.le_of_ble_eq_true rfl) dX5_bestHelper_37 ?_
      refine x_iald C0 1 rfl (by decide) wfR_1 dX5_bestHelper_40 h (fun _ h => ?_)
      refine x_isub C0 dX5_bestHelper_41 ?_
      refine x_istore C0 dX5_bestHelper_42 (L' := [(4, _), (0, _), (1, _), (2, _), (3, _)]) (by decide) rfl ?_
      refine x_iload_n C0 dX5_bestHelper_44 rfl 2 rfl ?_
      refine x_pc (pc' := 45) rfl ?_
      refine x_ldc C0 mw_675 dX5_bestHelper_45 ?_
      refine x_icmp_eq C0 (tgt := 56) dX5_bestHelper_47 rfl h (fun _ h => ?_) (fun _ h => ?_)
      · refine x_sub [1, 4, 0] (L' := [(0, _), (3, _), (4, _)]) rfl ?_
        refine x_pc (pc' := 56) rfl ?_
        exact b_X5_bestHelper_56 C0 n (fun l1 l2 l3 h => ih l1 l2 l3 h) _ _ h
      · refine x_iload C0 dX5_bestHelper_50 0 rfl ?_
        refine x_iload_n C0 dX5_bestHelper_52 rfl 3 rfl ?_
        refine x_icmp_le C0 (tgt := 61) dX5_bestHelper_53 rfl h (fun _ h => ?_) (fun _ h => ?_)
        · refine x_sub [1, 4, 0] (L' := [(0, _), (3, _), (4, _)]) rfl ?_
          refine x_pc (pc' := 56) rfl ?_
          exact b_X5_bestHelper_56 C0 n (fun l1 l2 l3 h => ih l1 l2 l3 h) _ _ h
        · refine x_sub [1, 2, 3, 4] (L' := [(0, _), (1, _), (2, _), (3, _)]) rfl ?_
          refine x_pc (pc' := 61) rfl ?_
          exact b_X5_bestHelper_61 C0 n (fun l1 l2 l3 h => ih l1 l2 l3 h) _ _ _ h
    · refine x_iload_n C0 dX5_bestHelper_67 rfl 1 rfl ?_
      obtain rfl := x_inj h
      exact x_iret C0 dX5_bestHelper_68
set_option maxRecDepth 4000 in
set_option maxHeartbeats 2000000 in
theorem c_X5_bestHelper {l : Launch} {D : va_G} {cs : Nat → ClassId} {ad : Nat → Nat} (n : Nat) {σ : xM}  {res : Int32} (h : F_X5_bestHelper n σ = some res) : x_Met l yX5_bestHelper [Cond.code yX5_bestHelper cX5_bestHelper 5 (some FieldType.int)] ({ frames := 1, cells := 0, slots := 0, locals := 21 } : Room) D vwCl (xtys cs) 4 ad (wfR cs ad) [.ref (ad 0)] σ (some (.int res)) σ := by
  refine x_Met_of (L0 := [(0, .ref (ad 0))]) (own := RX5) (by decide) rfl rfl wfR_loc (Nat.le_of_ble_eq_true rfl) rfl ?_
  intro p e s m args below meth c A C0
  refine x_ldc C0 mw_675 dX5_bestHelper_0 ?_
  refine x_istore_n C0 dX5_bestHelper_2 rfl (L' := [(1, _), (0, _)]) (by decide) rfl ?_
  refine x_iconst C0 (v := 0) dX5_bestHelper_3 ki_0 ?_
  refine x_istore_n C0 dX5_bestHelper_4 rfl (L' := [(2, _), (1, _), (0, _)]) (by decide) rfl ?_
  refine x_iconst C0 (v := 0) dX5_bestHelper_5 ki_0 ?_
  refine x_istore_n C0 dX5_bestHelper_6 rfl (L' := [(3, _), (2, _), (1, _), (0, _)]) (by decide) rfl ?_
  refine x_sub [3, 2, 1, 0] (L' := [(0, _), (1, _), (2, _), (3, _)]) rfl ?_
  refine x_pc (pc' := 7) rfl ?_
  exact b_X5_bestHelper_7 C0 n n _ _ _ h
set_option maxRecDepth 4000 in
set_option maxHeartbeats 2000000 in
theorem c_X5_loggedMany {l : Launch} {D : va_G} {cs : Nat → ClassId} {ad : Nat → Nat} (n : Nat) {σ : xM}  {res : Int32} (h : F_X5_loggedMany n σ = some res) : x_Met l yX5_loggedMany [Cond.code yX5_loggedMany cX5_loggedMany 1 (some FieldType.int)] ({ frames := 0, cells := 0, slots := 0, locals := 0 } : Room) D vwCl (xtys cs) 4 ad (wfR cs ad) [.ref (ad 0)] σ (some (.int res)) σ := by
  refine x_Met_of (L0 := [(0, .ref (ad 0))]) (own := RX5) (by decide) rfl rfl wfR_loc (Nat.le_of_ble_eq_true rfl) rfl ?_
  intro p e s m args below meth c A C0
  refine x_aload_n C0 dX5_loggedMany_0 rfl 0 rfl ?_
  refine x_get C0 inu5 rfl 0 (by decide) mw_643 (by decide) wfR_0 rfl dX5_loggedMany_1 ?_
  refine x_sipush C0 (v := 353) dX5_loggedMany_4 ks_353 ?_
  refine x_iald C0 1 rfl (by decide) wfR_1 dX5_loggedMany_7 h (fun _ h => ?_)
  refine x_bipush C0 (v := 12) dX5_loggedMany_8 kb_12 ?_
  refine x_icmp_ge C0 (tgt := 24) dX5_loggedMany_10 rfl h (fun _ h => ?_) (fun _ h => ?_)
  · refine x_aload_n C0 dX5_loggedMany_13 rfl 0 rfl ?_
    refine x_get C0 inu5 rfl 0 (by decide) mw_643 (by decide) wfR_0 rfl dX5_loggedMany_14 ?_
    refine x_sipush C0 (v := 353) dX5_loggedMany_17 ks_353 ?_
    refine x_iald C0 1 rfl (by decide) wfR_1 dX5_loggedMany_20 h (fun _ h => ?_)
    refine x_goto C0 (tgt := 26) dX5_loggedMany_21 rfl ?_
    obtain rfl := x_inj h
    exact x_iret C0 dX5_loggedMany_26
  · refine x_bipush C0 (v := 12) dX5_loggedMany_24 kb_12 ?_
    obtain rfl := x_inj h
    exact x_iret C0 dX5_loggedMany_26
set_option maxRecDepth 4000 in
set_option maxHeartbeats 2000000 in
theorem c_X5_logged {l : Launch} {D : va_G} {cs : Nat → ClassId} {ad : Nat → Nat} (n : Nat) {σ : xM} {x1 : Int32} {x2 : Int32}  {res : Int32} (h : F_X5_logged n σ x1 x2 = some res) : x_Met l yX5_logged [Cond.code yX5_logged cX5_logged 4 (some FieldType.int)] ({ frames := 1, cells := 0, slots := 0, locals := 22 } : Room) D vwCl (xtys cs) 4 ad (wfR cs ad) [.ref (ad 0), .int x1, .int x2] σ (some (.int res)) σ := by
  refine x_Met_of (L0 := [(0, .ref (ad 0)), (1, .int x1), (2, .int x2)]) (own := RX5) (by decide) rfl rfl wfR_loc (Nat.le_of_ble_eq_true rfl) rfl ?_
  intro p e s m args below meth c A C0
  refine x_iload_n C0 dX5_logged_0 rfl 1 rfl ?_
  refine x_if_lt C0 (tgt := 13) dX5_logged_1 rfl h (fun _ h => ?_) (fun _ h => ?_)
  · refine x_ldc C0 mw_699 dX5_logged_13 ?_
    obtain rfl := x_inj h
    exact x_iret C0 dX5_logged_15
  · refine x_iload_n C0 dX5_logged_4 rfl 2 rfl ?_
    refine x_iconst C0 (v := 0) dX5_logged_5 ki_0 ?_
    refine x_iconst C0 (v := 4) dX5_logged_6 ki_4 ?_
    refine x_pureS3 C0 (fun ad' => c_X5_in rfl) (x_cwS C0 mw_696 mw_697 mw_84 mw_698 hd_yX5_in ⟨rfl, rfl, Nat.le_of_ble_eq_true rfl, Nat.le_of_ble_eq_true rfl⟩) ⟨Nat.zero_le _, Nat.zero_le _⟩ (Nat.le_of_ble_eq_true rfl) dX5_logged_7 ?_
    refine x_if_ne C0 (tgt := 16) dX5_logged_10 rfl h (fun _ h => ?_) (fun _ h => ?_)
    · refine x_ldc C0 mw_699 dX5_logged_13 ?_
      obtain rfl := x_inj h
      exact x_iret C0 dX5_logged_15
    · refine x_iload_n C0 dX5_logged_16 rfl 1 rfl ?_
      refine x_aload_n C0 dX5_logged_17 rfl 0 rfl ?_
      obtain ⟨q1, eq1, h⟩ := x_bind h
      refine x_callV01 C0 (c_X5_loggedMany n eq1) (x_cwV C0 mw_905 mw_907 mw_74 mw_84 mw_908 hd_yX5_loggedMany ⟨rfl, rfl, Nat.le_of_ble_eq_true rfl, Nat.le_of_ble_eq_true rfl⟩) (by decide) rfl wfR_0 rfl ⟨Nat.zero_le _, Nat.zero_le _⟩ (Nat.le_of_ble_eq_true rfl) dX5_logged_18 ?_
      refine x_icmp_lt C0 (tgt := 27) dX5_logged_21 rfl h (fun _ h => ?_) (fun _ h => ?_)
      · refine x_aload_n C0 dX5_logged_27 rfl 0 rfl ?_
        refine x_get C0 inu5 rfl 0 (by decide) mw_643 (by decide) wfR_0 rfl dX5_logged_28 ?_
        refine x_sipush C0 (v := 353) dX5_logged_31 ks_353 ?_
        refine x_iald C0 1 rfl (by decide) wfR_1 dX5_logged_34 h (fun _ h => ?_)
        refine x_iconst C0 (v := 1) dX5_logged_35 ki_1 ?_
        refine x_isub C0 dX5_logged_36 ?_
        refine x_iload_n C0 dX5_logged_37 rfl 1 rfl ?_
        refine x_pc (pc' := 38) rfl ?_
        refine x_isub C0 dX5_logged_38 ?_
        refine x_istore_n C0 dX5_logged_39 rfl (L' := [(3, _), (0, _), (1, _), (2, _)]) (by decide) rfl ?_
        refine x_iload_n C0 dX5_logged_40 rfl 3 rfl ?_
        refine x_iconst C0 (v := 4) dX5_logged_41 ki_4 ?_
        refine x_icmp_ne C0 (tgt := 49) dX5_logged_42 rfl h (fun _ h => ?_) (fun _ h => ?_)
        · refine x_iload_n C0 dX5_logged_45 rfl 0 rfl ?_
          refine x_goto C0 (tgt := 66) dX5_logged_46 rfl ?_
          obtain rfl := x_inj h
          exact x_iret C0 dX5_logged_66
        · refine x_aload_n C0 dX5_logged_49 rfl 1 rfl ?_
          refine x_get C0 inu5 rfl 0 (by decide) mw_643 (by decide) wfR_0 rfl dX5_logged_50 ?_
          refine x_sipush C0 (v := 300) dX5_logged_53 ks_300 ?_
          refine x_iconst C0 (v := 4) dX5_logged_56 ki_4 ?_
          refine x_iload_n C0 dX5_logged_57 rfl 0 rfl ?_
          refine x_bipush C0 (v := 12) dX5_logged_58 kb_12 ?_
          refine x_irem C0 dX5_logged_60 h (fun _ h => ?_)
          refine x_pc (pc' := 61) rfl ?_
          refine x_imul C0 dX5_logged_61 ?_
          refine x_iadd C0 dX5_logged_62 ?_
          refine x_iload_n C0 dX5_logged_63 rfl 3 rfl ?_
          refine x_iadd C0 dX5_logged_64 ?_
          refine x_iald C0 1 rfl (by decide) wfR_1 dX5_logged_65 h (fun _ h => ?_)
          obtain rfl := x_inj h
          exact x_iret C0 dX5_logged_66
      · refine x_ldc C0 mw_675 dX5_logged_24 ?_
        obtain rfl := x_inj h
        exact x_iret C0 dX5_logged_26
set_option maxRecDepth 4000 in
set_option maxHeartbeats 2000000 in
theorem b_X5_programsLogged_43 {p : Program} {l : Launch} {e : Env} {s : State} {m : MethodId} {args : Array Value} {below : List Frame} {meth : Method} {c : Code} {D : va_G} {cs : Nat → ClassId} {ad : Nat → Nat} {A : Nat → Prop} (C0 : x_C p s m args meth c D vwCl (xtys cs) A s.heap 4 ad (wfR cs ad) cX5_programsLogged 5 RX5 (some FieldType.int))  (n : Nat) {σ : xM} {res : Int32} {K6 : Int32 → Int32 → Int32 → Option Int32} (hK6 : ∀ (l1 : Int32) (l2 : Int32) (l3 : Int32) , K6 l1 l2 l3 = some res → x_W p l e ({ frames := 1, cells := 0, slots := 0, locals := 20 } : Room) s m args below meth c D vwCl A s.heap 4 ad (wfR cs ad) 5 0 0 (x_E below args s D vwCl 4 ad (wfR cs ad) A (some (.int res)) σ) σ 6 [(0, .ref (ad 0)), (1, .int l1), (2, .int l2), (3, .int l3)] []) : ∀ (l1 : Int32) (l3 : Int32) (l4 : Int32) (s0 : Int32) (s1 : Int32), B_X5_programsLogged_43 n σ K6 l1 l3 l4 s0 s1 = some res → x_W p l e ({ frames := 1, cells := 0, slots := 0, locals := 20 } : Room) s m args below meth c D vwCl A s.heap 4 ad (wfR cs ad) 5 0 0 (x_E below args s D vwCl 4 ad (wfR cs ad) A (some (.int res)) σ) σ 43 [(0, .ref (ad 0)), (1, .int l1), (3, .int l3), (4, .int l4)] [.int s1, .int s0] := by
  intro l1 l3 l4 s0 s1 h
  refine x_iadd C0 dX5_programsLogged_43 ?_
  refine x_istore_n C0 dX5_programsLogged_44 rfl (L' := [(2, _), (0, _), (1, _), (3, _), (4, _)]) (by decide) rfl ?_
  refine x_iload_n C0 dX5_programsLogged_45 rfl 2 rfl ?_
  refine x_iconst C0 (v := 1) dX5_programsLogged_46 ki_1 ?_
  refine x_iload C0 dX5_programsLogged_47 4 rfl ?_
  refine x_ishl C0 dX5_programsLogged_49 ?_
  refine x_ior C0 dX5_programsLogged_50 ?_
  refine x_pc (pc' := 51) rfl ?_
  refine x_istore_n C0 dX5_programsLogged_51 rfl (L' := [(1, _), (2, _), (0, _), (3, _), (4, _)]) (by decide) rfl ?_
  refine x_iinc C0 (v := 1) (L' := [(3, _), (1, _), (2, _), (0, _), (4, _)]) dX5_programsLogged_52 3 rfl ki_1 (by decide) rfl ?_
  refine x_goto C0 (tgt := 6) dX5_programsLogged_55 rfl ?_
  refine x_sub [3, 1, 2, 0] (L' := [(0, _), (1, _), (2, _), (3, _)]) rfl ?_
  refine x_pc (pc' := 6) rfl ?_
  exact hK6 _ _ _ h
set_option maxRecDepth 4000 in
set_option maxHeartbeats 2000000 in
theorem b_X5_programsLogged_6 {p : Program} {l : Launch} {e : Env} {s : State} {m : MethodId} {args : Array Value} {below : List Frame} {meth : Method} {c : Code} {D : va_G} {cs : Nat → ClassId} {ad : Nat → Nat} {A : Nat → Prop} (C0 : x_C p s m args meth c D vwCl (xtys cs) A s.heap 4 ad (wfR cs ad) cX5_programsLogged 5 RX5 (some FieldType.int))  (n : Nat) {σ : xM} {res : Int32} : ∀ (f : Nat) (l1 : Int32) (l2 : Int32) (l3 : Int32), B_X5_programsLogged_6 n σ f l1 l2 l3 = some res → x_W p l e ({ frames := 1, cells := 0, slots := 0, locals := 20 } : Room) s m args below meth c D vwCl A s.heap 4 ad (wfR cs ad) 5 0 0 (x_E below args s D vwCl 4 ad (wfR cs ad) A (some (.int res)) σ) σ 6 [(0, .ref (ad 0)), (1, .int l1), (2, .int l2), (3, .int l3)] [] := by
  intro f
  induction f with
  | zero =>
    intro l1 l2 l3 h
    cases h
  | succ f ih =>
    intro l1 l2 l3 h
    refine x_iload_n C0 dX5_programsLogged_6 rfl 3 rfl ?_
    refine x_aload_n C0 dX5_programsLogged_7 rfl 0 rfl ?_
    obtain ⟨q1, eq1, h⟩ := x_bind h
    refine x_callV01 C0 (c_X5_loggedMany n eq1) (x_cwV C0 mw_905 mw_907 mw_74 mw_84 mw_908 hd_yX5_loggedMany ⟨rfl, rfl, Nat.le_of_ble_eq_true rfl, Nat.le_of_ble_eq_true rfl⟩) (by decide) rfl wfR_0 rfl ⟨Nat.zero_le _, Nat.zero_le _⟩ (Nat.le_of_ble_eq_true rfl) dX5_programsLogged_8 ?_
    refine x_icmp_ge C0 (tgt := 58) dX5_programsLogged_11 rfl h (fun _ h => ?_) (fun _ h => ?_)
    · refine x_aload_n C0 dX5_programsLogged_14 rfl 0 rfl ?_
      refine x_get C0 inu5 rfl 0 (by decide) mw_643 (by decide) wfR_0 rfl dX5_programsLogged_15 ?_
      refine x_sipush C0 (v := 300) dX5_programsLogged_18 ks_300 ?_
      refine x_iconst C0 (v := 4) dX5_programsLogged_21 ki_4 ?_
      refine x_iload_n C0 dX5_programsLogged_22 rfl 3 rfl ?_
      refine x_imul C0 dX5_programsLogged_23 ?_
      refine x_iadd C0 dX5_programsLogged_24 ?_
      refine x_pc (pc' := 25) rfl ?_
      refine x_iald C0 1 rfl (by decide) wfR_1 dX5_programsLogged_25 h (fun _ h => ?_)
      refine x_istore C0 dX5_programsLogged_26 (L' := [(4, _), (0, _), (1, _), (2, _), (3, _)]) (by decide) rfl ?_
      refine x_iload_n C0 dX5_programsLogged_28 rfl 3 rfl ?_
      refine x_iload_n C0 dX5_programsLogged_29 rfl 2 rfl ?_
      refine x_iload C0 dX5_programsLogged_30 0 rfl ?_
      refine x_ishr C0 dX5_programsLogged_32 ?_
      refine x_iconst C0 (v := 1) dX5_programsLogged_33 ki_1 ?_
      refine x_iand C0 dX5_programsLogged_34 ?_
      refine x_pc (pc' := 35) rfl ?_
      refine x_if_ne C0 (tgt := 42) dX5_programsLogged_35 rfl h (fun _ h => ?_) (fun _ h => ?_)
      · refine x_iconst C0 (v := 1) dX5_programsLogged_38 ki_1 ?_
        refine x_goto C0 (tgt := 43) dX5_programsLogged_39 rfl ?_
        refine x_sub [1, 2, 4, 0] (L' := [(0, _), (1, _), (3, _), (4, _)]) rfl ?_
        refine x_pc (pc' := 43) rfl ?_
        exact b_X5_programsLogged_43 C0 n (fun l1 l2 l3 h => ih l1 l2 l3 h) _ _ _ _ _ h
      · refine x_iconst C0 (v := 0) dX5_programsLogged_42 ki_0 ?_
        refine x_sub [1, 2, 4, 0] (L' := [(0, _), (1, _), (3, _), (4, _)]) rfl ?_
        refine x_pc (pc' := 43) rfl ?_
        exact b_X5_programsLogged_43 C0 n (fun l1 l2 l3 h => ih l1 l2 l3 h) _ _ _ _ _ h
    · refine x_iload_n C0 dX5_programsLogged_58 rfl 2 rfl ?_
      obtain rfl := x_inj h
      exact x_iret C0 dX5_programsLogged_59
set_option maxRecDepth 4000 in
set_option maxHeartbeats 2000000 in
theorem c_X5_programsLogged {l : Launch} {D : va_G} {cs : Nat → ClassId} {ad : Nat → Nat} (n : Nat) {σ : xM}  {res : Int32} (h : F_X5_programsLogged n σ = some res) : x_Met l yX5_programsLogged [Cond.code yX5_programsLogged cX5_programsLogged 5 (some FieldType.int)] ({ frames := 1, cells := 0, slots := 0, locals := 20 } : Room) D vwCl (xtys cs) 4 ad (wfR cs ad) [.ref (ad 0)] σ (some (.int res)) σ := by
  refine x_Met_of (L0 := [(0, .ref (ad 0))]) (own := RX5) (by decide) rfl rfl wfR_loc (Nat.le_of_ble_eq_true rfl) rfl ?_
  intro p e s m args below meth c A C0
  refine x_iconst C0 (v := 0) dX5_programsLogged_0 ki_0 ?_
  refine x_istore_n C0 dX5_programsLogged_1 rfl (L' := [(1, _), (0, _)]) (by decide) rfl ?_
  refine x_iconst C0 (v := 0) dX5_programsLogged_2 ki_0 ?_
  refine x_istore_n C0 dX5_programsLogged_3 rfl (L' := [(2, _), (1, _), (0, _)]) (by decide) rfl ?_
  refine x_iconst C0 (v := 0) dX5_programsLogged_4 ki_0 ?_
  refine x_istore_n C0 dX5_programsLogged_5 rfl (L' := [(3, _), (2, _), (1, _), (0, _)]) (by decide) rfl ?_
  refine x_sub [3, 2, 1, 0] (L' := [(0, _), (1, _), (2, _), (3, _)]) rfl ?_
  refine x_pc (pc' := 6) rfl ?_
  exact b_X5_programsLogged_6 C0 n n _ _ _ h
set_option maxRecDepth 4000 in
set_option maxHeartbeats 2000000 in
theorem b_X5_hoursOfAll_4 {p : Program} {l : Launch} {e : Env} {s : State} {m : MethodId} {args : Array Value} {below : List Frame} {meth : Method} {c : Code} {D : va_G} {cs : Nat → ClassId} {ad : Nat → Nat} {A : Nat → Prop} (C0 : x_C p s m args meth c D vwCl (xtys cs) A s.heap 4 ad (wfR cs ad) cX5_hoursOfAll 3 RX5 (some FieldType.int))  (n : Nat) {σ : xM} {res : Int32} : ∀ (f : Nat) (l1 : Int32) (l2 : Int32), B_X5_hoursOfAll_4 n σ f l1 l2 = some res → x_W p l e ({ frames := 1, cells := 0, slots := 0, locals := 21 } : Room) s m args below meth c D vwCl A s.heap 4 ad (wfR cs ad) 3 0 0 (x_E below args s D vwCl 4 ad (wfR cs ad) A (some (.int res)) σ) σ 4 [(0, .ref (ad 0)), (1, .int l1), (2, .int l2)] [] := by
  intro f
  induction f with
  | zero =>
    intro l1 l2 h
    cases h
  | succ f ih =>
    intro l1 l2 h
    refine x_iload_n C0 dX5_hoursOfAll_4 rfl 2 rfl ?_
    refine x_aload_n C0 dX5_hoursOfAll_5 rfl 0 rfl ?_
    refine x_get C0 inu5 rfl 0 (by decide) mw_643 (by decide) wfR_0 rfl dX5_hoursOfAll_6 ?_
    refine x_sipush C0 (v := 351) dX5_hoursOfAll_9 ks_351 ?_
    refine x_iald C0 1 rfl (by decide) wfR_1 dX5_hoursOfAll_12 h (fun _ h => ?_)
    refine x_icmp_ge C0 (tgt := 35) dX5_hoursOfAll_13 rfl h (fun _ h => ?_) (fun _ h => ?_)
    · refine x_iload_n C0 dX5_hoursOfAll_16 rfl 1 rfl ?_
      refine x_aload_n C0 dX5_hoursOfAll_17 rfl 0 rfl ?_
      refine x_get C0 inu5 rfl 0 (by decide) mw_643 (by decide) wfR_0 rfl dX5_hoursOfAll_18 ?_
      refine x_iload_n C0 dX5_hoursOfAll_21 rfl 2 rfl ?_
      refine x_iconst C0 (v := 4) dX5_hoursOfAll_22 ki_4 ?_
      refine x_pureS2 C0 (fun ad' => c_X5_of rfl) (x_cwS C0 mw_715 mw_716 mw_84 mw_717 hd_yX5_of ⟨rfl, rfl, Nat.le_of_ble_eq_true rfl, Nat.le_of_ble_eq_true rfl⟩) ⟨Nat.zero_le _, Nat.zero_le _⟩ (Nat.le_of_ble_eq_true rfl) dX5_hoursOfAll_23 ?_
      refine x_iald C0 1 rfl (by decide) wfR_1 dX5_hoursOfAll_26 h (fun _ h => ?_)
      refine x_pc (pc' := 27) rfl ?_
      refine x_iadd C0 dX5_hoursOfAll_27 ?_
      refine x_istore_n C0 dX5_hoursOfAll_28 rfl (L' := [(1, _), (0, _), (2, _)]) (by decide) rfl ?_
      refine x_iinc C0 (v := 1) (L' := [(2, _), (1, _), (0, _)]) dX5_hoursOfAll_29 2 rfl ki_1 (by decide) rfl ?_
      refine x_goto C0 (tgt := 4) dX5_hoursOfAll_32 rfl ?_
      refine x_sub [2, 1, 0] (L' := [(0, _), (1, _), (2, _)]) rfl ?_
      refine x_pc (pc' := 4) rfl ?_
      exact ih _ _ h
    · refine x_iload_n C0 dX5_hoursOfAll_35 rfl 1 rfl ?_
      obtain rfl := x_inj h
      exact x_iret C0 dX5_hoursOfAll_36
set_option maxRecDepth 4000 in
set_option maxHeartbeats 2000000 in
theorem c_X5_hoursOfAll {l : Launch} {D : va_G} {cs : Nat → ClassId} {ad : Nat → Nat} (n : Nat) {σ : xM}  {res : Int32} (h : F_X5_hoursOfAll n σ = some res) : x_Met l yX5_hoursOfAll [Cond.code yX5_hoursOfAll cX5_hoursOfAll 3 (some FieldType.int)] ({ frames := 1, cells := 0, slots := 0, locals := 21 } : Room) D vwCl (xtys cs) 4 ad (wfR cs ad) [.ref (ad 0)] σ (some (.int res)) σ := by
  refine x_Met_of (L0 := [(0, .ref (ad 0))]) (own := RX5) (by decide) rfl rfl wfR_loc (Nat.le_of_ble_eq_true rfl) rfl ?_
  intro p e s m args below meth c A C0
  refine x_iconst C0 (v := 0) dX5_hoursOfAll_0 ki_0 ?_
  refine x_istore_n C0 dX5_hoursOfAll_1 rfl (L' := [(1, _), (0, _)]) (by decide) rfl ?_
  refine x_iconst C0 (v := 0) dX5_hoursOfAll_2 ki_0 ?_
  refine x_istore_n C0 dX5_hoursOfAll_3 rfl (L' := [(2, _), (1, _), (0, _)]) (by decide) rfl ?_
  refine x_sub [2, 1, 0] (L' := [(0, _), (1, _), (2, _)]) rfl ?_
  refine x_pc (pc' := 4) rfl ?_
  exact b_X5_hoursOfAll_4 C0 n n _ _ h
set_option maxRecDepth 4000 in
set_option maxHeartbeats 2000000 in
theorem c_X5_count {l : Launch} {D : va_G} {cs : Nat → ClassId} {ad : Nat → Nat} (n : Nat) {σ : xM} {x1 : Int32}  {res : Int32} (h : F_X5_count n σ x1 = some res) : x_Met l yX5_count [Cond.code yX5_count cX5_count 2 (some FieldType.int)] ({ frames := 2, cells := 0, slots := 0, locals := 46 } : Room) D vwCl (xtys cs) 4 ad (wfR cs ad) [.ref (ad 0), .int x1] σ (some (.int res)) σ := by
  refine x_Met_of (L0 := [(0, .ref (ad 0)), (1, .int x1)]) (own := RX5) (by decide) rfl rfl wfR_loc (Nat.le_of_ble_eq_true rfl) rfl ?_
  intro p e s m args below meth c A C0
  refine x_iload_n C0 dX5_count_0 rfl 1 rfl ?_
  refine x_ite h (fun hc h => ?_) (fun hc0 h => ?_)
  · refine x_top (congrArg Value.int hc) ?_
    refine x_tableIn C0 (off := 83) (tgt := 84) dX5_count_1 (by decide) (by decide) (by decide) rfl ?_
    refine x_aload_n C0 dX5_count_84 rfl 0 rfl ?_
    refine x_get C0 inu5 rfl 0 (by decide) mw_643 (by decide) wfR_0 rfl dX5_count_85 ?_
    refine x_sipush C0 (v := 353) dX5_count_88 ks_353 ?_
    refine x_iald C0 1 rfl (by decide) wfR_1 dX5_count_91 h (fun _ h => ?_)
    obtain rfl := x_inj h
    exact x_iret C0 dX5_count_92
  · refine x_ite h (fun hc h => ?_) (fun hc1 h => ?_)
    · refine x_top (congrArg Value.int hc) ?_
      refine x_tableIn C0 (off := 92) (tgt := 93) dX5_count_1 (by decide) (by decide) (by decide) rfl ?_
      refine x_aload_n C0 dX5_count_93 rfl 0 rfl ?_
      refine x_get C0 inu5 rfl 0 (by decide) mw_643 (by decide) wfR_0 rfl dX5_count_94 ?_
      refine x_sipush C0 (v := 354) dX5_count_97 ks_354 ?_
      refine x_iald C0 1 rfl (by decide) wfR_1 dX5_count_100 h (fun _ h => ?_)
      obtain rfl := x_inj h
      exact x_iret C0 dX5_count_101
    · refine x_ite h (fun hc h => ?_) (fun hc2 h => ?_)
      · refine x_top (congrArg Value.int hc) ?_
        refine x_tableIn C0 (off := 101) (tgt := 102) dX5_count_1 (by decide) (by decide) (by decide) rfl ?_
        refine x_aload_n C0 dX5_count_102 rfl 0 rfl ?_
        refine x_get C0 inu5 rfl 0 (by decide) mw_643 (by decide) wfR_0 rfl dX5_count_103 ?_
        refine x_sipush C0 (v := 355) dX5_count_106 ks_355 ?_
        refine x_iald C0 1 rfl (by decide) wfR_1 dX5_count_109 h (fun _ h => ?_)
        obtain rfl := x_inj h
        exact x_iret C0 dX5_count_110
      · refine x_ite h (fun hc h => ?_) (fun hc3 h => ?_)
        · refine x_top (congrArg Value.int hc) ?_
          refine x_tableIn C0 (off := 110) (tgt := 111) dX5_count_1 (by decide) (by decide) (by decide) rfl ?_
          refine x_aload_n C0 dX5_count_111 rfl 0 rfl ?_
          refine x_get C0 inu5 rfl 0 (by decide) mw_643 (by decide) wfR_0 rfl dX5_count_112 ?_
          refine x_sipush C0 (v := 353) dX5_count_115 ks_353 ?_
          refine x_iald C0 1 rfl (by decide) wfR_1 dX5_count_118 h (fun _ h => ?_)
          refine x_aload_n C0 dX5_count_119 rfl 0 rfl ?_
          refine x_get C0 inu5 rfl 0 (by decide) mw_643 (by decide) wfR_0 rfl dX5_count_120 ?_
          refine x_sipush C0 (v := 354) dX5_count_123 ks_354 ?_
          refine x_pc (pc' := 126) rfl ?_
          refine x_iald C0 1 rfl (by decide) wfR_1 dX5_count_126 h (fun _ h => ?_)
          refine x_isub C0 dX5_count_127 ?_
          obtain rfl := x_inj h
          exact x_iret C0 dX5_count_128
        · refine x_ite h (fun hc h => ?_) (fun hc4 h => ?_)
          · refine x_top (congrArg Value.int hc) ?_
            refine x_tableIn C0 (off := 128) (tgt := 129) dX5_count_1 (by decide) (by decide) (by decide) rfl ?_
            refine x_aload_n C0 dX5_count_129 rfl 0 rfl ?_
            refine x_get C0 inu5 rfl 0 (by decide) mw_643 (by decide) wfR_0 rfl dX5_count_130 ?_
            refine x_sipush C0 (v := 356) dX5_count_133 ks_356 ?_
            refine x_iald C0 1 rfl (by decide) wfR_1 dX5_count_136 h (fun _ h => ?_)
            obtain rfl := x_inj h
            exact x_iret C0 dX5_count_137
          · refine x_ite h (fun hc h => ?_) (fun hc5 h => ?_)
            · refine x_top (congrArg Value.int hc) ?_
              refine x_tableIn C0 (off := 137) (tgt := 138) dX5_count_1 (by decide) (by decide) (by decide) rfl ?_
              refine x_aload_n C0 dX5_count_138 rfl 0 rfl ?_
              refine x_get C0 inu5 rfl 0 (by decide) mw_643 (by decide) wfR_0 rfl dX5_count_139 ?_
              refine x_sipush C0 (v := 357) dX5_count_142 ks_357 ?_
              refine x_iald C0 1 rfl (by decide) wfR_1 dX5_count_145 h (fun _ h => ?_)
              obtain rfl := x_inj h
              exact x_iret C0 dX5_count_146
            · refine x_ite h (fun hc h => ?_) (fun hc6 h => ?_)
              · refine x_top (congrArg Value.int hc) ?_
                refine x_tableIn C0 (off := 146) (tgt := 147) dX5_count_1 (by decide) (by decide) (by decide) rfl ?_
                refine x_aload_n C0 dX5_count_147 rfl 0 rfl ?_
                refine x_get C0 inu5 rfl 0 (by decide) mw_643 (by decide) wfR_0 rfl dX5_count_148 ?_
                refine x_sipush C0 (v := 349) dX5_count_151 ks_349 ?_
                refine x_iald C0 1 rfl (by decide) wfR_1 dX5_count_154 h (fun _ h => ?_)
                obtain rfl := x_inj h
                exact x_iret C0 dX5_count_155
              · refine x_ite h (fun hc h => ?_) (fun hc7 h => ?_)
                · refine x_top (congrArg Value.int hc) ?_
                  refine x_tableIn C0 (off := 155) (tgt := 156) dX5_count_1 (by decide) (by decide) (by decide) rfl ?_
                  refine x_aload_n C0 dX5_count_156 rfl 0 rfl ?_
                  refine x_get C0 inu5 rfl 0 (by decide) mw_643 (by decide) wfR_0 rfl dX5_count_157 ?_
                  refine x_sipush C0 (v := 350) dX5_count_160 ks_350 ?_
                  refine x_iald C0 1 rfl (by decide) wfR_1 dX5_count_163 h (fun _ h => ?_)
                  obtain rfl := x_inj h
                  exact x_iret C0 dX5_count_164
                · refine x_ite h (fun hc h => ?_) (fun hc8 h => ?_)
                  · refine x_top (congrArg Value.int hc) ?_
                    refine x_tableIn C0 (off := 164) (tgt := 165) dX5_count_1 (by decide) (by decide) (by decide) rfl ?_
                    refine x_aload_n C0 dX5_count_165 rfl 0 rfl ?_
                    obtain ⟨q1, eq1, h⟩ := x_bind h
                    refine x_callV01 C0 (c_X5_linesIn n eq1) (x_cwV C0 mw_704 mw_706 mw_49 mw_84 mw_707 hd_yX5_linesIn ⟨rfl, rfl, Nat.le_of_ble_eq_true rfl, Nat.le_of_ble_eq_true rfl⟩) (by decide) rfl wfR_0 rfl ⟨Nat.zero_le _, Nat.zero_le _⟩ (Nat.le_of_ble_eq_true rfl) dX5_count_166 ?_
                    obtain rfl := x_inj h
                    exact x_iret C0 dX5_count_169
                  · refine x_ite h (fun hc h => ?_) (fun hc9 h => ?_)
                    · refine x_top (congrArg Value.int hc) ?_
                      refine x_tableIn C0 (off := 169) (tgt := 170) dX5_count_1 (by decide) (by decide) (by decide) rfl ?_
                      refine x_aload_n C0 dX5_count_170 rfl 0 rfl ?_
                      refine x_iconst C0 (v := (-1)) dX5_count_171 ki_m1 ?_
                      obtain ⟨q2, eq2, h⟩ := x_bind h
                      refine x_callV11 C0 (c_X5_newOf n eq2) (x_cwV C0 mw_889 mw_891 mw_73 mw_84 mw_892 hd_yX5_newOf ⟨rfl, rfl, Nat.le_of_ble_eq_true rfl, Nat.le_of_ble_eq_true rfl⟩) (by decide) rfl wfR_0 rfl ⟨Nat.zero_le _, Nat.zero_le _⟩ (Nat.le_of_ble_eq_true rfl) dX5_count_172 ?_
                      obtain rfl := x_inj h
                      exact x_iret C0 dX5_count_175
                    · refine x_ite h (fun hc h => ?_) (fun hc10 h => ?_)
                      · refine x_top (congrArg Value.int hc) ?_
                        refine x_tableIn C0 (off := 175) (tgt := 176) dX5_count_1 (by decide) (by decide) (by decide) rfl ?_
                        refine x_aload_n C0 dX5_count_176 rfl 0 rfl ?_
                        refine x_get C0 inu5 rfl 0 (by decide) mw_643 (by decide) wfR_0 rfl dX5_count_177 ?_
                        refine x_sipush C0 (v := 351) dX5_count_180 ks_351 ?_
                        refine x_iald C0 1 rfl (by decide) wfR_1 dX5_count_183 h (fun _ h => ?_)
                        obtain rfl := x_inj h
                        exact x_iret C0 dX5_count_184
                      · refine x_ite h (fun hc h => ?_) (fun hc11 h => ?_)
                        · refine x_top (congrArg Value.int hc) ?_
                          refine x_tableIn C0 (off := 184) (tgt := 185) dX5_count_1 (by decide) (by decide) (by decide) rfl ?_
                          refine x_aload_n C0 dX5_count_185 rfl 0 rfl ?_
                          refine x_get C0 inu5 rfl 0 (by decide) mw_643 (by decide) wfR_0 rfl dX5_count_186 ?_
                          refine x_sipush C0 (v := 352) dX5_count_189 ks_352 ?_
                          refine x_iald C0 1 rfl (by decide) wfR_1 dX5_count_192 h (fun _ h => ?_)
                          obtain rfl := x_inj h
                          exact x_iret C0 dX5_count_193
                        · refine x_ite h (fun hc h => ?_) (fun hc12 h => ?_)
                          · refine x_top (congrArg Value.int hc) ?_
                            refine x_tableIn C0 (off := 193) (tgt := 194) dX5_count_1 (by decide) (by decide) (by decide) rfl ?_
                            refine x_aload_n C0 dX5_count_194 rfl 0 rfl ?_
                            obtain ⟨q3, eq3, h⟩ := x_bind h
                            refine x_callV01 C0 (c_X5_hoursOfAll n eq3) (x_cwV C0 mw_913 mw_915 mw_75 mw_84 mw_916 hd_yX5_hoursOfAll ⟨rfl, rfl, Nat.le_of_ble_eq_true rfl, Nat.le_of_ble_eq_true rfl⟩) (by decide) rfl wfR_0 rfl ⟨Nat.zero_le _, Nat.zero_le _⟩ (Nat.le_of_ble_eq_true rfl) dX5_count_195 ?_
                            obtain rfl := x_inj h
                            exact x_iret C0 dX5_count_198
                          · refine x_ite h (fun hc h => ?_) (fun hc13 h => ?_)
                            · refine x_top (congrArg Value.int hc) ?_
                              refine x_tableIn C0 (off := 198) (tgt := 199) dX5_count_1 (by decide) (by decide) (by decide) rfl ?_
                              refine x_aload_n C0 dX5_count_199 rfl 0 rfl ?_
                              refine x_get C0 inu5 rfl 0 (by decide) mw_643 (by decide) wfR_0 rfl dX5_count_200 ?_
                              refine x_sipush C0 (v := 348) dX5_count_203 ks_348 ?_
                              refine x_iald C0 1 rfl (by decide) wfR_1 dX5_count_206 h (fun _ h => ?_)
                              obtain rfl := x_inj h
                              exact x_iret C0 dX5_count_207
                            · refine x_ite h (fun hc h => ?_) (fun hc14 h => ?_)
                              · refine x_top (congrArg Value.int hc) ?_
                                refine x_tableIn C0 (off := 207) (tgt := 208) dX5_count_1 (by decide) (by decide) (by decide) rfl ?_
                                refine x_aload_n C0 dX5_count_208 rfl 0 rfl ?_
                                refine x_get C0 inu5 rfl 1 (by decide) mw_644 (by decide) wfR_0 rfl dX5_count_209 ?_
                                obtain rfl := x_inj h
                                exact x_iret C0 dX5_count_212
                              · refine x_ite h (fun hc h => ?_) (fun hc15 h => ?_)
                                · refine x_top (congrArg Value.int hc) ?_
                                  refine x_tableIn C0 (off := 212) (tgt := 213) dX5_count_1 (by decide) (by decide) (by decide) rfl ?_
                                  refine x_aload_n C0 dX5_count_213 rfl 0 rfl ?_
                                  refine x_get C0 inu5 rfl 4 (by decide) mw_647 (by decide) wfR_0 rfl dX5_count_214 ?_
                                  obtain rfl := x_inj h
                                  exact x_iret C0 dX5_count_217
                                · refine x_ite h (fun hc h => ?_) (fun hc16 h => ?_)
                                  · refine x_top (congrArg Value.int hc) ?_
                                    refine x_tableIn C0 (off := 217) (tgt := 218) dX5_count_1 (by decide) (by decide) (by decide) rfl ?_
                                    refine x_aload_n C0 dX5_count_218 rfl 0 rfl ?_
                                    obtain ⟨q4, eq4, h⟩ := x_bind h
                                    refine x_callV01 C0 (c_X5_programsLogged n eq4) (x_cwV C0 mw_917 mw_919 mw_76 mw_84 mw_920 hd_yX5_programsLogged ⟨rfl, rfl, Nat.le_of_ble_eq_true rfl, Nat.le_of_ble_eq_true rfl⟩) (by decide) rfl wfR_0 rfl ⟨Nat.zero_le _, Nat.zero_le _⟩ (Nat.le_of_ble_eq_true rfl) dX5_count_219 ?_
                                    obtain rfl := x_inj h
                                    exact x_iret C0 dX5_count_222
                                  · refine x_tableOut C0 (tgt := 223) dX5_count_1 (x_swo_16 hc0 hc1 hc2 hc3 hc4 hc5 hc6 hc7 hc8 hc9 hc10 hc11 hc12 hc13 hc14 hc15 hc16) rfl ?_
                                    refine x_ldc C0 mw_699 dX5_count_223 ?_
                                    obtain rfl := x_inj h
                                    exact x_iret C0 dX5_count_225
