theorem kb_15 : (Int8.ofInt 15).toInt32 = 15 := by decide
theorem kb_16 : (Int8.ofInt 16).toInt32 = 16 := by decide
theorem kb_30 : (Int8.ofInt 30).toInt32 = 30 := by decide
theorem kb_63 : (Int8.ofInt 63).toInt32 = 63 := by decide
theorem ks_999 : (Int16.ofInt 999).toInt32 = 999 := by decide
theorem ks_m999 : (Int16.ofInt (-999)).toInt32 = (-999) := by decide
theorem hd_yJ6_bitCount_0f7a4 : yJ6_bitCount_0f7a4.cls ≠ "java/lang/invoke/MethodHandle" ∧ yJ6_bitCount_0f7a4.cls ≠ "java/lang/invoke/VarHandle" ∧ (parseMethodDescriptor yJ6_bitCount_0f7a4.desc).map (fun d => d.parameters.length) = some 1 := ⟨by decide +kernel, by decide +kernel, by decide +kernel⟩
theorem hd_yX0_copyFrom : yX0_copyFrom.cls ≠ "java/lang/invoke/MethodHandle" ∧ yX0_copyFrom.cls ≠ "java/lang/invoke/VarHandle" ∧ (parseMethodDescriptor yX0_copyFrom.desc).map (fun d => d.parameters.length) = some 1 := ⟨by decide +kernel, by decide +kernel, by decide +kernel⟩
theorem hd_yX0_release : yX0_release.cls ≠ "java/lang/invoke/MethodHandle" ∧ yX0_release.cls ≠ "java/lang/invoke/VarHandle" ∧ (parseMethodDescriptor yX0_release.desc).map (fun d => d.parameters.length) = some 0 := ⟨by decide +kernel, by decide +kernel, by decide +kernel⟩
theorem hd_yX0_wishAt : yX0_wishAt.cls ≠ "java/lang/invoke/MethodHandle" ∧ yX0_wishAt.cls ≠ "java/lang/invoke/VarHandle" ∧ (parseMethodDescriptor yX0_wishAt.desc).map (fun d => d.parameters.length) = some 1 := ⟨by decide +kernel, by decide +kernel, by decide +kernel⟩
theorem hd_yX1_copyFrom : yX1_copyFrom.cls ≠ "java/lang/invoke/MethodHandle" ∧ yX1_copyFrom.cls ≠ "java/lang/invoke/VarHandle" ∧ (parseMethodDescriptor yX1_copyFrom.desc).map (fun d => d.parameters.length) = some 1 := ⟨by decide +kernel, by decide +kernel, by decide +kernel⟩
theorem hd_yX2_allHours : yX2_allHours.cls ≠ "java/lang/invoke/MethodHandle" ∧ yX2_allHours.cls ≠ "java/lang/invoke/VarHandle" ∧ (parseMethodDescriptor yX2_allHours.desc).map (fun d => d.parameters.length) = some 0 := ⟨by decide +kernel, by decide +kernel, by decide +kernel⟩
theorem hd_yX2_copyFrom : yX2_copyFrom.cls ≠ "java/lang/invoke/MethodHandle" ∧ yX2_copyFrom.cls ≠ "java/lang/invoke/VarHandle" ∧ (parseMethodDescriptor yX2_copyFrom.desc).map (fun d => d.parameters.length) = some 1 := ⟨by decide +kernel, by decide +kernel, by decide +kernel⟩
theorem hd_yX2_hire : yX2_hire.cls ≠ "java/lang/invoke/MethodHandle" ∧ yX2_hire.cls ≠ "java/lang/invoke/VarHandle" ∧ (parseMethodDescriptor yX2_hire.desc).map (fun d => d.parameters.length) = some 3 := ⟨by decide +kernel, by decide +kernel, by decide +kernel⟩
theorem hd_yX2_linesInCache : yX2_linesInCache.cls ≠ "java/lang/invoke/MethodHandle" ∧ yX2_linesInCache.cls ≠ "java/lang/invoke/VarHandle" ∧ (parseMethodDescriptor yX2_linesInCache.desc).map (fun d => d.parameters.length) = some 0 := ⟨by decide +kernel, by decide +kernel, by decide +kernel⟩
theorem hd_yX2_newLines : yX2_newLines.cls ≠ "java/lang/invoke/MethodHandle" ∧ yX2_newLines.cls ≠ "java/lang/invoke/VarHandle" ∧ (parseMethodDescriptor yX2_newLines.desc).map (fun d => d.parameters.length) = some 0 := ⟨by decide +kernel, by decide +kernel, by decide +kernel⟩
theorem hd_yX2_performWalk : yX2_performWalk.cls ≠ "java/lang/invoke/MethodHandle" ∧ yX2_performWalk.cls ≠ "java/lang/invoke/VarHandle" ∧ (parseMethodDescriptor yX2_performWalk.desc).map (fun d => d.parameters.length) = some 4 := ⟨by decide +kernel, by decide +kernel, by decide +kernel⟩
theorem hd_yX2_programsInLog : yX2_programsInLog.cls ≠ "java/lang/invoke/MethodHandle" ∧ yX2_programsInLog.cls ≠ "java/lang/invoke/VarHandle" ∧ (parseMethodDescriptor yX2_programsInLog.desc).map (fun d => d.parameters.length) = some 0 := ⟨by decide +kernel, by decide +kernel, by decide +kernel⟩
theorem hd_yX2_throwAllOut : yX2_throwAllOut.cls ≠ "java/lang/invoke/MethodHandle" ∧ yX2_throwAllOut.cls ≠ "java/lang/invoke/VarHandle" ∧ (parseMethodDescriptor yX2_throwAllOut.desc).map (fun d => d.parameters.length) = some 0 := ⟨by decide +kernel, by decide +kernel, by decide +kernel⟩
theorem hd_yX4_isWalk : yX4_isWalk.cls ≠ "java/lang/invoke/MethodHandle" ∧ yX4_isWalk.cls ≠ "java/lang/invoke/VarHandle" ∧ (parseMethodDescriptor yX4_isWalk.desc).map (fun d => d.parameters.length) = some 4 := ⟨by decide +kernel, by decide +kernel, by decide +kernel⟩
theorem hd_yX4_remember : yX4_remember.cls ≠ "java/lang/invoke/MethodHandle" ∧ yX4_remember.cls ≠ "java/lang/invoke/VarHandle" ∧ (parseMethodDescriptor yX4_remember.desc).map (fun d => d.parameters.length) = some 0 := ⟨by decide +kernel, by decide +kernel, by decide +kernel⟩
set_option maxRecDepth 4000 in
set_option maxHeartbeats 2000000 in
theorem b_X1_copyFrom_17 {p : Program} {l : Launch} {e : Env} {s : State} {m : MethodId} {args : Array Value} {below : List Frame} {meth : Method} {c : Code} {D : va_G} {cs : Nat → ClassId} {ad : Nat → Nat} {A : Nat → Prop} (C0 : x_C p s m args meth c D vwCl (xtys cs) A s.heap 333 ad (wfT cs ad) cX1_copyFrom 3 RX1 none) {o : Nat} {r : Nat} {o2 : Nat} {r2 : Nat} (kr : xt 1 o r) (kr2 : xt 1 o2 r2) (n : Nat) {res : xM} : ∀ (f : Nat) (σ : xM) (l2 : Int32), B_X1_copyFrom_17 n o r o2 r2 f σ l2 = some res → x_W p l e ({ frames := 1, cells := 0, slots := 0, locals := 21 } : Room) s m args below meth c D vwCl A s.heap 333 ad (wfT cs ad) 3 0 0 (x_E below args s D vwCl 333 ad (wfT cs ad) A none res) σ 17 [(0, .ref (ad (o + r))), (1, .ref (ad (o2 + r2))), (2, .int l2)] [] := by
  intro f
  induction f with
  | zero =>
    intro σ l2 h
    cases h
  | succ f ih =>
    intro σ l2 h
    refine x_iload_n C0 dX1_copyFrom_17 rfl 2 rfl ?_
    refine x_aload_n C0 dX1_copyFrom_18 rfl 0 rfl ?_
    refine x_get C0 inu1 rfl 2 (by decide) mw_77 (x_otr kr) (wfT_1 kr) rfl dX1_copyFrom_19 ?_
    obtain ⟨c2, ec2, h⟩ := x_bind h
    refine x_top (v' := .ref (ad (o + c2))) (x_rf ec2) ?_
    have kc2 := tyT_1_2 kr ec2
    refine x_alen C0 1 rfl (x_otr kc2) (wfT_7 kc2) dX1_copyFrom_22 ?_
    refine x_icmp_ge C0 (tgt := 53) dX1_copyFrom_23 rfl h (fun _ h => ?_) (fun _ h => ?_)
    · refine x_iload_n C0 dX1_copyFrom_26 rfl 2 rfl ?_
      refine x_aload_n C0 dX1_copyFrom_27 rfl 1 rfl ?_
      refine x_get C0 inu1 rfl 2 (by decide) mw_77 (x_otr kr2) (wfT_1 kr2) rfl dX1_copyFrom_28 ?_
      obtain ⟨c3, ec3, h⟩ := x_bind h
      refine x_top (v' := .ref (ad (o2 + c3))) (x_rf ec3) ?_
      have kc3 := tyT_1_2 kr2 ec3
      refine x_alen C0 1 rfl (x_otr kc3) (wfT_7 kc3) dX1_copyFrom_31 ?_
      refine x_icmp_ge C0 (tgt := 53) dX1_copyFrom_32 rfl h (fun _ h => ?_) (fun _ h => ?_)
      · refine x_aload_n C0 dX1_copyFrom_35 rfl 0 rfl ?_
        refine x_get C0 inu1 rfl 2 (by decide) mw_77 (x_otr kr) (wfT_1 kr) rfl dX1_copyFrom_36 ?_
        obtain ⟨c4, ec4, h⟩ := x_bind h
        refine x_top (v' := .ref (ad (o + c4))) (x_rf ec4) ?_
        have kc4 := tyT_1_2 kr ec4
        refine x_iload_n C0 dX1_copyFrom_39 rfl 2 rfl ?_
        refine x_aload_n C0 dX1_copyFrom_40 rfl 1 rfl ?_
        refine x_get C0 inu1 rfl 2 (by decide) mw_77 (x_otr kr2) (wfT_1 kr2) rfl dX1_copyFrom_41 ?_
        obtain ⟨c5, ec5, h⟩ := x_bind h
        refine x_top (v' := .ref (ad (o2 + c5))) (x_rf ec5) ?_
        have kc5 := tyT_1_2 kr2 ec5
        refine x_iload_n C0 dX1_copyFrom_44 rfl 2 rfl ?_
        refine x_iald C0 1 rfl (x_otr kc5) (wfT_7 kc5) dX1_copyFrom_45 h (fun _ h => ?_)
        refine x_pc (pc' := 46) rfl ?_
        refine x_iast C0 1 rfl (x_otr kc4) (wfT_7 kc4) (wpT_7 kc4) (fun r' h' k' => x_up_ne r' h' k') dX1_copyFrom_46 h (fun _ h => ?_)
        refine x_iinc C0 (v := 1) (L' := [(2, _), (0, _), (1, _)]) dX1_copyFrom_47 2 rfl ki_1 (by decide) rfl ?_
        refine x_goto C0 (tgt := 17) dX1_copyFrom_50 rfl ?_
        refine x_sub [1, 2, 0] (L' := [(0, _), (1, _), (2, _)]) rfl ?_
        refine x_pc (pc' := 17) rfl ?_
        exact ih _ _ h
      · obtain rfl := x_inj h
        exact x_vret C0 dX1_copyFrom_53
    · obtain rfl := x_inj h
      exact x_vret C0 dX1_copyFrom_53
set_option maxRecDepth 4000 in
set_option maxHeartbeats 2000000 in
theorem c_X1_copyFrom {l : Launch} {D : va_G} {cs : Nat → ClassId} {ad : Nat → Nat} (n : Nat) {σ : xM} {o : Nat} {r : Nat} {o2 : Nat} {r2 : Nat} (kr : xt 1 o r) (kr2 : xt 1 o2 r2) {res : xM} (h : F_X1_copyFrom n σ o r o2 r2 = some res) : x_Met l yX1_copyFrom [Cond.code yX1_copyFrom cX1_copyFrom 3 none] ({ frames := 1, cells := 0, slots := 0, locals := 21 } : Room) D vwCl (xtys cs) 333 ad (wfT cs ad) [.ref (ad (o + r)), .ref (ad (o2 + r2))] σ none res := by
  refine x_Met_of (L0 := [(0, .ref (ad (o + r))), (1, .ref (ad (o2 + r2)))]) (own := RX1) (by decide) rfl rfl wfT_loc (Nat.le_of_ble_eq_true rfl) rfl ?_
  intro p e s m args below meth c A C0
  refine x_aload_n C0 dX1_copyFrom_0 rfl 0 rfl ?_
  refine x_aload_n C0 dX1_copyFrom_1 rfl 1 rfl ?_
  refine x_get C0 inu1 rfl 3 (by decide) mw_78 (x_otr kr2) (wfT_1 kr2) rfl dX1_copyFrom_2 ?_
  refine x_aload_n C0 dX1_copyFrom_5 rfl 0 rfl ?_
  refine x_get C0 inu1 rfl 0 (by decide) mw_75 (x_otr kr) (wfT_1 kr) rfl dX1_copyFrom_6 ?_
  refine x_mmin C0 mw_285 mw_286 mw_47 mw_287 ⟨Nat.le_of_ble_eq_true rfl, Nat.le_of_ble_eq_true rfl, Nat.zero_le _, Nat.zero_le _⟩ dX1_copyFrom_9 ?_
  refine x_top (v' := .int (jmin _ _)) rfl ?_
  refine x_put C0 inu1 tyX1 tyX1_ok nmX1 rfl 3 (by decide) mw_78 rfl rfl rfl (x_otr kr) (wfT_1 kr) (Nat.le_of_ble_eq_true rfl) (wpT_1_3 kr) (fun r' h' k' => x_up_ne r' h' k') dX1_copyFrom_12 ?_
  refine x_pc (pc' := 15) rfl ?_
  refine x_iconst C0 (v := 0) dX1_copyFrom_15 ki_0 ?_
  refine x_istore_n C0 dX1_copyFrom_16 rfl (L' := [(2, _), (0, _), (1, _)]) (by decide) rfl ?_
  refine x_sub [1, 2, 0] (L' := [(0, _), (1, _), (2, _)]) rfl ?_
  refine x_pc (pc' := 17) rfl ?_
  exact b_X1_copyFrom_17 C0 kr kr2 n n _ _ h
set_option maxRecDepth 4000 in
set_option maxHeartbeats 2000000 in
theorem c_X0_copyFrom {l : Launch} {D : va_G} {cs : Nat → ClassId} {ad : Nat → Nat} (n : Nat) {σ : xM} {o : Nat} {r : Nat} {o2 : Nat} {r2 : Nat} (kr : xt 0 o r) (kr2 : xt 0 o2 r2) {res : xM} (h : F_X0_copyFrom n σ o r o2 r2 = some res) : x_Met l yX0_copyFrom [Cond.code yX0_copyFrom cX0_copyFrom 2 none] ({ frames := 2, cells := 0, slots := 0, locals := 43 } : Room) D vwCl (xtys cs) 333 ad (wfT cs ad) [.ref (ad (o + r)), .ref (ad (o2 + r2))] σ none res := by
  refine x_Met_of (L0 := [(0, .ref (ad (o + r))), (1, .ref (ad (o2 + r2)))]) (own := RX0) (by decide) rfl rfl wfT_loc (Nat.le_of_ble_eq_true rfl) rfl ?_
  intro p e s m args below meth c A C0
  refine x_aload_n C0 dX0_copyFrom_0 rfl 0 rfl ?_
  refine x_aload_n C0 dX0_copyFrom_1 rfl 1 rfl ?_
  refine x_get C0 inu0 rfl 3 (by decide) mw_111 (x_otr kr2) (wfT_0 kr2) rfl dX0_copyFrom_2 ?_
  refine x_put C0 inu0 tyX0 tyX0_ok nmX0 rfl 3 (by decide) mw_111 rfl rfl rfl (x_otr kr) (wfT_0 kr) (Nat.le_of_ble_eq_true rfl) (wpT_0_3 kr) (fun r' h' k' => x_up_ne r' h' k') dX0_copyFrom_5 ?_
  refine x_aload_n C0 dX0_copyFrom_8 rfl 0 rfl ?_
  refine x_aload_n C0 dX0_copyFrom_9 rfl 1 rfl ?_
  refine x_get C0 inu0 rfl 4 (by decide) mw_113 (x_otr kr2) (wfT_0 kr2) rfl dX0_copyFrom_10 ?_
  refine x_pc (pc' := 13) rfl ?_
  refine x_put C0 inu0 tyX0 tyX0_ok nmX0 rfl 4 (by decide) mw_113 rfl rfl rfl (x_otr kr) (wfT_0 kr) (Nat.le_of_ble_eq_true rfl) (wpT_0_4 kr) (fun r' h' k' => x_up_ne r' h' k') dX0_copyFrom_13 ?_
  refine x_aload_n C0 dX0_copyFrom_16 rfl 0 rfl ?_
  refine x_aload_n C0 dX0_copyFrom_17 rfl 1 rfl ?_
  refine x_get C0 inu0 rfl 5 (by decide) mw_115 (x_otr kr2) (wfT_0 kr2) rfl dX0_copyFrom_18 ?_
  refine x_put C0 inu0 tyX0 tyX0_ok nmX0 rfl 5 (by decide) mw_115 rfl rfl rfl (x_otr kr) (wfT_0 kr) (Nat.le_of_ble_eq_true rfl) (wpT_0_5 kr) (fun r' h' k' => x_up_ne r' h' k') dX0_copyFrom_21 ?_
  refine x_aload_n C0 dX0_copyFrom_24 rfl 0 rfl ?_
  refine x_aload_n C0 dX0_copyFrom_25 rfl 1 rfl ?_
  refine x_get C0 inu0 rfl 6 (by decide) mw_118 (x_otr kr2) (wfT_0 kr2) rfl dX0_copyFrom_26 ?_
  refine x_pc (pc' := 29) rfl ?_
  refine x_put C0 inu0 tyX0 tyX0_ok nmX0 rfl 6 (by decide) mw_118 rfl rfl rfl (x_otr kr) (wfT_0 kr) (Nat.le_of_ble_eq_true rfl) (wpT_0_6 kr) (fun r' h' k' => x_up_ne r' h' k') dX0_copyFrom_29 ?_
  refine x_aload_n C0 dX0_copyFrom_32 rfl 0 rfl ?_
  refine x_aload_n C0 dX0_copyFrom_33 rfl 1 rfl ?_
  refine x_get C0 inu0 rfl 7 (by decide) mw_120 (x_otr kr2) (wfT_0 kr2) rfl dX0_copyFrom_34 ?_
  refine x_put C0 inu0 tyX0 tyX0_ok nmX0 rfl 7 (by decide) mw_120 rfl rfl rfl (x_otr kr) (wfT_0 kr) (Nat.le_of_ble_eq_true rfl) (wpT_0_7 kr) (fun r' h' k' => x_up_ne r' h' k') dX0_copyFrom_37 ?_
  refine x_aload_n C0 dX0_copyFrom_40 rfl 0 rfl ?_
  refine x_aload_n C0 dX0_copyFrom_41 rfl 1 rfl ?_
  refine x_get C0 inu0 rfl 8 (by decide) mw_123 (x_otr kr2) (wfT_0 kr2) rfl dX0_copyFrom_42 ?_
  refine x_pc (pc' := 45) rfl ?_
  refine x_put C0 inu0 tyX0 tyX0_ok nmX0 rfl 8 (by decide) mw_123 rfl rfl rfl (x_otr kr) (wfT_0 kr) (Nat.le_of_ble_eq_true rfl) (wpT_0_8 kr) (fun r' h' k' => x_up_ne r' h' k') dX0_copyFrom_45 ?_
  refine x_aload_n C0 dX0_copyFrom_48 rfl 0 rfl ?_
  refine x_aload_n C0 dX0_copyFrom_49 rfl 1 rfl ?_
  refine x_get C0 inu0 rfl 9 (by decide) mw_125 (x_otr kr2) (wfT_0 kr2) rfl dX0_copyFrom_50 ?_
  refine x_put C0 inu0 tyX0 tyX0_ok nmX0 rfl 9 (by decide) mw_125 rfl rfl rfl (x_otr kr) (wfT_0 kr) (Nat.le_of_ble_eq_true rfl) (wpT_0_9 kr) (fun r' h' k' => x_up_ne r' h' k') dX0_copyFrom_53 ?_
  refine x_aload_n C0 dX0_copyFrom_56 rfl 0 rfl ?_
  refine x_aload_n C0 dX0_copyFrom_57 rfl 1 rfl ?_
  refine x_get C0 inu0 rfl 10 (by decide) mw_128 (x_otr kr2) (wfT_0 kr2) rfl dX0_copyFrom_58 ?_
  refine x_pc (pc' := 61) rfl ?_
  refine x_put C0 inu0 tyX0 tyX0_ok nmX0 rfl 10 (by decide) mw_128 rfl rfl rfl (x_otr kr) (wfT_0 kr) (Nat.le_of_ble_eq_true rfl) (wpT_0_10 kr) (fun r' h' k' => x_up_ne r' h' k') dX0_copyFrom_61 ?_
  refine x_aload_n C0 dX0_copyFrom_64 rfl 0 rfl ?_
  refine x_aload_n C0 dX0_copyFrom_65 rfl 1 rfl ?_
  refine x_get C0 inu0 rfl 11 (by decide) mw_130 (x_otr kr2) (wfT_0 kr2) rfl dX0_copyFrom_66 ?_
  refine x_put C0 inu0 tyX0 tyX0_ok nmX0 rfl 11 (by decide) mw_130 rfl rfl rfl (x_otr kr) (wfT_0 kr) (Nat.le_of_ble_eq_true rfl) (wpT_0_11 kr) (fun r' h' k' => x_up_ne r' h' k') dX0_copyFrom_69 ?_
  refine x_aload_n C0 dX0_copyFrom_72 rfl 0 rfl ?_
  refine x_aload_n C0 dX0_copyFrom_73 rfl 1 rfl ?_
  refine x_get C0 inu0 rfl 12 (by decide) mw_133 (x_otr kr2) (wfT_0 kr2) rfl dX0_copyFrom_74 ?_
  refine x_pc (pc' := 77) rfl ?_
  refine x_put C0 inu0 tyX0 tyX0_ok nmX0 rfl 12 (by decide) mw_133 rfl rfl rfl (x_otr kr) (wfT_0 kr) (Nat.le_of_ble_eq_true rfl) (wpT_0_12 kr) (fun r' h' k' => x_up_ne r' h' k') dX0_copyFrom_77 ?_
  refine x_aload_n C0 dX0_copyFrom_80 rfl 0 rfl ?_
  refine x_aload_n C0 dX0_copyFrom_81 rfl 1 rfl ?_
  refine x_get C0 inu0 rfl 13 (by decide) mw_136 (x_otr kr2) (wfT_0 kr2) rfl dX0_copyFrom_82 ?_
  refine x_put C0 inu0 tyX0 tyX0_ok nmX0 rfl 13 (by decide) mw_136 rfl rfl rfl (x_otr kr) (wfT_0 kr) (Nat.le_of_ble_eq_true rfl) (wpT_0_13 kr) (fun r' h' k' => x_up_ne r' h' k') dX0_copyFrom_85 ?_
  refine x_aload_n C0 dX0_copyFrom_88 rfl 0 rfl ?_
  refine x_aload_n C0 dX0_copyFrom_89 rfl 1 rfl ?_
  refine x_get C0 inu0 rfl 14 (by decide) mw_138 (x_otr kr2) (wfT_0 kr2) rfl dX0_copyFrom_90 ?_
  refine x_pc (pc' := 93) rfl ?_
  refine x_put C0 inu0 tyX0 tyX0_ok nmX0 rfl 14 (by decide) mw_138 rfl rfl rfl (x_otr kr) (wfT_0 kr) (Nat.le_of_ble_eq_true rfl) (wpT_0_14 kr) (fun r' h' k' => x_up_ne r' h' k') dX0_copyFrom_93 ?_
  refine x_aload_n C0 dX0_copyFrom_96 rfl 0 rfl ?_
  refine x_aload_n C0 dX0_copyFrom_97 rfl 1 rfl ?_
  refine x_get C0 inu0 rfl 15 (by decide) mw_140 (x_otr kr2) (wfT_0 kr2) rfl dX0_copyFrom_98 ?_
  refine x_put C0 inu0 tyX0 tyX0_ok nmX0 rfl 15 (by decide) mw_140 rfl rfl rfl (x_otr kr) (wfT_0 kr) (Nat.le_of_ble_eq_true rfl) (wpT_0_15 kr) (fun r' h' k' => x_up_ne r' h' k') dX0_copyFrom_101 ?_
  refine x_aload_n C0 dX0_copyFrom_104 rfl 0 rfl ?_
  refine x_get C0 inu0 rfl 0 (by decide) mw_105 (x_otr kr) (wfT_0 kr) rfl dX0_copyFrom_105 ?_
  obtain ⟨c14, ec14, h⟩ := x_bind h
  refine x_top (v' := .ref (ad (o + c14))) (x_rf ec14) ?_
  have kc14 := tyT_0_0 kr ec14
  refine x_aload_n C0 dX0_copyFrom_108 rfl 1 rfl ?_
  refine x_pc (pc' := 109) rfl ?_
  refine x_get C0 inu0 rfl 0 (by decide) mw_105 (x_otr kr2) (wfT_0 kr2) rfl dX0_copyFrom_109 ?_
  obtain ⟨c15, ec15, h⟩ := x_bind h
  refine x_top (v' := .ref (ad (o2 + c15))) (x_rf ec15) ?_
  have kc15 := tyT_0_0 kr2 ec15
  obtain ⟨q16, eq16, h⟩ := x_bind h
  refine x_callVN10 C0 (c_X1_copyFrom n kc14 kc15 eq16) (x_cwVN C0 mw_292 mw_283 mw_3 mw_46 mw_284 hd_yX1_copyFrom ⟨rfl, rfl, Nat.le_of_ble_eq_true rfl, Nat.le_of_ble_eq_true rfl⟩) (x_otr kc14) rfl (wfT_1 kc14) rfl ⟨Nat.zero_le _, Nat.zero_le _⟩ (Nat.le_of_ble_eq_true rfl) dX0_copyFrom_112 ?_
  obtain rfl := x_inj h
  exact x_vret C0 dX0_copyFrom_115
set_option maxRecDepth 4000 in
set_option maxHeartbeats 2000000 in
theorem b_X2_copyFrom_42 {p : Program} {l : Launch} {e : Env} {s : State} {m : MethodId} {args : Array Value} {below : List Frame} {meth : Method} {c : Code} {D : va_G} {cs : Nat → ClassId} {ad : Nat → Nat} {A : Nat → Prop} (C0 : x_C p s m args meth c D vwCl (xtys cs) A s.heap 333 ad (wfT cs ad) cX2_copyFrom 3 RX2 none) {o : Nat} {o2 : Nat} (ko : xt 2 o 0) (ko2 : xt 2 o2 0) (n : Nat) {res : xM} : ∀ (f : Nat) (σ : xM) (l2 : Int32), B_X2_copyFrom_42 n o o2 f σ l2 = some res → x_W p l e ({ frames := 3, cells := 0, slots := 0, locals := 64 } : Room) s m args below meth c D vwCl A s.heap 333 ad (wfT cs ad) 3 0 0 (x_E below args s D vwCl 333 ad (wfT cs ad) A none res) σ 42 [(0, .ref (ad (o + 0))), (1, .ref (ad (o2 + 0))), (2, .int l2)] [] := by
  intro f
  induction f with
  | zero =>
    intro σ l2 h
    cases h
  | succ f ih =>
    intro σ l2 h
    refine x_iload_n C0 dX2_copyFrom_42 rfl 2 rfl ?_
    refine x_bipush C0 (v := 6) dX2_copyFrom_43 kb_6 ?_
    refine x_icmp_ge C0 (tgt := 69) dX2_copyFrom_45 rfl h (fun _ h => ?_) (fun _ h => ?_)
    · refine x_aload_n C0 dX2_copyFrom_48 rfl 0 rfl ?_
      refine x_get C0 inu2 rfl 2 (by decide) mw_178 (x_otr ko) (wfT_2 ko) rfl dX2_copyFrom_49 ?_
      refine x_top (v' := .ref (ad (o + 20))) rfl ?_
      refine x_iload_n C0 dX2_copyFrom_52 rfl 2 rfl ?_
      refine x_aald C0 2 rfl (x_otr (x_xt ko.1 kS_20)) (wfT_8 (x_xt ko.1 kS_20)) dX2_copyFrom_53 h (fun _ h => ?_)
      obtain ⟨c5, ec5, h⟩ := x_bind h
      refine x_top (v' := .ref (ad (o + c5))) (x_rf ec5) ?_
      have kc5 := tyT_8 (x_xt ko.1 kS_20) ec5
      refine x_aload_n C0 dX2_copyFrom_54 rfl 1 rfl ?_
      refine x_get C0 inu2 rfl 2 (by decide) mw_178 (x_otr ko2) (wfT_2 ko2) rfl dX2_copyFrom_55 ?_
      refine x_top (v' := .ref (ad (o2 + 20))) rfl ?_
      refine x_iload_n C0 dX2_copyFrom_58 rfl 2 rfl ?_
      refine x_pc (pc' := 59) rfl ?_
      refine x_aald C0 2 rfl (x_otr (x_xt ko2.1 kS_20)) (wfT_8 (x_xt ko2.1 kS_20)) dX2_copyFrom_59 h (fun _ h => ?_)
      obtain ⟨c6, ec6, h⟩ := x_bind h
      refine x_top (v' := .ref (ad (o2 + c6))) (x_rf ec6) ?_
      have kc6 := tyT_8 (x_xt ko2.1 kS_20) ec6
      obtain ⟨q7, eq7, h⟩ := x_bind h
      refine x_callVN10 C0 (c_X0_copyFrom n kc5 kc6 eq7) (x_cwVN C0 mw_288 mw_290 mw_4 mw_48 mw_291 hd_yX0_copyFrom ⟨rfl, rfl, Nat.le_of_ble_eq_true rfl, Nat.le_of_ble_eq_true rfl⟩) (x_otr kc5) rfl (wfT_0 kc5) rfl ⟨Nat.zero_le _, Nat.zero_le _⟩ (Nat.le_of_ble_eq_true rfl) dX2_copyFrom_60 ?_
      refine x_iinc C0 (v := 1) (L' := [(2, _), (0, _), (1, _)]) dX2_copyFrom_63 2 rfl ki_1 (by decide) rfl ?_
      refine x_goto C0 (tgt := 42) dX2_copyFrom_66 rfl ?_
      refine x_sub [1, 2, 0] (L' := [(0, _), (1, _), (2, _)]) rfl ?_
      refine x_pc (pc' := 42) rfl ?_
      exact ih _ _ h
    · refine x_aload_n C0 dX2_copyFrom_69 rfl 0 rfl ?_
      refine x_get C0 inu2 rfl 3 (by decide) mw_179 (x_otr ko) (wfT_2 ko) rfl dX2_copyFrom_70 ?_
      refine x_top (v' := .ref (ad (o + 45))) rfl ?_
      refine x_aload_n C0 dX2_copyFrom_73 rfl 1 rfl ?_
      refine x_get C0 inu2 rfl 3 (by decide) mw_179 (x_otr ko2) (wfT_2 ko2) rfl dX2_copyFrom_74 ?_
      refine x_top (v' := .ref (ad (o2 + 45))) rfl ?_
      obtain ⟨q8, eq8, h⟩ := x_bind h
      refine x_callVN10 C0 (c_X1_copyFrom n (x_xt ko.1 kS_45) (x_xt ko2.1 kS_45) eq8) (x_cwVN C0 mw_281 mw_283 mw_3 mw_46 mw_284 hd_yX1_copyFrom ⟨rfl, rfl, Nat.le_of_ble_eq_true rfl, Nat.le_of_ble_eq_true rfl⟩) (x_otr (x_xt ko.1 kS_45)) rfl (wfT_1 (x_xt ko.1 kS_45)) rfl ⟨Nat.zero_le _, Nat.zero_le _⟩ (Nat.le_of_ble_eq_true rfl) dX2_copyFrom_77 ?_
      refine x_aload_n C0 dX2_copyFrom_80 rfl 0 rfl ?_
      refine x_aload_n C0 dX2_copyFrom_81 rfl 1 rfl ?_
      refine x_pc (pc' := 82) rfl ?_
      refine x_get C0 inu2 rfl 4 (by decide) mw_181 (x_otr ko2) (wfT_2 ko2) rfl dX2_copyFrom_82 ?_
      refine x_put C0 inu2 tyX2 tyX2_ok nmX2 rfl 4 (by decide) mw_181 rfl rfl rfl (x_otr ko) (wfT_2 ko) (Nat.le_of_ble_eq_true rfl) (wpT_2_4 ko) (fun r' h' k' => x_up_ne r' h' k') dX2_copyFrom_85 ?_
      refine x_aload_n C0 dX2_copyFrom_88 rfl 0 rfl ?_
      refine x_aload_n C0 dX2_copyFrom_89 rfl 1 rfl ?_
      refine x_get C0 inu2 rfl 5 (by decide) mw_183 (x_otr ko2) (wfT_2 ko2) rfl dX2_copyFrom_90 ?_
      refine x_put C0 inu2 tyX2 tyX2_ok nmX2 rfl 5 (by decide) mw_183 rfl rfl rfl (x_otr ko) (wfT_2 ko) (Nat.le_of_ble_eq_true rfl) (wpT_2_5 ko) (fun r' h' k' => x_up_ne r' h' k') dX2_copyFrom_93 ?_
      refine x_aload_n C0 dX2_copyFrom_96 rfl 0 rfl ?_
      refine x_aload_n C0 dX2_copyFrom_97 rfl 1 rfl ?_
      refine x_pc (pc' := 98) rfl ?_
      refine x_get C0 inu2 rfl 6 (by decide) mw_185 (x_otr ko2) (wfT_2 ko2) rfl dX2_copyFrom_98 ?_
      refine x_put C0 inu2 tyX2 tyX2_ok nmX2 rfl 6 (by decide) mw_185 rfl rfl rfl (x_otr ko) (wfT_2 ko) (Nat.le_of_ble_eq_true rfl) (wpT_2_6 ko) (fun r' h' k' => x_up_ne r' h' k') dX2_copyFrom_101 ?_
      refine x_aload_n C0 dX2_copyFrom_104 rfl 0 rfl ?_
      refine x_aload_n C0 dX2_copyFrom_105 rfl 1 rfl ?_
      refine x_get C0 inu2 rfl 7 (by decide) mw_187 (x_otr ko2) (wfT_2 ko2) rfl dX2_copyFrom_106 ?_
      refine x_put C0 inu2 tyX2 tyX2_ok nmX2 rfl 7 (by decide) mw_187 rfl rfl rfl (x_otr ko) (wfT_2 ko) (Nat.le_of_ble_eq_true rfl) (wpT_2_7 ko) (fun r' h' k' => x_up_ne r' h' k') dX2_copyFrom_109 ?_
      refine x_aload_n C0 dX2_copyFrom_112 rfl 0 rfl ?_
      refine x_aload_n C0 dX2_copyFrom_113 rfl 1 rfl ?_
      refine x_pc (pc' := 114) rfl ?_
      refine x_get C0 inu2 rfl 8 (by decide) mw_189 (x_otr ko2) (wfT_2 ko2) rfl dX2_copyFrom_114 ?_
      refine x_put C0 inu2 tyX2 tyX2_ok nmX2 rfl 8 (by decide) mw_189 rfl rfl rfl (x_otr ko) (wfT_2 ko) (Nat.le_of_ble_eq_true rfl) (wpT_2_8 ko) (fun r' h' k' => x_up_ne r' h' k') dX2_copyFrom_117 ?_
      refine x_aload_n C0 dX2_copyFrom_120 rfl 0 rfl ?_
      refine x_aload_n C0 dX2_copyFrom_121 rfl 1 rfl ?_
      refine x_get C0 inu2 rfl 9 (by decide) mw_191 (x_otr ko2) (wfT_2 ko2) rfl dX2_copyFrom_122 ?_
      refine x_put C0 inu2 tyX2 tyX2_ok nmX2 rfl 9 (by decide) mw_191 rfl rfl rfl (x_otr ko) (wfT_2 ko) (Nat.le_of_ble_eq_true rfl) (wpT_2_9 ko) (fun r' h' k' => x_up_ne r' h' k') dX2_copyFrom_125 ?_
      refine x_aload_n C0 dX2_copyFrom_128 rfl 0 rfl ?_
      refine x_aload_n C0 dX2_copyFrom_129 rfl 1 rfl ?_
      refine x_pc (pc' := 130) rfl ?_
      refine x_get C0 inu2 rfl 10 (by decide) mw_193 (x_otr ko2) (wfT_2 ko2) rfl dX2_copyFrom_130 ?_
      refine x_put C0 inu2 tyX2 tyX2_ok nmX2 rfl 10 (by decide) mw_193 rfl rfl rfl (x_otr ko) (wfT_2 ko) (Nat.le_of_ble_eq_true rfl) (wpT_2_10 ko) (fun r' h' k' => x_up_ne r' h' k') dX2_copyFrom_133 ?_
      refine x_aload_n C0 dX2_copyFrom_136 rfl 0 rfl ?_
      refine x_aload_n C0 dX2_copyFrom_137 rfl 1 rfl ?_
      refine x_get C0 inu2 rfl 11 (by decide) mw_195 (x_otr ko2) (wfT_2 ko2) rfl dX2_copyFrom_138 ?_
      refine x_put C0 inu2 tyX2 tyX2_ok nmX2 rfl 11 (by decide) mw_195 rfl rfl rfl (x_otr ko) (wfT_2 ko) (Nat.le_of_ble_eq_true rfl) (wpT_2_11 ko) (fun r' h' k' => x_up_ne r' h' k') dX2_copyFrom_141 ?_
      refine x_aload_n C0 dX2_copyFrom_144 rfl 0 rfl ?_
      refine x_aload_n C0 dX2_copyFrom_145 rfl 1 rfl ?_
      refine x_pc (pc' := 146) rfl ?_
      refine x_get C0 inu2 rfl 12 (by decide) mw_197 (x_otr ko2) (wfT_2 ko2) rfl dX2_copyFrom_146 ?_
      refine x_put C0 inu2 tyX2 tyX2_ok nmX2 rfl 12 (by decide) mw_197 rfl rfl rfl (x_otr ko) (wfT_2 ko) (Nat.le_of_ble_eq_true rfl) (wpT_2_12 ko) (fun r' h' k' => x_up_ne r' h' k') dX2_copyFrom_149 ?_
      obtain rfl := x_inj h
      exact x_vret C0 dX2_copyFrom_152
set_option maxRecDepth 4000 in
set_option maxHeartbeats 2000000 in
theorem b_X2_copyFrom_2 {p : Program} {l : Launch} {e : Env} {s : State} {m : MethodId} {args : Array Value} {below : List Frame} {meth : Method} {c : Code} {D : va_G} {cs : Nat → ClassId} {ad : Nat → Nat} {A : Nat → Prop} (C0 : x_C p s m args meth c D vwCl (xtys cs) A s.heap 333 ad (wfT cs ad) cX2_copyFrom 3 RX2 none) {o : Nat} {o2 : Nat} (ko : xt 2 o 0) (ko2 : xt 2 o2 0) (n : Nat) {res : xM} : ∀ (f : Nat) (σ : xM) (l2 : Int32), B_X2_copyFrom_2 n o o2 f σ l2 = some res → x_W p l e ({ frames := 3, cells := 0, slots := 0, locals := 64 } : Room) s m args below meth c D vwCl A s.heap 333 ad (wfT cs ad) 3 0 0 (x_E below args s D vwCl 333 ad (wfT cs ad) A none res) σ 2 [(0, .ref (ad (o + 0))), (1, .ref (ad (o2 + 0))), (2, .int l2)] [] := by
  intro f
  induction f with
  | zero =>
    intro σ l2 h
    cases h
  | succ f ih =>
    intro σ l2 h
    refine x_iload_n C0 dX2_copyFrom_2 rfl 2 rfl ?_
    refine x_bipush C0 (v := 8) dX2_copyFrom_3 kb_8 ?_
    refine x_icmp_ge C0 (tgt := 29) dX2_copyFrom_5 rfl h (fun _ h => ?_) (fun _ h => ?_)
    · refine x_aload_n C0 dX2_copyFrom_8 rfl 0 rfl ?_
      refine x_get C0 inu2 rfl 0 (by decide) mw_175 (x_otr ko) (wfT_2 ko) rfl dX2_copyFrom_9 ?_
      refine x_top (v' := .ref (ad (o + 1))) rfl ?_
      refine x_iload_n C0 dX2_copyFrom_12 rfl 2 rfl ?_
      refine x_aald C0 3 rfl (x_otr (x_xt ko.1 kS_1)) (wfT_9 (x_xt ko.1 kS_1)) dX2_copyFrom_13 h (fun _ h => ?_)
      obtain ⟨c1, ec1, h⟩ := x_bind h
      refine x_top (v' := .ref (ad (o + c1))) (x_rf ec1) ?_
      have kc1 := tyT_9 (x_xt ko.1 kS_1) ec1
      refine x_aload_n C0 dX2_copyFrom_14 rfl 1 rfl ?_
      refine x_get C0 inu2 rfl 0 (by decide) mw_175 (x_otr ko2) (wfT_2 ko2) rfl dX2_copyFrom_15 ?_
      refine x_top (v' := .ref (ad (o2 + 1))) rfl ?_
      refine x_iload_n C0 dX2_copyFrom_18 rfl 2 rfl ?_
      refine x_pc (pc' := 19) rfl ?_
      refine x_aald C0 3 rfl (x_otr (x_xt ko2.1 kS_1)) (wfT_9 (x_xt ko2.1 kS_1)) dX2_copyFrom_19 h (fun _ h => ?_)
      obtain ⟨c2, ec2, h⟩ := x_bind h
      refine x_top (v' := .ref (ad (o2 + c2))) (x_rf ec2) ?_
      have kc2 := tyT_9 (x_xt ko2.1 kS_1) ec2
      obtain ⟨q3, eq3, h⟩ := x_bind h
      refine x_callVN10 C0 (c_X1_copyFrom n kc1 kc2 eq3) (x_cwVN C0 mw_281 mw_283 mw_3 mw_46 mw_284 hd_yX1_copyFrom ⟨rfl, rfl, Nat.le_of_ble_eq_true rfl, Nat.le_of_ble_eq_true rfl⟩) (x_otr kc1) rfl (wfT_1 kc1) rfl ⟨Nat.zero_le _, Nat.zero_le _⟩ (Nat.le_of_ble_eq_true rfl) dX2_copyFrom_20 ?_
      refine x_iinc C0 (v := 1) (L' := [(2, _), (0, _), (1, _)]) dX2_copyFrom_23 2 rfl ki_1 (by decide) rfl ?_
      refine x_goto C0 (tgt := 2) dX2_copyFrom_26 rfl ?_
      refine x_sub [1, 2, 0] (L' := [(0, _), (1, _), (2, _)]) rfl ?_
      refine x_pc (pc' := 2) rfl ?_
      exact ih _ _ h
    · refine x_aload_n C0 dX2_copyFrom_29 rfl 0 rfl ?_
      refine x_get C0 inu2 rfl 1 (by decide) mw_176 (x_otr ko) (wfT_2 ko) rfl dX2_copyFrom_30 ?_
      refine x_top (v' := .ref (ad (o + 18))) rfl ?_
      refine x_aload_n C0 dX2_copyFrom_33 rfl 1 rfl ?_
      refine x_get C0 inu2 rfl 1 (by decide) mw_176 (x_otr ko2) (wfT_2 ko2) rfl dX2_copyFrom_34 ?_
      refine x_top (v' := .ref (ad (o2 + 18))) rfl ?_
      obtain ⟨q4, eq4, h⟩ := x_bind h
      refine x_callVN10 C0 (c_X1_copyFrom n (x_xt ko.1 kS_18) (x_xt ko2.1 kS_18) eq4) (x_cwVN C0 mw_281 mw_283 mw_3 mw_46 mw_284 hd_yX1_copyFrom ⟨rfl, rfl, Nat.le_of_ble_eq_true rfl, Nat.le_of_ble_eq_true rfl⟩) (x_otr (x_xt ko.1 kS_18)) rfl (wfT_1 (x_xt ko.1 kS_18)) rfl ⟨Nat.zero_le _, Nat.zero_le _⟩ (Nat.le_of_ble_eq_true rfl) dX2_copyFrom_37 ?_
      refine x_iconst C0 (v := 0) dX2_copyFrom_40 ki_0 ?_
      refine x_istore_n C0 dX2_copyFrom_41 rfl (L' := [(2, _), (0, _), (1, _)]) (by decide) rfl ?_
      refine x_sub [1, 2, 0] (L' := [(0, _), (1, _), (2, _)]) rfl ?_
      refine x_pc (pc' := 42) rfl ?_
      exact b_X2_copyFrom_42 C0 ko ko2 n n _ _ h
set_option maxRecDepth 4000 in
set_option maxHeartbeats 2000000 in
theorem c_X2_copyFrom {l : Launch} {D : va_G} {cs : Nat → ClassId} {ad : Nat → Nat} (n : Nat) {σ : xM} {o : Nat} {o2 : Nat} (ko : xt 2 o 0) (ko2 : xt 2 o2 0) {res : xM} (h : F_X2_copyFrom n σ o o2 = some res) : x_Met l yX2_copyFrom [Cond.code yX2_copyFrom cX2_copyFrom 3 none] ({ frames := 3, cells := 0, slots := 0, locals := 64 } : Room) D vwCl (xtys cs) 333 ad (wfT cs ad) [.ref (ad (o + 0)), .ref (ad (o2 + 0))] σ none res := by
  refine x_Met_of (L0 := [(0, .ref (ad (o + 0))), (1, .ref (ad (o2 + 0)))]) (own := RX2) (by decide) rfl rfl wfT_loc (Nat.le_of_ble_eq_true rfl) rfl ?_
  intro p e s m args below meth c A C0
  refine x_iconst C0 (v := 0) dX2_copyFrom_0 ki_0 ?_
  refine x_istore_n C0 dX2_copyFrom_1 rfl (L' := [(2, _), (0, _), (1, _)]) (by decide) rfl ?_
  refine x_sub [1, 2, 0] (L' := [(0, _), (1, _), (2, _)]) rfl ?_
  refine x_pc (pc' := 2) rfl ?_
  exact b_X2_copyFrom_2 C0 ko ko2 n n _ _ h
set_option maxRecDepth 4000 in
set_option maxHeartbeats 2000000 in
theorem c_J6_bitCount {l : Launch} {D : va_G} {cs : Nat → ClassId} {ad : Nat → Nat} {x0 : Int32}  {res : Int32} (h : F_J6_bitCount x0 = res) : x_Met l yJ6_bitCount_0f7a4 [Cond.code yJ6_bitCount_0f7a4 cJ6_bitCount_0f7a4 1 (some FieldType.int)] ({ frames := 0, cells := 0, slots := 0, locals := 0 } : Room) D vwCl (xtys cs) 0 ad wf0 [.int x0] m0 (some (.int res)) m0 := by
  refine x_Met_of (L0 := [(0, .int x0)]) (own := RJ6) (by decide) rfl rfl wf0_loc (Nat.le_of_ble_eq_true rfl) rfl ?_
  intro p e s m args below meth c A C0
  refine x_iload_n C0 dJ6_bitCount_0f7a4_0 rfl 0 rfl ?_
  refine x_iload_n C0 dJ6_bitCount_0f7a4_1 rfl 0 rfl ?_
  refine x_iconst C0 (v := 1) dJ6_bitCount_0f7a4_2 ki_1 ?_
  refine x_iushr C0 dJ6_bitCount_0f7a4_3 ?_
  refine x_ldc_w C0 mw_507 dJ6_bitCount_0f7a4_4 ?_
  refine x_iand C0 dJ6_bitCount_0f7a4_7 ?_
  refine x_isub C0 dJ6_bitCount_0f7a4_8 ?_
  refine x_pc (pc' := 9) rfl ?_
  refine x_istore_n C0 dJ6_bitCount_0f7a4_9 rfl (L' := [(0, _)]) (by decide) rfl ?_
  refine x_iload_n C0 dJ6_bitCount_0f7a4_10 rfl 0 rfl ?_
  refine x_ldc_w C0 mw_508 dJ6_bitCount_0f7a4_11 ?_
  refine x_iand C0 dJ6_bitCount_0f7a4_14 ?_
  refine x_iload_n C0 dJ6_bitCount_0f7a4_15 rfl 0 rfl ?_
  refine x_iconst C0 (v := 2) dJ6_bitCount_0f7a4_16 ki_2 ?_
  refine x_iushr C0 dJ6_bitCount_0f7a4_17 ?_
  refine x_ldc_w C0 mw_508 dJ6_bitCount_0f7a4_18 ?_
  refine x_pc (pc' := 21) rfl ?_
  refine x_iand C0 dJ6_bitCount_0f7a4_21 ?_
  refine x_iadd C0 dJ6_bitCount_0f7a4_22 ?_
  refine x_istore_n C0 dJ6_bitCount_0f7a4_23 rfl (L' := [(0, _)]) (by decide) rfl ?_
  refine x_iload_n C0 dJ6_bitCount_0f7a4_24 rfl 0 rfl ?_
  refine x_iload_n C0 dJ6_bitCount_0f7a4_25 rfl 0 rfl ?_
  refine x_iconst C0 (v := 4) dJ6_bitCount_0f7a4_26 ki_4 ?_
  refine x_iushr C0 dJ6_bitCount_0f7a4_27 ?_
  refine x_iadd C0 dJ6_bitCount_0f7a4_28 ?_
  refine x_pc (pc' := 29) rfl ?_
  refine x_ldc_w C0 mw_509 dJ6_bitCount_0f7a4_29 ?_
  refine x_iand C0 dJ6_bitCount_0f7a4_32 ?_
  refine x_istore_n C0 dJ6_bitCount_0f7a4_33 rfl (L' := [(0, _)]) (by decide) rfl ?_
  refine x_iload_n C0 dJ6_bitCount_0f7a4_34 rfl 0 rfl ?_
  refine x_iload_n C0 dJ6_bitCount_0f7a4_35 rfl 0 rfl ?_
  refine x_bipush C0 (v := 8) dJ6_bitCount_0f7a4_36 kb_8 ?_
  refine x_iushr C0 dJ6_bitCount_0f7a4_38 ?_
  refine x_iadd C0 dJ6_bitCount_0f7a4_39 ?_
  refine x_pc (pc' := 40) rfl ?_
  refine x_istore_n C0 dJ6_bitCount_0f7a4_40 rfl (L' := [(0, _)]) (by decide) rfl ?_
  refine x_iload_n C0 dJ6_bitCount_0f7a4_41 rfl 0 rfl ?_
  refine x_iload_n C0 dJ6_bitCount_0f7a4_42 rfl 0 rfl ?_
  refine x_bipush C0 (v := 16) dJ6_bitCount_0f7a4_43 kb_16 ?_
  refine x_iushr C0 dJ6_bitCount_0f7a4_45 ?_
  refine x_iadd C0 dJ6_bitCount_0f7a4_46 ?_
  refine x_istore_n C0 dJ6_bitCount_0f7a4_47 rfl (L' := [(0, _)]) (by decide) rfl ?_
  refine x_iload_n C0 dJ6_bitCount_0f7a4_48 rfl 0 rfl ?_
  refine x_pc (pc' := 49) rfl ?_
  refine x_bipush C0 (v := 63) dJ6_bitCount_0f7a4_49 kb_63 ?_
  refine x_iand C0 dJ6_bitCount_0f7a4_51 ?_
  subst h
  exact x_iret C0 dJ6_bitCount_0f7a4_52
set_option maxRecDepth 4000 in
set_option maxHeartbeats 2000000 in
theorem b_X2_programsInLog_4 {p : Program} {l : Launch} {e : Env} {s : State} {m : MethodId} {args : Array Value} {below : List Frame} {meth : Method} {c : Code} {D : va_G} {cs : Nat → ClassId} {ad : Nat → Nat} {A : Nat → Prop} (C0 : x_C p s m args meth c D vwCl (xtys cs) A s.heap 47 ad (wfS cs ad) cX2_programsInLog 3 RX2 (some FieldType.int))  (n : Nat) {σ : xM} {res : Int32} : ∀ (f : Nat) (l1 : Int32) (l2 : Int32), B_X2_programsInLog_4 n σ f l1 l2 = some res → x_W p l e ({ frames := 2, cells := 0, slots := 0, locals := 44 } : Room) s m args below meth c D vwCl A s.heap 47 ad (wfS cs ad) 3 0 0 (x_E below args s D vwCl 47 ad (wfS cs ad) A (some (.int res)) σ) σ 4 [(0, .ref (ad 0)), (1, .int l1), (2, .int l2)] [] := by
  intro f
  induction f with
  | zero =>
    intro l1 l2 h
    cases h
  | succ f ih =>
    intro l1 l2 h
    refine x_iload_n C0 dX2_programsInLog_4 rfl 2 rfl ?_
    refine x_aload_n C0 dX2_programsInLog_5 rfl 0 rfl ?_
    refine x_get C0 inu2 rfl 3 (by decide) mw_179 kS_0.1 (wfS_2 kS_0.2) rfl dX2_programsInLog_6 ?_
    refine x_top (v' := .ref (ad 45)) rfl ?_
    refine x_getN C0 inu1 rfl 3 (by decide) mw_81 kS_45.1 (wfS_1 kS_45.2) rfl dX2_programsInLog_9 ?_
    refine x_icmp_ge C0 (tgt := 35) dX2_programsInLog_12 rfl h (fun _ h => ?_) (fun _ h => ?_)
    · refine x_iload_n C0 dX2_programsInLog_15 rfl 1 rfl ?_
      refine x_iconst C0 (v := 1) dX2_programsInLog_16 ki_1 ?_
      refine x_aload_n C0 dX2_programsInLog_17 rfl 0 rfl ?_
      refine x_get C0 inu2 rfl 3 (by decide) mw_179 kS_0.1 (wfS_2 kS_0.2) rfl dX2_programsInLog_18 ?_
      refine x_top (v' := .ref (ad 45)) rfl ?_
      refine x_iload_n C0 dX2_programsInLog_21 rfl 2 rfl ?_
      refine x_iconst C0 (v := 0) dX2_programsInLog_22 ki_0 ?_
      obtain ⟨q1, eq1, h⟩ := x_bind h
      refine x_callVN21 C0 (c_X1_get n kS_45 eq1) (x_cwVN C0 mw_302 mw_304 mw_7 mw_46 mw_305 hd_yX1_get ⟨rfl, rfl, Nat.le_of_ble_eq_true rfl, Nat.le_of_ble_eq_true rfl⟩) kS_45.1 rfl (wfS_1 kS_45.2) rfl ⟨Nat.zero_le _, Nat.zero_le _⟩ (Nat.le_of_ble_eq_true rfl) dX2_programsInLog_23 ?_
      refine x_pc (pc' := 26) rfl ?_
      refine x_ishl C0 dX2_programsInLog_26 ?_
      refine x_ior C0 dX2_programsInLog_27 ?_
      refine x_istore_n C0 dX2_programsInLog_28 rfl (L' := [(1, _), (0, _), (2, _)]) (by decide) rfl ?_
      refine x_iinc C0 (v := 1) (L' := [(2, _), (1, _), (0, _)]) dX2_programsInLog_29 2 rfl ki_1 (by decide) rfl ?_
      refine x_goto C0 (tgt := 4) dX2_programsInLog_32 rfl ?_
      refine x_sub [2, 1, 0] (L' := [(0, _), (1, _), (2, _)]) rfl ?_
      refine x_pc (pc' := 4) rfl ?_
      exact ih _ _ h
    · refine x_iload_n C0 dX2_programsInLog_35 rfl 1 rfl ?_
      refine x_pureS1 C0 (fun ad' => c_J6_bitCount rfl) (x_cwS C0 mw_504 mw_505 mw_50 mw_506 hd_yJ6_bitCount_0f7a4 ⟨rfl, rfl, Nat.le_of_ble_eq_true rfl, Nat.le_of_ble_eq_true rfl⟩) ⟨Nat.zero_le _, Nat.zero_le _⟩ (Nat.le_of_ble_eq_true rfl) dX2_programsInLog_36 ?_
      obtain rfl := x_inj h
      exact x_iret C0 dX2_programsInLog_39
set_option maxRecDepth 4000 in
set_option maxHeartbeats 2000000 in
theorem c_X2_programsInLog {l : Launch} {D : va_G} {cs : Nat → ClassId} {ad : Nat → Nat} (n : Nat) {σ : xM}  {res : Int32} (h : F_X2_programsInLog n σ = some res) : x_Met l yX2_programsInLog [Cond.code yX2_programsInLog cX2_programsInLog 3 (some FieldType.int)] ({ frames := 2, cells := 0, slots := 0, locals := 44 } : Room) D vwCl (xtys cs) 47 ad (wfS cs ad) [.ref (ad 0)] σ (some (.int res)) σ := by
  refine x_Met_of (L0 := [(0, .ref (ad 0))]) (own := RX2) (by decide) rfl rfl wfS_loc (Nat.le_of_ble_eq_true rfl) rfl ?_
  intro p e s m args below meth c A C0
  refine x_iconst C0 (v := 0) dX2_programsInLog_0 ki_0 ?_
  refine x_istore_n C0 dX2_programsInLog_1 rfl (L' := [(1, _), (0, _)]) (by decide) rfl ?_
  refine x_iconst C0 (v := 0) dX2_programsInLog_2 ki_0 ?_
  refine x_istore_n C0 dX2_programsInLog_3 rfl (L' := [(2, _), (1, _), (0, _)]) (by decide) rfl ?_
  refine x_sub [2, 1, 0] (L' := [(0, _), (1, _), (2, _)]) rfl ?_
  refine x_pc (pc' := 4) rfl ?_
  exact b_X2_programsInLog_4 C0 n n _ _ h
set_option maxRecDepth 4000 in
set_option maxHeartbeats 2000000 in
theorem b_X4_remember_56 {p : Program} {l : Launch} {e : Env} {s : State} {m : MethodId} {args : Array Value} {below : List Frame} {meth : Method} {c : Code} {D : va_G} {cs : Nat → ClassId} {ad : Nat → Nat} {A : Nat → Prop} (C0 : x_C p s m args meth c D vwCl (xtys cs) A s.heap 333 ad (wfT cs ad) cX4_remember 3 RX4 none)  (n : Nat) {res : xM} : ∀ (σ : xM), B_X4_remember_56 n σ = some res → x_W p l e ({ frames := 4, cells := 0, slots := 0, locals := 86 } : Room) s m args below meth c D vwCl A s.heap 333 ad (wfT cs ad) 3 0 0 (x_E below args s D vwCl 333 ad (wfT cs ad) A none res) σ 56 [(0, .ref (ad 0))] [] := by
  intro σ h
  refine x_aload_n C0 dX4_remember_56 rfl 0 rfl ?_
  refine x_get C0 inu4 rfl 3 (by decide) mw_245 (by decide) wfT_r0 rfl dX4_remember_57 ?_
  refine x_aload_n C0 dX4_remember_60 rfl 0 rfl ?_
  refine x_get C0 inu4 rfl 6 (by decide) mw_248 (by decide) wfT_r0 rfl dX4_remember_61 ?_
  refine x_aald C0 4 rfl (by decide) wfT_r1 dX4_remember_64 h (fun _ h => ?_)
  obtain ⟨o2, eo2, h⟩ := x_bind h
  refine x_top (v' := .ref (ad (o2 + 0))) (x_rfo eo2) ?_
  refine x_aload_n C0 dX4_remember_65 rfl 0 rfl ?_
  refine x_get C0 inu4 rfl 0 (by decide) mw_242 (by decide) wfT_r0 rfl dX4_remember_66 ?_
  refine x_pc (pc' := 69) rfl ?_
  obtain ⟨q3, eq3, h⟩ := x_bind h
  refine x_callVN10 C0 (c_X2_copyFrom n (x_xt (xo_hs eo2) kS_0) (x_xt xo_4 kS_0) eq3) (x_cwVN C0 mw_277 mw_279 mw_2 mw_45 mw_280 hd_yX2_copyFrom ⟨rfl, rfl, Nat.le_of_ble_eq_true rfl, Nat.le_of_ble_eq_true rfl⟩) (x_otr (x_xt (xo_hs eo2) kS_0)) rfl (wfT_2 (x_xt (xo_hs eo2) kS_0)) rfl ⟨Nat.zero_le _, Nat.zero_le _⟩ (Nat.le_of_ble_eq_true rfl) dX4_remember_69 ?_
  refine x_aload_n C0 dX4_remember_72 rfl 0 rfl ?_
  refine x_dup C0 dX4_remember_73 rfl ?_
  refine x_get C0 inu4 rfl 6 (by decide) mw_248 (by decide) wfT_r0 rfl dX4_remember_74 ?_
  refine x_iconst C0 (v := 1) dX4_remember_77 ki_1 ?_
  refine x_iadd C0 dX4_remember_78 ?_
  refine x_put C0 inu4 tyX4 tyX4_ok nmX4 rfl 6 (by decide) mw_248 rfl rfl rfl (by decide) wfT_r0 (Nat.le_of_ble_eq_true rfl) wpT_r0_6 (fun r' h' k' => x_up_ne r' h' k') dX4_remember_79 ?_
  obtain rfl := x_inj h
  exact x_vret C0 dX4_remember_82
set_option maxRecDepth 4000 in
set_option maxHeartbeats 2000000 in
theorem b_X4_remember_17 {p : Program} {l : Launch} {e : Env} {s : State} {m : MethodId} {args : Array Value} {below : List Frame} {meth : Method} {c : Code} {D : va_G} {cs : Nat → ClassId} {ad : Nat → Nat} {A : Nat → Prop} (C0 : x_C p s m args meth c D vwCl (xtys cs) A s.heap 333 ad (wfT cs ad) cX4_remember 3 RX4 none)  (n : Nat) {res : xM} : ∀ (f : Nat) (σ : xM) (v1 : Int32) (o1 : Nat) (l2 : Int32) (kh1 : hsO v1 = some o1), B_X4_remember_17 n f σ v1 o1 l2 = some res → x_W p l e ({ frames := 4, cells := 0, slots := 0, locals := 86 } : Room) s m args below meth c D vwCl A s.heap 333 ad (wfT cs ad) 3 0 0 (x_E below args s D vwCl 333 ad (wfT cs ad) A none res) σ 17 [(0, .ref (ad 0)), (1, .ref (ad (o1 + 0))), (2, .int l2)] [] := by
  intro f
  induction f with
  | zero =>
    intro σ v1 o1 l2 kh1 h
    cases h
  | succ f ih =>
    intro σ v1 o1 l2 kh1 h
    refine x_iload_n C0 dX4_remember_17 rfl 2 rfl ?_
    refine x_iconst C0 (v := 1) dX4_remember_18 ki_1 ?_
    refine x_iadd C0 dX4_remember_19 ?_
    refine x_iconst C0 (v := 4) dX4_remember_20 ki_4 ?_
    refine x_icmp_ge C0 (tgt := 44) dX4_remember_21 rfl h (fun _ h => ?_) (fun _ h => ?_)
    · refine x_aload_n C0 dX4_remember_24 rfl 0 rfl ?_
      refine x_get C0 inu4 rfl 3 (by decide) mw_245 (by decide) wfT_r0 rfl dX4_remember_25 ?_
      refine x_iload_n C0 dX4_remember_28 rfl 2 rfl ?_
      refine x_aload_n C0 dX4_remember_29 rfl 0 rfl ?_
      refine x_get C0 inu4 rfl 3 (by decide) mw_245 (by decide) wfT_r0 rfl dX4_remember_30 ?_
      refine x_iload_n C0 dX4_remember_33 rfl 2 rfl ?_
      refine x_iconst C0 (v := 1) dX4_remember_34 ki_1 ?_
      refine x_pc (pc' := 35) rfl ?_
      refine x_iadd C0 dX4_remember_35 ?_
      refine x_aald C0 4 rfl (by decide) wfT_r1 dX4_remember_36 h (fun _ h => ?_)
      obtain ⟨o5, eo5, h⟩ := x_bind h
      refine x_top (v' := .ref (ad (o5 + 0))) (x_rfo eo5) ?_
      refine x_aast C0 (rc := (RX2, TX2, 13)) 4 rfl (by decide) (x_otr (x_xt (xo_hs eo5) kS_0)) wfT_r1 (wfT_2 (x_xt (xo_hs eo5) kS_0)) rfl (wpT_r1 eo5) (fun r' h' k' => x_up_ne r' h' k') dX4_remember_37 h (fun _ h => ?_)
      refine x_iinc C0 (v := 1) (L' := [(2, _), (0, _), (1, _)]) dX4_remember_38 2 rfl ki_1 (by decide) rfl ?_
      refine x_goto C0 (tgt := 17) dX4_remember_41 rfl ?_
      refine x_sub [1, 2, 0] (L' := [(0, _), (1, _), (2, _)]) rfl ?_
      refine x_pc (pc' := 17) rfl ?_
      exact ih _ _ _ _ kh1 h
    · refine x_aload_n C0 dX4_remember_44 rfl 0 rfl ?_
      refine x_get C0 inu4 rfl 3 (by decide) mw_245 (by decide) wfT_r0 rfl dX4_remember_45 ?_
      refine x_iconst C0 (v := 3) dX4_remember_48 ki_3 ?_
      refine x_aload_n C0 dX4_remember_49 rfl 1 rfl ?_
      refine x_aast C0 (rc := (RX2, TX2, 13)) 4 rfl (by decide) (x_otr (x_xt (xo_hs kh1) kS_0)) wfT_r1 (wfT_2 (x_xt (xo_hs kh1) kS_0)) rfl (wpT_r1 kh1) (fun r' h' k' => x_up_ne r' h' k') dX4_remember_50 h (fun _ h => ?_)
      refine x_aload_n C0 dX4_remember_51 rfl 0 rfl ?_
      refine x_iconst C0 (v := 3) dX4_remember_52 ki_3 ?_
      refine x_pc (pc' := 53) rfl ?_
      refine x_put C0 inu4 tyX4 tyX4_ok nmX4 rfl 6 (by decide) mw_248 rfl rfl rfl (by decide) wfT_r0 (Nat.le_of_ble_eq_true rfl) wpT_r0_6 (fun r' h' k' => x_up_ne r' h' k') dX4_remember_53 ?_
      refine x_sub [0] (L' := [(0, _)]) rfl ?_
      refine x_pc (pc' := 56) rfl ?_
      exact b_X4_remember_56 C0 n _ h
set_option maxRecDepth 4000 in
set_option maxHeartbeats 2000000 in
theorem c_X4_remember {l : Launch} {D : va_G} {cs : Nat → ClassId} {ad : Nat → Nat} (n : Nat) {σ : xM}  {res : xM} (h : F_X4_remember n σ = some res) : x_Met l yX4_remember [Cond.code yX4_remember cX4_remember 3 none] ({ frames := 4, cells := 0, slots := 0, locals := 86 } : Room) D vwCl (xtys cs) 333 ad (wfT cs ad) [.ref (ad 0)] σ none res := by
  refine x_Met_of (L0 := [(0, .ref (ad 0))]) (own := RX4) (by decide) rfl rfl wfT_loc (Nat.le_of_ble_eq_true rfl) rfl ?_
  intro p e s m args below meth c A C0
  refine x_aload_n C0 dX4_remember_0 rfl 0 rfl ?_
  refine x_get C0 inu4 rfl 6 (by decide) mw_248 (by decide) wfT_r0 rfl dX4_remember_1 ?_
  refine x_iconst C0 (v := 4) dX4_remember_4 ki_4 ?_
  refine x_icmp_lt C0 (tgt := 56) dX4_remember_5 rfl h (fun _ h => ?_) (fun _ h => ?_)
  · refine x_sub [0] (L' := [(0, _)]) rfl ?_
    refine x_pc (pc' := 56) rfl ?_
    exact b_X4_remember_56 C0 n _ h
  · refine x_aload_n C0 dX4_remember_8 rfl 0 rfl ?_
    refine x_get C0 inu4 rfl 3 (by decide) mw_245 (by decide) wfT_r0 rfl dX4_remember_9 ?_
    refine x_iconst C0 (v := 0) dX4_remember_12 ki_0 ?_
    refine x_aald C0 4 rfl (by decide) wfT_r1 dX4_remember_13 h (fun _ h => ?_)
    obtain ⟨o1, eo1, h⟩ := x_bind h
    refine x_top (v' := .ref (ad (o1 + 0))) (x_rfo eo1) ?_
    refine x_astore_n C0 dX4_remember_14 rfl (L' := [(1, _), (0, _)]) (by decide) rfl ?_
    refine x_iconst C0 (v := 0) dX4_remember_15 ki_0 ?_
    refine x_istore_n C0 dX4_remember_16 rfl (L' := [(2, _), (1, _), (0, _)]) (by decide) rfl ?_
    refine x_sub [2, 1, 0] (L' := [(0, _), (1, _), (2, _)]) rfl ?_
    refine x_pc (pc' := 17) rfl ?_
    exact b_X4_remember_17 C0 n n _ _ _ _ eo1 h
set_option maxRecDepth 4000 in
set_option maxHeartbeats 2000000 in
theorem b_X4_shape_47 {p : Program} {l : Launch} {e : Env} {s : State} {m : MethodId} {args : Array Value} {below : List Frame} {meth : Method} {c : Code} {D : va_G} {cs : Nat → ClassId} {ad : Nat → Nat} {A : Nat → Prop} (C0 : x_C p s m args meth c D vwCl (xtys cs) A s.heap 333 ad (wfT cs ad) cX4_shape 4 RX4 (some FieldType.int))  (n : Nat) {res : Int32 × xM} : ∀ (σ : xM) (l1 : Int32) (l2 : Int32), B_X4_shape_47 n σ l1 l2 = some res → x_W p l e ({ frames := 5, cells := 0, slots := 0, locals := 108 } : Room) s m args below meth c D vwCl A s.heap 333 ad (wfT cs ad) 4 0 0 (x_E below args s D vwCl 333 ad (wfT cs ad) A (some (.int res.1)) res.2) σ 47 [(0, .ref (ad 0)), (1, .int l1), (2, .int l2)] [] := by
  intro σ l1 l2 h
  refine x_aload_n C0 dX4_shape_47 rfl 0 rfl ?_
  obtain ⟨q1, eq1, h⟩ := x_bind h
  refine x_callV00 C0 (c_X4_remember n eq1) (x_cwV C0 mw_273 mw_275 mw_1 mw_44 mw_276 hd_yX4_remember ⟨rfl, rfl, Nat.le_of_ble_eq_true rfl, Nat.le_of_ble_eq_true rfl⟩) (by decide) rfl wfT_r0 rfl ⟨Nat.zero_le _, Nat.zero_le _⟩ (Nat.le_of_ble_eq_true rfl) dX4_shape_48 ?_
  refine x_aload_n C0 dX4_shape_51 rfl 0 rfl ?_
  refine x_get C0 inu4 rfl 0 (by decide) mw_242 (by decide) wfT_r0 rfl dX4_shape_52 ?_
  obtain ⟨q2, eq2, h⟩ := x_bind h
  refine x_subVN01 C0 (n' := 47) (ι := fun r => 4 + r) (wf' := wfS cs (fun r => ad (4 + r))) (x_i1 xo_4) x_i2 (fun r hr => wfT_sub xo_4 hr) (fun r hr => wfT_pt xo_4 hr) x_pt_same (c_X2_throwAllOut n eq2) (x_cwVN C0 mw_293 mw_295 mw_5 mw_45 mw_296 hd_yX2_throwAllOut ⟨rfl, rfl, Nat.le_of_ble_eq_true rfl, Nat.le_of_ble_eq_true rfl⟩) (x_xt xo_4 kS_0).2.1 rfl (wfS_2 (x_xt xo_4 kS_0).2.2) rfl ⟨Nat.zero_le _, Nat.zero_le _⟩ (Nat.le_of_ble_eq_true rfl) dX4_shape_55 ?_
  refine x_istore_n C0 dX4_shape_58 rfl (L' := [(3, _), (0, _), (1, _), (2, _)]) (by decide) rfl ?_
  refine x_aload_n C0 dX4_shape_59 rfl 1 rfl ?_
  refine x_pc (pc' := 60) rfl ?_
  refine x_get C0 inu4 rfl 0 (by decide) mw_242 (by decide) wfT_r0 rfl dX4_shape_60 ?_
  refine x_getN C0 inu2 rfl 1 (by decide) mw_177 (x_otr (x_xt xo_4 kS_0)) (wfT_2 (x_xt xo_4 kS_0)) rfl dX4_shape_63 ?_
  refine x_top (v' := .ref (ad (4 + 18))) rfl ?_
  refine x_iconst C0 (v := 0) dX4_shape_66 ki_0 ?_
  refine x_putN C0 inu1 tyX1 tyX1_ok nmX1 rfl 3 (by decide) mw_79 rfl rfl rfl (x_otr (x_xt xo_4 kS_18)) (wfT_1 (x_xt xo_4 kS_18)) (Nat.le_of_ble_eq_true rfl) (wpT_1_3 (x_xt xo_4 kS_18)) (fun r' h' k' => x_up_ne r' h' k') dX4_shape_67 ?_
  refine x_aload_n C0 dX4_shape_70 rfl 1 rfl ?_
  refine x_get C0 inu4 rfl 0 (by decide) mw_242 (by decide) wfT_r0 rfl dX4_shape_71 ?_
  refine x_iload_n C0 dX4_shape_74 rfl 2 rfl ?_
  refine x_putN C0 inu2 tyX2 tyX2_ok nmX2 rfl 4 (by decide) mw_182 rfl rfl rfl (x_otr (x_xt xo_4 kS_0)) (wfT_2 (x_xt xo_4 kS_0)) (Nat.le_of_ble_eq_true rfl) (wpT_2_4 (x_xt xo_4 kS_0)) (fun r' h' k' => x_up_ne r' h' k') dX4_shape_75 ?_
  refine x_pc (pc' := 78) rfl ?_
  refine x_aload_n C0 dX4_shape_78 rfl 1 rfl ?_
  refine x_get C0 inu4 rfl 0 (by decide) mw_242 (by decide) wfT_r0 rfl dX4_shape_79 ?_
  refine x_iload_n C0 dX4_shape_82 rfl 3 rfl ?_
  refine x_putN C0 inu2 tyX2 tyX2_ok nmX2 rfl 5 (by decide) mw_184 rfl rfl rfl (x_otr (x_xt xo_4 kS_0)) (wfT_2 (x_xt xo_4 kS_0)) (Nat.le_of_ble_eq_true rfl) (wpT_2_5 (x_xt xo_4 kS_0)) (fun r' h' k' => x_up_ne r' h' k') dX4_shape_83 ?_
  refine x_iload_n C0 dX4_shape_86 rfl 0 rfl ?_
  obtain rfl := x_inj h
  exact x_iret C0 dX4_shape_87
set_option maxRecDepth 4000 in
set_option maxHeartbeats 2000000 in
theorem c_X4_shape {l : Launch} {D : va_G} {cs : Nat → ClassId} {ad : Nat → Nat} (n : Nat) {σ : xM} {x1 : Int32} {x2 : Int32}  {res : Int32 × xM} (h : F_X4_shape n σ x1 x2 = some res) : x_Met l yX4_shape [Cond.code yX4_shape cX4_shape 4 (some FieldType.int)] ({ frames := 5, cells := 0, slots := 0, locals := 108 } : Room) D vwCl (xtys cs) 333 ad (wfT cs ad) [.ref (ad 0), .int x1, .int x2] σ (some (.int res.1)) res.2 := by
  refine x_Met_of (L0 := [(0, .ref (ad 0)), (1, .int x1), (2, .int x2)]) (own := RX4) (by decide) rfl rfl wfT_loc (Nat.le_of_ble_eq_true rfl) rfl ?_
  intro p e s m args below meth c A C0
  refine x_iload_n C0 dX4_shape_0 rfl 1 rfl ?_
  refine x_iconst C0 (v := 1) dX4_shape_1 ki_1 ?_
  refine x_bipush C0 (v := 8) dX4_shape_2 kb_8 ?_
  refine x_pureS3 C0 (fun ad' => c_X4_isOutside rfl) (x_cwS C0 mw_268 mw_269 mw_44 mw_270 hd_yX4_isOutside ⟨rfl, rfl, Nat.le_of_ble_eq_true rfl, Nat.le_of_ble_eq_true rfl⟩) ⟨Nat.zero_le _, Nat.zero_le _⟩ (Nat.le_of_ble_eq_true rfl) dX4_shape_4 ?_
  refine x_if_ne C0 (tgt := 19) dX4_shape_7 rfl h (fun _ h => ?_) (fun _ h => ?_)
  · refine x_iload_n C0 dX4_shape_10 rfl 2 rfl ?_
    refine x_iconst C0 (v := 1) dX4_shape_11 ki_1 ?_
    refine x_iconst C0 (v := 4) dX4_shape_12 ki_4 ?_
    refine x_pureS3 C0 (fun ad' => c_X4_isOutside rfl) (x_cwS C0 mw_268 mw_269 mw_44 mw_270 hd_yX4_isOutside ⟨rfl, rfl, Nat.le_of_ble_eq_true rfl, Nat.le_of_ble_eq_true rfl⟩) ⟨Nat.zero_le _, Nat.zero_le _⟩ (Nat.le_of_ble_eq_true rfl) dX4_shape_13 ?_
    refine x_if_eq C0 (tgt := 22) dX4_shape_16 rfl h (fun _ h => ?_) (fun _ h => ?_)
    · refine x_iload_n C0 dX4_shape_22 rfl 1 rfl ?_
      refine x_aload_n C0 dX4_shape_23 rfl 0 rfl ?_
      refine x_get C0 inu4 rfl 0 (by decide) mw_242 (by decide) wfT_r0 rfl dX4_shape_24 ?_
      refine x_getN C0 inu2 rfl 4 (by decide) mw_182 (x_otr (x_xt xo_4 kS_0)) (wfT_2 (x_xt xo_4 kS_0)) rfl dX4_shape_27 ?_
      refine x_icmp_ne C0 (tgt := 47) dX4_shape_30 rfl h (fun _ h => ?_) (fun _ h => ?_)
      · refine x_iload_n C0 dX4_shape_33 rfl 2 rfl ?_
        refine x_aload_n C0 dX4_shape_34 rfl 0 rfl ?_
        refine x_get C0 inu4 rfl 0 (by decide) mw_242 (by decide) wfT_r0 rfl dX4_shape_35 ?_
        refine x_getN C0 inu2 rfl 5 (by decide) mw_184 (x_otr (x_xt xo_4 kS_0)) (wfT_2 (x_xt xo_4 kS_0)) rfl dX4_shape_38 ?_
        refine x_icmp_ne C0 (tgt := 47) dX4_shape_41 rfl h (fun _ h => ?_) (fun _ h => ?_)
        · refine x_ldc C0 mw_272 dX4_shape_44 ?_
          obtain rfl := x_inj h
          exact x_iret C0 dX4_shape_46
        · refine x_sub [0, 1, 2] (L' := [(0, _), (1, _), (2, _)]) rfl ?_
          refine x_pc (pc' := 47) rfl ?_
          exact b_X4_shape_47 C0 n _ _ _ h
      · refine x_sub [0, 1, 2] (L' := [(0, _), (1, _), (2, _)]) rfl ?_
        refine x_pc (pc' := 47) rfl ?_
        exact b_X4_shape_47 C0 n _ _ _ h
    · refine x_ldc C0 mw_271 dX4_shape_19 ?_
      obtain rfl := x_inj h
      exact x_iret C0 dX4_shape_21
  · refine x_ldc C0 mw_271 dX4_shape_19 ?_
    obtain rfl := x_inj h
    exact x_iret C0 dX4_shape_21
set_option maxRecDepth 4000 in
set_option maxHeartbeats 2000000 in
theorem c_X4_flush {l : Launch} {D : va_G} {cs : Nat → ClassId} {ad : Nat → Nat} (n : Nat) {σ : xM}  {res : Int32 × xM} (h : F_X4_flush n σ = some res) : x_Met l yX4_flush [Cond.code yX4_flush cX4_flush 1 (some FieldType.int)] ({ frames := 5, cells := 0, slots := 0, locals := 108 } : Room) D vwCl (xtys cs) 333 ad (wfT cs ad) [.ref (ad 0)] σ (some (.int res.1)) res.2 := by
  refine x_Met_of (L0 := [(0, .ref (ad 0))]) (own := RX4) (by decide) rfl rfl wfT_loc (Nat.le_of_ble_eq_true rfl) rfl ?_
  intro p e s m args below meth c A C0
  refine x_aload_n C0 dX4_flush_0 rfl 0 rfl ?_
  refine x_get C0 inu4 rfl 0 (by decide) mw_242 (by decide) wfT_r0 rfl dX4_flush_1 ?_
  obtain ⟨q1, eq1, h⟩ := x_bind h
  refine x_subVN01 C0 (n' := 47) (ι := fun r => 4 + r) (wf' := wfS cs (fun r => ad (4 + r))) (x_i1 xo_4) x_i2 (fun r hr => wfT_sub xo_4 hr) (fun r hr => wfT_sub xo_4 hr) (fun _ _ _ _ => rfl) (c_X2_linesInCache n eq1) (x_cwVN C0 mw_484 mw_486 mw_37 mw_45 mw_487 hd_yX2_linesInCache ⟨rfl, rfl, Nat.le_of_ble_eq_true rfl, Nat.le_of_ble_eq_true rfl⟩) (x_xt xo_4 kS_0).2.1 rfl (wfS_2 (x_xt xo_4 kS_0).2.2) rfl ⟨Nat.zero_le _, Nat.zero_le _⟩ (Nat.le_of_ble_eq_true rfl) dX4_flush_4 ?_
  refine x_if_ne C0 (tgt := 13) dX4_flush_7 rfl h (fun _ h => ?_) (fun _ h => ?_)
  · refine x_ldc C0 mw_272 dX4_flush_10 ?_
    obtain rfl := x_inj h
    exact x_iret C0 dX4_flush_12
  · refine x_aload_n C0 dX4_flush_13 rfl 0 rfl ?_
    obtain ⟨q2, eq2, h⟩ := x_bind h
    refine x_callV00 C0 (c_X4_remember n eq2) (x_cwV C0 mw_273 mw_275 mw_1 mw_44 mw_276 hd_yX4_remember ⟨rfl, rfl, Nat.le_of_ble_eq_true rfl, Nat.le_of_ble_eq_true rfl⟩) (by decide) rfl wfT_r0 rfl ⟨Nat.zero_le _, Nat.zero_le _⟩ (Nat.le_of_ble_eq_true rfl) dX4_flush_14 ?_
    refine x_aload_n C0 dX4_flush_17 rfl 0 rfl ?_
    refine x_get C0 inu4 rfl 0 (by decide) mw_242 (by decide) wfT_r0 rfl dX4_flush_18 ?_
    obtain ⟨q3, eq3, h⟩ := x_bind h
    refine x_subVN01 C0 (n' := 47) (ι := fun r => 4 + r) (wf' := wfS cs (fun r => ad (4 + r))) (x_i1 xo_4) x_i2 (fun r hr => wfT_sub xo_4 hr) (fun r hr => wfT_pt xo_4 hr) x_pt_same (c_X2_throwAllOut n eq3) (x_cwVN C0 mw_293 mw_295 mw_5 mw_45 mw_296 hd_yX2_throwAllOut ⟨rfl, rfl, Nat.le_of_ble_eq_true rfl, Nat.le_of_ble_eq_true rfl⟩) (x_xt xo_4 kS_0).2.1 rfl (wfS_2 (x_xt xo_4 kS_0).2.2) rfl ⟨Nat.zero_le _, Nat.zero_le _⟩ (Nat.le_of_ble_eq_true rfl) dX4_flush_21 ?_
    obtain rfl := x_inj h
    exact x_iret C0 dX4_flush_24
set_option maxRecDepth 4000 in
set_option maxHeartbeats 2000000 in
theorem c_X4_addHelper {l : Launch} {D : va_G} {cs : Nat → ClassId} {ad : Nat → Nat} (n : Nat) {σ : xM} {x1 : Int32} {x2 : Int32} {x3 : Int32}  {res : Int32 × xM} (h : F_X4_addHelper n σ x1 x2 x3 = some res) : x_Met l yX4_addHelper [Cond.code yX4_addHelper cX4_addHelper 4 (some FieldType.int)] ({ frames := 5, cells := 0, slots := 0, locals := 108 } : Room) D vwCl (xtys cs) 333 ad (wfT cs ad) [.ref (ad 0), .int x1, .int x2, .int x3] σ (some (.int res.1)) res.2 := by
  refine x_Met_of (L0 := [(0, .ref (ad 0)), (1, .int x1), (2, .int x2), (3, .int x3)]) (own := RX4) (by decide) rfl rfl wfT_loc (Nat.le_of_ble_eq_true rfl) rfl ?_
  intro p e s m args below meth c A C0
  refine x_iload_n C0 dX4_addHelper_0 rfl 1 rfl ?_
  refine x_iconst C0 (v := 0) dX4_addHelper_1 ki_0 ?_
  refine x_iconst C0 (v := 2) dX4_addHelper_2 ki_2 ?_
  refine x_pureS3 C0 (fun ad' => c_X4_isOutside rfl) (x_cwS C0 mw_268 mw_269 mw_44 mw_270 hd_yX4_isOutside ⟨rfl, rfl, Nat.le_of_ble_eq_true rfl, Nat.le_of_ble_eq_true rfl⟩) ⟨Nat.zero_le _, Nat.zero_le _⟩ (Nat.le_of_ble_eq_true rfl) dX4_addHelper_3 ?_
  refine x_if_ne C0 (tgt := 28) dX4_addHelper_6 rfl h (fun _ h => ?_) (fun _ h => ?_)
  · refine x_iload_n C0 dX4_addHelper_9 rfl 2 rfl ?_
    refine x_iconst C0 (v := 1) dX4_addHelper_10 ki_1 ?_
    refine x_iconst C0 (v := 4) dX4_addHelper_11 ki_4 ?_
    refine x_pureS3 C0 (fun ad' => c_X4_isOutside rfl) (x_cwS C0 mw_268 mw_269 mw_44 mw_270 hd_yX4_isOutside ⟨rfl, rfl, Nat.le_of_ble_eq_true rfl, Nat.le_of_ble_eq_true rfl⟩) ⟨Nat.zero_le _, Nat.zero_le _⟩ (Nat.le_of_ble_eq_true rfl) dX4_addHelper_12 ?_
    refine x_if_ne C0 (tgt := 28) dX4_addHelper_15 rfl h (fun _ h => ?_) (fun _ h => ?_)
    · refine x_iload_n C0 dX4_addHelper_18 rfl 3 rfl ?_
      refine x_iconst C0 (v := 1) dX4_addHelper_19 ki_1 ?_
      refine x_bipush C0 (v := 9) dX4_addHelper_20 kb_9 ?_
      refine x_pureS3 C0 (fun ad' => c_X4_isOutside rfl) (x_cwS C0 mw_268 mw_269 mw_44 mw_270 hd_yX4_isOutside ⟨rfl, rfl, Nat.le_of_ble_eq_true rfl, Nat.le_of_ble_eq_true rfl⟩) ⟨Nat.zero_le _, Nat.zero_le _⟩ (Nat.le_of_ble_eq_true rfl) dX4_addHelper_22 ?_
      refine x_if_eq C0 (tgt := 31) dX4_addHelper_25 rfl h (fun _ h => ?_) (fun _ h => ?_)
      · refine x_aload_n C0 dX4_addHelper_31 rfl 0 rfl ?_
        refine x_get C0 inu4 rfl 0 (by decide) mw_242 (by decide) wfT_r0 rfl dX4_addHelper_32 ?_
        refine x_getN C0 inu2 rfl 6 (by decide) mw_186 (x_otr (x_xt xo_4 kS_0)) (wfT_2 (x_xt xo_4 kS_0)) rfl dX4_addHelper_35 ?_
        refine x_bipush C0 (v := 6) dX4_addHelper_38 kb_6 ?_
        refine x_icmp_lt C0 (tgt := 46) dX4_addHelper_40 rfl h (fun _ h => ?_) (fun _ h => ?_)
        · refine x_aload_n C0 dX4_addHelper_46 rfl 0 rfl ?_
          obtain ⟨q1, eq1, h⟩ := x_bind h
          refine x_callV00 C0 (c_X4_remember n eq1) (x_cwV C0 mw_273 mw_275 mw_1 mw_44 mw_276 hd_yX4_remember ⟨rfl, rfl, Nat.le_of_ble_eq_true rfl, Nat.le_of_ble_eq_true rfl⟩) (by decide) rfl wfT_r0 rfl ⟨Nat.zero_le _, Nat.zero_le _⟩ (Nat.le_of_ble_eq_true rfl) dX4_addHelper_47 ?_
          refine x_aload_n C0 dX4_addHelper_50 rfl 0 rfl ?_
          refine x_get C0 inu4 rfl 0 (by decide) mw_242 (by decide) wfT_r0 rfl dX4_addHelper_51 ?_
          refine x_iload_n C0 dX4_addHelper_54 rfl 1 rfl ?_
          refine x_iload_n C0 dX4_addHelper_55 rfl 2 rfl ?_
          refine x_iload_n C0 dX4_addHelper_56 rfl 3 rfl ?_
          refine x_pc (pc' := 57) rfl ?_
          obtain ⟨q2, eq2, h⟩ := x_bind h
          refine x_subVN31 C0 (n' := 47) (ι := fun r => 4 + r) (wf' := wfS cs (fun r => ad (4 + r))) (x_i1 xo_4) x_i2 (fun r hr => wfT_sub xo_4 hr) (fun r hr => wfT_pt xo_4 hr) x_pt_same (c_X2_hire n eq2) (x_cwVN C0 mw_342 mw_344 mw_15 mw_45 mw_345 hd_yX2_hire ⟨rfl, rfl, Nat.le_of_ble_eq_true rfl, Nat.le_of_ble_eq_true rfl⟩) (x_xt xo_4 kS_0).2.1 rfl (wfS_2 (x_xt xo_4 kS_0).2.2) rfl ⟨Nat.zero_le _, Nat.zero_le _⟩ (Nat.le_of_ble_eq_true rfl) dX4_addHelper_57 ?_
          obtain rfl := x_inj h
          exact x_iret C0 dX4_addHelper_60
        · refine x_ldc C0 mw_341 dX4_addHelper_43 ?_
          obtain rfl := x_inj h
          exact x_iret C0 dX4_addHelper_45
      · refine x_ldc C0 mw_271 dX4_addHelper_28 ?_
        obtain rfl := x_inj h
        exact x_iret C0 dX4_addHelper_30
    · refine x_ldc C0 mw_271 dX4_addHelper_28 ?_
      obtain rfl := x_inj h
      exact x_iret C0 dX4_addHelper_30
  · refine x_ldc C0 mw_271 dX4_addHelper_28 ?_
    obtain rfl := x_inj h
    exact x_iret C0 dX4_addHelper_30
set_option maxRecDepth 4000 in
set_option maxHeartbeats 2000000 in
theorem c_X4_setDegree {l : Launch} {D : va_G} {cs : Nat → ClassId} {ad : Nat → Nat} (n : Nat) {σ : xM} {x1 : Int32} {x2 : Int32}  {res : Int32 × xM} (h : F_X4_setDegree n σ x1 x2 = some res) : x_Met l yX4_setDegree [Cond.code yX4_setDegree cX4_setDegree 5 (some FieldType.int)] ({ frames := 5, cells := 0, slots := 0, locals := 108 } : Room) D vwCl (xtys cs) 333 ad (wfT cs ad) [.ref (ad 0), .int x1, .int x2] σ (some (.int res.1)) res.2 := by
  refine x_Met_of (L0 := [(0, .ref (ad 0)), (1, .int x1), (2, .int x2)]) (own := RX4) (by decide) rfl rfl wfT_loc (Nat.le_of_ble_eq_true rfl) rfl ?_
  intro p e s m args below meth c A C0
  refine x_aload_n C0 dX4_setDegree_0 rfl 0 rfl ?_
  refine x_get C0 inu4 rfl 0 (by decide) mw_242 (by decide) wfT_r0 rfl dX4_setDegree_1 ?_
  refine x_iload_n C0 dX4_setDegree_4 rfl 1 rfl ?_
  obtain ⟨q1, eq1, h⟩ := x_bind h
  refine x_subVN11 C0 (n' := 47) (ι := fun r => 4 + r) (wf' := wfS cs (fun r => ad (4 + r))) (x_i1 xo_4) x_i2 (fun r hr => wfT_sub xo_4 hr) (fun r hr => wfT_sub xo_4 hr) (fun _ _ _ _ => rfl) (c_X2_helperAt n eq1) (x_cwVN C0 mw_464 mw_313 mw_9 mw_45 mw_314 hd_yX2_helperAt ⟨rfl, rfl, Nat.le_of_ble_eq_true rfl, Nat.le_of_ble_eq_true rfl⟩) (x_xt xo_4 kS_0).2.1 rfl (wfS_2 (x_xt xo_4 kS_0).2.2) rfl ⟨Nat.zero_le _, Nat.zero_le _⟩ (Nat.le_of_ble_eq_true rfl) dX4_setDegree_5 ?_
  rcases q1 with _ | c2
  · replace h := x_on h
    refine x_top (v' := .null) rfl ?_
    refine x_astore_nN C0 dX4_setDegree_8 rfl (L' := [(3, _), (0, _), (1, _), (2, _)]) (by decide) rfl ?_
    refine x_aload_nN C0 dX4_setDegree_9 rfl 0 rfl ?_
    refine x_ifnonnullN C0 dX4_setDegree_10 ?_
    refine x_ldc C0 mw_465 dX4_setDegree_13 ?_
    obtain rfl := x_inj h
    exact x_iret C0 dX4_setDegree_15
  · replace h := x_os h
    refine x_top (v' := .ref (ad (4 + c2))) rfl ?_
    have kc2 := tyF_X2_helperAt eq1
    refine x_astore_n C0 dX4_setDegree_8 rfl (L' := [(3, _), (0, _), (1, _), (2, _)]) (by decide) rfl ?_
    refine x_aload_n C0 dX4_setDegree_9 rfl 0 rfl ?_
    refine x_ifnonnull C0 (tgt := 16) dX4_setDegree_10 rfl ?_
    refine x_iload_n C0 dX4_setDegree_16 rfl 3 rfl ?_
    refine x_iconst C0 (v := 1) dX4_setDegree_17 ki_1 ?_
    refine x_iconst C0 (v := 4) dX4_setDegree_18 ki_4 ?_
    refine x_pureS3 C0 (fun ad' => c_X4_isOutside rfl) (x_cwS C0 mw_268 mw_269 mw_44 mw_270 hd_yX4_isOutside ⟨rfl, rfl, Nat.le_of_ble_eq_true rfl, Nat.le_of_ble_eq_true rfl⟩) ⟨Nat.zero_le _, Nat.zero_le _⟩ (Nat.le_of_ble_eq_true rfl) dX4_setDegree_19 ?_
    refine x_pc (pc' := 22) rfl ?_
    refine x_if_eq C0 (tgt := 28) dX4_setDegree_22 rfl h (fun _ h => ?_) (fun _ h => ?_)
    · refine x_aload_n C0 dX4_setDegree_28 rfl 0 rfl ?_
      refine x_getN C0 inu0 rfl 4 (by decide) mw_114 (x_otr (x_xt xo_4 kc2)) (wfT_0 (x_xt xo_4 kc2)) rfl dX4_setDegree_29 ?_
      refine x_iload_n C0 dX4_setDegree_32 rfl 3 rfl ?_
      refine x_icmp_ne C0 (tgt := 39) dX4_setDegree_33 rfl h (fun _ h => ?_) (fun _ h => ?_)
      · refine x_ldc C0 mw_272 dX4_setDegree_36 ?_
        obtain rfl := x_inj h
        exact x_iret C0 dX4_setDegree_38
      · refine x_aload_n C0 dX4_setDegree_39 rfl 1 rfl ?_
        obtain ⟨q3, eq3, h⟩ := x_bind h
        refine x_callV00 C0 (c_X4_remember n eq3) (x_cwV C0 mw_273 mw_275 mw_1 mw_44 mw_276 hd_yX4_remember ⟨rfl, rfl, Nat.le_of_ble_eq_true rfl, Nat.le_of_ble_eq_true rfl⟩) (by decide) rfl wfT_r0 rfl ⟨Nat.zero_le _, Nat.zero_le _⟩ (Nat.le_of_ble_eq_true rfl) dX4_setDegree_40 ?_
        refine x_aload_n C0 dX4_setDegree_43 rfl 0 rfl ?_
        refine x_getN C0 inu0 rfl 4 (by decide) mw_114 (x_otr (x_xt xo_4 kc2)) (wfT_0 (x_xt xo_4 kc2)) rfl dX4_setDegree_44 ?_
        refine x_istore C0 dX4_setDegree_47 (L' := [(4, _), (3, _), (0, _), (1, _), (2, _)]) (by decide) rfl ?_
        refine x_aload_n C0 dX4_setDegree_49 rfl 1 rfl ?_
        refine x_iload_n C0 dX4_setDegree_50 rfl 4 rfl ?_
        refine x_pc (pc' := 51) rfl ?_
        refine x_putN C0 inu0 tyX0 tyX0_ok nmX0 rfl 4 (by decide) mw_114 rfl rfl rfl (x_otr (x_xt xo_4 kc2)) (wfT_0 (x_xt xo_4 kc2)) (Nat.le_of_ble_eq_true rfl) (wpT_0_4 (x_xt xo_4 kc2)) (fun r' h' k' => x_up_ne r' h' k') dX4_setDegree_51 ?_
        refine x_iload C0 dX4_setDegree_54 0 rfl ?_
        obtain rfl := x_inj h
        exact x_iret C0 dX4_setDegree_56
    · refine x_ldc C0 mw_271 dX4_setDegree_25 ?_
      obtain rfl := x_inj h
      exact x_iret C0 dX4_setDegree_27
set_option maxRecDepth 4000 in
set_option maxHeartbeats 2000000 in
theorem c_X4_setTrial {l : Launch} {D : va_G} {cs : Nat → ClassId} {ad : Nat → Nat} (n : Nat) {σ : xM} {x1 : Int32}  {res : Int32 × xM} (h : F_X4_setTrial n σ x1 = some res) : x_Met l yX4_setTrial [Cond.code yX4_setTrial cX4_setTrial 3 (some FieldType.int)] ({ frames := 5, cells := 0, slots := 0, locals := 108 } : Room) D vwCl (xtys cs) 333 ad (wfT cs ad) [.ref (ad 0), .int x1] σ (some (.int res.1)) res.2 := by
  refine x_Met_of (L0 := [(0, .ref (ad 0)), (1, .int x1)]) (own := RX4) (by decide) rfl rfl wfT_loc (Nat.le_of_ble_eq_true rfl) rfl ?_
  intro p e s m args below meth c A C0
  refine x_iload_n C0 dX4_setTrial_0 rfl 1 rfl ?_
  refine x_iconst C0 (v := 1) dX4_setTrial_1 ki_1 ?_
  refine x_bipush C0 (v := 9) dX4_setTrial_2 kb_9 ?_
  refine x_pureS3 C0 (fun ad' => c_X4_isOutside rfl) (x_cwS C0 mw_268 mw_269 mw_44 mw_270 hd_yX4_isOutside ⟨rfl, rfl, Nat.le_of_ble_eq_true rfl, Nat.le_of_ble_eq_true rfl⟩) ⟨Nat.zero_le _, Nat.zero_le _⟩ (Nat.le_of_ble_eq_true rfl) dX4_setTrial_4 ?_
  refine x_if_eq C0 (tgt := 13) dX4_setTrial_7 rfl h (fun _ h => ?_) (fun _ h => ?_)
  · refine x_aload_n C0 dX4_setTrial_13 rfl 0 rfl ?_
    refine x_get C0 inu4 rfl 0 (by decide) mw_242 (by decide) wfT_r0 rfl dX4_setTrial_14 ?_
    refine x_getN C0 inu2 rfl 7 (by decide) mw_188 (x_otr (x_xt xo_4 kS_0)) (wfT_2 (x_xt xo_4 kS_0)) rfl dX4_setTrial_17 ?_
    refine x_iload_n C0 dX4_setTrial_20 rfl 1 rfl ?_
    refine x_icmp_ne C0 (tgt := 27) dX4_setTrial_21 rfl h (fun _ h => ?_) (fun _ h => ?_)
    · refine x_ldc C0 mw_272 dX4_setTrial_24 ?_
      obtain rfl := x_inj h
      exact x_iret C0 dX4_setTrial_26
    · refine x_aload_n C0 dX4_setTrial_27 rfl 0 rfl ?_
      obtain ⟨q1, eq1, h⟩ := x_bind h
      refine x_callV00 C0 (c_X4_remember n eq1) (x_cwV C0 mw_273 mw_275 mw_1 mw_44 mw_276 hd_yX4_remember ⟨rfl, rfl, Nat.le_of_ble_eq_true rfl, Nat.le_of_ble_eq_true rfl⟩) (by decide) rfl wfT_r0 rfl ⟨Nat.zero_le _, Nat.zero_le _⟩ (Nat.le_of_ble_eq_true rfl) dX4_setTrial_28 ?_
      refine x_aload_n C0 dX4_setTrial_31 rfl 0 rfl ?_
      refine x_get C0 inu4 rfl 0 (by decide) mw_242 (by decide) wfT_r0 rfl dX4_setTrial_32 ?_
      refine x_getN C0 inu2 rfl 7 (by decide) mw_188 (x_otr (x_xt xo_4 kS_0)) (wfT_2 (x_xt xo_4 kS_0)) rfl dX4_setTrial_35 ?_
      refine x_istore_n C0 dX4_setTrial_38 rfl (L' := [(2, _), (0, _), (1, _)]) (by decide) rfl ?_
      refine x_aload_n C0 dX4_setTrial_39 rfl 1 rfl ?_
      refine x_pc (pc' := 40) rfl ?_
      refine x_get C0 inu4 rfl 0 (by decide) mw_242 (by decide) wfT_r0 rfl dX4_setTrial_40 ?_
      refine x_iload_n C0 dX4_setTrial_43 rfl 2 rfl ?_
      refine x_putN C0 inu2 tyX2 tyX2_ok nmX2 rfl 7 (by decide) mw_188 rfl rfl rfl (x_otr (x_xt xo_4 kS_0)) (wfT_2 (x_xt xo_4 kS_0)) (Nat.le_of_ble_eq_true rfl) (wpT_2_7 (x_xt xo_4 kS_0)) (fun r' h' k' => x_up_ne r' h' k') dX4_setTrial_44 ?_
      refine x_iload_n C0 dX4_setTrial_47 rfl 0 rfl ?_
      obtain rfl := x_inj h
      exact x_iret C0 dX4_setTrial_48
  · refine x_ldc C0 mw_271 dX4_setTrial_10 ?_
    obtain rfl := x_inj h
    exact x_iret C0 dX4_setTrial_12
set_option maxRecDepth 4000 in
set_option maxHeartbeats 2000000 in
theorem c_X4_pardon {l : Launch} {D : va_G} {cs : Nat → ClassId} {ad : Nat → Nat} (n : Nat) {σ : xM} {x1 : Int32}  {res : Int32 × xM} (h : F_X4_pardon n σ x1 = some res) : x_Met l yX4_pardon [Cond.code yX4_pardon cX4_pardon 3 (some FieldType.int)] ({ frames := 5, cells := 0, slots := 0, locals := 108 } : Room) D vwCl (xtys cs) 333 ad (wfT cs ad) [.ref (ad 0), .int x1] σ (some (.int res.1)) res.2 := by
  refine x_Met_of (L0 := [(0, .ref (ad 0)), (1, .int x1)]) (own := RX4) (by decide) rfl rfl wfT_loc (Nat.le_of_ble_eq_true rfl) rfl ?_
  intro p e s m args below meth c A C0
  refine x_aload_n C0 dX4_pardon_0 rfl 0 rfl ?_
  refine x_get C0 inu4 rfl 0 (by decide) mw_242 (by decide) wfT_r0 rfl dX4_pardon_1 ?_
  refine x_iload_n C0 dX4_pardon_4 rfl 1 rfl ?_
  obtain ⟨q1, eq1, h⟩ := x_bind h
  refine x_subVN11 C0 (n' := 47) (ι := fun r => 4 + r) (wf' := wfS cs (fun r => ad (4 + r))) (x_i1 xo_4) x_i2 (fun r hr => wfT_sub xo_4 hr) (fun r hr => wfT_sub xo_4 hr) (fun _ _ _ _ => rfl) (c_X2_helperAt n eq1) (x_cwVN C0 mw_464 mw_313 mw_9 mw_45 mw_314 hd_yX2_helperAt ⟨rfl, rfl, Nat.le_of_ble_eq_true rfl, Nat.le_of_ble_eq_true rfl⟩) (x_xt xo_4 kS_0).2.1 rfl (wfS_2 (x_xt xo_4 kS_0).2.2) rfl ⟨Nat.zero_le _, Nat.zero_le _⟩ (Nat.le_of_ble_eq_true rfl) dX4_pardon_5 ?_
  rcases q1 with _ | c2
  · replace h := x_on h
    refine x_top (v' := .null) rfl ?_
    refine x_astore_nN C0 dX4_pardon_8 rfl (L' := [(2, _), (0, _), (1, _)]) (by decide) rfl ?_
    refine x_aload_nN C0 dX4_pardon_9 rfl 0 rfl ?_
    refine x_ifnonnullN C0 dX4_pardon_10 ?_
    refine x_ldc C0 mw_465 dX4_pardon_13 ?_
    obtain rfl := x_inj h
    exact x_iret C0 dX4_pardon_15
  · replace h := x_os h
    refine x_top (v' := .ref (ad (4 + c2))) rfl ?_
    have kc2 := tyF_X2_helperAt eq1
    refine x_astore_n C0 dX4_pardon_8 rfl (L' := [(2, _), (0, _), (1, _)]) (by decide) rfl ?_
    refine x_aload_n C0 dX4_pardon_9 rfl 0 rfl ?_
    refine x_ifnonnull C0 (tgt := 16) dX4_pardon_10 rfl ?_
    refine x_aload_n C0 dX4_pardon_16 rfl 0 rfl ?_
    refine x_getN C0 inu0 rfl 6 (by decide) mw_119 (x_otr (x_xt xo_4 kc2)) (wfT_0 (x_xt xo_4 kc2)) rfl dX4_pardon_17 ?_
    refine x_if_ne C0 (tgt := 26) dX4_pardon_20 rfl h (fun _ h => ?_) (fun _ h => ?_)
    · refine x_ldc C0 mw_272 dX4_pardon_23 ?_
      obtain rfl := x_inj h
      exact x_iret C0 dX4_pardon_25
    · refine x_aload_n C0 dX4_pardon_26 rfl 1 rfl ?_
      obtain ⟨q3, eq3, h⟩ := x_bind h
      refine x_callV00 C0 (c_X4_remember n eq3) (x_cwV C0 mw_273 mw_275 mw_1 mw_44 mw_276 hd_yX4_remember ⟨rfl, rfl, Nat.le_of_ble_eq_true rfl, Nat.le_of_ble_eq_true rfl⟩) (by decide) rfl wfT_r0 rfl ⟨Nat.zero_le _, Nat.zero_le _⟩ (Nat.le_of_ble_eq_true rfl) dX4_pardon_27 ?_
      refine x_aload_n C0 dX4_pardon_30 rfl 0 rfl ?_
      obtain ⟨q4, eq4, h⟩ := x_bind h
      refine x_subVN01 C0 (n' := 47) (ι := fun r => 4 + r) (wf' := wfS cs (fun r => ad (4 + r))) (x_i1 xo_4) x_i2 (fun r hr => wfT_sub xo_4 hr) (fun r hr => wfT_pt xo_4 hr) x_pt_same (c_X0_release n (x_xt xo_4 kc2).2 eq4) (x_cwVN C0 mw_570 mw_572 mw_42 mw_48 mw_573 hd_yX0_release ⟨rfl, rfl, Nat.le_of_ble_eq_true rfl, Nat.le_of_ble_eq_true rfl⟩) (x_xt xo_4 kc2).2.1 rfl (wfS_0 (x_xt xo_4 kc2).2.2) rfl ⟨Nat.zero_le _, Nat.zero_le _⟩ (Nat.le_of_ble_eq_true rfl) dX4_pardon_31 ?_
      obtain rfl := x_inj h
      exact x_iret C0 dX4_pardon_34
set_option maxRecDepth 4000 in
set_option maxHeartbeats 2000000 in
theorem c_X4_forget {l : Launch} {D : va_G} {cs : Nat → ClassId} {ad : Nat → Nat} (n : Nat) {σ : xM} {x1 : Int32}  {res : Int32 × xM} (h : F_X4_forget n σ x1 = some res) : x_Met l yX4_forget [Cond.code yX4_forget cX4_forget 4 (some FieldType.int)] ({ frames := 5, cells := 0, slots := 0, locals := 108 } : Room) D vwCl (xtys cs) 333 ad (wfT cs ad) [.ref (ad 0), .int x1] σ (some (.int res.1)) res.2 := by
  refine x_Met_of (L0 := [(0, .ref (ad 0)), (1, .int x1)]) (own := RX4) (by decide) rfl rfl wfT_loc (Nat.le_of_ble_eq_true rfl) rfl ?_
  intro p e s m args below meth c A C0
  refine x_aload_n C0 dX4_forget_0 rfl 0 rfl ?_
  refine x_get C0 inu4 rfl 0 (by decide) mw_242 (by decide) wfT_r0 rfl dX4_forget_1 ?_
  refine x_iload_n C0 dX4_forget_4 rfl 1 rfl ?_
  obtain ⟨q1, eq1, h⟩ := x_bind h
  refine x_subVN11 C0 (n' := 47) (ι := fun r => 4 + r) (wf' := wfS cs (fun r => ad (4 + r))) (x_i1 xo_4) x_i2 (fun r hr => wfT_sub xo_4 hr) (fun r hr => wfT_sub xo_4 hr) (fun _ _ _ _ => rfl) (c_X2_helperAt n eq1) (x_cwVN C0 mw_464 mw_313 mw_9 mw_45 mw_314 hd_yX2_helperAt ⟨rfl, rfl, Nat.le_of_ble_eq_true rfl, Nat.le_of_ble_eq_true rfl⟩) (x_xt xo_4 kS_0).2.1 rfl (wfS_2 (x_xt xo_4 kS_0).2.2) rfl ⟨Nat.zero_le _, Nat.zero_le _⟩ (Nat.le_of_ble_eq_true rfl) dX4_forget_5 ?_
  rcases q1 with _ | c2
  · replace h := x_on h
    refine x_top (v' := .null) rfl ?_
    refine x_astore_nN C0 dX4_forget_8 rfl (L' := [(2, _), (0, _), (1, _)]) (by decide) rfl ?_
    refine x_aload_nN C0 dX4_forget_9 rfl 0 rfl ?_
    refine x_ifnonnullN C0 dX4_forget_10 ?_
    refine x_ldc C0 mw_465 dX4_forget_13 ?_
    obtain rfl := x_inj h
    exact x_iret C0 dX4_forget_15
  · replace h := x_os h
    refine x_top (v' := .ref (ad (4 + c2))) rfl ?_
    have kc2 := tyF_X2_helperAt eq1
    refine x_astore_n C0 dX4_forget_8 rfl (L' := [(2, _), (0, _), (1, _)]) (by decide) rfl ?_
    refine x_aload_n C0 dX4_forget_9 rfl 0 rfl ?_
    refine x_ifnonnull C0 (tgt := 16) dX4_forget_10 rfl ?_
    refine x_aload_n C0 dX4_forget_16 rfl 0 rfl ?_
    refine x_getN C0 inu0 rfl 3 (by decide) mw_112 (x_otr (x_xt xo_4 kc2)) (wfT_0 (x_xt xo_4 kc2)) rfl dX4_forget_17 ?_
    refine x_iconst C0 (v := 2) dX4_forget_20 ki_2 ?_
    refine x_icmp_ne C0 (tgt := 27) dX4_forget_21 rfl h (fun _ h => ?_) (fun _ h => ?_)
    · refine x_ldc C0 mw_578 dX4_forget_24 ?_
      obtain rfl := x_inj h
      exact x_iret C0 dX4_forget_26
    · refine x_aload_n C0 dX4_forget_27 rfl 0 rfl ?_
      refine x_getN C0 inu0 rfl 0 (by decide) mw_106 (x_otr (x_xt xo_4 kc2)) (wfT_0 (x_xt xo_4 kc2)) rfl dX4_forget_28 ?_
      obtain ⟨c3, ec3, h⟩ := x_bind h
      refine x_top (v' := .ref (ad (4 + c3))) (x_rf ec3) ?_
      have kc3 := tyT_0_0 (x_xt xo_4 kc2) ec3
      refine x_getN C0 inu1 rfl 3 (by decide) mw_79 (x_otr kc3) (wfT_1 kc3) rfl dX4_forget_31 ?_
      refine x_if_ne C0 (tgt := 40) dX4_forget_34 rfl h (fun _ h => ?_) (fun _ h => ?_)
      · refine x_ldc C0 mw_272 dX4_forget_37 ?_
        obtain rfl := x_inj h
        exact x_iret C0 dX4_forget_39
      · refine x_aload_n C0 dX4_forget_40 rfl 1 rfl ?_
        obtain ⟨q4, eq4, h⟩ := x_bind h
        refine x_callV00 C0 (c_X4_remember n eq4) (x_cwV C0 mw_273 mw_275 mw_1 mw_44 mw_276 hd_yX4_remember ⟨rfl, rfl, Nat.le_of_ble_eq_true rfl, Nat.le_of_ble_eq_true rfl⟩) (by decide) rfl wfT_r0 rfl ⟨Nat.zero_le _, Nat.zero_le _⟩ (Nat.le_of_ble_eq_true rfl) dX4_forget_41 ?_
        refine x_aload_n C0 dX4_forget_44 rfl 0 rfl ?_
        refine x_getN C0 inu0 rfl 0 (by decide) mw_106 (x_otr (x_xt xo_4 kc2)) (wfT_0 (x_xt xo_4 kc2)) rfl dX4_forget_45 ?_
        obtain ⟨c5, ec5, h⟩ := x_bind h
        refine x_top (v' := .ref (ad (4 + c5))) (x_rf ec5) ?_
        have kc5 := tyT_0_0 (x_xt xo_4 kc2) ec5
        refine x_getN C0 inu1 rfl 3 (by decide) mw_79 (x_otr kc5) (wfT_1 kc5) rfl dX4_forget_48 ?_
        refine x_istore_n C0 dX4_forget_51 rfl (L' := [(3, _), (2, _), (0, _), (1, _)]) (by decide) rfl ?_
        refine x_aload_n C0 dX4_forget_52 rfl 1 rfl ?_
        refine x_pc (pc' := 53) rfl ?_
        refine x_getN C0 inu0 rfl 0 (by decide) mw_106 (x_otr (x_xt xo_4 kc2)) (wfT_0 (x_xt xo_4 kc2)) rfl dX4_forget_53 ?_
        obtain ⟨c6, ec6, h⟩ := x_bind h
        refine x_top (v' := .ref (ad (4 + c6))) (x_rf ec6) ?_
        have kc6 := tyT_0_0 (x_xt xo_4 kc2) ec6
        refine x_iconst C0 (v := 0) dX4_forget_56 ki_0 ?_
        refine x_putN C0 inu1 tyX1 tyX1_ok nmX1 rfl 3 (by decide) mw_79 rfl rfl rfl (x_otr kc6) (wfT_1 kc6) (Nat.le_of_ble_eq_true rfl) (wpT_1_3 kc6) (fun r' h' k' => x_up_ne r' h' k') dX4_forget_57 ?_
        refine x_iload_n C0 dX4_forget_60 rfl 0 rfl ?_
        obtain rfl := x_inj h
        exact x_iret C0 dX4_forget_61
set_option maxRecDepth 4000 in
set_option maxHeartbeats 2000000 in
theorem c_X4_access {l : Launch} {D : va_G} {cs : Nat → ClassId} {ad : Nat → Nat} (n : Nat) {σ : xM} {x1 : Int32} {x2 : Int32}  {res : Int32 × xM} (h : F_X4_access n σ x1 x2 = some res) : x_Met l yX4_access [Cond.code yX4_access cX4_access 3 (some FieldType.int)] ({ frames := 6, cells := 0, slots := 0, locals := 145 } : Room) D vwCl (xtys cs) 333 ad (wfT cs ad) [.ref (ad 0), .int x1, .int x2] σ (some (.int res.1)) res.2 := by
  refine x_Met_of (L0 := [(0, .ref (ad 0)), (1, .int x1), (2, .int x2)]) (own := RX4) (by decide) rfl rfl wfT_loc (Nat.le_of_ble_eq_true rfl) rfl ?_
  intro p e s m args below meth c A C0
  refine x_iload_n C0 dX4_access_0 rfl 1 rfl ?_
  refine x_iconst C0 (v := 0) dX4_access_1 ki_0 ?_
  refine x_bipush C0 (v := 15) dX4_access_2 kb_15 ?_
  refine x_pureS3 C0 (fun ad' => c_X4_isOutside rfl) (x_cwS C0 mw_268 mw_269 mw_44 mw_270 hd_yX4_isOutside ⟨rfl, rfl, Nat.le_of_ble_eq_true rfl, Nat.le_of_ble_eq_true rfl⟩) ⟨Nat.zero_le _, Nat.zero_le _⟩ (Nat.le_of_ble_eq_true rfl) dX4_access_4 ?_
  refine x_if_ne C0 (tgt := 21) dX4_access_7 rfl h (fun _ h => ?_) (fun _ h => ?_)
  · refine x_iload_n C0 dX4_access_10 rfl 2 rfl ?_
    refine x_iconst C0 (v := 0) dX4_access_11 ki_0 ?_
    refine x_sipush C0 (v := 9999) dX4_access_12 ks_9999 ?_
    refine x_pureS3 C0 (fun ad' => c_X4_isOutside rfl) (x_cwS C0 mw_268 mw_269 mw_44 mw_270 hd_yX4_isOutside ⟨rfl, rfl, Nat.le_of_ble_eq_true rfl, Nat.le_of_ble_eq_true rfl⟩) ⟨Nat.zero_le _, Nat.zero_le _⟩ (Nat.le_of_ble_eq_true rfl) dX4_access_15 ?_
    refine x_if_eq C0 (tgt := 24) dX4_access_18 rfl h (fun _ h => ?_) (fun _ h => ?_)
    · refine x_aload_n C0 dX4_access_24 rfl 0 rfl ?_
      obtain ⟨q1, eq1, h⟩ := x_bind h
      refine x_callV00 C0 (c_X4_remember n eq1) (x_cwV C0 mw_273 mw_275 mw_1 mw_44 mw_276 hd_yX4_remember ⟨rfl, rfl, Nat.le_of_ble_eq_true rfl, Nat.le_of_ble_eq_true rfl⟩) (by decide) rfl wfT_r0 rfl ⟨Nat.zero_le _, Nat.zero_le _⟩ (Nat.le_of_ble_eq_true rfl) dX4_access_25 ?_
      refine x_aload_n C0 dX4_access_28 rfl 0 rfl ?_
      refine x_get C0 inu4 rfl 0 (by decide) mw_242 (by decide) wfT_r0 rfl dX4_access_29 ?_
      refine x_iload_n C0 dX4_access_32 rfl 1 rfl ?_
      refine x_iload_n C0 dX4_access_33 rfl 2 rfl ?_
      obtain ⟨q2, eq2, h⟩ := x_bind h
      refine x_subVN21 C0 (n' := 47) (ι := fun r => 4 + r) (wf' := wfS cs (fun r => ad (4 + r))) (x_i1 xo_4) x_i2 (fun r hr => wfT_sub xo_4 hr) (fun r hr => wfT_pt xo_4 hr) x_pt_same (c_X2_perform n eq2) (x_cwVN C0 mw_466 mw_361 mw_17 mw_45 mw_362 hd_yX2_perform ⟨rfl, rfl, Nat.le_of_ble_eq_true rfl, Nat.le_of_ble_eq_true rfl⟩) (x_xt xo_4 kS_0).2.1 rfl (wfS_2 (x_xt xo_4 kS_0).2.2) rfl ⟨Nat.zero_le _, Nat.zero_le _⟩ (Nat.le_of_ble_eq_true rfl) dX4_access_34 ?_
      refine x_pc (pc' := 37) rfl ?_
      obtain rfl := x_inj h
      exact x_iret C0 dX4_access_37
    · refine x_ldc C0 mw_271 dX4_access_21 ?_
      obtain rfl := x_inj h
      exact x_iret C0 dX4_access_23
  · refine x_ldc C0 mw_271 dX4_access_21 ?_
    obtain rfl := x_inj h
    exact x_iret C0 dX4_access_23
set_option maxRecDepth 4000 in
set_option maxHeartbeats 2000000 in
theorem c_X4_isWalk {l : Launch} {D : va_G} {cs : Nat → ClassId} {ad : Nat → Nat} {x0 : Int32} {x1 : Int32} {x2 : Int32} {x3 : Int32}  {res : Int32} (h : F_X4_isWalk x0 x1 x2 x3 = res) : x_Met l yX4_isWalk [Cond.code yX4_isWalk cX4_isWalk 4 (some FieldType.boolean)] ({ frames := 1, cells := 0, slots := 0, locals := 22 } : Room) D vwCl (xtys cs) 0 ad wf0 [.int x0, .int x1, .int x2, .int x3] m0 (some (.int res)) m0 := by
  refine x_Met_of (L0 := [(0, .int x0), (1, .int x1), (2, .int x2), (3, .int x3)]) (own := RX4) (by decide) rfl rfl wf0_loc (Nat.le_of_ble_eq_true rfl) rfl ?_
  intro p e s m args below meth c A C0
  refine x_iload_n C0 dX4_isWalk_0 rfl 0 rfl ?_
  refine x_iconst C0 (v := 0) dX4_isWalk_1 ki_0 ?_
  refine x_bipush C0 (v := 15) dX4_isWalk_2 kb_15 ?_
  refine x_pureS3 C0 (fun ad' => c_X4_isOutside rfl) (x_cwS C0 mw_268 mw_269 mw_44 mw_270 hd_yX4_isOutside ⟨rfl, rfl, Nat.le_of_ble_eq_true rfl, Nat.le_of_ble_eq_true rfl⟩) ⟨Nat.zero_le _, Nat.zero_le _⟩ (Nat.le_of_ble_eq_true rfl) dX4_isWalk_4 ?_
  refine x_if_ne C0 (tgt := 21) dX4_isWalk_7 rfl h (fun _ h => ?_) (fun _ h => ?_)
  · refine x_iload_n C0 dX4_isWalk_10 rfl 1 rfl ?_
    refine x_iconst C0 (v := 0) dX4_isWalk_11 ki_0 ?_
    refine x_sipush C0 (v := 9999) dX4_isWalk_12 ks_9999 ?_
    refine x_pureS3 C0 (fun ad' => c_X4_isOutside rfl) (x_cwS C0 mw_268 mw_269 mw_44 mw_270 hd_yX4_isOutside ⟨rfl, rfl, Nat.le_of_ble_eq_true rfl, Nat.le_of_ble_eq_true rfl⟩) ⟨Nat.zero_le _, Nat.zero_le _⟩ (Nat.le_of_ble_eq_true rfl) dX4_isWalk_15 ?_
    refine x_if_eq C0 (tgt := 23) dX4_isWalk_18 rfl h (fun _ h => ?_) (fun _ h => ?_)
    · refine x_iload_n C0 dX4_isWalk_23 rfl 2 rfl ?_
      refine x_sipush C0 (v := (-999)) dX4_isWalk_24 ks_m999 ?_
      refine x_sipush C0 (v := 999) dX4_isWalk_27 ks_999 ?_
      refine x_pureS3 C0 (fun ad' => c_X4_isOutside rfl) (x_cwS C0 mw_268 mw_269 mw_44 mw_270 hd_yX4_isOutside ⟨rfl, rfl, Nat.le_of_ble_eq_true rfl, Nat.le_of_ble_eq_true rfl⟩) ⟨Nat.zero_le _, Nat.zero_le _⟩ (Nat.le_of_ble_eq_true rfl) dX4_isWalk_30 ?_
      refine x_if_ne C0 (tgt := 46) dX4_isWalk_33 rfl h (fun _ h => ?_) (fun _ h => ?_)
      · refine x_iload_n C0 dX4_isWalk_36 rfl 3 rfl ?_
        refine x_iconst C0 (v := 1) dX4_isWalk_37 ki_1 ?_
        refine x_bipush C0 (v := 30) dX4_isWalk_38 kb_30 ?_
        refine x_pureS3 C0 (fun ad' => c_X4_isOutside rfl) (x_cwS C0 mw_268 mw_269 mw_44 mw_270 hd_yX4_isOutside ⟨rfl, rfl, Nat.le_of_ble_eq_true rfl, Nat.le_of_ble_eq_true rfl⟩) ⟨Nat.zero_le _, Nat.zero_le _⟩ (Nat.le_of_ble_eq_true rfl) dX4_isWalk_40 ?_
        refine x_if_eq C0 (tgt := 48) dX4_isWalk_43 rfl h (fun _ h => ?_) (fun _ h => ?_)
        · refine x_iload_n C0 dX4_isWalk_48 rfl 1 rfl ?_
          refine x_iload_n C0 dX4_isWalk_49 rfl 2 rfl ?_
          refine x_iload_n C0 dX4_isWalk_50 rfl 3 rfl ?_
          refine x_iconst C0 (v := 1) dX4_isWalk_51 ki_1 ?_
          refine x_isub C0 dX4_isWalk_52 ?_
          refine x_imul C0 dX4_isWalk_53 ?_
          refine x_iadd C0 dX4_isWalk_54 ?_
          refine x_pc (pc' := 55) rfl ?_
          refine x_iconst C0 (v := 0) dX4_isWalk_55 ki_0 ?_
          refine x_sipush C0 (v := 9999) dX4_isWalk_56 ks_9999 ?_
          refine x_pureS3 C0 (fun ad' => c_X4_isOutside rfl) (x_cwS C0 mw_268 mw_269 mw_44 mw_270 hd_yX4_isOutside ⟨rfl, rfl, Nat.le_of_ble_eq_true rfl, Nat.le_of_ble_eq_true rfl⟩) ⟨Nat.zero_le _, Nat.zero_le _⟩ (Nat.le_of_ble_eq_true rfl) dX4_isWalk_59 ?_
          refine x_if_ne C0 (tgt := 69) dX4_isWalk_62 rfl h (fun _ h => ?_) (fun _ h => ?_)
          · refine x_iconst C0 (v := 1) dX4_isWalk_65 ki_1 ?_
            refine x_goto C0 (tgt := 70) dX4_isWalk_66 rfl ?_
            subst h
            exact x_zret (v := 1) C0 rfl dX4_isWalk_70
          · refine x_iconst C0 (v := 0) dX4_isWalk_69 ki_0 ?_
            subst h
            exact x_zret (v := 0) C0 rfl dX4_isWalk_70
        · refine x_iconst C0 (v := 0) dX4_isWalk_46 ki_0 ?_
          subst h
          exact x_zret (v := 0) C0 rfl dX4_isWalk_47
      · refine x_iconst C0 (v := 0) dX4_isWalk_46 ki_0 ?_
        subst h
        exact x_zret (v := 0) C0 rfl dX4_isWalk_47
    · refine x_iconst C0 (v := 0) dX4_isWalk_21 ki_0 ?_
      subst h
      exact x_zret (v := 0) C0 rfl dX4_isWalk_22
  · refine x_iconst C0 (v := 0) dX4_isWalk_21 ki_0 ?_
    subst h
    exact x_zret (v := 0) C0 rfl dX4_isWalk_22
set_option maxRecDepth 4000 in
set_option maxHeartbeats 2000000 in
theorem c_X4_walk {l : Launch} {D : va_G} {cs : Nat → ClassId} {ad : Nat → Nat} (n : Nat) {σ : xM} {x1 : Int32} {x2 : Int32} {x3 : Int32} {x4 : Int32}  {res : Int32 × xM} (h : F_X4_walk n σ x1 x2 x3 x4 = some res) : x_Met l yX4_walk [Cond.code yX4_walk cX4_walk 5 (some FieldType.int)] ({ frames := 7, cells := 0, slots := 0, locals := 171 } : Room) D vwCl (xtys cs) 333 ad (wfT cs ad) [.ref (ad 0), .int x1, .int x2, .int x3, .int x4] σ (some (.int res.1)) res.2 := by
  refine x_Met_of (L0 := [(0, .ref (ad 0)), (1, .int x1), (2, .int x2), (3, .int x3), (4, .int x4)]) (own := RX4) (by decide) rfl rfl wfT_loc (Nat.le_of_ble_eq_true rfl) rfl ?_
  intro p e s m args below meth c A C0
  refine x_iload_n C0 dX4_walk_0 rfl 1 rfl ?_
  refine x_iload_n C0 dX4_walk_1 rfl 2 rfl ?_
  refine x_iload_n C0 dX4_walk_2 rfl 3 rfl ?_
  refine x_iload C0 dX4_walk_3 4 rfl ?_
  refine x_pureS4 C0 (fun ad' => c_X4_isWalk rfl) (x_cwS C0 mw_352 mw_353 mw_44 mw_354 hd_yX4_isWalk ⟨rfl, rfl, Nat.le_of_ble_eq_true rfl, Nat.le_of_ble_eq_true rfl⟩) ⟨Nat.zero_le _, Nat.zero_le _⟩ (Nat.le_of_ble_eq_true rfl) dX4_walk_5 ?_
  refine x_if_ne C0 (tgt := 14) dX4_walk_8 rfl h (fun _ h => ?_) (fun _ h => ?_)
  · refine x_ldc C0 mw_271 dX4_walk_11 ?_
    obtain rfl := x_inj h
    exact x_iret C0 dX4_walk_13
  · refine x_aload_n C0 dX4_walk_14 rfl 0 rfl ?_
    obtain ⟨q1, eq1, h⟩ := x_bind h
    refine x_callV00 C0 (c_X4_remember n eq1) (x_cwV C0 mw_273 mw_275 mw_1 mw_44 mw_276 hd_yX4_remember ⟨rfl, rfl, Nat.le_of_ble_eq_true rfl, Nat.le_of_ble_eq_true rfl⟩) (by decide) rfl wfT_r0 rfl ⟨Nat.zero_le _, Nat.zero_le _⟩ (Nat.le_of_ble_eq_true rfl) dX4_walk_15 ?_
    refine x_aload_n C0 dX4_walk_18 rfl 0 rfl ?_
    refine x_get C0 inu4 rfl 0 (by decide) mw_242 (by decide) wfT_r0 rfl dX4_walk_19 ?_
    refine x_iload_n C0 dX4_walk_22 rfl 1 rfl ?_
    refine x_iload_n C0 dX4_walk_23 rfl 2 rfl ?_
    refine x_iload_n C0 dX4_walk_24 rfl 3 rfl ?_
    refine x_pc (pc' := 25) rfl ?_
    refine x_iload C0 dX4_walk_25 4 rfl ?_
    obtain ⟨q2, eq2, h⟩ := x_bind h
    refine x_subVN41 C0 (n' := 47) (ι := fun r => 4 + r) (wf' := wfS cs (fun r => ad (4 + r))) (x_i1 xo_4) x_i2 (fun r hr => wfT_sub xo_4 hr) (fun r hr => wfT_pt xo_4 hr) x_pt_same (c_X2_performWalk n eq2) (x_cwVN C0 mw_355 mw_357 mw_16 mw_45 mw_358 hd_yX2_performWalk ⟨rfl, rfl, Nat.le_of_ble_eq_true rfl, Nat.le_of_ble_eq_true rfl⟩) (x_xt xo_4 kS_0).2.1 rfl (wfS_2 (x_xt xo_4 kS_0).2.2) rfl ⟨Nat.zero_le _, Nat.zero_le _⟩ (Nat.le_of_ble_eq_true rfl) dX4_walk_27 ?_
    obtain rfl := x_inj h
    exact x_iret C0 dX4_walk_30
set_option maxRecDepth 4000 in
set_option maxHeartbeats 2000000 in
theorem c_X4_undo {l : Launch} {D : va_G} {cs : Nat → ClassId} {ad : Nat → Nat} (n : Nat) {σ : xM}  {res : Int32 × xM} (h : F_X4_undo n σ = some res) : x_Met l yX4_undo [Cond.code yX4_undo cX4_undo 1 (some FieldType.int)] ({ frames := 4, cells := 0, slots := 0, locals := 86 } : Room) D vwCl (xtys cs) 333 ad (wfT cs ad) [.ref (ad 0)] σ (some (.int res.1)) res.2 := by
  refine x_Met_of (L0 := [(0, .ref (ad 0))]) (own := RX4) (by decide) rfl rfl wfT_loc (Nat.le_of_ble_eq_true rfl) rfl ?_
  intro p e s m args below meth c A C0
  refine x_aload_n C0 dX4_undo_0 rfl 0 rfl ?_
  refine x_get C0 inu4 rfl 6 (by decide) mw_248 (by decide) wfT_r0 rfl dX4_undo_1 ?_
  refine x_iconst C0 (v := 1) dX4_undo_4 ki_1 ?_
  refine x_icmp_lt C0 (tgt := 16) dX4_undo_5 rfl h (fun _ h => ?_) (fun _ h => ?_)
  · refine x_ldc C0 mw_272 dX4_undo_16 ?_
    obtain rfl := x_inj h
    exact x_iret C0 dX4_undo_18
  · refine x_aload_n C0 dX4_undo_8 rfl 0 rfl ?_
    refine x_get C0 inu4 rfl 6 (by decide) mw_248 (by decide) wfT_r0 rfl dX4_undo_9 ?_
    refine x_iconst C0 (v := 4) dX4_undo_12 ki_4 ?_
    refine x_icmp_le C0 (tgt := 19) dX4_undo_13 rfl h (fun _ h => ?_) (fun _ h => ?_)
    · refine x_ldc C0 mw_272 dX4_undo_16 ?_
      obtain rfl := x_inj h
      exact x_iret C0 dX4_undo_18
    · refine x_aload_n C0 dX4_undo_19 rfl 0 rfl ?_
      refine x_dup C0 dX4_undo_20 rfl ?_
      refine x_get C0 inu4 rfl 6 (by decide) mw_248 (by decide) wfT_r0 rfl dX4_undo_21 ?_
      refine x_iconst C0 (v := 1) dX4_undo_24 ki_1 ?_
      refine x_isub C0 dX4_undo_25 ?_
      refine x_put C0 inu4 tyX4 tyX4_ok nmX4 rfl 6 (by decide) mw_248 rfl rfl rfl (by decide) wfT_r0 (Nat.le_of_ble_eq_true rfl) wpT_r0_6 (fun r' h' k' => x_up_ne r' h' k') dX4_undo_26 ?_
      refine x_aload_n C0 dX4_undo_29 rfl 0 rfl ?_
      refine x_pc (pc' := 30) rfl ?_
      refine x_get C0 inu4 rfl 0 (by decide) mw_242 (by decide) wfT_r0 rfl dX4_undo_30 ?_
      refine x_aload_n C0 dX4_undo_33 rfl 0 rfl ?_
      refine x_get C0 inu4 rfl 3 (by decide) mw_245 (by decide) wfT_r0 rfl dX4_undo_34 ?_
      refine x_aload_n C0 dX4_undo_37 rfl 0 rfl ?_
      refine x_get C0 inu4 rfl 6 (by decide) mw_248 (by decide) wfT_r0 rfl dX4_undo_38 ?_
      refine x_aald C0 4 rfl (by decide) wfT_r1 dX4_undo_41 h (fun _ h => ?_)
      obtain ⟨o2, eo2, h⟩ := x_bind h
      refine x_top (v' := .ref (ad (o2 + 0))) (x_rfo eo2) ?_
      obtain ⟨q3, eq3, h⟩ := x_bind h
      refine x_callVN10 C0 (c_X2_copyFrom n (x_xt xo_4 kS_0) (x_xt (xo_hs eo2) kS_0) eq3) (x_cwVN C0 mw_277 mw_279 mw_2 mw_45 mw_280 hd_yX2_copyFrom ⟨rfl, rfl, Nat.le_of_ble_eq_true rfl, Nat.le_of_ble_eq_true rfl⟩) (x_otr (x_xt xo_4 kS_0)) rfl (wfT_2 (x_xt xo_4 kS_0)) rfl ⟨Nat.zero_le _, Nat.zero_le _⟩ (Nat.le_of_ble_eq_true rfl) dX4_undo_42 ?_
      refine x_aload_n C0 dX4_undo_45 rfl 0 rfl ?_
      refine x_pc (pc' := 46) rfl ?_
      refine x_get C0 inu4 rfl 6 (by decide) mw_248 (by decide) wfT_r0 rfl dX4_undo_46 ?_
      obtain rfl := x_inj h
      exact x_iret C0 dX4_undo_49
set_option maxRecDepth 4000 in
set_option maxHeartbeats 2000000 in
theorem c_X4_keep {l : Launch} {D : va_G} {cs : Nat → ClassId} {ad : Nat → Nat} (n : Nat) {σ : xM}  {res : Int32 × xM} (h : F_X4_keep n σ = some res) : x_Met l yX4_keep [Cond.code yX4_keep cX4_keep 1 (some FieldType.int)] ({ frames := 4, cells := 0, slots := 0, locals := 86 } : Room) D vwCl (xtys cs) 333 ad (wfT cs ad) [.ref (ad 0)] σ (some (.int res.1)) res.2 := by
  refine x_Met_of (L0 := [(0, .ref (ad 0))]) (own := RX4) (by decide) rfl rfl wfT_loc (Nat.le_of_ble_eq_true rfl) rfl ?_
  intro p e s m args below meth c A C0
  refine x_aload_n C0 dX4_keep_0 rfl 0 rfl ?_
  refine x_get C0 inu4 rfl 2 (by decide) mw_244 (by decide) wfT_r0 rfl dX4_keep_1 ?_
  refine x_aload_n C0 dX4_keep_4 rfl 0 rfl ?_
  refine x_get C0 inu4 rfl 0 (by decide) mw_242 (by decide) wfT_r0 rfl dX4_keep_5 ?_
  obtain ⟨q1, eq1, h⟩ := x_bind h
  refine x_callVN10 C0 (c_X2_copyFrom n (x_xt xo_98 kS_0) (x_xt xo_4 kS_0) eq1) (x_cwVN C0 mw_277 mw_279 mw_2 mw_45 mw_280 hd_yX2_copyFrom ⟨rfl, rfl, Nat.le_of_ble_eq_true rfl, Nat.le_of_ble_eq_true rfl⟩) (x_otr (x_xt xo_98 kS_0)) rfl (wfT_2 (x_xt xo_98 kS_0)) rfl ⟨Nat.zero_le _, Nat.zero_le _⟩ (Nat.le_of_ble_eq_true rfl) dX4_keep_8 ?_
  refine x_aload_n C0 dX4_keep_11 rfl 0 rfl ?_
  refine x_iconst C0 (v := 1) dX4_keep_12 ki_1 ?_
  refine x_pc (pc' := 13) rfl ?_
  refine x_put C0 inu4 tyX4 tyX4_ok nmX4 rfl 5 (by decide) mw_247 rfl rfl rfl (by decide) wfT_r0 (Nat.le_of_ble_eq_true rfl) wpT_r0_5 (fun r' h' k' => x_up_ne r' h' k') dX4_keep_13 ?_
  refine x_aload_n C0 dX4_keep_16 rfl 0 rfl ?_
  refine x_get C0 inu4 rfl 0 (by decide) mw_242 (by decide) wfT_r0 rfl dX4_keep_17 ?_
  refine x_getN C0 inu2 rfl 8 (by decide) mw_190 (x_otr (x_xt xo_4 kS_0)) (wfT_2 (x_xt xo_4 kS_0)) rfl dX4_keep_20 ?_
  obtain rfl := x_inj h
  exact x_iret C0 dX4_keep_23
set_option maxRecDepth 4000 in
set_option maxHeartbeats 2000000 in
theorem c_X4_restore {l : Launch} {D : va_G} {cs : Nat → ClassId} {ad : Nat → Nat} (n : Nat) {σ : xM}  {res : Int32 × xM} (h : F_X4_restore n σ = some res) : x_Met l yX4_restore [Cond.code yX4_restore cX4_restore 1 (some FieldType.int)] ({ frames := 5, cells := 0, slots := 0, locals := 108 } : Room) D vwCl (xtys cs) 333 ad (wfT cs ad) [.ref (ad 0)] σ (some (.int res.1)) res.2 := by
  refine x_Met_of (L0 := [(0, .ref (ad 0))]) (own := RX4) (by decide) rfl rfl wfT_loc (Nat.le_of_ble_eq_true rfl) rfl ?_
  intro p e s m args below meth c A C0
  refine x_aload_n C0 dX4_restore_0 rfl 0 rfl ?_
  refine x_get C0 inu4 rfl 5 (by decide) mw_247 (by decide) wfT_r0 rfl dX4_restore_1 ?_
  refine x_if_ne C0 (tgt := 10) dX4_restore_4 rfl h (fun _ h => ?_) (fun _ h => ?_)
  · refine x_ldc C0 mw_272 dX4_restore_7 ?_
    obtain rfl := x_inj h
    exact x_iret C0 dX4_restore_9
  · refine x_aload_n C0 dX4_restore_10 rfl 0 rfl ?_
    obtain ⟨q1, eq1, h⟩ := x_bind h
    refine x_callV00 C0 (c_X4_remember n eq1) (x_cwV C0 mw_273 mw_275 mw_1 mw_44 mw_276 hd_yX4_remember ⟨rfl, rfl, Nat.le_of_ble_eq_true rfl, Nat.le_of_ble_eq_true rfl⟩) (by decide) rfl wfT_r0 rfl ⟨Nat.zero_le _, Nat.zero_le _⟩ (Nat.le_of_ble_eq_true rfl) dX4_restore_11 ?_
    refine x_aload_n C0 dX4_restore_14 rfl 0 rfl ?_
    refine x_get C0 inu4 rfl 0 (by decide) mw_242 (by decide) wfT_r0 rfl dX4_restore_15 ?_
    refine x_aload_n C0 dX4_restore_18 rfl 0 rfl ?_
    refine x_get C0 inu4 rfl 2 (by decide) mw_244 (by decide) wfT_r0 rfl dX4_restore_19 ?_
    obtain ⟨q2, eq2, h⟩ := x_bind h
    refine x_callVN10 C0 (c_X2_copyFrom n (x_xt xo_4 kS_0) (x_xt xo_98 kS_0) eq2) (x_cwVN C0 mw_277 mw_279 mw_2 mw_45 mw_280 hd_yX2_copyFrom ⟨rfl, rfl, Nat.le_of_ble_eq_true rfl, Nat.le_of_ble_eq_true rfl⟩) (x_otr (x_xt xo_4 kS_0)) rfl (wfT_2 (x_xt xo_4 kS_0)) rfl ⟨Nat.zero_le _, Nat.zero_le _⟩ (Nat.le_of_ble_eq_true rfl) dX4_restore_22 ?_
    refine x_pc (pc' := 25) rfl ?_
    refine x_aload_n C0 dX4_restore_25 rfl 0 rfl ?_
    refine x_get C0 inu4 rfl 0 (by decide) mw_242 (by decide) wfT_r0 rfl dX4_restore_26 ?_
    refine x_getN C0 inu2 rfl 8 (by decide) mw_190 (x_otr (x_xt xo_4 kS_0)) (wfT_2 (x_xt xo_4 kS_0)) rfl dX4_restore_29 ?_
    obtain rfl := x_inj h
    exact x_iret C0 dX4_restore_32
set_option maxRecDepth 4000 in
set_option maxHeartbeats 2000000 in
theorem c_X4_line {l : Launch} {D : va_G} {cs : Nat → ClassId} {ad : Nat → Nat} (n : Nat) {σ : xM} {x1 : Int32} {x2 : Int32}  {res : Int32} (h : F_X4_line n σ x1 x2 = some res) : x_Met l yX4_line [Cond.code yX4_line cX4_line 6 (some FieldType.int)] ({ frames := 3, cells := 0, slots := 0, locals := 64 } : Room) D vwCl (xtys cs) 333 ad (wfT cs ad) [.ref (ad 0), .int x1, .int x2] σ (some (.int res)) σ := by
  refine x_Met_of (L0 := [(0, .ref (ad 0)), (1, .int x1), (2, .int x2)]) (own := RX4) (by decide) rfl rfl wfT_loc (Nat.le_of_ble_eq_true rfl) rfl ?_
  intro p e s m args below meth c A C0
  refine x_iload_n C0 dX4_line_0 rfl 1 rfl ?_
  refine x_iconst C0 (v := 0) dX4_line_1 ki_0 ?_
  refine x_sipush C0 (v := 9999) dX4_line_2 ks_9999 ?_
  refine x_pureS3 C0 (fun ad' => c_X4_isOutside rfl) (x_cwS C0 mw_268 mw_269 mw_44 mw_270 hd_yX4_isOutside ⟨rfl, rfl, Nat.le_of_ble_eq_true rfl, Nat.le_of_ble_eq_true rfl⟩) ⟨Nat.zero_le _, Nat.zero_le _⟩ (Nat.le_of_ble_eq_true rfl) dX4_line_5 ?_
  refine x_if_eq C0 (tgt := 14) dX4_line_8 rfl h (fun _ h => ?_) (fun _ h => ?_)
  · refine x_aload_n C0 dX4_line_14 rfl 0 rfl ?_
    refine x_get C0 inu4 rfl 0 (by decide) mw_242 (by decide) wfT_r0 rfl dX4_line_15 ?_
    refine x_iload_n C0 dX4_line_18 rfl 1 rfl ?_
    obtain ⟨q1, eq1, h⟩ := x_bind h
    refine x_subVN11 C0 (n' := 47) (ι := fun r => 4 + r) (wf' := wfS cs (fun r => ad (4 + r))) (x_i1 xo_4) x_i2 (fun r hr => wfT_sub xo_4 hr) (fun r hr => wfT_sub xo_4 hr) (fun _ _ _ _ => rfl) (c_X2_setOf n eq1) (x_cwVN C0 mw_526 mw_373 mw_20 mw_45 mw_374 hd_yX2_setOf ⟨rfl, rfl, Nat.le_of_ble_eq_true rfl, Nat.le_of_ble_eq_true rfl⟩) (x_xt xo_4 kS_0).2.1 rfl (wfS_2 (x_xt xo_4 kS_0).2.2) rfl ⟨Nat.zero_le _, Nat.zero_le _⟩ (Nat.le_of_ble_eq_true rfl) dX4_line_19 ?_
    obtain ⟨c2, ec2, h⟩ := x_bind h
    refine x_top (v' := .ref (ad (4 + c2))) (x_rf ec2) ?_
    have kc2 := tyF_X2_setOf (ec2 ▸ eq1)
    refine x_astore_n C0 dX4_line_22 rfl (L' := [(3, _), (0, _), (1, _), (2, _)]) (by decide) rfl ?_
    refine x_aload_n C0 dX4_line_23 rfl 0 rfl ?_
    refine x_iload_n C0 dX4_line_24 rfl 2 rfl ?_
    refine x_pc (pc' := 25) rfl ?_
    obtain ⟨q3, eq3, h⟩ := x_bind h
    refine x_subVN11 C0 (n' := 47) (ι := fun r => 4 + r) (wf' := wfS cs (fun r => ad (4 + r))) (x_i1 xo_4) x_i2 (fun r hr => wfT_sub xo_4 hr) (fun r hr => wfT_sub xo_4 hr) (fun _ _ _ _ => rfl) (c_X1_find n (x_xt xo_4 kc2).2 eq3) (x_cwVN C0 mw_527 mw_381 mw_22 mw_46 mw_382 hd_yX1_find ⟨rfl, rfl, Nat.le_of_ble_eq_true rfl, Nat.le_of_ble_eq_true rfl⟩) (x_xt xo_4 kc2).2.1 rfl (wfS_1 (x_xt xo_4 kc2).2.2) rfl ⟨Nat.zero_le _, Nat.zero_le _⟩ (Nat.le_of_ble_eq_true rfl) dX4_line_25 ?_
    refine x_istore C0 dX4_line_28 (L' := [(4, _), (3, _), (0, _), (1, _), (2, _)]) (by decide) rfl ?_
    refine x_aload_n C0 dX4_line_30 rfl 2 rfl ?_
    refine x_get C0 inu4 rfl 0 (by decide) mw_242 (by decide) wfT_r0 rfl dX4_line_31 ?_
    refine x_getN C0 inu2 rfl 1 (by decide) mw_177 (x_otr (x_xt xo_4 kS_0)) (wfT_2 (x_xt xo_4 kS_0)) rfl dX4_line_34 ?_
    refine x_top (v' := .ref (ad (4 + 18))) rfl ?_
    refine x_iload_n C0 dX4_line_37 rfl 3 rfl ?_
    obtain ⟨q4, eq4, h⟩ := x_bind h
    refine x_subVN11 C0 (n' := 47) (ι := fun r => 4 + r) (wf' := wfS cs (fun r => ad (4 + r))) (x_i1 xo_4) x_i2 (fun r hr => wfT_sub xo_4 hr) (fun r hr => wfT_sub xo_4 hr) (fun _ _ _ _ => rfl) (c_X1_find n (x_xt xo_4 kS_18).2 eq4) (x_cwVN C0 mw_527 mw_381 mw_22 mw_46 mw_382 hd_yX1_find ⟨rfl, rfl, Nat.le_of_ble_eq_true rfl, Nat.le_of_ble_eq_true rfl⟩) (x_xt xo_4 kS_18).2.1 rfl (wfS_1 (x_xt xo_4 kS_18).2.2) rfl ⟨Nat.zero_le _, Nat.zero_le _⟩ (Nat.le_of_ble_eq_true rfl) dX4_line_38 ?_
    refine x_istore C0 dX4_line_41 (L' := [(5, _), (4, _), (3, _), (0, _), (1, _), (2, _)]) (by decide) rfl ?_
    refine x_pc (pc' := 43) rfl ?_
    refine x_iload_n C0 dX4_line_43 rfl 5 rfl ?_
    refine x_ite h (fun hc h => ?_) (fun hc0 h => ?_)
    · refine x_top (congrArg Value.int hc) ?_
      refine x_tableIn C0 (off := 40) (tgt := 84) dX4_line_44 (by decide) (by decide) (by decide) rfl ?_
      refine x_iload C0 dX4_line_84 1 rfl ?_
      refine x_if_lt C0 (tgt := 93) dX4_line_86 rfl h (fun _ h => ?_) (fun _ h => ?_)
      · refine x_iconst C0 (v := 0) dX4_line_93 ki_0 ?_
        obtain rfl := x_inj h
        exact x_iret C0 dX4_line_94
      · refine x_iconst C0 (v := 1) dX4_line_89 ki_1 ?_
        refine x_goto C0 (tgt := 94) dX4_line_90 rfl ?_
        obtain rfl := x_inj h
        exact x_iret C0 dX4_line_94
    · refine x_ite h (fun hc h => ?_) (fun hc1 h => ?_)
      · refine x_top (congrArg Value.int hc) ?_
        refine x_tableIn C0 (off := 51) (tgt := 95) dX4_line_44 (by decide) (by decide) (by decide) rfl ?_
        refine x_iload C0 dX4_line_95 1 rfl ?_
        refine x_if_lt C0 (tgt := 115) dX4_line_97 rfl h (fun _ h => ?_) (fun _ h => ?_)
        · refine x_iconst C0 (v := 0) dX4_line_115 ki_0 ?_
          obtain rfl := x_inj h
          exact x_iret C0 dX4_line_116
        · refine x_aload_n C0 dX4_line_100 rfl 2 rfl ?_
          refine x_iload C0 dX4_line_101 1 rfl ?_
          refine x_iconst C0 (v := 2) dX4_line_103 ki_2 ?_
          obtain ⟨q5, eq5, h⟩ := x_bind h
          refine x_subVN21 C0 (n' := 47) (ι := fun r => 4 + r) (wf' := wfS cs (fun r => ad (4 + r))) (x_i1 xo_4) x_i2 (fun r hr => wfT_sub xo_4 hr) (fun r hr => wfT_sub xo_4 hr) (fun _ _ _ _ => rfl) (c_X1_get n (x_xt xo_4 kc2).2 eq5) (x_cwVN C0 mw_479 mw_304 mw_7 mw_46 mw_305 hd_yX1_get ⟨rfl, rfl, Nat.le_of_ble_eq_true rfl, Nat.le_of_ble_eq_true rfl⟩) (x_xt xo_4 kc2).2.1 rfl (wfS_1 (x_xt xo_4 kc2).2.2) rfl ⟨Nat.zero_le _, Nat.zero_le _⟩ (Nat.le_of_ble_eq_true rfl) dX4_line_104 ?_
          refine x_iconst C0 (v := 1) dX4_line_107 ki_1 ?_
          refine x_icmp_ne C0 (tgt := 115) dX4_line_108 rfl h (fun _ h => ?_) (fun _ h => ?_)
          · refine x_iconst C0 (v := 1) dX4_line_111 ki_1 ?_
            refine x_goto C0 (tgt := 116) dX4_line_112 rfl ?_
            obtain rfl := x_inj h
            exact x_iret C0 dX4_line_116
          · refine x_iconst C0 (v := 0) dX4_line_115 ki_0 ?_
            obtain rfl := x_inj h
            exact x_iret C0 dX4_line_116
      · refine x_ite h (fun hc h => ?_) (fun hc2 h => ?_)
        · refine x_top (congrArg Value.int hc) ?_
          refine x_tableIn C0 (off := 73) (tgt := 117) dX4_line_44 (by decide) (by decide) (by decide) rfl ?_
          refine x_aload_n C0 dX4_line_117 rfl 2 rfl ?_
          refine x_iload C0 dX4_line_118 1 rfl ?_
          refine x_iconst C0 (v := 1) dX4_line_120 ki_1 ?_
          obtain ⟨q6, eq6, h⟩ := x_bind h
          refine x_subVN21 C0 (n' := 47) (ι := fun r => 4 + r) (wf' := wfS cs (fun r => ad (4 + r))) (x_i1 xo_4) x_i2 (fun r hr => wfT_sub xo_4 hr) (fun r hr => wfT_sub xo_4 hr) (fun _ _ _ _ => rfl) (c_X1_get n (x_xt xo_4 kc2).2 eq6) (x_cwVN C0 mw_479 mw_304 mw_7 mw_46 mw_305 hd_yX1_get ⟨rfl, rfl, Nat.le_of_ble_eq_true rfl, Nat.le_of_ble_eq_true rfl⟩) (x_xt xo_4 kc2).2.1 rfl (wfS_1 (x_xt xo_4 kc2).2.2) rfl ⟨Nat.zero_le _, Nat.zero_le _⟩ (Nat.le_of_ble_eq_true rfl) dX4_line_121 ?_
          obtain rfl := x_inj h
          exact x_iret C0 dX4_line_124
        · refine x_ite h (fun hc h => ?_) (fun hc3 h => ?_)
          · refine x_top (congrArg Value.int hc) ?_
            refine x_tableIn C0 (off := 81) (tgt := 125) dX4_line_44 (by decide) (by decide) (by decide) rfl ?_
            refine x_iload C0 dX4_line_125 1 rfl ?_
            obtain rfl := x_inj h
            exact x_iret C0 dX4_line_127
          · refine x_ite h (fun hc h => ?_) (fun hc4 h => ?_)
            · refine x_top (congrArg Value.int hc) ?_
              refine x_tableIn C0 (off := 84) (tgt := 128) dX4_line_44 (by decide) (by decide) (by decide) rfl ?_
              refine x_iload C0 dX4_line_128 0 rfl ?_
              obtain rfl := x_inj h
              exact x_iret C0 dX4_line_130
            · refine x_ite h (fun hc h => ?_) (fun hc5 h => ?_)
              · refine x_top (congrArg Value.int hc) ?_
                refine x_tableIn C0 (off := 87) (tgt := 131) dX4_line_44 (by decide) (by decide) (by decide) rfl ?_
                refine x_aload_n C0 dX4_line_131 rfl 3 rfl ?_
                refine x_get C0 inu4 rfl 0 (by decide) mw_242 (by decide) wfT_r0 rfl dX4_line_132 ?_
                refine x_getN C0 inu2 rfl 1 (by decide) mw_177 (x_otr (x_xt xo_4 kS_0)) (wfT_2 (x_xt xo_4 kS_0)) rfl dX4_line_135 ?_
                refine x_top (v' := .ref (ad (4 + 18))) rfl ?_
                refine x_iload C0 dX4_line_138 0 rfl ?_
                refine x_iconst C0 (v := 1) dX4_line_140 ki_1 ?_
                obtain ⟨q7, eq7, h⟩ := x_bind h
                refine x_subVN21 C0 (n' := 47) (ι := fun r => 4 + r) (wf' := wfS cs (fun r => ad (4 + r))) (x_i1 xo_4) x_i2 (fun r hr => wfT_sub xo_4 hr) (fun r hr => wfT_sub xo_4 hr) (fun _ _ _ _ => rfl) (c_X1_get n (x_xt xo_4 kS_18).2 eq7) (x_cwVN C0 mw_479 mw_304 mw_7 mw_46 mw_305 hd_yX1_get ⟨rfl, rfl, Nat.le_of_ble_eq_true rfl, Nat.le_of_ble_eq_true rfl⟩) (x_xt xo_4 kS_18).2.1 rfl (wfS_1 (x_xt xo_4 kS_18).2.2) rfl ⟨Nat.zero_le _, Nat.zero_le _⟩ (Nat.le_of_ble_eq_true rfl) dX4_line_141 ?_
                obtain rfl := x_inj h
                exact x_iret C0 dX4_line_144
              · refine x_tableOut C0 (tgt := 145) dX4_line_44 (x_swo_5 hc0 hc1 hc2 hc3 hc4 hc5) rfl ?_
                refine x_ldc C0 mw_271 dX4_line_145 ?_
                obtain rfl := x_inj h
                exact x_iret C0 dX4_line_147
  · refine x_ldc C0 mw_465 dX4_line_11 ?_
    obtain rfl := x_inj h
    exact x_iret C0 dX4_line_13
set_option maxRecDepth 4000 in
set_option maxHeartbeats 2000000 in
theorem c_X4_inSet {l : Launch} {D : va_G} {cs : Nat → ClassId} {ad : Nat → Nat} (n : Nat) {σ : xM} {x1 : Int32} {x2 : Int32}  {res : Int32} (h : F_X4_inSet n σ x1 x2 = some res) : x_Met l yX4_inSet [Cond.code yX4_inSet cX4_inSet 3 (some FieldType.int)] ({ frames := 2, cells := 0, slots := 0, locals := 44 } : Room) D vwCl (xtys cs) 333 ad (wfT cs ad) [.ref (ad 0), .int x1, .int x2] σ (some (.int res)) σ := by
  refine x_Met_of (L0 := [(0, .ref (ad 0)), (1, .int x1), (2, .int x2)]) (own := RX4) (by decide) rfl rfl wfT_loc (Nat.le_of_ble_eq_true rfl) rfl ?_
  intro p e s m args below meth c A C0
  refine x_iload_n C0 dX4_inSet_0 rfl 1 rfl ?_
  refine x_iconst C0 (v := 0) dX4_inSet_1 ki_0 ?_
  refine x_aload_n C0 dX4_inSet_2 rfl 0 rfl ?_
  refine x_get C0 inu4 rfl 0 (by decide) mw_242 (by decide) wfT_r0 rfl dX4_inSet_3 ?_
  refine x_getN C0 inu2 rfl 4 (by decide) mw_182 (x_otr (x_xt xo_4 kS_0)) (wfT_2 (x_xt xo_4 kS_0)) rfl dX4_inSet_6 ?_
  refine x_iconst C0 (v := 1) dX4_inSet_9 ki_1 ?_
  refine x_isub C0 dX4_inSet_10 ?_
  refine x_pc (pc' := 11) rfl ?_
  refine x_pureS3 C0 (fun ad' => c_X4_isOutside rfl) (x_cwS C0 mw_268 mw_269 mw_44 mw_270 hd_yX4_isOutside ⟨rfl, rfl, Nat.le_of_ble_eq_true rfl, Nat.le_of_ble_eq_true rfl⟩) ⟨Nat.zero_le _, Nat.zero_le _⟩ (Nat.le_of_ble_eq_true rfl) dX4_inSet_11 ?_
  refine x_if_eq C0 (tgt := 20) dX4_inSet_14 rfl h (fun _ h => ?_) (fun _ h => ?_)
  · refine x_iload_n C0 dX4_inSet_20 rfl 2 rfl ?_
    refine x_if_ge C0 (tgt := 29) dX4_inSet_21 rfl h (fun _ h => ?_) (fun _ h => ?_)
    · refine x_ldc C0 mw_271 dX4_inSet_24 ?_
      refine x_goto C0 (tgt := 42) dX4_inSet_26 rfl ?_
      obtain rfl := x_inj h
      exact x_iret C0 dX4_inSet_42
    · refine x_aload_n C0 dX4_inSet_29 rfl 0 rfl ?_
      refine x_get C0 inu4 rfl 0 (by decide) mw_242 (by decide) wfT_r0 rfl dX4_inSet_30 ?_
      refine x_iload_n C0 dX4_inSet_33 rfl 1 rfl ?_
      obtain ⟨q1, eq1, h⟩ := x_bind h
      refine x_subVN11 C0 (n' := 47) (ι := fun r => 4 + r) (wf' := wfS cs (fun r => ad (4 + r))) (x_i1 xo_4) x_i2 (fun r hr => wfT_sub xo_4 hr) (fun r hr => wfT_sub xo_4 hr) (fun _ _ _ _ => rfl) (c_X2_setAt n eq1) (x_cwVN C0 mw_545 mw_377 mw_21 mw_45 mw_378 hd_yX2_setAt ⟨rfl, rfl, Nat.le_of_ble_eq_true rfl, Nat.le_of_ble_eq_true rfl⟩) (x_xt xo_4 kS_0).2.1 rfl (wfS_2 (x_xt xo_4 kS_0).2.2) rfl ⟨Nat.zero_le _, Nat.zero_le _⟩ (Nat.le_of_ble_eq_true rfl) dX4_inSet_34 ?_
      obtain ⟨c2, ec2, h⟩ := x_bind h
      refine x_top (v' := .ref (ad (4 + c2))) (x_rf ec2) ?_
      have kc2 := tyF_X2_setAt (ec2 ▸ eq1)
      refine x_iload_n C0 dX4_inSet_37 rfl 2 rfl ?_
      refine x_iconst C0 (v := 0) dX4_inSet_38 ki_0 ?_
      obtain ⟨q3, eq3, h⟩ := x_bind h
      refine x_subVN21 C0 (n' := 47) (ι := fun r => 4 + r) (wf' := wfS cs (fun r => ad (4 + r))) (x_i1 xo_4) x_i2 (fun r hr => wfT_sub xo_4 hr) (fun r hr => wfT_sub xo_4 hr) (fun _ _ _ _ => rfl) (c_X1_get n (x_xt xo_4 kc2).2 eq3) (x_cwVN C0 mw_479 mw_304 mw_7 mw_46 mw_305 hd_yX1_get ⟨rfl, rfl, Nat.le_of_ble_eq_true rfl, Nat.le_of_ble_eq_true rfl⟩) (x_xt xo_4 kc2).2.1 rfl (wfS_1 (x_xt xo_4 kc2).2.2) rfl ⟨Nat.zero_le _, Nat.zero_le _⟩ (Nat.le_of_ble_eq_true rfl) dX4_inSet_39 ?_
      refine x_pc (pc' := 42) rfl ?_
      obtain rfl := x_inj h
      exact x_iret C0 dX4_inSet_42
  · refine x_ldc C0 mw_465 dX4_inSet_17 ?_
    obtain rfl := x_inj h
    exact x_iret C0 dX4_inSet_19
set_option maxRecDepth 4000 in
set_option maxHeartbeats 2000000 in
theorem c_X4_thrownOut {l : Launch} {D : va_G} {cs : Nat → ClassId} {ad : Nat → Nat} (n : Nat) {σ : xM} {x1 : Int32}  {res : Int32} (h : F_X4_thrownOut n σ x1 = some res) : x_Met l yX4_thrownOut [Cond.code yX4_thrownOut cX4_thrownOut 2 (some FieldType.int)] ({ frames := 2, cells := 0, slots := 0, locals := 44 } : Room) D vwCl (xtys cs) 333 ad (wfT cs ad) [.ref (ad 0), .int x1] σ (some (.int res)) σ := by
  refine x_Met_of (L0 := [(0, .ref (ad 0)), (1, .int x1)]) (own := RX4) (by decide) rfl rfl wfT_loc (Nat.le_of_ble_eq_true rfl) rfl ?_
  intro p e s m args below meth c A C0
  refine x_iload_n C0 dX4_thrownOut_0 rfl 1 rfl ?_
  refine x_if_ge C0 (tgt := 9) dX4_thrownOut_1 rfl h (fun _ h => ?_) (fun _ h => ?_)
  · refine x_ldc C0 mw_271 dX4_thrownOut_4 ?_
    refine x_goto C0 (tgt := 21) dX4_thrownOut_6 rfl ?_
    obtain rfl := x_inj h
    exact x_iret C0 dX4_thrownOut_21
  · refine x_aload_n C0 dX4_thrownOut_9 rfl 0 rfl ?_
    refine x_get C0 inu4 rfl 0 (by decide) mw_242 (by decide) wfT_r0 rfl dX4_thrownOut_10 ?_
    refine x_getN C0 inu2 rfl 1 (by decide) mw_177 (x_otr (x_xt xo_4 kS_0)) (wfT_2 (x_xt xo_4 kS_0)) rfl dX4_thrownOut_13 ?_
    refine x_top (v' := .ref (ad (4 + 18))) rfl ?_
    refine x_iload_n C0 dX4_thrownOut_16 rfl 1 rfl ?_
    refine x_iconst C0 (v := 0) dX4_thrownOut_17 ki_0 ?_
    obtain ⟨q1, eq1, h⟩ := x_bind h
    refine x_subVN21 C0 (n' := 47) (ι := fun r => 4 + r) (wf' := wfS cs (fun r => ad (4 + r))) (x_i1 xo_4) x_i2 (fun r hr => wfT_sub xo_4 hr) (fun r hr => wfT_sub xo_4 hr) (fun _ _ _ _ => rfl) (c_X1_get n (x_xt xo_4 kS_18).2 eq1) (x_cwVN C0 mw_479 mw_304 mw_7 mw_46 mw_305 hd_yX1_get ⟨rfl, rfl, Nat.le_of_ble_eq_true rfl, Nat.le_of_ble_eq_true rfl⟩) (x_xt xo_4 kS_18).2.1 rfl (wfS_1 (x_xt xo_4 kS_18).2.2) rfl ⟨Nat.zero_le _, Nat.zero_le _⟩ (Nat.le_of_ble_eq_true rfl) dX4_thrownOut_18 ?_
    obtain rfl := x_inj h
    exact x_iret C0 dX4_thrownOut_21
set_option maxRecDepth 4000 in
set_option maxHeartbeats 2000000 in
theorem c_X4_helper {l : Launch} {D : va_G} {cs : Nat → ClassId} {ad : Nat → Nat} (n : Nat) {σ : xM} {x1 : Int32} {x2 : Int32}  {res : Int32} (h : F_X4_helper n σ x1 x2 = some res) : x_Met l yX4_helper [Cond.code yX4_helper cX4_helper 4 (some FieldType.int)] ({ frames := 3, cells := 0, slots := 0, locals := 68 } : Room) D vwCl (xtys cs) 333 ad (wfT cs ad) [.ref (ad 0), .int x1, .int x2] σ (some (.int res)) σ := by
  refine x_Met_of (L0 := [(0, .ref (ad 0)), (1, .int x1), (2, .int x2)]) (own := RX4) (by decide) rfl rfl wfT_loc (Nat.le_of_ble_eq_true rfl) rfl ?_
  intro p e s m args below meth c A C0
  refine x_aload_n C0 dX4_helper_0 rfl 0 rfl ?_
  refine x_get C0 inu4 rfl 0 (by decide) mw_242 (by decide) wfT_r0 rfl dX4_helper_1 ?_
  refine x_iload_n C0 dX4_helper_4 rfl 1 rfl ?_
  obtain ⟨q1, eq1, h⟩ := x_bind h
  refine x_subVN11 C0 (n' := 47) (ι := fun r => 4 + r) (wf' := wfS cs (fun r => ad (4 + r))) (x_i1 xo_4) x_i2 (fun r hr => wfT_sub xo_4 hr) (fun r hr => wfT_sub xo_4 hr) (fun _ _ _ _ => rfl) (c_X2_helperAt n eq1) (x_cwVN C0 mw_464 mw_313 mw_9 mw_45 mw_314 hd_yX2_helperAt ⟨rfl, rfl, Nat.le_of_ble_eq_true rfl, Nat.le_of_ble_eq_true rfl⟩) (x_xt xo_4 kS_0).2.1 rfl (wfS_2 (x_xt xo_4 kS_0).2.2) rfl ⟨Nat.zero_le _, Nat.zero_le _⟩ (Nat.le_of_ble_eq_true rfl) dX4_helper_5 ?_
  rcases q1 with _ | c2
  · replace h := x_on h
    refine x_top (v' := .null) rfl ?_
    refine x_astore_nN C0 dX4_helper_8 rfl (L' := [(3, _), (0, _), (1, _), (2, _)]) (by decide) rfl ?_
    refine x_aload_nN C0 dX4_helper_9 rfl 0 rfl ?_
    refine x_ifnonnullN C0 dX4_helper_10 ?_
    refine x_ldc C0 mw_465 dX4_helper_13 ?_
    obtain rfl := x_inj h
    exact x_iret C0 dX4_helper_15
  · replace h := x_os h
    refine x_top (v' := .ref (ad (4 + c2))) rfl ?_
    have kc2 := tyF_X2_helperAt eq1
    refine x_astore_n C0 dX4_helper_8 rfl (L' := [(3, _), (0, _), (1, _), (2, _)]) (by decide) rfl ?_
    refine x_aload_n C0 dX4_helper_9 rfl 0 rfl ?_
    refine x_ifnonnull C0 (tgt := 16) dX4_helper_10 rfl ?_
    refine x_iload_n C0 dX4_helper_16 rfl 3 rfl ?_
    refine x_ite h (fun hc h => ?_) (fun hc0 h => ?_)
    · refine x_top (congrArg Value.int hc) ?_
      refine x_tableIn C0 (off := 79) (tgt := 96) dX4_helper_17 (by decide) (by decide) (by decide) rfl ?_
      refine x_aload_n C0 dX4_helper_96 rfl 0 rfl ?_
      refine x_getN C0 inu0 rfl 3 (by decide) mw_112 (x_otr (x_xt xo_4 kc2)) (wfT_0 (x_xt xo_4 kc2)) rfl dX4_helper_97 ?_
      obtain rfl := x_inj h
      exact x_iret C0 dX4_helper_100
    · refine x_ite h (fun hc h => ?_) (fun hc1 h => ?_)
      · refine x_top (congrArg Value.int hc) ?_
        refine x_tableIn C0 (off := 84) (tgt := 101) dX4_helper_17 (by decide) (by decide) (by decide) rfl ?_
        refine x_aload_n C0 dX4_helper_101 rfl 0 rfl ?_
        refine x_getN C0 inu0 rfl 4 (by decide) mw_114 (x_otr (x_xt xo_4 kc2)) (wfT_0 (x_xt xo_4 kc2)) rfl dX4_helper_102 ?_
        obtain rfl := x_inj h
        exact x_iret C0 dX4_helper_105
      · refine x_ite h (fun hc h => ?_) (fun hc2 h => ?_)
        · refine x_top (congrArg Value.int hc) ?_
          refine x_tableIn C0 (off := 89) (tgt := 106) dX4_helper_17 (by decide) (by decide) (by decide) rfl ?_
          refine x_aload_n C0 dX4_helper_106 rfl 0 rfl ?_
          refine x_getN C0 inu0 rfl 5 (by decide) mw_117 (x_otr (x_xt xo_4 kc2)) (wfT_0 (x_xt xo_4 kc2)) rfl dX4_helper_107 ?_
          obtain rfl := x_inj h
          exact x_iret C0 dX4_helper_110
        · refine x_ite h (fun hc h => ?_) (fun hc3 h => ?_)
          · refine x_top (congrArg Value.int hc) ?_
            refine x_tableIn C0 (off := 94) (tgt := 111) dX4_helper_17 (by decide) (by decide) (by decide) rfl ?_
            refine x_aload_n C0 dX4_helper_111 rfl 0 rfl ?_
            refine x_getN C0 inu0 rfl 6 (by decide) mw_119 (x_otr (x_xt xo_4 kc2)) (wfT_0 (x_xt xo_4 kc2)) rfl dX4_helper_112 ?_
            obtain rfl := x_inj h
            exact x_iret C0 dX4_helper_115
          · refine x_ite h (fun hc h => ?_) (fun hc4 h => ?_)
            · refine x_top (congrArg Value.int hc) ?_
              refine x_tableIn C0 (off := 99) (tgt := 116) dX4_helper_17 (by decide) (by decide) (by decide) rfl ?_
              refine x_aload_n C0 dX4_helper_116 rfl 0 rfl ?_
              refine x_getN C0 inu0 rfl 7 (by decide) mw_122 (x_otr (x_xt xo_4 kc2)) (wfT_0 (x_xt xo_4 kc2)) rfl dX4_helper_117 ?_
              obtain rfl := x_inj h
              exact x_iret C0 dX4_helper_120
            · refine x_ite h (fun hc h => ?_) (fun hc5 h => ?_)
              · refine x_top (congrArg Value.int hc) ?_
                refine x_tableIn C0 (off := 104) (tgt := 121) dX4_helper_17 (by decide) (by decide) (by decide) rfl ?_
                refine x_aload_n C0 dX4_helper_121 rfl 0 rfl ?_
                refine x_getN C0 inu0 rfl 8 (by decide) mw_124 (x_otr (x_xt xo_4 kc2)) (wfT_0 (x_xt xo_4 kc2)) rfl dX4_helper_122 ?_
                obtain rfl := x_inj h
                exact x_iret C0 dX4_helper_125
              · refine x_ite h (fun hc h => ?_) (fun hc6 h => ?_)
                · refine x_top (congrArg Value.int hc) ?_
                  refine x_tableIn C0 (off := 109) (tgt := 126) dX4_helper_17 (by decide) (by decide) (by decide) rfl ?_
                  refine x_aload_n C0 dX4_helper_126 rfl 0 rfl ?_
                  obtain ⟨q3, eq3, h⟩ := x_bind h
                  refine x_subVN01 C0 (n' := 47) (ι := fun r => 4 + r) (wf' := wfS cs (fun r => ad (4 + r))) (x_i1 xo_4) x_i2 (fun r hr => wfT_sub xo_4 hr) (fun r hr => wfT_sub xo_4 hr) (fun _ _ _ _ => rfl) (c_X0_reach n (x_xt xo_4 kc2).2 eq3) (x_cwVN C0 mw_532 mw_425 mw_31 mw_48 mw_426 hd_yX0_reach ⟨rfl, rfl, Nat.le_of_ble_eq_true rfl, Nat.le_of_ble_eq_true rfl⟩) (x_xt xo_4 kc2).2.1 rfl (wfS_0 (x_xt xo_4 kc2).2.2) rfl ⟨Nat.zero_le _, Nat.zero_le _⟩ (Nat.le_of_ble_eq_true rfl) dX4_helper_127 ?_
                  obtain rfl := x_inj h
                  exact x_iret C0 dX4_helper_130
                · refine x_ite h (fun hc h => ?_) (fun hc7 h => ?_)
                  · refine x_top (congrArg Value.int hc) ?_
                    refine x_tableIn C0 (off := 114) (tgt := 131) dX4_helper_17 (by decide) (by decide) (by decide) rfl ?_
                    refine x_aload_n C0 dX4_helper_131 rfl 0 rfl ?_
                    refine x_getN C0 inu0 rfl 9 (by decide) mw_127 (x_otr (x_xt xo_4 kc2)) (wfT_0 (x_xt xo_4 kc2)) rfl dX4_helper_132 ?_
                    obtain rfl := x_inj h
                    exact x_iret C0 dX4_helper_135
                  · refine x_ite h (fun hc h => ?_) (fun hc8 h => ?_)
                    · refine x_top (congrArg Value.int hc) ?_
                      refine x_tableIn C0 (off := 119) (tgt := 136) dX4_helper_17 (by decide) (by decide) (by decide) rfl ?_
                      refine x_aload_n C0 dX4_helper_136 rfl 0 rfl ?_
                      refine x_getN C0 inu0 rfl 10 (by decide) mw_129 (x_otr (x_xt xo_4 kc2)) (wfT_0 (x_xt xo_4 kc2)) rfl dX4_helper_137 ?_
                      obtain rfl := x_inj h
                      exact x_iret C0 dX4_helper_140
                    · refine x_ite h (fun hc h => ?_) (fun hc9 h => ?_)
                      · refine x_top (congrArg Value.int hc) ?_
                        refine x_tableIn C0 (off := 124) (tgt := 141) dX4_helper_17 (by decide) (by decide) (by decide) rfl ?_
                        refine x_aload_n C0 dX4_helper_141 rfl 0 rfl ?_
                        refine x_getN C0 inu0 rfl 11 (by decide) mw_132 (x_otr (x_xt xo_4 kc2)) (wfT_0 (x_xt xo_4 kc2)) rfl dX4_helper_142 ?_
                        obtain rfl := x_inj h
                        exact x_iret C0 dX4_helper_145
                      · refine x_ite h (fun hc h => ?_) (fun hc10 h => ?_)
                        · refine x_top (congrArg Value.int hc) ?_
                          refine x_tableIn C0 (off := 129) (tgt := 146) dX4_helper_17 (by decide) (by decide) (by decide) rfl ?_
                          refine x_aload_n C0 dX4_helper_146 rfl 1 rfl ?_
                          refine x_get C0 inu4 rfl 0 (by decide) mw_242 (by decide) wfT_r0 rfl dX4_helper_147 ?_
                          refine x_iload_n C0 dX4_helper_150 rfl 2 rfl ?_
                          obtain ⟨q4, eq4, h⟩ := x_bind h
                          refine x_subVN11 C0 (n' := 47) (ι := fun r => 4 + r) (wf' := wfS cs (fun r => ad (4 + r))) (x_i1 xo_4) x_i2 (fun r hr => wfT_sub xo_4 hr) (fun r hr => wfT_sub xo_4 hr) (fun _ _ _ _ => rfl) (c_X2_newLinesOf n eq4) (x_cwVN C0 mw_533 mw_494 mw_39 mw_45 mw_495 hd_yX2_newLinesOf ⟨rfl, rfl, Nat.le_of_ble_eq_true rfl, Nat.le_of_ble_eq_true rfl⟩) (x_xt xo_4 kS_0).2.1 rfl (wfS_2 (x_xt xo_4 kS_0).2.2) rfl ⟨Nat.zero_le _, Nat.zero_le _⟩ (Nat.le_of_ble_eq_true rfl) dX4_helper_151 ?_
                          obtain rfl := x_inj h
                          exact x_iret C0 dX4_helper_154
                        · refine x_ite h (fun hc h => ?_) (fun hc11 h => ?_)
                          · refine x_top (congrArg Value.int hc) ?_
                            refine x_tableIn C0 (off := 138) (tgt := 155) dX4_helper_17 (by decide) (by decide) (by decide) rfl ?_
                            refine x_aload_n C0 dX4_helper_155 rfl 0 rfl ?_
                            refine x_getN C0 inu0 rfl 12 (by decide) mw_135 (x_otr (x_xt xo_4 kc2)) (wfT_0 (x_xt xo_4 kc2)) rfl dX4_helper_156 ?_
                            obtain rfl := x_inj h
                            exact x_iret C0 dX4_helper_159
                          · refine x_ite h (fun hc h => ?_) (fun hc12 h => ?_)
                            · refine x_top (congrArg Value.int hc) ?_
                              refine x_tableIn C0 (off := 143) (tgt := 160) dX4_helper_17 (by decide) (by decide) (by decide) rfl ?_
                              refine x_aload_n C0 dX4_helper_160 rfl 0 rfl ?_
                              refine x_getN C0 inu0 rfl 13 (by decide) mw_137 (x_otr (x_xt xo_4 kc2)) (wfT_0 (x_xt xo_4 kc2)) rfl dX4_helper_161 ?_
                              obtain rfl := x_inj h
                              exact x_iret C0 dX4_helper_164
                            · refine x_ite h (fun hc h => ?_) (fun hc13 h => ?_)
                              · refine x_top (congrArg Value.int hc) ?_
                                refine x_tableIn C0 (off := 148) (tgt := 165) dX4_helper_17 (by decide) (by decide) (by decide) rfl ?_
                                refine x_aload_n C0 dX4_helper_165 rfl 0 rfl ?_
                                refine x_getN C0 inu0 rfl 14 (by decide) mw_139 (x_otr (x_xt xo_4 kc2)) (wfT_0 (x_xt xo_4 kc2)) rfl dX4_helper_166 ?_
                                obtain rfl := x_inj h
                                exact x_iret C0 dX4_helper_169
                              · refine x_ite h (fun hc h => ?_) (fun hc14 h => ?_)
                                · refine x_top (congrArg Value.int hc) ?_
                                  refine x_tableIn C0 (off := 153) (tgt := 170) dX4_helper_17 (by decide) (by decide) (by decide) rfl ?_
                                  refine x_aload_n C0 dX4_helper_170 rfl 0 rfl ?_
                                  refine x_getN C0 inu0 rfl 0 (by decide) mw_106 (x_otr (x_xt xo_4 kc2)) (wfT_0 (x_xt xo_4 kc2)) rfl dX4_helper_171 ?_
                                  obtain ⟨c5, ec5, h⟩ := x_bind h
                                  refine x_top (v' := .ref (ad (4 + c5))) (x_rf ec5) ?_
                                  have kc5 := tyT_0_0 (x_xt xo_4 kc2) ec5
                                  refine x_getN C0 inu1 rfl 3 (by decide) mw_79 (x_otr kc5) (wfT_1 kc5) rfl dX4_helper_174 ?_
                                  obtain rfl := x_inj h
                                  exact x_iret C0 dX4_helper_177
                                · refine x_ite h (fun hc h => ?_) (fun hc15 h => ?_)
                                  · refine x_top (congrArg Value.int hc) ?_
                                    refine x_tableIn C0 (off := 161) (tgt := 178) dX4_helper_17 (by decide) (by decide) (by decide) rfl ?_
                                    refine x_aload_n C0 dX4_helper_178 rfl 0 rfl ?_
                                    refine x_getN C0 inu0 rfl 15 (by decide) mw_141 (x_otr (x_xt xo_4 kc2)) (wfT_0 (x_xt xo_4 kc2)) rfl dX4_helper_179 ?_
                                    obtain rfl := x_inj h
                                    exact x_iret C0 dX4_helper_182
                                  · refine x_tableOut C0 (tgt := 183) dX4_helper_17 (x_swo_15 hc0 hc1 hc2 hc3 hc4 hc5 hc6 hc7 hc8 hc9 hc10 hc11 hc12 hc13 hc14 hc15) rfl ?_
                                    refine x_ldc C0 mw_271 dX4_helper_183 ?_
                                    obtain rfl := x_inj h
                                    exact x_iret C0 dX4_helper_185
set_option maxRecDepth 4000 in
set_option maxHeartbeats 2000000 in
theorem c_X4_table {l : Launch} {D : va_G} {cs : Nat → ClassId} {ad : Nat → Nat} (n : Nat) {σ : xM} {x1 : Int32} {x2 : Int32} {x3 : Int32}  {res : Int32} (h : F_X4_table n σ x1 x2 x3 = some res) : x_Met l yX4_table [Cond.code yX4_table cX4_table 5 (some FieldType.int)] ({ frames := 2, cells := 0, slots := 0, locals := 44 } : Room) D vwCl (xtys cs) 333 ad (wfT cs ad) [.ref (ad 0), .int x1, .int x2, .int x3] σ (some (.int res)) σ := by
  refine x_Met_of (L0 := [(0, .ref (ad 0)), (1, .int x1), (2, .int x2), (3, .int x3)]) (own := RX4) (by decide) rfl rfl wfT_loc (Nat.le_of_ble_eq_true rfl) rfl ?_
  intro p e s m args below meth c A C0
  refine x_aload_n C0 dX4_table_0 rfl 0 rfl ?_
  refine x_get C0 inu4 rfl 0 (by decide) mw_242 (by decide) wfT_r0 rfl dX4_table_1 ?_
  refine x_iload_n C0 dX4_table_4 rfl 1 rfl ?_
  obtain ⟨q1, eq1, h⟩ := x_bind h
  refine x_subVN11 C0 (n' := 47) (ι := fun r => 4 + r) (wf' := wfS cs (fun r => ad (4 + r))) (x_i1 xo_4) x_i2 (fun r hr => wfT_sub xo_4 hr) (fun r hr => wfT_sub xo_4 hr) (fun _ _ _ _ => rfl) (c_X2_helperAt n eq1) (x_cwVN C0 mw_464 mw_313 mw_9 mw_45 mw_314 hd_yX2_helperAt ⟨rfl, rfl, Nat.le_of_ble_eq_true rfl, Nat.le_of_ble_eq_true rfl⟩) (x_xt xo_4 kS_0).2.1 rfl (wfS_2 (x_xt xo_4 kS_0).2.2) rfl ⟨Nat.zero_le _, Nat.zero_le _⟩ (Nat.le_of_ble_eq_true rfl) dX4_table_5 ?_
  rcases q1 with _ | c2
  · replace h := x_on h
    refine x_top (v' := .null) rfl ?_
    refine x_astoreN C0 dX4_table_8 (L' := [(4, _), (0, _), (1, _), (2, _), (3, _)]) (by decide) rfl ?_
    refine x_aloadN C0 dX4_table_10 0 rfl ?_
    refine x_ifnonnullN C0 dX4_table_12 ?_
    refine x_ldc C0 mw_465 dX4_table_15 ?_
    obtain rfl := x_inj h
    exact x_iret C0 dX4_table_17
  · replace h := x_os h
    refine x_top (v' := .ref (ad (4 + c2))) rfl ?_
    have kc2 := tyF_X2_helperAt eq1
    refine x_astore C0 dX4_table_8 (L' := [(4, _), (0, _), (1, _), (2, _), (3, _)]) (by decide) rfl ?_
    refine x_aload C0 dX4_table_10 0 rfl ?_
    refine x_ifnonnull C0 (tgt := 18) dX4_table_12 rfl ?_
    refine x_iload_n C0 dX4_table_18 rfl 3 rfl ?_
    refine x_if_lt C0 (tgt := 31) dX4_table_19 rfl h (fun _ h => ?_) (fun _ h => ?_)
    · refine x_ldc C0 mw_271 dX4_table_31 ?_
      obtain rfl := x_inj h
      exact x_iret C0 dX4_table_33
    · refine x_iload_n C0 dX4_table_22 rfl 4 rfl ?_
      refine x_iconst C0 (v := 0) dX4_table_23 ki_0 ?_
      refine x_iconst C0 (v := 3) dX4_table_24 ki_3 ?_
      refine x_pureS3 C0 (fun ad' => c_X4_isOutside rfl) (x_cwS C0 mw_268 mw_269 mw_44 mw_270 hd_yX4_isOutside ⟨rfl, rfl, Nat.le_of_ble_eq_true rfl, Nat.le_of_ble_eq_true rfl⟩) ⟨Nat.zero_le _, Nat.zero_le _⟩ (Nat.le_of_ble_eq_true rfl) dX4_table_25 ?_
      refine x_if_eq C0 (tgt := 34) dX4_table_28 rfl h (fun _ h => ?_) (fun _ h => ?_)
      · refine x_aload C0 dX4_table_34 0 rfl ?_
        refine x_getN C0 inu0 rfl 0 (by decide) mw_106 (x_otr (x_xt xo_4 kc2)) (wfT_0 (x_xt xo_4 kc2)) rfl dX4_table_36 ?_
        obtain ⟨c3, ec3, h⟩ := x_bind h
        refine x_top (v' := .ref (ad (4 + c3))) (x_rf ec3) ?_
        have kc3 := tyT_0_0 (x_xt xo_4 kc2) ec3
        refine x_iload_n C0 dX4_table_39 rfl 3 rfl ?_
        refine x_iload_n C0 dX4_table_40 rfl 4 rfl ?_
        obtain ⟨q4, eq4, h⟩ := x_bind h
        refine x_subVN21 C0 (n' := 47) (ι := fun r => 4 + r) (wf' := wfS cs (fun r => ad (4 + r))) (x_i1 xo_4) x_i2 (fun r hr => wfT_sub xo_4 hr) (fun r hr => wfT_sub xo_4 hr) (fun _ _ _ _ => rfl) (c_X1_get n kc3.2 eq4) (x_cwVN C0 mw_479 mw_304 mw_7 mw_46 mw_305 hd_yX1_get ⟨rfl, rfl, Nat.le_of_ble_eq_true rfl, Nat.le_of_ble_eq_true rfl⟩) kc3.2.1 rfl (wfS_1 kc3.2.2) rfl ⟨Nat.zero_le _, Nat.zero_le _⟩ (Nat.le_of_ble_eq_true rfl) dX4_table_41 ?_
        obtain rfl := x_inj h
        exact x_iret C0 dX4_table_44
      · refine x_ldc C0 mw_271 dX4_table_31 ?_
        obtain rfl := x_inj h
        exact x_iret C0 dX4_table_33
set_option maxRecDepth 4000 in
set_option maxHeartbeats 2000000 in
theorem c_X4_wouldAsk {l : Launch} {D : va_G} {cs : Nat → ClassId} {ad : Nat → Nat} (n : Nat) {σ : xM} {x1 : Int32} {x2 : Int32} {x3 : Int32} {x4 : Int32}  {res : Int32 × xM} (h : F_X4_wouldAsk n σ x1 x2 x3 x4 = some res) : x_Met l yX4_wouldAsk [Cond.code yX4_wouldAsk cX4_wouldAsk 6 (some FieldType.int)] ({ frames := 6, cells := 0, slots := 0, locals := 145 } : Room) D vwCl (xtys cs) 333 ad (wfT cs ad) [.ref (ad 0), .int x1, .int x2, .int x3, .int x4] σ (some (.int res.1)) res.2 := by
  refine x_Met_of (L0 := [(0, .ref (ad 0)), (1, .int x1), (2, .int x2), (3, .int x3), (4, .int x4)]) (own := RX4) (by decide) rfl rfl wfT_loc (Nat.le_of_ble_eq_true rfl) rfl ?_
  intro p e s m args below meth c A C0
  refine x_aload_n C0 dX4_wouldAsk_0 rfl 0 rfl ?_
  refine x_get C0 inu4 rfl 0 (by decide) mw_242 (by decide) wfT_r0 rfl dX4_wouldAsk_1 ?_
  refine x_iload_n C0 dX4_wouldAsk_4 rfl 1 rfl ?_
  obtain ⟨q1, eq1, h⟩ := x_bind h
  refine x_subVN11 C0 (n' := 47) (ι := fun r => 4 + r) (wf' := wfS cs (fun r => ad (4 + r))) (x_i1 xo_4) x_i2 (fun r hr => wfT_sub xo_4 hr) (fun r hr => wfT_sub xo_4 hr) (fun _ _ _ _ => rfl) (c_X2_helperAt n eq1) (x_cwVN C0 mw_464 mw_313 mw_9 mw_45 mw_314 hd_yX2_helperAt ⟨rfl, rfl, Nat.le_of_ble_eq_true rfl, Nat.le_of_ble_eq_true rfl⟩) (x_xt xo_4 kS_0).2.1 rfl (wfS_2 (x_xt xo_4 kS_0).2.2) rfl ⟨Nat.zero_le _, Nat.zero_le _⟩ (Nat.le_of_ble_eq_true rfl) dX4_wouldAsk_5 ?_
  rcases q1 with _ | c2
  · replace h := x_on h
    refine x_top (v' := .null) rfl ?_
    refine x_ifnonnullN C0 dX4_wouldAsk_8 ?_
    refine x_ldc C0 mw_465 dX4_wouldAsk_11 ?_
    obtain rfl := x_inj h
    exact x_iret C0 dX4_wouldAsk_13
  · replace h := x_os h
    refine x_top (v' := .ref (ad (4 + c2))) rfl ?_
    have kc2 := tyF_X2_helperAt eq1
    refine x_ifnonnull C0 (tgt := 14) dX4_wouldAsk_8 rfl ?_
    refine x_iload_n C0 dX4_wouldAsk_14 rfl 2 rfl ?_
    refine x_iconst C0 (v := 0) dX4_wouldAsk_15 ki_0 ?_
    refine x_bipush C0 (v := 15) dX4_wouldAsk_16 kb_15 ?_
    refine x_pureS3 C0 (fun ad' => c_X4_isOutside rfl) (x_cwS C0 mw_268 mw_269 mw_44 mw_270 hd_yX4_isOutside ⟨rfl, rfl, Nat.le_of_ble_eq_true rfl, Nat.le_of_ble_eq_true rfl⟩) ⟨Nat.zero_le _, Nat.zero_le _⟩ (Nat.le_of_ble_eq_true rfl) dX4_wouldAsk_18 ?_
    refine x_if_ne C0 (tgt := 40) dX4_wouldAsk_21 rfl h (fun _ h => ?_) (fun _ h => ?_)
    · refine x_iload_n C0 dX4_wouldAsk_24 rfl 3 rfl ?_
      refine x_iconst C0 (v := 0) dX4_wouldAsk_25 ki_0 ?_
      refine x_sipush C0 (v := 9999) dX4_wouldAsk_26 ks_9999 ?_
      refine x_pureS3 C0 (fun ad' => c_X4_isOutside rfl) (x_cwS C0 mw_268 mw_269 mw_44 mw_270 hd_yX4_isOutside ⟨rfl, rfl, Nat.le_of_ble_eq_true rfl, Nat.le_of_ble_eq_true rfl⟩) ⟨Nat.zero_le _, Nat.zero_le _⟩ (Nat.le_of_ble_eq_true rfl) dX4_wouldAsk_29 ?_
      refine x_if_ne C0 (tgt := 40) dX4_wouldAsk_32 rfl h (fun _ h => ?_) (fun _ h => ?_)
      · refine x_iload C0 dX4_wouldAsk_35 4 rfl ?_
        refine x_if_ge C0 (tgt := 43) dX4_wouldAsk_37 rfl h (fun _ h => ?_) (fun _ h => ?_)
        · refine x_ldc C0 mw_271 dX4_wouldAsk_40 ?_
          obtain rfl := x_inj h
          exact x_iret C0 dX4_wouldAsk_42
        · refine x_aload_n C0 dX4_wouldAsk_43 rfl 0 rfl ?_
          refine x_get C0 inu4 rfl 1 (by decide) mw_243 (by decide) wfT_r0 rfl dX4_wouldAsk_44 ?_
          refine x_aload_n C0 dX4_wouldAsk_47 rfl 0 rfl ?_
          refine x_get C0 inu4 rfl 0 (by decide) mw_242 (by decide) wfT_r0 rfl dX4_wouldAsk_48 ?_
          obtain ⟨q3, eq3, h⟩ := x_bind h
          refine x_callVN10 C0 (c_X2_copyFrom n (x_xt xo_51 kS_0) (x_xt xo_4 kS_0) eq3) (x_cwVN C0 mw_277 mw_279 mw_2 mw_45 mw_280 hd_yX2_copyFrom ⟨rfl, rfl, Nat.le_of_ble_eq_true rfl, Nat.le_of_ble_eq_true rfl⟩) (x_otr (x_xt xo_51 kS_0)) rfl (wfT_2 (x_xt xo_51 kS_0)) rfl ⟨Nat.zero_le _, Nat.zero_le _⟩ (Nat.le_of_ble_eq_true rfl) dX4_wouldAsk_51 ?_
          refine x_aload_n C0 dX4_wouldAsk_54 rfl 0 rfl ?_
          refine x_get C0 inu4 rfl 1 (by decide) mw_243 (by decide) wfT_r0 rfl dX4_wouldAsk_55 ?_
          refine x_pc (pc' := 58) rfl ?_
          refine x_iload_n C0 dX4_wouldAsk_58 rfl 2 rfl ?_
          refine x_iload_n C0 dX4_wouldAsk_59 rfl 3 rfl ?_
          obtain ⟨q4, eq4, h⟩ := x_bind h
          refine x_subVN21 C0 (n' := 47) (ι := fun r => 51 + r) (wf' := wfS cs (fun r => ad (51 + r))) (x_i1 xo_51) x_i2 (fun r hr => wfT_sub xo_51 hr) (fun r hr => wfT_pt xo_51 hr) x_pt_same (c_X2_perform n eq4) (x_cwVN C0 mw_466 mw_361 mw_17 mw_45 mw_362 hd_yX2_perform ⟨rfl, rfl, Nat.le_of_ble_eq_true rfl, Nat.le_of_ble_eq_true rfl⟩) (x_xt xo_51 kS_0).2.1 rfl (wfS_2 (x_xt xo_51 kS_0).2.2) rfl ⟨Nat.zero_le _, Nat.zero_le _⟩ (Nat.le_of_ble_eq_true rfl) dX4_wouldAsk_60 ?_
          refine x_pop C0 dX4_wouldAsk_63 rfl ?_
          refine x_aload_n C0 dX4_wouldAsk_64 rfl 0 rfl ?_
          refine x_get C0 inu4 rfl 1 (by decide) mw_243 (by decide) wfT_r0 rfl dX4_wouldAsk_65 ?_
          refine x_iload_n C0 dX4_wouldAsk_68 rfl 1 rfl ?_
          obtain ⟨q6, eq6, h⟩ := x_bind h
          refine x_subVN11 C0 (n' := 47) (ι := fun r => 51 + r) (wf' := wfS cs (fun r => ad (51 + r))) (x_i1 xo_51) x_i2 (fun r hr => wfT_sub xo_51 hr) (fun r hr => wfT_sub xo_51 hr) (fun _ _ _ _ => rfl) (c_X2_helperAt n eq6) (x_cwVN C0 mw_464 mw_313 mw_9 mw_45 mw_314 hd_yX2_helperAt ⟨rfl, rfl, Nat.le_of_ble_eq_true rfl, Nat.le_of_ble_eq_true rfl⟩) (x_xt xo_51 kS_0).2.1 rfl (wfS_2 (x_xt xo_51 kS_0).2.2) rfl ⟨Nat.zero_le _, Nat.zero_le _⟩ (Nat.le_of_ble_eq_true rfl) dX4_wouldAsk_69 ?_
          rcases q6 with _ | c7
          · replace h := x_on h
            refine x_top (v' := .null) rfl ?_
            refine x_astoreN C0 dX4_wouldAsk_72 (L' := [(5, _), (0, _), (1, _), (2, _), (3, _), (4, _)]) (by decide) rfl ?_
            refine x_aloadN C0 dX4_wouldAsk_74 0 rfl ?_
            refine x_ifnonnullN C0 dX4_wouldAsk_76 ?_
            refine x_ldc C0 mw_272 dX4_wouldAsk_79 ?_
            refine x_goto C0 (tgt := 91) dX4_wouldAsk_81 rfl ?_
            obtain rfl := x_inj h
            exact x_iret C0 dX4_wouldAsk_91
          · replace h := x_os h
            refine x_top (v' := .ref (ad (51 + c7))) rfl ?_
            have kc7 := tyF_X2_helperAt eq6
            refine x_astore C0 dX4_wouldAsk_72 (L' := [(5, _), (0, _), (1, _), (2, _), (3, _), (4, _)]) (by decide) rfl ?_
            refine x_aload C0 dX4_wouldAsk_74 0 rfl ?_
            refine x_ifnonnull C0 (tgt := 84) dX4_wouldAsk_76 rfl ?_
            refine x_aload C0 dX4_wouldAsk_84 0 rfl ?_
            refine x_iload C0 dX4_wouldAsk_86 5 rfl ?_
            obtain ⟨q8, eq8, h⟩ := x_bind h
            refine x_subVN11 C0 (n' := 47) (ι := fun r => 51 + r) (wf' := wfS cs (fun r => ad (51 + r))) (x_i1 xo_51) x_i2 (fun r hr => wfT_sub xo_51 hr) (fun r hr => wfT_sub xo_51 hr) (fun _ _ _ _ => rfl) (c_X0_wishAt n (x_xt xo_51 kc7).2 eq8) (x_cwVN C0 mw_467 mw_469 mw_36 mw_48 mw_470 hd_yX0_wishAt ⟨rfl, rfl, Nat.le_of_ble_eq_true rfl, Nat.le_of_ble_eq_true rfl⟩) (x_xt xo_51 kc7).2.1 rfl (wfS_0 (x_xt xo_51 kc7).2.2) rfl ⟨Nat.zero_le _, Nat.zero_le _⟩ (Nat.le_of_ble_eq_true rfl) dX4_wouldAsk_88 ?_
            obtain rfl := x_inj h
            exact x_iret C0 dX4_wouldAsk_91
      · refine x_ldc C0 mw_271 dX4_wouldAsk_40 ?_
        obtain rfl := x_inj h
        exact x_iret C0 dX4_wouldAsk_42
    · refine x_ldc C0 mw_271 dX4_wouldAsk_40 ?_
      obtain rfl := x_inj h
      exact x_iret C0 dX4_wouldAsk_42
set_option maxRecDepth 4000 in
set_option maxHeartbeats 2000000 in
theorem c_X4_wouldHit {l : Launch} {D : va_G} {cs : Nat → ClassId} {ad : Nat → Nat} (n : Nat) {σ : xM} {x1 : Int32} {x2 : Int32} {x3 : Int32} {x4 : Int32}  {res : Int32 × xM} (h : F_X4_wouldHit n σ x1 x2 x3 x4 = some res) : x_Met l yX4_wouldHit [Cond.code yX4_wouldHit cX4_wouldHit 5 (some FieldType.int)] ({ frames := 7, cells := 0, slots := 0, locals := 171 } : Room) D vwCl (xtys cs) 333 ad (wfT cs ad) [.ref (ad 0), .int x1, .int x2, .int x3, .int x4] σ (some (.int res.1)) res.2 := by
  refine x_Met_of (L0 := [(0, .ref (ad 0)), (1, .int x1), (2, .int x2), (3, .int x3), (4, .int x4)]) (own := RX4) (by decide) rfl rfl wfT_loc (Nat.le_of_ble_eq_true rfl) rfl ?_
  intro p e s m args below meth c A C0
  refine x_iload_n C0 dX4_wouldHit_0 rfl 1 rfl ?_
  refine x_iload_n C0 dX4_wouldHit_1 rfl 2 rfl ?_
  refine x_iload_n C0 dX4_wouldHit_2 rfl 3 rfl ?_
  refine x_iload C0 dX4_wouldHit_3 4 rfl ?_
  refine x_pureS4 C0 (fun ad' => c_X4_isWalk rfl) (x_cwS C0 mw_352 mw_353 mw_44 mw_354 hd_yX4_isWalk ⟨rfl, rfl, Nat.le_of_ble_eq_true rfl, Nat.le_of_ble_eq_true rfl⟩) ⟨Nat.zero_le _, Nat.zero_le _⟩ (Nat.le_of_ble_eq_true rfl) dX4_wouldHit_5 ?_
  refine x_if_ne C0 (tgt := 14) dX4_wouldHit_8 rfl h (fun _ h => ?_) (fun _ h => ?_)
  · refine x_ldc C0 mw_271 dX4_wouldHit_11 ?_
    obtain rfl := x_inj h
    exact x_iret C0 dX4_wouldHit_13
  · refine x_aload_n C0 dX4_wouldHit_14 rfl 0 rfl ?_
    refine x_get C0 inu4 rfl 1 (by decide) mw_243 (by decide) wfT_r0 rfl dX4_wouldHit_15 ?_
    refine x_aload_n C0 dX4_wouldHit_18 rfl 0 rfl ?_
    refine x_get C0 inu4 rfl 0 (by decide) mw_242 (by decide) wfT_r0 rfl dX4_wouldHit_19 ?_
    obtain ⟨q1, eq1, h⟩ := x_bind h
    refine x_callVN10 C0 (c_X2_copyFrom n (x_xt xo_51 kS_0) (x_xt xo_4 kS_0) eq1) (x_cwVN C0 mw_277 mw_279 mw_2 mw_45 mw_280 hd_yX2_copyFrom ⟨rfl, rfl, Nat.le_of_ble_eq_true rfl, Nat.le_of_ble_eq_true rfl⟩) (x_otr (x_xt xo_51 kS_0)) rfl (wfT_2 (x_xt xo_51 kS_0)) rfl ⟨Nat.zero_le _, Nat.zero_le _⟩ (Nat.le_of_ble_eq_true rfl) dX4_wouldHit_22 ?_
    refine x_aload_n C0 dX4_wouldHit_25 rfl 0 rfl ?_
    refine x_get C0 inu4 rfl 1 (by decide) mw_243 (by decide) wfT_r0 rfl dX4_wouldHit_26 ?_
    refine x_pc (pc' := 29) rfl ?_
    refine x_iload_n C0 dX4_wouldHit_29 rfl 1 rfl ?_
    refine x_iload_n C0 dX4_wouldHit_30 rfl 2 rfl ?_
    refine x_iload_n C0 dX4_wouldHit_31 rfl 3 rfl ?_
    refine x_iload C0 dX4_wouldHit_32 4 rfl ?_
    obtain ⟨q2, eq2, h⟩ := x_bind h
    refine x_subVN41 C0 (n' := 47) (ι := fun r => 51 + r) (wf' := wfS cs (fun r => ad (51 + r))) (x_i1 xo_51) x_i2 (fun r hr => wfT_sub xo_51 hr) (fun r hr => wfT_pt xo_51 hr) x_pt_same (c_X2_performWalk n eq2) (x_cwVN C0 mw_355 mw_357 mw_16 mw_45 mw_358 hd_yX2_performWalk ⟨rfl, rfl, Nat.le_of_ble_eq_true rfl, Nat.le_of_ble_eq_true rfl⟩) (x_xt xo_51 kS_0).2.1 rfl (wfS_2 (x_xt xo_51 kS_0).2.2) rfl ⟨Nat.zero_le _, Nat.zero_le _⟩ (Nat.le_of_ble_eq_true rfl) dX4_wouldHit_34 ?_
    obtain rfl := x_inj h
    exact x_iret C0 dX4_wouldHit_37
set_option maxRecDepth 4000 in
set_option maxHeartbeats 2000000 in
theorem c_X4_logged {l : Launch} {D : va_G} {cs : Nat → ClassId} {ad : Nat → Nat} (n : Nat) {σ : xM} {x1 : Int32} {x2 : Int32}  {res : Int32} (h : F_X4_logged n σ x1 x2 = some res) : x_Met l yX4_logged [Cond.code yX4_logged cX4_logged 3 (some FieldType.int)] ({ frames := 2, cells := 0, slots := 0, locals := 44 } : Room) D vwCl (xtys cs) 333 ad (wfT cs ad) [.ref (ad 0), .int x1, .int x2] σ (some (.int res)) σ := by
  refine x_Met_of (L0 := [(0, .ref (ad 0)), (1, .int x1), (2, .int x2)]) (own := RX4) (by decide) rfl rfl wfT_loc (Nat.le_of_ble_eq_true rfl) rfl ?_
  intro p e s m args below meth c A C0
  refine x_iload_n C0 dX4_logged_0 rfl 1 rfl ?_
  refine x_if_lt C0 (tgt := 13) dX4_logged_1 rfl h (fun _ h => ?_) (fun _ h => ?_)
  · refine x_ldc C0 mw_271 dX4_logged_13 ?_
    obtain rfl := x_inj h
    exact x_iret C0 dX4_logged_15
  · refine x_iload_n C0 dX4_logged_4 rfl 2 rfl ?_
    refine x_iconst C0 (v := 0) dX4_logged_5 ki_0 ?_
    refine x_iconst C0 (v := 4) dX4_logged_6 ki_4 ?_
    refine x_pureS3 C0 (fun ad' => c_X4_isOutside rfl) (x_cwS C0 mw_268 mw_269 mw_44 mw_270 hd_yX4_isOutside ⟨rfl, rfl, Nat.le_of_ble_eq_true rfl, Nat.le_of_ble_eq_true rfl⟩) ⟨Nat.zero_le _, Nat.zero_le _⟩ (Nat.le_of_ble_eq_true rfl) dX4_logged_7 ?_
    refine x_if_eq C0 (tgt := 16) dX4_logged_10 rfl h (fun _ h => ?_) (fun _ h => ?_)
    · refine x_aload_n C0 dX4_logged_16 rfl 0 rfl ?_
      refine x_get C0 inu4 rfl 0 (by decide) mw_242 (by decide) wfT_r0 rfl dX4_logged_17 ?_
      refine x_getN C0 inu2 rfl 3 (by decide) mw_180 (x_otr (x_xt xo_4 kS_0)) (wfT_2 (x_xt xo_4 kS_0)) rfl dX4_logged_20 ?_
      refine x_top (v' := .ref (ad (4 + 45))) rfl ?_
      refine x_aload_n C0 dX4_logged_23 rfl 0 rfl ?_
      refine x_get C0 inu4 rfl 0 (by decide) mw_242 (by decide) wfT_r0 rfl dX4_logged_24 ?_
      refine x_getN C0 inu2 rfl 3 (by decide) mw_180 (x_otr (x_xt xo_4 kS_0)) (wfT_2 (x_xt xo_4 kS_0)) rfl dX4_logged_27 ?_
      refine x_top (v' := .ref (ad (4 + 45))) rfl ?_
      refine x_getN C0 inu1 rfl 3 (by decide) mw_79 (x_otr (x_xt xo_4 kS_45)) (wfT_1 (x_xt xo_4 kS_45)) rfl dX4_logged_30 ?_
      refine x_pc (pc' := 33) rfl ?_
      refine x_iconst C0 (v := 1) dX4_logged_33 ki_1 ?_
      refine x_isub C0 dX4_logged_34 ?_
      refine x_iload_n C0 dX4_logged_35 rfl 1 rfl ?_
      refine x_isub C0 dX4_logged_36 ?_
      refine x_iload_n C0 dX4_logged_37 rfl 2 rfl ?_
      obtain ⟨q1, eq1, h⟩ := x_bind h
      refine x_subVN21 C0 (n' := 47) (ι := fun r => 4 + r) (wf' := wfS cs (fun r => ad (4 + r))) (x_i1 xo_4) x_i2 (fun r hr => wfT_sub xo_4 hr) (fun r hr => wfT_sub xo_4 hr) (fun _ _ _ _ => rfl) (c_X1_get n (x_xt xo_4 kS_45).2 eq1) (x_cwVN C0 mw_479 mw_304 mw_7 mw_46 mw_305 hd_yX1_get ⟨rfl, rfl, Nat.le_of_ble_eq_true rfl, Nat.le_of_ble_eq_true rfl⟩) (x_xt xo_4 kS_45).2.1 rfl (wfS_1 (x_xt xo_4 kS_45).2.2) rfl ⟨Nat.zero_le _, Nat.zero_le _⟩ (Nat.le_of_ble_eq_true rfl) dX4_logged_38 ?_
      obtain rfl := x_inj h
      exact x_iret C0 dX4_logged_41
    · refine x_ldc C0 mw_271 dX4_logged_13 ?_
      obtain rfl := x_inj h
      exact x_iret C0 dX4_logged_15
set_option maxRecDepth 4000 in
set_option maxHeartbeats 2000000 in
theorem c_X4_count {l : Launch} {D : va_G} {cs : Nat → ClassId} {ad : Nat → Nat} (n : Nat) {σ : xM} {x1 : Int32}  {res : Int32} (h : F_X4_count n σ x1 = some res) : x_Met l yX4_count [Cond.code yX4_count cX4_count 2 (some FieldType.int)] ({ frames := 4, cells := 0, slots := 0, locals := 90 } : Room) D vwCl (xtys cs) 333 ad (wfT cs ad) [.ref (ad 0), .int x1] σ (some (.int res)) σ := by
  refine x_Met_of (L0 := [(0, .ref (ad 0)), (1, .int x1)]) (own := RX4) (by decide) rfl rfl wfT_loc (Nat.le_of_ble_eq_true rfl) rfl ?_
  intro p e s m args below meth c A C0
  refine x_iload_n C0 dX4_count_0 rfl 1 rfl ?_
  refine x_ite h (fun hc h => ?_) (fun hc0 h => ?_)
  · refine x_top (congrArg Value.int hc) ?_
    refine x_tableIn C0 (off := 83) (tgt := 84) dX4_count_1 (by decide) (by decide) (by decide) rfl ?_
    refine x_aload_n C0 dX4_count_84 rfl 0 rfl ?_
    refine x_get C0 inu4 rfl 0 (by decide) mw_242 (by decide) wfT_r0 rfl dX4_count_85 ?_
    refine x_getN C0 inu2 rfl 8 (by decide) mw_190 (x_otr (x_xt xo_4 kS_0)) (wfT_2 (x_xt xo_4 kS_0)) rfl dX4_count_88 ?_
    obtain rfl := x_inj h
    exact x_iret C0 dX4_count_91
  · refine x_ite h (fun hc h => ?_) (fun hc1 h => ?_)
    · refine x_top (congrArg Value.int hc) ?_
      refine x_tableIn C0 (off := 91) (tgt := 92) dX4_count_1 (by decide) (by decide) (by decide) rfl ?_
      refine x_aload_n C0 dX4_count_92 rfl 0 rfl ?_
      refine x_get C0 inu4 rfl 0 (by decide) mw_242 (by decide) wfT_r0 rfl dX4_count_93 ?_
      refine x_getN C0 inu2 rfl 9 (by decide) mw_192 (x_otr (x_xt xo_4 kS_0)) (wfT_2 (x_xt xo_4 kS_0)) rfl dX4_count_96 ?_
      obtain rfl := x_inj h
      exact x_iret C0 dX4_count_99
    · refine x_ite h (fun hc h => ?_) (fun hc2 h => ?_)
      · refine x_top (congrArg Value.int hc) ?_
        refine x_tableIn C0 (off := 99) (tgt := 100) dX4_count_1 (by decide) (by decide) (by decide) rfl ?_
        refine x_aload_n C0 dX4_count_100 rfl 0 rfl ?_
        refine x_get C0 inu4 rfl 0 (by decide) mw_242 (by decide) wfT_r0 rfl dX4_count_101 ?_
        refine x_getN C0 inu2 rfl 10 (by decide) mw_194 (x_otr (x_xt xo_4 kS_0)) (wfT_2 (x_xt xo_4 kS_0)) rfl dX4_count_104 ?_
        obtain rfl := x_inj h
        exact x_iret C0 dX4_count_107
      · refine x_ite h (fun hc h => ?_) (fun hc3 h => ?_)
        · refine x_top (congrArg Value.int hc) ?_
          refine x_tableIn C0 (off := 107) (tgt := 108) dX4_count_1 (by decide) (by decide) (by decide) rfl ?_
          refine x_aload_n C0 dX4_count_108 rfl 0 rfl ?_
          refine x_get C0 inu4 rfl 0 (by decide) mw_242 (by decide) wfT_r0 rfl dX4_count_109 ?_
          refine x_getN C0 inu2 rfl 8 (by decide) mw_190 (x_otr (x_xt xo_4 kS_0)) (wfT_2 (x_xt xo_4 kS_0)) rfl dX4_count_112 ?_
          refine x_aload_n C0 dX4_count_115 rfl 0 rfl ?_
          refine x_get C0 inu4 rfl 0 (by decide) mw_242 (by decide) wfT_r0 rfl dX4_count_116 ?_
          refine x_getN C0 inu2 rfl 9 (by decide) mw_192 (x_otr (x_xt xo_4 kS_0)) (wfT_2 (x_xt xo_4 kS_0)) rfl dX4_count_119 ?_
          refine x_isub C0 dX4_count_122 ?_
          refine x_pc (pc' := 123) rfl ?_
          obtain rfl := x_inj h
          exact x_iret C0 dX4_count_123
        · refine x_ite h (fun hc h => ?_) (fun hc4 h => ?_)
          · refine x_top (congrArg Value.int hc) ?_
            refine x_tableIn C0 (off := 123) (tgt := 124) dX4_count_1 (by decide) (by decide) (by decide) rfl ?_
            refine x_aload_n C0 dX4_count_124 rfl 0 rfl ?_
            refine x_get C0 inu4 rfl 0 (by decide) mw_242 (by decide) wfT_r0 rfl dX4_count_125 ?_
            refine x_getN C0 inu2 rfl 11 (by decide) mw_196 (x_otr (x_xt xo_4 kS_0)) (wfT_2 (x_xt xo_4 kS_0)) rfl dX4_count_128 ?_
            obtain rfl := x_inj h
            exact x_iret C0 dX4_count_131
          · refine x_ite h (fun hc h => ?_) (fun hc5 h => ?_)
            · refine x_top (congrArg Value.int hc) ?_
              refine x_tableIn C0 (off := 131) (tgt := 132) dX4_count_1 (by decide) (by decide) (by decide) rfl ?_
              refine x_aload_n C0 dX4_count_132 rfl 0 rfl ?_
              refine x_get C0 inu4 rfl 0 (by decide) mw_242 (by decide) wfT_r0 rfl dX4_count_133 ?_
              refine x_getN C0 inu2 rfl 12 (by decide) mw_198 (x_otr (x_xt xo_4 kS_0)) (wfT_2 (x_xt xo_4 kS_0)) rfl dX4_count_136 ?_
              obtain rfl := x_inj h
              exact x_iret C0 dX4_count_139
            · refine x_ite h (fun hc h => ?_) (fun hc6 h => ?_)
              · refine x_top (congrArg Value.int hc) ?_
                refine x_tableIn C0 (off := 139) (tgt := 140) dX4_count_1 (by decide) (by decide) (by decide) rfl ?_
                refine x_aload_n C0 dX4_count_140 rfl 0 rfl ?_
                refine x_get C0 inu4 rfl 0 (by decide) mw_242 (by decide) wfT_r0 rfl dX4_count_141 ?_
                refine x_getN C0 inu2 rfl 4 (by decide) mw_182 (x_otr (x_xt xo_4 kS_0)) (wfT_2 (x_xt xo_4 kS_0)) rfl dX4_count_144 ?_
                obtain rfl := x_inj h
                exact x_iret C0 dX4_count_147
              · refine x_ite h (fun hc h => ?_) (fun hc7 h => ?_)
                · refine x_top (congrArg Value.int hc) ?_
                  refine x_tableIn C0 (off := 147) (tgt := 148) dX4_count_1 (by decide) (by decide) (by decide) rfl ?_
                  refine x_aload_n C0 dX4_count_148 rfl 0 rfl ?_
                  refine x_get C0 inu4 rfl 0 (by decide) mw_242 (by decide) wfT_r0 rfl dX4_count_149 ?_
                  refine x_getN C0 inu2 rfl 5 (by decide) mw_184 (x_otr (x_xt xo_4 kS_0)) (wfT_2 (x_xt xo_4 kS_0)) rfl dX4_count_152 ?_
                  obtain rfl := x_inj h
                  exact x_iret C0 dX4_count_155
                · refine x_ite h (fun hc h => ?_) (fun hc8 h => ?_)
                  · refine x_top (congrArg Value.int hc) ?_
                    refine x_tableIn C0 (off := 155) (tgt := 156) dX4_count_1 (by decide) (by decide) (by decide) rfl ?_
                    refine x_aload_n C0 dX4_count_156 rfl 0 rfl ?_
                    refine x_get C0 inu4 rfl 0 (by decide) mw_242 (by decide) wfT_r0 rfl dX4_count_157 ?_
                    obtain ⟨q1, eq1, h⟩ := x_bind h
                    refine x_subVN01 C0 (n' := 47) (ι := fun r => 4 + r) (wf' := wfS cs (fun r => ad (4 + r))) (x_i1 xo_4) x_i2 (fun r hr => wfT_sub xo_4 hr) (fun r hr => wfT_sub xo_4 hr) (fun _ _ _ _ => rfl) (c_X2_linesInCache n eq1) (x_cwVN C0 mw_484 mw_486 mw_37 mw_45 mw_487 hd_yX2_linesInCache ⟨rfl, rfl, Nat.le_of_ble_eq_true rfl, Nat.le_of_ble_eq_true rfl⟩) (x_xt xo_4 kS_0).2.1 rfl (wfS_2 (x_xt xo_4 kS_0).2.2) rfl ⟨Nat.zero_le _, Nat.zero_le _⟩ (Nat.le_of_ble_eq_true rfl) dX4_count_160 ?_
                    obtain rfl := x_inj h
                    exact x_iret C0 dX4_count_163
                  · refine x_ite h (fun hc h => ?_) (fun hc9 h => ?_)
                    · refine x_top (congrArg Value.int hc) ?_
                      refine x_tableIn C0 (off := 163) (tgt := 164) dX4_count_1 (by decide) (by decide) (by decide) rfl ?_
                      refine x_aload_n C0 dX4_count_164 rfl 0 rfl ?_
                      refine x_get C0 inu4 rfl 0 (by decide) mw_242 (by decide) wfT_r0 rfl dX4_count_165 ?_
                      obtain ⟨q2, eq2, h⟩ := x_bind h
                      refine x_subVN01 C0 (n' := 47) (ι := fun r => 4 + r) (wf' := wfS cs (fun r => ad (4 + r))) (x_i1 xo_4) x_i2 (fun r hr => wfT_sub xo_4 hr) (fun r hr => wfT_sub xo_4 hr) (fun _ _ _ _ => rfl) (c_X2_newLines n eq2) (x_cwVN C0 mw_488 mw_490 mw_38 mw_45 mw_491 hd_yX2_newLines ⟨rfl, rfl, Nat.le_of_ble_eq_true rfl, Nat.le_of_ble_eq_true rfl⟩) (x_xt xo_4 kS_0).2.1 rfl (wfS_2 (x_xt xo_4 kS_0).2.2) rfl ⟨Nat.zero_le _, Nat.zero_le _⟩ (Nat.le_of_ble_eq_true rfl) dX4_count_168 ?_
                      obtain rfl := x_inj h
                      exact x_iret C0 dX4_count_171
                    · refine x_ite h (fun hc h => ?_) (fun hc10 h => ?_)
                      · refine x_top (congrArg Value.int hc) ?_
                        refine x_tableIn C0 (off := 171) (tgt := 172) dX4_count_1 (by decide) (by decide) (by decide) rfl ?_
                        refine x_aload_n C0 dX4_count_172 rfl 0 rfl ?_
                        refine x_get C0 inu4 rfl 0 (by decide) mw_242 (by decide) wfT_r0 rfl dX4_count_173 ?_
                        refine x_getN C0 inu2 rfl 6 (by decide) mw_186 (x_otr (x_xt xo_4 kS_0)) (wfT_2 (x_xt xo_4 kS_0)) rfl dX4_count_176 ?_
                        obtain rfl := x_inj h
                        exact x_iret C0 dX4_count_179
                      · refine x_ite h (fun hc h => ?_) (fun hc11 h => ?_)
                        · refine x_top (congrArg Value.int hc) ?_
                          refine x_tableIn C0 (off := 179) (tgt := 180) dX4_count_1 (by decide) (by decide) (by decide) rfl ?_
                          refine x_aload_n C0 dX4_count_180 rfl 0 rfl ?_
                          refine x_get C0 inu4 rfl 0 (by decide) mw_242 (by decide) wfT_r0 rfl dX4_count_181 ?_
                          refine x_getN C0 inu2 rfl 7 (by decide) mw_188 (x_otr (x_xt xo_4 kS_0)) (wfT_2 (x_xt xo_4 kS_0)) rfl dX4_count_184 ?_
                          obtain rfl := x_inj h
                          exact x_iret C0 dX4_count_187
                        · refine x_ite h (fun hc h => ?_) (fun hc12 h => ?_)
                          · refine x_top (congrArg Value.int hc) ?_
                            refine x_tableIn C0 (off := 187) (tgt := 188) dX4_count_1 (by decide) (by decide) (by decide) rfl ?_
                            refine x_aload_n C0 dX4_count_188 rfl 0 rfl ?_
                            refine x_get C0 inu4 rfl 0 (by decide) mw_242 (by decide) wfT_r0 rfl dX4_count_189 ?_
                            obtain ⟨q3, eq3, h⟩ := x_bind h
                            refine x_subVN01 C0 (n' := 47) (ι := fun r => 4 + r) (wf' := wfS cs (fun r => ad (4 + r))) (x_i1 xo_4) x_i2 (fun r hr => wfT_sub xo_4 hr) (fun r hr => wfT_sub xo_4 hr) (fun _ _ _ _ => rfl) (c_X2_allHours n eq3) (x_cwVN C0 mw_496 mw_498 mw_40 mw_45 mw_499 hd_yX2_allHours ⟨rfl, rfl, Nat.le_of_ble_eq_true rfl, Nat.le_of_ble_eq_true rfl⟩) (x_xt xo_4 kS_0).2.1 rfl (wfS_2 (x_xt xo_4 kS_0).2.2) rfl ⟨Nat.zero_le _, Nat.zero_le _⟩ (Nat.le_of_ble_eq_true rfl) dX4_count_192 ?_
                            obtain rfl := x_inj h
                            exact x_iret C0 dX4_count_195
                          · refine x_ite h (fun hc h => ?_) (fun hc13 h => ?_)
                            · refine x_top (congrArg Value.int hc) ?_
                              refine x_tableIn C0 (off := 195) (tgt := 196) dX4_count_1 (by decide) (by decide) (by decide) rfl ?_
                              refine x_aload_n C0 dX4_count_196 rfl 0 rfl ?_
                              refine x_get C0 inu4 rfl 0 (by decide) mw_242 (by decide) wfT_r0 rfl dX4_count_197 ?_
                              refine x_getN C0 inu2 rfl 1 (by decide) mw_177 (x_otr (x_xt xo_4 kS_0)) (wfT_2 (x_xt xo_4 kS_0)) rfl dX4_count_200 ?_
                              refine x_top (v' := .ref (ad (4 + 18))) rfl ?_
                              refine x_getN C0 inu1 rfl 3 (by decide) mw_79 (x_otr (x_xt xo_4 kS_18)) (wfT_1 (x_xt xo_4 kS_18)) rfl dX4_count_203 ?_
                              obtain rfl := x_inj h
                              exact x_iret C0 dX4_count_206
                            · refine x_ite h (fun hc h => ?_) (fun hc14 h => ?_)
                              · refine x_top (congrArg Value.int hc) ?_
                                refine x_tableIn C0 (off := 206) (tgt := 207) dX4_count_1 (by decide) (by decide) (by decide) rfl ?_
                                refine x_aload_n C0 dX4_count_207 rfl 0 rfl ?_
                                refine x_get C0 inu4 rfl 6 (by decide) mw_248 (by decide) wfT_r0 rfl dX4_count_208 ?_
                                obtain rfl := x_inj h
                                exact x_iret C0 dX4_count_211
                              · refine x_ite h (fun hc h => ?_) (fun hc15 h => ?_)
                                · refine x_top (congrArg Value.int hc) ?_
                                  refine x_tableIn C0 (off := 211) (tgt := 212) dX4_count_1 (by decide) (by decide) (by decide) rfl ?_
                                  refine x_aload_n C0 dX4_count_212 rfl 0 rfl ?_
                                  refine x_get C0 inu4 rfl 4 (by decide) mw_246 (by decide) wfT_r0 rfl dX4_count_213 ?_
                                  refine x_getN C0 inu3 rfl 1 (by decide) mw_235 (by decide) wfT_r2 rfl dX4_count_216 ?_
                                  obtain rfl := x_inj h
                                  exact x_iret C0 dX4_count_219
                                · refine x_ite h (fun hc h => ?_) (fun hc16 h => ?_)
                                  · refine x_top (congrArg Value.int hc) ?_
                                    refine x_tableIn C0 (off := 219) (tgt := 220) dX4_count_1 (by decide) (by decide) (by decide) rfl ?_
                                    refine x_aload_n C0 dX4_count_220 rfl 0 rfl ?_
                                    refine x_get C0 inu4 rfl 0 (by decide) mw_242 (by decide) wfT_r0 rfl dX4_count_221 ?_
                                    obtain ⟨q4, eq4, h⟩ := x_bind h
                                    refine x_subVN01 C0 (n' := 47) (ι := fun r => 4 + r) (wf' := wfS cs (fun r => ad (4 + r))) (x_i1 xo_4) x_i2 (fun r hr => wfT_sub xo_4 hr) (fun r hr => wfT_sub xo_4 hr) (fun _ _ _ _ => rfl) (c_X2_programsInLog n eq4) (x_cwVN C0 mw_500 mw_502 mw_41 mw_45 mw_503 hd_yX2_programsInLog ⟨rfl, rfl, Nat.le_of_ble_eq_true rfl, Nat.le_of_ble_eq_true rfl⟩) (x_xt xo_4 kS_0).2.1 rfl (wfS_2 (x_xt xo_4 kS_0).2.2) rfl ⟨Nat.zero_le _, Nat.zero_le _⟩ (Nat.le_of_ble_eq_true rfl) dX4_count_224 ?_
                                    obtain rfl := x_inj h
                                    exact x_iret C0 dX4_count_227
                                  · refine x_tableOut C0 (tgt := 228) dX4_count_1 (x_swo_16 hc0 hc1 hc2 hc3 hc4 hc5 hc6 hc7 hc8 hc9 hc10 hc11 hc12 hc13 hc14 hc15 hc16) rfl ?_
                                    refine x_ldc C0 mw_271 dX4_count_228 ?_
                                    obtain rfl := x_inj h
                                    exact x_iret C0 dX4_count_230
