/-! the law's cases *)  -/
theorem hd_yX4_bestHelper : yX4_bestHelper.cls ≠ "java/lang/invoke/MethodHandle" ∧ yX4_bestHelper.cls ≠ "java/lang/invoke/VarHandle" ∧ (parseMethodDescriptor yX4_bestHelper.desc).map (fun d => d.parameters.length) = some 0 := ⟨by decide +kernel, by decide +kernel, by decide +kernel⟩
theorem hd_yX4_count : yX4_count.cls ≠ "java/lang/invoke/MethodHandle" ∧ yX4_count.cls ≠ "java/lang/invoke/VarHandle" ∧ (parseMethodDescriptor yX4_count.desc).map (fun d => d.parameters.length) = some 1 := ⟨by decide +kernel, by decide +kernel, by decide +kernel⟩
theorem hd_yX4_logged : yX4_logged.cls ≠ "java/lang/invoke/MethodHandle" ∧ yX4_logged.cls ≠ "java/lang/invoke/VarHandle" ∧ (parseMethodDescriptor yX4_logged.desc).map (fun d => d.parameters.length) = some 2 := ⟨by decide +kernel, by decide +kernel, by decide +kernel⟩
theorem hd_yX4_wouldAsk : yX4_wouldAsk.cls ≠ "java/lang/invoke/MethodHandle" ∧ yX4_wouldAsk.cls ≠ "java/lang/invoke/VarHandle" ∧ (parseMethodDescriptor yX4_wouldAsk.desc).map (fun d => d.parameters.length) = some 4 := ⟨by decide +kernel, by decide +kernel, by decide +kernel⟩
theorem hd_yX4_wouldHit : yX4_wouldHit.cls ≠ "java/lang/invoke/MethodHandle" ∧ yX4_wouldHit.cls ≠ "java/lang/invoke/VarHandle" ∧ (parseMethodDescriptor yX4_wouldHit.desc).map (fun d => d.parameters.length) = some 4 := ⟨by decide +kernel, by decide +kernel, by decide +kernel⟩
theorem hd_yX5_bestHelper : yX5_bestHelper.cls ≠ "java/lang/invoke/MethodHandle" ∧ yX5_bestHelper.cls ≠ "java/lang/invoke/VarHandle" ∧ (parseMethodDescriptor yX5_bestHelper.desc).map (fun d => d.parameters.length) = some 0 := ⟨by decide +kernel, by decide +kernel, by decide +kernel⟩
theorem hd_yX5_count : yX5_count.cls ≠ "java/lang/invoke/MethodHandle" ∧ yX5_count.cls ≠ "java/lang/invoke/VarHandle" ∧ (parseMethodDescriptor yX5_count.desc).map (fun d => d.parameters.length) = some 1 := ⟨by decide +kernel, by decide +kernel, by decide +kernel⟩
theorem hd_yX5_logged : yX5_logged.cls ≠ "java/lang/invoke/MethodHandle" ∧ yX5_logged.cls ≠ "java/lang/invoke/VarHandle" ∧ (parseMethodDescriptor yX5_logged.desc).map (fun d => d.parameters.length) = some 2 := ⟨by decide +kernel, by decide +kernel, by decide +kernel⟩
theorem hd_yX5_wouldAsk : yX5_wouldAsk.cls ≠ "java/lang/invoke/MethodHandle" ∧ yX5_wouldAsk.cls ≠ "java/lang/invoke/VarHandle" ∧ (parseMethodDescriptor yX5_wouldAsk.desc).map (fun d => d.parameters.length) = some 4 := ⟨by decide +kernel, by decide +kernel, by decide +kernel⟩
theorem hd_yX5_wouldHit : yX5_wouldHit.cls ≠ "java/lang/invoke/MethodHandle" ∧ yX5_wouldHit.cls ≠ "java/lang/invoke/VarHandle" ∧ (parseMethodDescriptor yX5_wouldHit.desc).map (fun d => d.parameters.length) = some 4 := ⟨by decide +kernel, by decide +kernel, by decide +kernel⟩
section LR
variable {p : Program} {l : Launch} {e : Env} {R : Room} {s : State} {m : MethodId} {args : Array Value} {below : List Frame} {meth : Method} {c : Code} {D : va_G} {A : Nat → Prop} {H0 : Heap} {cs : Nat → ClassId} {ad : Nat → Nat} {ret : Option FieldType} {Q : State → Prop} {b Ln i n B : Nat} {xs : Nat → Int32} {σ μ : xM} {a : xA}
set_option maxRecDepth 8000 in
set_option maxHeartbeats 4000000 in
theorem law_wouldAsk (C0 : x_C p s m args meth c D vwCl (xtys cs) A H0 337 ad (wfL cs ad) cL_law 4 RL ret) (hX : va_X b Ln xs s H0) (hbl : b < H0.size) (hbA : ¬ A b) (hR : R.frames = 10 ∧ R.locals = 390 ∧ 337 ≤ R.cells ∧ 6045 ≤ R.slots) (hn : 400 < n) (hi : i + 5 ≤ Ln) (hL : Ln ≤ 2560) (Rl : Rel B σ μ a) (hB : B + 30000 < 2 ^ 30) (K : ∀ σ' μ' a', Rel (B + 30000) σ' μ' a' → x_W p l e R s m args below meth c D vwCl A H0 337 ad (wfL cs ad) 4 337 6045 Q (lam σ' μ') 855 [(3, .int (nI i)), (2, .ref (ad 333)), (1, .ref (ad 0)), (0, .ref b)] []) : x_W p l e R s m args below meth c D vwCl A H0 337 ad (wfL cs ad) 4 337 6045 Q (lam σ μ) 680 [(3, .int (nI i)), (2, .ref (ad 333)), (1, .ref (ad 0)), (0, .ref b)] [] := by
  obtain ⟨v, σ', μ', a', e1, e2, R2⟩ := M_wouldAsk Rl hn hB (xs (i + 1)) (xs (i + 2)) (xs (i + 3)) (xs (i + 4))
  refine x_pc (pc' := 680) rfl ?_
  refine x_aload_n C0 dL_law_680 rfl 2 rfl ?_
  refine x_aload_n C0 dL_law_681 rfl 3 rfl ?_
  refine x_iload_n C0 dL_law_682 rfl 0 rfl ?_
  refine x_iconst C0 (v := nI 1) dL_law_683 rfl ?_
  refine x_pc (pc' := 684) rfl ?_
  refine x_iadd C0 dL_law_684 ?_
  refine x_top (v' := .int (nI (i + 1))) (congrArg Value.int (nI_add i 1)) ?_
  refine x_sld C0 hX hbl hbA (vp_in_nI (show i + 1 < Ln by omega) (by omega)) dL_law_685 ?_
  refine x_top (v' := .int (xs (i + 1))) (congrArg (fun z => Value.int (xs z)) (nI_clamp (by omega))) ?_
  refine x_aload_n C0 dL_law_686 rfl 3 rfl ?_
  refine x_iload_n C0 dL_law_687 rfl 0 rfl ?_
  refine x_pc (pc' := 688) rfl ?_
  refine x_iconst C0 (v := nI 2) dL_law_688 rfl ?_
  refine x_iadd C0 dL_law_689 ?_
  refine x_top (v' := .int (nI (i + 2))) (congrArg Value.int (nI_add i 2)) ?_
  refine x_sld C0 hX hbl hbA (vp_in_nI (show i + 2 < Ln by omega) (by omega)) dL_law_690 ?_
  refine x_top (v' := .int (xs (i + 2))) (congrArg (fun z => Value.int (xs z)) (nI_clamp (by omega))) ?_
  refine x_aload_n C0 dL_law_691 rfl 3 rfl ?_
  refine x_pc (pc' := 692) rfl ?_
  refine x_iload_n C0 dL_law_692 rfl 0 rfl ?_
  refine x_iconst C0 (v := nI 3) dL_law_693 rfl ?_
  refine x_iadd C0 dL_law_694 ?_
  refine x_top (v' := .int (nI (i + 3))) (congrArg Value.int (nI_add i 3)) ?_
  refine x_sld C0 hX hbl hbA (vp_in_nI (show i + 3 < Ln by omega) (by omega)) dL_law_695 ?_
  refine x_top (v' := .int (xs (i + 3))) (congrArg (fun z => Value.int (xs z)) (nI_clamp (by omega))) ?_
  refine x_pc (pc' := 696) rfl ?_
  refine x_aload_n C0 dL_law_696 rfl 3 rfl ?_
  refine x_iload_n C0 dL_law_697 rfl 0 rfl ?_
  refine x_iconst C0 (v := nI 4) dL_law_698 rfl ?_
  refine x_iadd C0 dL_law_699 ?_
  refine x_top (v' := .int (nI (i + 4))) (congrArg Value.int (nI_add i 4)) ?_
  refine x_pc (pc' := 700) rfl ?_
  refine x_sld C0 hX hbl hbA (vp_in_nI (show i + 4 < Ln by omega) (by omega)) dL_law_700 ?_
  refine x_top (v' := .int (xs (i + 4))) (congrArg (fun z => Value.int (xs z)) (nI_clamp (by omega))) ?_
  refine x_subV41 C0 (n' := 333) (ι := fun r => r) (wf' := wfT cs ad) (τ := σ) (τ' := σ') (σ' := lam σ' μ) (fun r h => by omega) (fun _ _ _ _ h => h) (fun r h => wfL_T h) (fun r h => wfL_T h) lam_T (c_X4_wouldAsk n e1) (x_cwV C0 mw_594 mw_595 mw_596 mw_78 mw_597 hd_yX4_wouldAsk ⟨rfl, rfl, by rw [hR.1]; decide, by rw [hR.2.1]; decide⟩) (r := 0) (by decide) rfl wfT_r0 rfl ⟨hR.2.2.1, hR.2.2.2⟩ (Nat.le_of_ble_eq_true rfl) dL_law_701 ?_
  refine x_aload_n C0 dL_law_704 rfl 1 rfl ?_
  refine x_aload_n C0 dL_law_705 rfl 3 rfl ?_
  refine x_pc (pc' := 706) rfl ?_
  refine x_iload_n C0 dL_law_706 rfl 0 rfl ?_
  refine x_iconst C0 (v := nI 1) dL_law_707 rfl ?_
  refine x_iadd C0 dL_law_708 ?_
  refine x_top (v' := .int (nI (i + 1))) (congrArg Value.int (nI_add i 1)) ?_
  refine x_sld C0 hX hbl hbA (vp_in_nI (show i + 1 < Ln by omega) (by omega)) dL_law_709 ?_
  refine x_top (v' := .int (xs (i + 1))) (congrArg (fun z => Value.int (xs z)) (nI_clamp (by omega))) ?_
  refine x_pc (pc' := 710) rfl ?_
  refine x_aload_n C0 dL_law_710 rfl 3 rfl ?_
  refine x_iload_n C0 dL_law_711 rfl 0 rfl ?_
  refine x_iconst C0 (v := nI 2) dL_law_712 rfl ?_
  refine x_iadd C0 dL_law_713 ?_
  refine x_top (v' := .int (nI (i + 2))) (congrArg Value.int (nI_add i 2)) ?_
  refine x_pc (pc' := 714) rfl ?_
  refine x_sld C0 hX hbl hbA (vp_in_nI (show i + 2 < Ln by omega) (by omega)) dL_law_714 ?_
  refine x_top (v' := .int (xs (i + 2))) (congrArg (fun z => Value.int (xs z)) (nI_clamp (by omega))) ?_
  refine x_aload_n C0 dL_law_715 rfl 3 rfl ?_
  refine x_iload_n C0 dL_law_716 rfl 0 rfl ?_
  refine x_iconst C0 (v := nI 3) dL_law_717 rfl ?_
  refine x_pc (pc' := 718) rfl ?_
  refine x_iadd C0 dL_law_718 ?_
  refine x_top (v' := .int (nI (i + 3))) (congrArg Value.int (nI_add i 3)) ?_
  refine x_sld C0 hX hbl hbA (vp_in_nI (show i + 3 < Ln by omega) (by omega)) dL_law_719 ?_
  refine x_top (v' := .int (xs (i + 3))) (congrArg (fun z => Value.int (xs z)) (nI_clamp (by omega))) ?_
  refine x_aload_n C0 dL_law_720 rfl 3 rfl ?_
  refine x_iload_n C0 dL_law_721 rfl 0 rfl ?_
  refine x_pc (pc' := 722) rfl ?_
  refine x_iconst C0 (v := nI 4) dL_law_722 rfl ?_
  refine x_iadd C0 dL_law_723 ?_
  refine x_top (v' := .int (nI (i + 4))) (congrArg Value.int (nI_add i 4)) ?_
  refine x_sld C0 hX hbl hbA (vp_in_nI (show i + 4 < Ln by omega) (by omega)) dL_law_724 ?_
  refine x_top (v' := .int (xs (i + 4))) (congrArg (fun z => Value.int (xs z)) (nI_clamp (by omega))) ?_
  refine x_subV41 C0 (n' := 4) (ι := fun r => 333 + r) (wf' := wfR cs (fun a => ad (333 + a))) (τ := μ) (τ' := μ') (σ' := lam σ' μ') (fun r h => by omega) (fun _ _ _ _ h => Nat.add_left_cancel h) (fun r h => wfL_R h) (fun r h => wfL_R h) lam_R (c_X5_wouldAsk n e2) (x_cwV C0 mw_853 mw_854 mw_855 mw_84 mw_856 hd_yX5_wouldAsk ⟨rfl, rfl, by rw [hR.1]; decide, by rw [hR.2.1]; decide⟩) (r := 0) (by decide) rfl wfR_0 rfl ⟨hR.2.2.1, hR.2.2.2⟩ (Nat.le_of_ble_eq_true rfl) dL_law_725 ?_
  refine x_pc (pc' := 728) rfl ?_
  refine x_same C0 (tgt := 855) dL_law_728 (by decide) ?_
  exact K σ' μ' a' R2
set_option maxRecDepth 8000 in
set_option maxHeartbeats 4000000 in
theorem law_wouldHit (C0 : x_C p s m args meth c D vwCl (xtys cs) A H0 337 ad (wfL cs ad) cL_law 4 RL ret) (hX : va_X b Ln xs s H0) (hbl : b < H0.size) (hbA : ¬ A b) (hR : R.frames = 10 ∧ R.locals = 390 ∧ 337 ≤ R.cells ∧ 6045 ≤ R.slots) (hn : 400 < n) (hi : i + 5 ≤ Ln) (hL : Ln ≤ 2560) (Rl : Rel B σ μ a) (hB : B + 30000 < 2 ^ 30) (K : ∀ σ' μ' a', Rel (B + 30000) σ' μ' a' → x_W p l e R s m args below meth c D vwCl A H0 337 ad (wfL cs ad) 4 337 6045 Q (lam σ' μ') 855 [(3, .int (nI i)), (2, .ref (ad 333)), (1, .ref (ad 0)), (0, .ref b)] []) : x_W p l e R s m args below meth c D vwCl A H0 337 ad (wfL cs ad) 4 337 6045 Q (lam σ μ) 733 [(3, .int (nI i)), (2, .ref (ad 333)), (1, .ref (ad 0)), (0, .ref b)] [] := by
  obtain ⟨v, σ', μ', a', e1, e2, R2⟩ := M_wouldHit Rl hn hB (xs (i + 1)) (xs (i + 2)) (xs (i + 3)) (xs (i + 4))
  refine x_pc (pc' := 733) rfl ?_
  refine x_aload_n C0 dL_law_733 rfl 2 rfl ?_
  refine x_aload_n C0 dL_law_734 rfl 3 rfl ?_
  refine x_iload_n C0 dL_law_735 rfl 0 rfl ?_
  refine x_iconst C0 (v := nI 1) dL_law_736 rfl ?_
  refine x_pc (pc' := 737) rfl ?_
  refine x_iadd C0 dL_law_737 ?_
  refine x_top (v' := .int (nI (i + 1))) (congrArg Value.int (nI_add i 1)) ?_
  refine x_sld C0 hX hbl hbA (vp_in_nI (show i + 1 < Ln by omega) (by omega)) dL_law_738 ?_
  refine x_top (v' := .int (xs (i + 1))) (congrArg (fun z => Value.int (xs z)) (nI_clamp (by omega))) ?_
  refine x_aload_n C0 dL_law_739 rfl 3 rfl ?_
  refine x_iload_n C0 dL_law_740 rfl 0 rfl ?_
  refine x_pc (pc' := 741) rfl ?_
  refine x_iconst C0 (v := nI 2) dL_law_741 rfl ?_
  refine x_iadd C0 dL_law_742 ?_
  refine x_top (v' := .int (nI (i + 2))) (congrArg Value.int (nI_add i 2)) ?_
  refine x_sld C0 hX hbl hbA (vp_in_nI (show i + 2 < Ln by omega) (by omega)) dL_law_743 ?_
  refine x_top (v' := .int (xs (i + 2))) (congrArg (fun z => Value.int (xs z)) (nI_clamp (by omega))) ?_
  refine x_aload_n C0 dL_law_744 rfl 3 rfl ?_
  refine x_pc (pc' := 745) rfl ?_
  refine x_iload_n C0 dL_law_745 rfl 0 rfl ?_
  refine x_iconst C0 (v := nI 3) dL_law_746 rfl ?_
  refine x_iadd C0 dL_law_747 ?_
  refine x_top (v' := .int (nI (i + 3))) (congrArg Value.int (nI_add i 3)) ?_
  refine x_sld C0 hX hbl hbA (vp_in_nI (show i + 3 < Ln by omega) (by omega)) dL_law_748 ?_
  refine x_top (v' := .int (xs (i + 3))) (congrArg (fun z => Value.int (xs z)) (nI_clamp (by omega))) ?_
  refine x_pc (pc' := 749) rfl ?_
  refine x_aload_n C0 dL_law_749 rfl 3 rfl ?_
  refine x_iload_n C0 dL_law_750 rfl 0 rfl ?_
  refine x_iconst C0 (v := nI 4) dL_law_751 rfl ?_
  refine x_iadd C0 dL_law_752 ?_
  refine x_top (v' := .int (nI (i + 4))) (congrArg Value.int (nI_add i 4)) ?_
  refine x_pc (pc' := 753) rfl ?_
  refine x_sld C0 hX hbl hbA (vp_in_nI (show i + 4 < Ln by omega) (by omega)) dL_law_753 ?_
  refine x_top (v' := .int (xs (i + 4))) (congrArg (fun z => Value.int (xs z)) (nI_clamp (by omega))) ?_
  refine x_subV41 C0 (n' := 333) (ι := fun r => r) (wf' := wfT cs ad) (τ := σ) (τ' := σ') (σ' := lam σ' μ) (fun r h => by omega) (fun _ _ _ _ h => h) (fun r h => wfL_T h) (fun r h => wfL_T h) lam_T (c_X4_wouldHit n e1) (x_cwV C0 mw_602 mw_603 mw_604 mw_78 mw_605 hd_yX4_wouldHit ⟨rfl, rfl, by rw [hR.1]; decide, by rw [hR.2.1]; decide⟩) (r := 0) (by decide) rfl wfT_r0 rfl ⟨hR.2.2.1, hR.2.2.2⟩ (Nat.le_of_ble_eq_true rfl) dL_law_754 ?_
  refine x_aload_n C0 dL_law_757 rfl 1 rfl ?_
  refine x_aload_n C0 dL_law_758 rfl 3 rfl ?_
  refine x_pc (pc' := 759) rfl ?_
  refine x_iload_n C0 dL_law_759 rfl 0 rfl ?_
  refine x_iconst C0 (v := nI 1) dL_law_760 rfl ?_
  refine x_iadd C0 dL_law_761 ?_
  refine x_top (v' := .int (nI (i + 1))) (congrArg Value.int (nI_add i 1)) ?_
  refine x_sld C0 hX hbl hbA (vp_in_nI (show i + 1 < Ln by omega) (by omega)) dL_law_762 ?_
  refine x_top (v' := .int (xs (i + 1))) (congrArg (fun z => Value.int (xs z)) (nI_clamp (by omega))) ?_
  refine x_pc (pc' := 763) rfl ?_
  refine x_aload_n C0 dL_law_763 rfl 3 rfl ?_
  refine x_iload_n C0 dL_law_764 rfl 0 rfl ?_
  refine x_iconst C0 (v := nI 2) dL_law_765 rfl ?_
  refine x_iadd C0 dL_law_766 ?_
  refine x_top (v' := .int (nI (i + 2))) (congrArg Value.int (nI_add i 2)) ?_
  refine x_pc (pc' := 767) rfl ?_
  refine x_sld C0 hX hbl hbA (vp_in_nI (show i + 2 < Ln by omega) (by omega)) dL_law_767 ?_
  refine x_top (v' := .int (xs (i + 2))) (congrArg (fun z => Value.int (xs z)) (nI_clamp (by omega))) ?_
  refine x_aload_n C0 dL_law_768 rfl 3 rfl ?_
  refine x_iload_n C0 dL_law_769 rfl 0 rfl ?_
  refine x_iconst C0 (v := nI 3) dL_law_770 rfl ?_
  refine x_pc (pc' := 771) rfl ?_
  refine x_iadd C0 dL_law_771 ?_
  refine x_top (v' := .int (nI (i + 3))) (congrArg Value.int (nI_add i 3)) ?_
  refine x_sld C0 hX hbl hbA (vp_in_nI (show i + 3 < Ln by omega) (by omega)) dL_law_772 ?_
  refine x_top (v' := .int (xs (i + 3))) (congrArg (fun z => Value.int (xs z)) (nI_clamp (by omega))) ?_
  refine x_aload_n C0 dL_law_773 rfl 3 rfl ?_
  refine x_iload_n C0 dL_law_774 rfl 0 rfl ?_
  refine x_pc (pc' := 775) rfl ?_
  refine x_iconst C0 (v := nI 4) dL_law_775 rfl ?_
  refine x_iadd C0 dL_law_776 ?_
  refine x_top (v' := .int (nI (i + 4))) (congrArg Value.int (nI_add i 4)) ?_
  refine x_sld C0 hX hbl hbA (vp_in_nI (show i + 4 < Ln by omega) (by omega)) dL_law_777 ?_
  refine x_top (v' := .int (xs (i + 4))) (congrArg (fun z => Value.int (xs z)) (nI_clamp (by omega))) ?_
  refine x_subV41 C0 (n' := 4) (ι := fun r => 333 + r) (wf' := wfR cs (fun a => ad (333 + a))) (τ := μ) (τ' := μ') (σ' := lam σ' μ') (fun r h => by omega) (fun _ _ _ _ h => Nat.add_left_cancel h) (fun r h => wfL_R h) (fun r h => wfL_R h) lam_R (c_X5_wouldHit n e2) (x_cwV C0 mw_849 mw_850 mw_851 mw_84 mw_852 hd_yX5_wouldHit ⟨rfl, rfl, by rw [hR.1]; decide, by rw [hR.2.1]; decide⟩) (r := 0) (by decide) rfl wfR_0 rfl ⟨hR.2.2.1, hR.2.2.2⟩ (Nat.le_of_ble_eq_true rfl) dL_law_778 ?_
  refine x_pc (pc' := 781) rfl ?_
  refine x_same C0 (tgt := 855) dL_law_781 (by decide) ?_
  exact K σ' μ' a' R2
set_option maxRecDepth 8000 in
set_option maxHeartbeats 4000000 in
theorem law_bestHelper (C0 : x_C p s m args meth c D vwCl (xtys cs) A H0 337 ad (wfL cs ad) cL_law 4 RL ret) (hX : va_X b Ln xs s H0) (hbl : b < H0.size) (hbA : ¬ A b) (hR : R.frames = 10 ∧ R.locals = 390 ∧ 337 ≤ R.cells ∧ 6045 ≤ R.slots) (hn : 400 < n) (hi : i + 5 ≤ Ln) (hL : Ln ≤ 2560) (Rl : Rel B σ μ a) (hB : B + 30000 < 2 ^ 30) (K : ∀ σ' μ' a', Rel (B + 30000) σ' μ' a' → x_W p l e R s m args below meth c D vwCl A H0 337 ad (wfL cs ad) 4 337 6045 Q (lam σ' μ') 855 [(3, .int (nI i)), (2, .ref (ad 333)), (1, .ref (ad 0)), (0, .ref b)] []) : x_W p l e R s m args below meth c D vwCl A H0 337 ad (wfL cs ad) 4 337 6045 Q (lam σ μ) 786 [(3, .int (nI i)), (2, .ref (ad 333)), (1, .ref (ad 0)), (0, .ref b)] [] := by
  obtain ⟨v, e1, e2⟩ := M_bestHelper Rl hn 
  refine x_pc (pc' := 786) rfl ?_
  refine x_aload_n C0 dL_law_786 rfl 2 rfl ?_
  refine x_subV01 C0 (n' := 333) (ι := fun r => r) (wf' := wfT cs ad) (τ := σ) (τ' := σ) (σ' := lam σ μ) (fun r h => by omega) (fun _ _ _ _ h => h) (fun r h => wfL_T h) (fun r h => wfL_T h) lam_T (c_X4_bestHelper n e1) (x_cwV C0 mw_606 mw_607 mw_608 mw_78 mw_609 hd_yX4_bestHelper ⟨rfl, rfl, by rw [hR.1]; decide, by rw [hR.2.1]; decide⟩) (r := 0) (by decide) rfl wfT_r0 rfl ⟨hR.2.2.1, hR.2.2.2⟩ (Nat.le_of_ble_eq_true rfl) dL_law_787 ?_
  refine x_aload_n C0 dL_law_790 rfl 1 rfl ?_
  refine x_subV01 C0 (n' := 4) (ι := fun r => 333 + r) (wf' := wfR cs (fun a => ad (333 + a))) (τ := μ) (τ' := μ) (σ' := lam σ μ) (fun r h => by omega) (fun _ _ _ _ h => Nat.add_left_cancel h) (fun r h => wfL_R h) (fun r h => wfL_R h) lam_R (c_X5_bestHelper n e2) (x_cwV C0 mw_897 mw_898 mw_899 mw_84 mw_900 hd_yX5_bestHelper ⟨rfl, rfl, by rw [hR.1]; decide, by rw [hR.2.1]; decide⟩) (r := 0) (by decide) rfl wfR_0 rfl ⟨hR.2.2.1, hR.2.2.2⟩ (Nat.le_of_ble_eq_true rfl) dL_law_791 ?_
  refine x_pc (pc' := 794) rfl ?_
  refine x_same C0 (tgt := 855) dL_law_794 (by decide) ?_
  exact K σ μ a (Rl.mono (by omega) hB)
set_option maxRecDepth 8000 in
set_option maxHeartbeats 4000000 in
theorem law_logged (C0 : x_C p s m args meth c D vwCl (xtys cs) A H0 337 ad (wfL cs ad) cL_law 4 RL ret) (hX : va_X b Ln xs s H0) (hbl : b < H0.size) (hbA : ¬ A b) (hR : R.frames = 10 ∧ R.locals = 390 ∧ 337 ≤ R.cells ∧ 6045 ≤ R.slots) (hn : 400 < n) (hi : i + 5 ≤ Ln) (hL : Ln ≤ 2560) (Rl : Rel B σ μ a) (hB : B + 30000 < 2 ^ 30) (K : ∀ σ' μ' a', Rel (B + 30000) σ' μ' a' → x_W p l e R s m args below meth c D vwCl A H0 337 ad (wfL cs ad) 4 337 6045 Q (lam σ' μ') 855 [(3, .int (nI i)), (2, .ref (ad 333)), (1, .ref (ad 0)), (0, .ref b)] []) : x_W p l e R s m args below meth c D vwCl A H0 337 ad (wfL cs ad) 4 337 6045 Q (lam σ μ) 799 [(3, .int (nI i)), (2, .ref (ad 333)), (1, .ref (ad 0)), (0, .ref b)] [] := by
  obtain ⟨v, e1, e2⟩ := M_logged (n := n) Rl (xs (i + 1)) (xs (i + 2))
  refine x_pc (pc' := 799) rfl ?_
  refine x_aload_n C0 dL_law_799 rfl 2 rfl ?_
  refine x_aload_n C0 dL_law_800 rfl 3 rfl ?_
  refine x_iload_n C0 dL_law_801 rfl 0 rfl ?_
  refine x_iconst C0 (v := nI 1) dL_law_802 rfl ?_
  refine x_pc (pc' := 803) rfl ?_
  refine x_iadd C0 dL_law_803 ?_
  refine x_top (v' := .int (nI (i + 1))) (congrArg Value.int (nI_add i 1)) ?_
  refine x_sld C0 hX hbl hbA (vp_in_nI (show i + 1 < Ln by omega) (by omega)) dL_law_804 ?_
  refine x_top (v' := .int (xs (i + 1))) (congrArg (fun z => Value.int (xs z)) (nI_clamp (by omega))) ?_
  refine x_aload_n C0 dL_law_805 rfl 3 rfl ?_
  refine x_iload_n C0 dL_law_806 rfl 0 rfl ?_
  refine x_pc (pc' := 807) rfl ?_
  refine x_iconst C0 (v := nI 2) dL_law_807 rfl ?_
  refine x_iadd C0 dL_law_808 ?_
  refine x_top (v' := .int (nI (i + 2))) (congrArg Value.int (nI_add i 2)) ?_
  refine x_sld C0 hX hbl hbA (vp_in_nI (show i + 2 < Ln by omega) (by omega)) dL_law_809 ?_
  refine x_top (v' := .int (xs (i + 2))) (congrArg (fun z => Value.int (xs z)) (nI_clamp (by omega))) ?_
  refine x_subV21 C0 (n' := 333) (ι := fun r => r) (wf' := wfT cs ad) (τ := σ) (τ' := σ) (σ' := lam σ μ) (fun r h => by omega) (fun _ _ _ _ h => h) (fun r h => wfL_T h) (fun r h => wfL_T h) lam_T (c_X4_logged n e1) (x_cwV C0 mw_610 mw_611 mw_612 mw_78 mw_613 hd_yX4_logged ⟨rfl, rfl, by rw [hR.1]; decide, by rw [hR.2.1]; decide⟩) (r := 0) (by decide) rfl wfT_r0 rfl ⟨hR.2.2.1, hR.2.2.2⟩ (Nat.le_of_ble_eq_true rfl) dL_law_810 ?_
  refine x_pc (pc' := 813) rfl ?_
  refine x_aload_n C0 dL_law_813 rfl 1 rfl ?_
  refine x_aload_n C0 dL_law_814 rfl 3 rfl ?_
  refine x_iload_n C0 dL_law_815 rfl 0 rfl ?_
  refine x_iconst C0 (v := nI 1) dL_law_816 rfl ?_
  refine x_pc (pc' := 817) rfl ?_
  refine x_iadd C0 dL_law_817 ?_
  refine x_top (v' := .int (nI (i + 1))) (congrArg Value.int (nI_add i 1)) ?_
  refine x_sld C0 hX hbl hbA (vp_in_nI (show i + 1 < Ln by omega) (by omega)) dL_law_818 ?_
  refine x_top (v' := .int (xs (i + 1))) (congrArg (fun z => Value.int (xs z)) (nI_clamp (by omega))) ?_
  refine x_aload_n C0 dL_law_819 rfl 3 rfl ?_
  refine x_iload_n C0 dL_law_820 rfl 0 rfl ?_
  refine x_pc (pc' := 821) rfl ?_
  refine x_iconst C0 (v := nI 2) dL_law_821 rfl ?_
  refine x_iadd C0 dL_law_822 ?_
  refine x_top (v' := .int (nI (i + 2))) (congrArg Value.int (nI_add i 2)) ?_
  refine x_sld C0 hX hbl hbA (vp_in_nI (show i + 2 < Ln by omega) (by omega)) dL_law_823 ?_
  refine x_top (v' := .int (xs (i + 2))) (congrArg (fun z => Value.int (xs z)) (nI_clamp (by omega))) ?_
  refine x_subV21 C0 (n' := 4) (ι := fun r => 333 + r) (wf' := wfR cs (fun a => ad (333 + a))) (τ := μ) (τ' := μ) (σ' := lam σ μ) (fun r h => by omega) (fun _ _ _ _ h => Nat.add_left_cancel h) (fun r h => wfL_R h) (fun r h => wfL_R h) lam_R (c_X5_logged n e2) (x_cwV C0 mw_901 mw_902 mw_903 mw_84 mw_904 hd_yX5_logged ⟨rfl, rfl, by rw [hR.1]; decide, by rw [hR.2.1]; decide⟩) (r := 0) (by decide) rfl wfR_0 rfl ⟨hR.2.2.1, hR.2.2.2⟩ (Nat.le_of_ble_eq_true rfl) dL_law_824 ?_
  refine x_pc (pc' := 827) rfl ?_
  refine x_same C0 (tgt := 855) dL_law_827 (by decide) ?_
  exact K σ μ a (Rl.mono (by omega) hB)
set_option maxRecDepth 8000 in
set_option maxHeartbeats 4000000 in
theorem law_count (C0 : x_C p s m args meth c D vwCl (xtys cs) A H0 337 ad (wfL cs ad) cL_law 4 RL ret) (hX : va_X b Ln xs s H0) (hbl : b < H0.size) (hbA : ¬ A b) (hR : R.frames = 10 ∧ R.locals = 390 ∧ 337 ≤ R.cells ∧ 6045 ≤ R.slots) (hn : 400 < n) (hi : i + 5 ≤ Ln) (hL : Ln ≤ 2560) (Rl : Rel B σ μ a) (hB : B + 30000 < 2 ^ 30) (K : ∀ σ' μ' a', Rel (B + 30000) σ' μ' a' → x_W p l e R s m args below meth c D vwCl A H0 337 ad (wfL cs ad) 4 337 6045 Q (lam σ' μ') 855 [(3, .int (nI i)), (2, .ref (ad 333)), (1, .ref (ad 0)), (0, .ref b)] []) : x_W p l e R s m args below meth c D vwCl A H0 337 ad (wfL cs ad) 4 337 6045 Q (lam σ μ) 832 [(3, .int (nI i)), (2, .ref (ad 333)), (1, .ref (ad 0)), (0, .ref b)] [] := by
  obtain ⟨v, e1, e2⟩ := M_count Rl hn (xs (i + 1))
  refine x_pc (pc' := 832) rfl ?_
  refine x_aload_n C0 dL_law_832 rfl 2 rfl ?_
  refine x_aload_n C0 dL_law_833 rfl 3 rfl ?_
  refine x_iload_n C0 dL_law_834 rfl 0 rfl ?_
  refine x_iconst C0 (v := nI 1) dL_law_835 rfl ?_
  refine x_pc (pc' := 836) rfl ?_
  refine x_iadd C0 dL_law_836 ?_
  refine x_top (v' := .int (nI (i + 1))) (congrArg Value.int (nI_add i 1)) ?_
  refine x_sld C0 hX hbl hbA (vp_in_nI (show i + 1 < Ln by omega) (by omega)) dL_law_837 ?_
  refine x_top (v' := .int (xs (i + 1))) (congrArg (fun z => Value.int (xs z)) (nI_clamp (by omega))) ?_
  refine x_subV11 C0 (n' := 333) (ι := fun r => r) (wf' := wfT cs ad) (τ := σ) (τ' := σ) (σ' := lam σ μ) (fun r h => by omega) (fun _ _ _ _ h => h) (fun r h => wfL_T h) (fun r h => wfL_T h) lam_T (c_X4_count n e1) (x_cwV C0 mw_614 mw_615 mw_616 mw_78 mw_617 hd_yX4_count ⟨rfl, rfl, by rw [hR.1]; decide, by rw [hR.2.1]; decide⟩) (r := 0) (by decide) rfl wfT_r0 rfl ⟨hR.2.2.1, hR.2.2.2⟩ (Nat.le_of_ble_eq_true rfl) dL_law_838 ?_
  refine x_aload_n C0 dL_law_841 rfl 1 rfl ?_
  refine x_pc (pc' := 842) rfl ?_
  refine x_aload_n C0 dL_law_842 rfl 3 rfl ?_
  refine x_iload_n C0 dL_law_843 rfl 0 rfl ?_
  refine x_iconst C0 (v := nI 1) dL_law_844 rfl ?_
  refine x_iadd C0 dL_law_845 ?_
  refine x_top (v' := .int (nI (i + 1))) (congrArg Value.int (nI_add i 1)) ?_
  refine x_pc (pc' := 846) rfl ?_
  refine x_sld C0 hX hbl hbA (vp_in_nI (show i + 1 < Ln by omega) (by omega)) dL_law_846 ?_
  refine x_top (v' := .int (xs (i + 1))) (congrArg (fun z => Value.int (xs z)) (nI_clamp (by omega))) ?_
  refine x_subV11 C0 (n' := 4) (ι := fun r => 333 + r) (wf' := wfR cs (fun a => ad (333 + a))) (τ := μ) (τ' := μ) (σ' := lam σ μ) (fun r h => by omega) (fun _ _ _ _ h => Nat.add_left_cancel h) (fun r h => wfL_R h) (fun r h => wfL_R h) lam_R (c_X5_count n e2) (x_cwV C0 mw_909 mw_910 mw_911 mw_84 mw_912 hd_yX5_count ⟨rfl, rfl, by rw [hR.1]; decide, by rw [hR.2.1]; decide⟩) (r := 0) (by decide) rfl wfR_0 rfl ⟨hR.2.2.1, hR.2.2.2⟩ (Nat.le_of_ble_eq_true rfl) dL_law_847 ?_
  refine x_same C0 (tgt := 855) dL_law_850 (by decide) ?_
  exact K σ μ a (Rl.mono (by omega) hB)
end LR
