/-! the law's cases *)  -/
theorem hd_yX4_helper : yX4_helper.cls ≠ "java/lang/invoke/MethodHandle" ∧ yX4_helper.cls ≠ "java/lang/invoke/VarHandle" ∧ (parseMethodDescriptor yX4_helper.desc).map (fun d => d.parameters.length) = some 2 := ⟨by decide +kernel, by decide +kernel, by decide +kernel⟩
theorem hd_yX4_inSet : yX4_inSet.cls ≠ "java/lang/invoke/MethodHandle" ∧ yX4_inSet.cls ≠ "java/lang/invoke/VarHandle" ∧ (parseMethodDescriptor yX4_inSet.desc).map (fun d => d.parameters.length) = some 2 := ⟨by decide +kernel, by decide +kernel, by decide +kernel⟩
theorem hd_yX4_line : yX4_line.cls ≠ "java/lang/invoke/MethodHandle" ∧ yX4_line.cls ≠ "java/lang/invoke/VarHandle" ∧ (parseMethodDescriptor yX4_line.desc).map (fun d => d.parameters.length) = some 2 := ⟨by decide +kernel, by decide +kernel, by decide +kernel⟩
theorem hd_yX4_table : yX4_table.cls ≠ "java/lang/invoke/MethodHandle" ∧ yX4_table.cls ≠ "java/lang/invoke/VarHandle" ∧ (parseMethodDescriptor yX4_table.desc).map (fun d => d.parameters.length) = some 3 := ⟨by decide +kernel, by decide +kernel, by decide +kernel⟩
theorem hd_yX4_thrownOut : yX4_thrownOut.cls ≠ "java/lang/invoke/MethodHandle" ∧ yX4_thrownOut.cls ≠ "java/lang/invoke/VarHandle" ∧ (parseMethodDescriptor yX4_thrownOut.desc).map (fun d => d.parameters.length) = some 1 := ⟨by decide +kernel, by decide +kernel, by decide +kernel⟩
theorem hd_yX5_helper : yX5_helper.cls ≠ "java/lang/invoke/MethodHandle" ∧ yX5_helper.cls ≠ "java/lang/invoke/VarHandle" ∧ (parseMethodDescriptor yX5_helper.desc).map (fun d => d.parameters.length) = some 2 := ⟨by decide +kernel, by decide +kernel, by decide +kernel⟩
theorem hd_yX5_inSet : yX5_inSet.cls ≠ "java/lang/invoke/MethodHandle" ∧ yX5_inSet.cls ≠ "java/lang/invoke/VarHandle" ∧ (parseMethodDescriptor yX5_inSet.desc).map (fun d => d.parameters.length) = some 2 := ⟨by decide +kernel, by decide +kernel, by decide +kernel⟩
theorem hd_yX5_line : yX5_line.cls ≠ "java/lang/invoke/MethodHandle" ∧ yX5_line.cls ≠ "java/lang/invoke/VarHandle" ∧ (parseMethodDescriptor yX5_line.desc).map (fun d => d.parameters.length) = some 2 := ⟨by decide +kernel, by decide +kernel, by decide +kernel⟩
theorem hd_yX5_table : yX5_table.cls ≠ "java/lang/invoke/MethodHandle" ∧ yX5_table.cls ≠ "java/lang/invoke/VarHandle" ∧ (parseMethodDescriptor yX5_table.desc).map (fun d => d.parameters.length) = some 3 := ⟨by decide +kernel, by decide +kernel, by decide +kernel⟩
theorem hd_yX5_thrownOut : yX5_thrownOut.cls ≠ "java/lang/invoke/MethodHandle" ∧ yX5_thrownOut.cls ≠ "java/lang/invoke/VarHandle" ∧ (parseMethodDescriptor yX5_thrownOut.desc).map (fun d => d.parameters.length) = some 1 := ⟨by decide +kernel, by decide +kernel, by decide +kernel⟩
section LR
variable {p : Program} {l : Launch} {e : Env} {R : Room} {s : State} {m : MethodId} {args : Array Value} {below : List Frame} {meth : Method} {c : Code} {D : va_G} {A : Nat → Prop} {H0 : Heap} {cs : Nat → ClassId} {ad : Nat → Nat} {ret : Option FieldType} {Q : State → Prop} {b Ln i n B : Nat} {xs : Nat → Int32} {σ μ : xM} {a : xA}
set_option maxRecDepth 8000 in
set_option maxHeartbeats 4000000 in
theorem law_line (C0 : x_C p s m args meth c D vwCl (xtys cs) A H0 337 ad (wfL cs ad) cL_law 4 RL ret) (hX : va_X b Ln xs s H0) (hbl : b < H0.size) (hbA : ¬ A b) (hR : R.frames = 10 ∧ R.locals = 390 ∧ 337 ≤ R.cells ∧ 6045 ≤ R.slots) (hn : 400 < n) (hi : i + 5 ≤ Ln) (hL : Ln ≤ 2560) (Rl : Rel B σ μ a) (hB : B + 30000 < 2 ^ 30) (K : ∀ σ' μ' a', Rel (B + 30000) σ' μ' a' → x_W p l e R s m args below meth c D vwCl A H0 337 ad (wfL cs ad) 4 337 6045 Q (lam σ' μ') 855 [(3, .int (nI i)), (2, .ref (ad 333)), (1, .ref (ad 0)), (0, .ref b)] []) : x_W p l e R s m args below meth c D vwCl A H0 337 ad (wfL cs ad) 4 337 6045 Q (lam σ μ) 515 [(3, .int (nI i)), (2, .ref (ad 333)), (1, .ref (ad 0)), (0, .ref b)] [] := by
  obtain ⟨v, e1, e2⟩ := M_line Rl hn (xs (i + 1)) (xs (i + 2))
  refine x_pc (pc' := 515) rfl ?_
  refine x_aload_n C0 dL_law_515 rfl 2 rfl ?_
  refine x_aload_n C0 dL_law_516 rfl 3 rfl ?_
  refine x_iload_n C0 dL_law_517 rfl 0 rfl ?_
  refine x_iconst C0 (v := nI 1) dL_law_518 rfl ?_
  refine x_pc (pc' := 519) rfl ?_
  refine x_iadd C0 dL_law_519 ?_
  refine x_top (v' := .int (nI (i + 1))) (congrArg Value.int (nI_add i 1)) ?_
  refine x_sld C0 hX hbl hbA (vp_in_nI (show i + 1 < Ln by omega) (by omega)) dL_law_520 ?_
  refine x_top (v' := .int (xs (i + 1))) (congrArg (fun z => Value.int (xs z)) (nI_clamp (by omega))) ?_
  refine x_aload_n C0 dL_law_521 rfl 3 rfl ?_
  refine x_iload_n C0 dL_law_522 rfl 0 rfl ?_
  refine x_pc (pc' := 523) rfl ?_
  refine x_iconst C0 (v := nI 2) dL_law_523 rfl ?_
  refine x_iadd C0 dL_law_524 ?_
  refine x_top (v' := .int (nI (i + 2))) (congrArg Value.int (nI_add i 2)) ?_
  refine x_sld C0 hX hbl hbA (vp_in_nI (show i + 2 < Ln by omega) (by omega)) dL_law_525 ?_
  refine x_top (v' := .int (xs (i + 2))) (congrArg (fun z => Value.int (xs z)) (nI_clamp (by omega))) ?_
  refine x_subV21 C0 (n' := 333) (ι := fun r => r) (wf' := wfT cs ad) (τ := σ) (τ' := σ) (σ' := lam σ μ) (fun r h => by omega) (fun _ _ _ _ h => h) (fun r h => wfL_T h) (fun r h => wfL_T h) lam_T (c_X4_line n e1) (x_cwV C0 mw_565 mw_566 mw_567 mw_78 mw_568 hd_yX4_line ⟨rfl, rfl, by rw [hR.1]; decide, by rw [hR.2.1]; decide⟩) (r := 0) (by decide) rfl wfT_r0 rfl ⟨hR.2.2.1, hR.2.2.2⟩ (Nat.le_of_ble_eq_true rfl) dL_law_526 ?_
  refine x_pc (pc' := 529) rfl ?_
  refine x_aload_n C0 dL_law_529 rfl 1 rfl ?_
  refine x_aload_n C0 dL_law_530 rfl 3 rfl ?_
  refine x_iload_n C0 dL_law_531 rfl 0 rfl ?_
  refine x_iconst C0 (v := nI 1) dL_law_532 rfl ?_
  refine x_pc (pc' := 533) rfl ?_
  refine x_iadd C0 dL_law_533 ?_
  refine x_top (v' := .int (nI (i + 1))) (congrArg Value.int (nI_add i 1)) ?_
  refine x_sld C0 hX hbl hbA (vp_in_nI (show i + 1 < Ln by omega) (by omega)) dL_law_534 ?_
  refine x_top (v' := .int (xs (i + 1))) (congrArg (fun z => Value.int (xs z)) (nI_clamp (by omega))) ?_
  refine x_aload_n C0 dL_law_535 rfl 3 rfl ?_
  refine x_iload_n C0 dL_law_536 rfl 0 rfl ?_
  refine x_pc (pc' := 537) rfl ?_
  refine x_iconst C0 (v := nI 2) dL_law_537 rfl ?_
  refine x_iadd C0 dL_law_538 ?_
  refine x_top (v' := .int (nI (i + 2))) (congrArg Value.int (nI_add i 2)) ?_
  refine x_sld C0 hX hbl hbA (vp_in_nI (show i + 2 < Ln by omega) (by omega)) dL_law_539 ?_
  refine x_top (v' := .int (xs (i + 2))) (congrArg (fun z => Value.int (xs z)) (nI_clamp (by omega))) ?_
  refine x_subV21 C0 (n' := 4) (ι := fun r => 333 + r) (wf' := wfR cs (fun a => ad (333 + a))) (τ := μ) (τ' := μ) (σ' := lam σ μ) (fun r h => by omega) (fun _ _ _ _ h => Nat.add_left_cancel h) (fun r h => wfL_R h) (fun r h => wfL_R h) lam_R (c_X5_line n e2) (x_cwV C0 mw_873 mw_874 mw_875 mw_84 mw_876 hd_yX5_line ⟨rfl, rfl, by rw [hR.1]; decide, by rw [hR.2.1]; decide⟩) (r := 0) (by decide) rfl wfR_0 rfl ⟨hR.2.2.1, hR.2.2.2⟩ (Nat.le_of_ble_eq_true rfl) dL_law_540 ?_
  refine x_pc (pc' := 543) rfl ?_
  refine x_same C0 (tgt := 855) dL_law_543 (by decide) ?_
  exact K σ μ a (Rl.mono (by omega) hB)
set_option maxRecDepth 8000 in
set_option maxHeartbeats 4000000 in
theorem law_inSet (C0 : x_C p s m args meth c D vwCl (xtys cs) A H0 337 ad (wfL cs ad) cL_law 4 RL ret) (hX : va_X b Ln xs s H0) (hbl : b < H0.size) (hbA : ¬ A b) (hR : R.frames = 10 ∧ R.locals = 390 ∧ 337 ≤ R.cells ∧ 6045 ≤ R.slots) (hn : 400 < n) (hi : i + 5 ≤ Ln) (hL : Ln ≤ 2560) (Rl : Rel B σ μ a) (hB : B + 30000 < 2 ^ 30) (K : ∀ σ' μ' a', Rel (B + 30000) σ' μ' a' → x_W p l e R s m args below meth c D vwCl A H0 337 ad (wfL cs ad) 4 337 6045 Q (lam σ' μ') 855 [(3, .int (nI i)), (2, .ref (ad 333)), (1, .ref (ad 0)), (0, .ref b)] []) : x_W p l e R s m args below meth c D vwCl A H0 337 ad (wfL cs ad) 4 337 6045 Q (lam σ μ) 548 [(3, .int (nI i)), (2, .ref (ad 333)), (1, .ref (ad 0)), (0, .ref b)] [] := by
  obtain ⟨v, e1, e2⟩ := M_inSet Rl hn (xs (i + 1)) (xs (i + 2))
  refine x_pc (pc' := 548) rfl ?_
  refine x_aload_n C0 dL_law_548 rfl 2 rfl ?_
  refine x_aload_n C0 dL_law_549 rfl 3 rfl ?_
  refine x_iload_n C0 dL_law_550 rfl 0 rfl ?_
  refine x_iconst C0 (v := nI 1) dL_law_551 rfl ?_
  refine x_pc (pc' := 552) rfl ?_
  refine x_iadd C0 dL_law_552 ?_
  refine x_top (v' := .int (nI (i + 1))) (congrArg Value.int (nI_add i 1)) ?_
  refine x_sld C0 hX hbl hbA (vp_in_nI (show i + 1 < Ln by omega) (by omega)) dL_law_553 ?_
  refine x_top (v' := .int (xs (i + 1))) (congrArg (fun z => Value.int (xs z)) (nI_clamp (by omega))) ?_
  refine x_aload_n C0 dL_law_554 rfl 3 rfl ?_
  refine x_iload_n C0 dL_law_555 rfl 0 rfl ?_
  refine x_pc (pc' := 556) rfl ?_
  refine x_iconst C0 (v := nI 2) dL_law_556 rfl ?_
  refine x_iadd C0 dL_law_557 ?_
  refine x_top (v' := .int (nI (i + 2))) (congrArg Value.int (nI_add i 2)) ?_
  refine x_sld C0 hX hbl hbA (vp_in_nI (show i + 2 < Ln by omega) (by omega)) dL_law_558 ?_
  refine x_top (v' := .int (xs (i + 2))) (congrArg (fun z => Value.int (xs z)) (nI_clamp (by omega))) ?_
  refine x_subV21 C0 (n' := 333) (ι := fun r => r) (wf' := wfT cs ad) (τ := σ) (τ' := σ) (σ' := lam σ μ) (fun r h => by omega) (fun _ _ _ _ h => h) (fun r h => wfL_T h) (fun r h => wfL_T h) lam_T (c_X4_inSet n e1) (x_cwV C0 mw_572 mw_573 mw_574 mw_78 mw_575 hd_yX4_inSet ⟨rfl, rfl, by rw [hR.1]; decide, by rw [hR.2.1]; decide⟩) (r := 0) (by decide) rfl wfT_r0 rfl ⟨hR.2.2.1, hR.2.2.2⟩ (Nat.le_of_ble_eq_true rfl) dL_law_559 ?_
  refine x_pc (pc' := 562) rfl ?_
  refine x_aload_n C0 dL_law_562 rfl 1 rfl ?_
  refine x_aload_n C0 dL_law_563 rfl 3 rfl ?_
  refine x_iload_n C0 dL_law_564 rfl 0 rfl ?_
  refine x_iconst C0 (v := nI 1) dL_law_565 rfl ?_
  refine x_pc (pc' := 566) rfl ?_
  refine x_iadd C0 dL_law_566 ?_
  refine x_top (v' := .int (nI (i + 1))) (congrArg Value.int (nI_add i 1)) ?_
  refine x_sld C0 hX hbl hbA (vp_in_nI (show i + 1 < Ln by omega) (by omega)) dL_law_567 ?_
  refine x_top (v' := .int (xs (i + 1))) (congrArg (fun z => Value.int (xs z)) (nI_clamp (by omega))) ?_
  refine x_aload_n C0 dL_law_568 rfl 3 rfl ?_
  refine x_iload_n C0 dL_law_569 rfl 0 rfl ?_
  refine x_pc (pc' := 570) rfl ?_
  refine x_iconst C0 (v := nI 2) dL_law_570 rfl ?_
  refine x_iadd C0 dL_law_571 ?_
  refine x_top (v' := .int (nI (i + 2))) (congrArg Value.int (nI_add i 2)) ?_
  refine x_sld C0 hX hbl hbA (vp_in_nI (show i + 2 < Ln by omega) (by omega)) dL_law_572 ?_
  refine x_top (v' := .int (xs (i + 2))) (congrArg (fun z => Value.int (xs z)) (nI_clamp (by omega))) ?_
  refine x_subV21 C0 (n' := 4) (ι := fun r => 333 + r) (wf' := wfR cs (fun a => ad (333 + a))) (τ := μ) (τ' := μ) (σ' := lam σ μ) (fun r h => by omega) (fun _ _ _ _ h => Nat.add_left_cancel h) (fun r h => wfL_R h) (fun r h => wfL_R h) lam_R (c_X5_inSet n e2) (x_cwV C0 mw_877 mw_878 mw_879 mw_84 mw_880 hd_yX5_inSet ⟨rfl, rfl, by rw [hR.1]; decide, by rw [hR.2.1]; decide⟩) (r := 0) (by decide) rfl wfR_0 rfl ⟨hR.2.2.1, hR.2.2.2⟩ (Nat.le_of_ble_eq_true rfl) dL_law_573 ?_
  refine x_pc (pc' := 576) rfl ?_
  refine x_same C0 (tgt := 855) dL_law_576 (by decide) ?_
  exact K σ μ a (Rl.mono (by omega) hB)
set_option maxRecDepth 8000 in
set_option maxHeartbeats 4000000 in
theorem law_thrownOut (C0 : x_C p s m args meth c D vwCl (xtys cs) A H0 337 ad (wfL cs ad) cL_law 4 RL ret) (hX : va_X b Ln xs s H0) (hbl : b < H0.size) (hbA : ¬ A b) (hR : R.frames = 10 ∧ R.locals = 390 ∧ 337 ≤ R.cells ∧ 6045 ≤ R.slots) (hn : 400 < n) (hi : i + 5 ≤ Ln) (hL : Ln ≤ 2560) (Rl : Rel B σ μ a) (hB : B + 30000 < 2 ^ 30) (K : ∀ σ' μ' a', Rel (B + 30000) σ' μ' a' → x_W p l e R s m args below meth c D vwCl A H0 337 ad (wfL cs ad) 4 337 6045 Q (lam σ' μ') 855 [(3, .int (nI i)), (2, .ref (ad 333)), (1, .ref (ad 0)), (0, .ref b)] []) : x_W p l e R s m args below meth c D vwCl A H0 337 ad (wfL cs ad) 4 337 6045 Q (lam σ μ) 581 [(3, .int (nI i)), (2, .ref (ad 333)), (1, .ref (ad 0)), (0, .ref b)] [] := by
  obtain ⟨v, e1, e2⟩ := M_thrownOut (n := n) Rl (xs (i + 1))
  refine x_pc (pc' := 581) rfl ?_
  refine x_aload_n C0 dL_law_581 rfl 2 rfl ?_
  refine x_aload_n C0 dL_law_582 rfl 3 rfl ?_
  refine x_iload_n C0 dL_law_583 rfl 0 rfl ?_
  refine x_iconst C0 (v := nI 1) dL_law_584 rfl ?_
  refine x_pc (pc' := 585) rfl ?_
  refine x_iadd C0 dL_law_585 ?_
  refine x_top (v' := .int (nI (i + 1))) (congrArg Value.int (nI_add i 1)) ?_
  refine x_sld C0 hX hbl hbA (vp_in_nI (show i + 1 < Ln by omega) (by omega)) dL_law_586 ?_
  refine x_top (v' := .int (xs (i + 1))) (congrArg (fun z => Value.int (xs z)) (nI_clamp (by omega))) ?_
  refine x_subV11 C0 (n' := 333) (ι := fun r => r) (wf' := wfT cs ad) (τ := σ) (τ' := σ) (σ' := lam σ μ) (fun r h => by omega) (fun _ _ _ _ h => h) (fun r h => wfL_T h) (fun r h => wfL_T h) lam_T (c_X4_thrownOut n e1) (x_cwV C0 mw_577 mw_578 mw_579 mw_78 mw_580 hd_yX4_thrownOut ⟨rfl, rfl, by rw [hR.1]; decide, by rw [hR.2.1]; decide⟩) (r := 0) (by decide) rfl wfT_r0 rfl ⟨hR.2.2.1, hR.2.2.2⟩ (Nat.le_of_ble_eq_true rfl) dL_law_587 ?_
  refine x_aload_n C0 dL_law_590 rfl 1 rfl ?_
  refine x_pc (pc' := 591) rfl ?_
  refine x_aload_n C0 dL_law_591 rfl 3 rfl ?_
  refine x_iload_n C0 dL_law_592 rfl 0 rfl ?_
  refine x_iconst C0 (v := nI 1) dL_law_593 rfl ?_
  refine x_iadd C0 dL_law_594 ?_
  refine x_top (v' := .int (nI (i + 1))) (congrArg Value.int (nI_add i 1)) ?_
  refine x_pc (pc' := 595) rfl ?_
  refine x_sld C0 hX hbl hbA (vp_in_nI (show i + 1 < Ln by omega) (by omega)) dL_law_595 ?_
  refine x_top (v' := .int (xs (i + 1))) (congrArg (fun z => Value.int (xs z)) (nI_clamp (by omega))) ?_
  refine x_subV11 C0 (n' := 4) (ι := fun r => 333 + r) (wf' := wfR cs (fun a => ad (333 + a))) (τ := μ) (τ' := μ) (σ' := lam σ μ) (fun r h => by omega) (fun _ _ _ _ h => Nat.add_left_cancel h) (fun r h => wfL_R h) (fun r h => wfL_R h) lam_R (c_X5_thrownOut n e2) (x_cwV C0 mw_881 mw_882 mw_883 mw_84 mw_884 hd_yX5_thrownOut ⟨rfl, rfl, by rw [hR.1]; decide, by rw [hR.2.1]; decide⟩) (r := 0) (by decide) rfl wfR_0 rfl ⟨hR.2.2.1, hR.2.2.2⟩ (Nat.le_of_ble_eq_true rfl) dL_law_596 ?_
  refine x_same C0 (tgt := 855) dL_law_599 (by decide) ?_
  exact K σ μ a (Rl.mono (by omega) hB)
set_option maxRecDepth 8000 in
set_option maxHeartbeats 4000000 in
theorem law_helper (C0 : x_C p s m args meth c D vwCl (xtys cs) A H0 337 ad (wfL cs ad) cL_law 4 RL ret) (hX : va_X b Ln xs s H0) (hbl : b < H0.size) (hbA : ¬ A b) (hR : R.frames = 10 ∧ R.locals = 390 ∧ 337 ≤ R.cells ∧ 6045 ≤ R.slots) (hn : 400 < n) (hi : i + 5 ≤ Ln) (hL : Ln ≤ 2560) (Rl : Rel B σ μ a) (hB : B + 30000 < 2 ^ 30) (K : ∀ σ' μ' a', Rel (B + 30000) σ' μ' a' → x_W p l e R s m args below meth c D vwCl A H0 337 ad (wfL cs ad) 4 337 6045 Q (lam σ' μ') 855 [(3, .int (nI i)), (2, .ref (ad 333)), (1, .ref (ad 0)), (0, .ref b)] []) : x_W p l e R s m args below meth c D vwCl A H0 337 ad (wfL cs ad) 4 337 6045 Q (lam σ μ) 604 [(3, .int (nI i)), (2, .ref (ad 333)), (1, .ref (ad 0)), (0, .ref b)] [] := by
  obtain ⟨v, e1, e2⟩ := M_helper Rl hn (xs (i + 1)) (xs (i + 2))
  refine x_pc (pc' := 604) rfl ?_
  refine x_aload_n C0 dL_law_604 rfl 2 rfl ?_
  refine x_aload_n C0 dL_law_605 rfl 3 rfl ?_
  refine x_iload_n C0 dL_law_606 rfl 0 rfl ?_
  refine x_iconst C0 (v := nI 1) dL_law_607 rfl ?_
  refine x_pc (pc' := 608) rfl ?_
  refine x_iadd C0 dL_law_608 ?_
  refine x_top (v' := .int (nI (i + 1))) (congrArg Value.int (nI_add i 1)) ?_
  refine x_sld C0 hX hbl hbA (vp_in_nI (show i + 1 < Ln by omega) (by omega)) dL_law_609 ?_
  refine x_top (v' := .int (xs (i + 1))) (congrArg (fun z => Value.int (xs z)) (nI_clamp (by omega))) ?_
  refine x_aload_n C0 dL_law_610 rfl 3 rfl ?_
  refine x_iload_n C0 dL_law_611 rfl 0 rfl ?_
  refine x_pc (pc' := 612) rfl ?_
  refine x_iconst C0 (v := nI 2) dL_law_612 rfl ?_
  refine x_iadd C0 dL_law_613 ?_
  refine x_top (v' := .int (nI (i + 2))) (congrArg Value.int (nI_add i 2)) ?_
  refine x_sld C0 hX hbl hbA (vp_in_nI (show i + 2 < Ln by omega) (by omega)) dL_law_614 ?_
  refine x_top (v' := .int (xs (i + 2))) (congrArg (fun z => Value.int (xs z)) (nI_clamp (by omega))) ?_
  refine x_subV21 C0 (n' := 333) (ι := fun r => r) (wf' := wfT cs ad) (τ := σ) (τ' := σ) (σ' := lam σ μ) (fun r h => by omega) (fun _ _ _ _ h => h) (fun r h => wfL_T h) (fun r h => wfL_T h) lam_T (c_X4_helper n e1) (x_cwV C0 mw_581 mw_582 mw_583 mw_78 mw_584 hd_yX4_helper ⟨rfl, rfl, by rw [hR.1]; decide, by rw [hR.2.1]; decide⟩) (r := 0) (by decide) rfl wfT_r0 rfl ⟨hR.2.2.1, hR.2.2.2⟩ (Nat.le_of_ble_eq_true rfl) dL_law_615 ?_
  refine x_pc (pc' := 618) rfl ?_
  refine x_aload_n C0 dL_law_618 rfl 1 rfl ?_
  refine x_aload_n C0 dL_law_619 rfl 3 rfl ?_
  refine x_iload_n C0 dL_law_620 rfl 0 rfl ?_
  refine x_iconst C0 (v := nI 1) dL_law_621 rfl ?_
  refine x_pc (pc' := 622) rfl ?_
  refine x_iadd C0 dL_law_622 ?_
  refine x_top (v' := .int (nI (i + 1))) (congrArg Value.int (nI_add i 1)) ?_
  refine x_sld C0 hX hbl hbA (vp_in_nI (show i + 1 < Ln by omega) (by omega)) dL_law_623 ?_
  refine x_top (v' := .int (xs (i + 1))) (congrArg (fun z => Value.int (xs z)) (nI_clamp (by omega))) ?_
  refine x_aload_n C0 dL_law_624 rfl 3 rfl ?_
  refine x_iload_n C0 dL_law_625 rfl 0 rfl ?_
  refine x_pc (pc' := 626) rfl ?_
  refine x_iconst C0 (v := nI 2) dL_law_626 rfl ?_
  refine x_iadd C0 dL_law_627 ?_
  refine x_top (v' := .int (nI (i + 2))) (congrArg Value.int (nI_add i 2)) ?_
  refine x_sld C0 hX hbl hbA (vp_in_nI (show i + 2 < Ln by omega) (by omega)) dL_law_628 ?_
  refine x_top (v' := .int (xs (i + 2))) (congrArg (fun z => Value.int (xs z)) (nI_clamp (by omega))) ?_
  refine x_subV21 C0 (n' := 4) (ι := fun r => 333 + r) (wf' := wfR cs (fun a => ad (333 + a))) (τ := μ) (τ' := μ) (σ' := lam σ μ) (fun r h => by omega) (fun _ _ _ _ h => Nat.add_left_cancel h) (fun r h => wfL_R h) (fun r h => wfL_R h) lam_R (c_X5_helper n e2) (x_cwV C0 mw_885 mw_886 mw_887 mw_84 mw_888 hd_yX5_helper ⟨rfl, rfl, by rw [hR.1]; decide, by rw [hR.2.1]; decide⟩) (r := 0) (by decide) rfl wfR_0 rfl ⟨hR.2.2.1, hR.2.2.2⟩ (Nat.le_of_ble_eq_true rfl) dL_law_629 ?_
  refine x_pc (pc' := 632) rfl ?_
  refine x_same C0 (tgt := 855) dL_law_632 (by decide) ?_
  exact K σ μ a (Rl.mono (by omega) hB)
set_option maxRecDepth 8000 in
set_option maxHeartbeats 4000000 in
theorem law_table (C0 : x_C p s m args meth c D vwCl (xtys cs) A H0 337 ad (wfL cs ad) cL_law 4 RL ret) (hX : va_X b Ln xs s H0) (hbl : b < H0.size) (hbA : ¬ A b) (hR : R.frames = 10 ∧ R.locals = 390 ∧ 337 ≤ R.cells ∧ 6045 ≤ R.slots) (hn : 400 < n) (hi : i + 5 ≤ Ln) (hL : Ln ≤ 2560) (Rl : Rel B σ μ a) (hB : B + 30000 < 2 ^ 30) (K : ∀ σ' μ' a', Rel (B + 30000) σ' μ' a' → x_W p l e R s m args below meth c D vwCl A H0 337 ad (wfL cs ad) 4 337 6045 Q (lam σ' μ') 855 [(3, .int (nI i)), (2, .ref (ad 333)), (1, .ref (ad 0)), (0, .ref b)] []) : x_W p l e R s m args below meth c D vwCl A H0 337 ad (wfL cs ad) 4 337 6045 Q (lam σ μ) 637 [(3, .int (nI i)), (2, .ref (ad 333)), (1, .ref (ad 0)), (0, .ref b)] [] := by
  obtain ⟨v, e1, e2⟩ := M_table (n := n) Rl (xs (i + 1)) (xs (i + 2)) (xs (i + 3))
  refine x_pc (pc' := 637) rfl ?_
  refine x_aload_n C0 dL_law_637 rfl 2 rfl ?_
  refine x_aload_n C0 dL_law_638 rfl 3 rfl ?_
  refine x_iload_n C0 dL_law_639 rfl 0 rfl ?_
  refine x_iconst C0 (v := nI 1) dL_law_640 rfl ?_
  refine x_pc (pc' := 641) rfl ?_
  refine x_iadd C0 dL_law_641 ?_
  refine x_top (v' := .int (nI (i + 1))) (congrArg Value.int (nI_add i 1)) ?_
  refine x_sld C0 hX hbl hbA (vp_in_nI (show i + 1 < Ln by omega) (by omega)) dL_law_642 ?_
  refine x_top (v' := .int (xs (i + 1))) (congrArg (fun z => Value.int (xs z)) (nI_clamp (by omega))) ?_
  refine x_aload_n C0 dL_law_643 rfl 3 rfl ?_
  refine x_iload_n C0 dL_law_644 rfl 0 rfl ?_
  refine x_pc (pc' := 645) rfl ?_
  refine x_iconst C0 (v := nI 2) dL_law_645 rfl ?_
  refine x_iadd C0 dL_law_646 ?_
  refine x_top (v' := .int (nI (i + 2))) (congrArg Value.int (nI_add i 2)) ?_
  refine x_sld C0 hX hbl hbA (vp_in_nI (show i + 2 < Ln by omega) (by omega)) dL_law_647 ?_
  refine x_top (v' := .int (xs (i + 2))) (congrArg (fun z => Value.int (xs z)) (nI_clamp (by omega))) ?_
  refine x_aload_n C0 dL_law_648 rfl 3 rfl ?_
  refine x_pc (pc' := 649) rfl ?_
  refine x_iload_n C0 dL_law_649 rfl 0 rfl ?_
  refine x_iconst C0 (v := nI 3) dL_law_650 rfl ?_
  refine x_iadd C0 dL_law_651 ?_
  refine x_top (v' := .int (nI (i + 3))) (congrArg Value.int (nI_add i 3)) ?_
  refine x_sld C0 hX hbl hbA (vp_in_nI (show i + 3 < Ln by omega) (by omega)) dL_law_652 ?_
  refine x_top (v' := .int (xs (i + 3))) (congrArg (fun z => Value.int (xs z)) (nI_clamp (by omega))) ?_
  refine x_pc (pc' := 653) rfl ?_
  refine x_subV31 C0 (n' := 333) (ι := fun r => r) (wf' := wfT cs ad) (τ := σ) (τ' := σ) (σ' := lam σ μ) (fun r h => by omega) (fun _ _ _ _ h => h) (fun r h => wfL_T h) (fun r h => wfL_T h) lam_T (c_X4_table n e1) (x_cwV C0 mw_590 mw_591 mw_592 mw_78 mw_593 hd_yX4_table ⟨rfl, rfl, by rw [hR.1]; decide, by rw [hR.2.1]; decide⟩) (r := 0) (by decide) rfl wfT_r0 rfl ⟨hR.2.2.1, hR.2.2.2⟩ (Nat.le_of_ble_eq_true rfl) dL_law_653 ?_
  refine x_aload_n C0 dL_law_656 rfl 1 rfl ?_
  refine x_aload_n C0 dL_law_657 rfl 3 rfl ?_
  refine x_iload_n C0 dL_law_658 rfl 0 rfl ?_
  refine x_pc (pc' := 659) rfl ?_
  refine x_iconst C0 (v := nI 1) dL_law_659 rfl ?_
  refine x_iadd C0 dL_law_660 ?_
  refine x_top (v' := .int (nI (i + 1))) (congrArg Value.int (nI_add i 1)) ?_
  refine x_sld C0 hX hbl hbA (vp_in_nI (show i + 1 < Ln by omega) (by omega)) dL_law_661 ?_
  refine x_top (v' := .int (xs (i + 1))) (congrArg (fun z => Value.int (xs z)) (nI_clamp (by omega))) ?_
  refine x_aload_n C0 dL_law_662 rfl 3 rfl ?_
  refine x_pc (pc' := 663) rfl ?_
  refine x_iload_n C0 dL_law_663 rfl 0 rfl ?_
  refine x_iconst C0 (v := nI 2) dL_law_664 rfl ?_
  refine x_iadd C0 dL_law_665 ?_
  refine x_top (v' := .int (nI (i + 2))) (congrArg Value.int (nI_add i 2)) ?_
  refine x_sld C0 hX hbl hbA (vp_in_nI (show i + 2 < Ln by omega) (by omega)) dL_law_666 ?_
  refine x_top (v' := .int (xs (i + 2))) (congrArg (fun z => Value.int (xs z)) (nI_clamp (by omega))) ?_
  refine x_pc (pc' := 667) rfl ?_
  refine x_aload_n C0 dL_law_667 rfl 3 rfl ?_
  refine x_iload_n C0 dL_law_668 rfl 0 rfl ?_
  refine x_iconst C0 (v := nI 3) dL_law_669 rfl ?_
  refine x_iadd C0 dL_law_670 ?_
  refine x_top (v' := .int (nI (i + 3))) (congrArg Value.int (nI_add i 3)) ?_
  refine x_pc (pc' := 671) rfl ?_
  refine x_sld C0 hX hbl hbA (vp_in_nI (show i + 3 < Ln by omega) (by omega)) dL_law_671 ?_
  refine x_top (v' := .int (xs (i + 3))) (congrArg (fun z => Value.int (xs z)) (nI_clamp (by omega))) ?_
  refine x_subV31 C0 (n' := 4) (ι := fun r => 333 + r) (wf' := wfR cs (fun a => ad (333 + a))) (τ := μ) (τ' := μ) (σ' := lam σ μ) (fun r h => by omega) (fun _ _ _ _ h => Nat.add_left_cancel h) (fun r h => wfL_R h) (fun r h => wfL_R h) lam_R (c_X5_table n e2) (x_cwV C0 mw_893 mw_894 mw_895 mw_84 mw_896 hd_yX5_table ⟨rfl, rfl, by rw [hR.1]; decide, by rw [hR.2.1]; decide⟩) (r := 0) (by decide) rfl wfR_0 rfl ⟨hR.2.2.1, hR.2.2.2⟩ (Nat.le_of_ble_eq_true rfl) dL_law_672 ?_
  refine x_same C0 (tgt := 855) dL_law_675 (by decide) ?_
  exact K σ μ a (Rl.mono (by omega) hB)
end LR
