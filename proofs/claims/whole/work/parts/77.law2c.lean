/-! the law's cases *)  -/
theorem hd_yX4_clearText : yX4_clearText.cls ≠ "java/lang/invoke/MethodHandle" ∧ yX4_clearText.cls ≠ "java/lang/invoke/VarHandle" ∧ (parseMethodDescriptor yX4_clearText.desc).map (fun d => d.parameters.length) = some 0 := ⟨by decide +kernel, by decide +kernel, by decide +kernel⟩
theorem hd_yX4_keep : yX4_keep.cls ≠ "java/lang/invoke/MethodHandle" ∧ yX4_keep.cls ≠ "java/lang/invoke/VarHandle" ∧ (parseMethodDescriptor yX4_keep.desc).map (fun d => d.parameters.length) = some 0 := ⟨by decide +kernel, by decide +kernel, by decide +kernel⟩
theorem hd_yX4_restore : yX4_restore.cls ≠ "java/lang/invoke/MethodHandle" ∧ yX4_restore.cls ≠ "java/lang/invoke/VarHandle" ∧ (parseMethodDescriptor yX4_restore.desc).map (fun d => d.parameters.length) = some 0 := ⟨by decide +kernel, by decide +kernel, by decide +kernel⟩
theorem hd_yX4_run : yX4_run.cls ≠ "java/lang/invoke/MethodHandle" ∧ yX4_run.cls ≠ "java/lang/invoke/VarHandle" ∧ (parseMethodDescriptor yX4_run.desc).map (fun d => d.parameters.length) = some 0 := ⟨by decide +kernel, by decide +kernel, by decide +kernel⟩
theorem hd_yX4_undo : yX4_undo.cls ≠ "java/lang/invoke/MethodHandle" ∧ yX4_undo.cls ≠ "java/lang/invoke/VarHandle" ∧ (parseMethodDescriptor yX4_undo.desc).map (fun d => d.parameters.length) = some 0 := ⟨by decide +kernel, by decide +kernel, by decide +kernel⟩
theorem hd_yX5_clearText : yX5_clearText.cls ≠ "java/lang/invoke/MethodHandle" ∧ yX5_clearText.cls ≠ "java/lang/invoke/VarHandle" ∧ (parseMethodDescriptor yX5_clearText.desc).map (fun d => d.parameters.length) = some 0 := ⟨by decide +kernel, by decide +kernel, by decide +kernel⟩
theorem hd_yX5_keep : yX5_keep.cls ≠ "java/lang/invoke/MethodHandle" ∧ yX5_keep.cls ≠ "java/lang/invoke/VarHandle" ∧ (parseMethodDescriptor yX5_keep.desc).map (fun d => d.parameters.length) = some 0 := ⟨by decide +kernel, by decide +kernel, by decide +kernel⟩
theorem hd_yX5_restore : yX5_restore.cls ≠ "java/lang/invoke/MethodHandle" ∧ yX5_restore.cls ≠ "java/lang/invoke/VarHandle" ∧ (parseMethodDescriptor yX5_restore.desc).map (fun d => d.parameters.length) = some 0 := ⟨by decide +kernel, by decide +kernel, by decide +kernel⟩
theorem hd_yX5_run : yX5_run.cls ≠ "java/lang/invoke/MethodHandle" ∧ yX5_run.cls ≠ "java/lang/invoke/VarHandle" ∧ (parseMethodDescriptor yX5_run.desc).map (fun d => d.parameters.length) = some 0 := ⟨by decide +kernel, by decide +kernel, by decide +kernel⟩
theorem hd_yX5_undo : yX5_undo.cls ≠ "java/lang/invoke/MethodHandle" ∧ yX5_undo.cls ≠ "java/lang/invoke/VarHandle" ∧ (parseMethodDescriptor yX5_undo.desc).map (fun d => d.parameters.length) = some 0 := ⟨by decide +kernel, by decide +kernel, by decide +kernel⟩
section LR
variable {p : Program} {l : Launch} {e : Env} {R : Room} {s : State} {m : MethodId} {args : Array Value} {below : List Frame} {meth : Method} {c : Code} {D : va_G} {A : Nat → Prop} {H0 : Heap} {cs : Nat → ClassId} {ad : Nat → Nat} {ret : Option FieldType} {Q : State → Prop} {b Ln i n B : Nat} {xs : Nat → Int32} {σ μ : xM} {a : xA}
set_option maxRecDepth 8000 in
set_option maxHeartbeats 4000000 in
theorem law_clearText (C0 : x_C p s m args meth c D vwCl (xtys cs) A H0 337 ad (wfL cs ad) cL_law 4 RL ret) (hX : va_X b Ln xs s H0) (hbl : b < H0.size) (hbA : ¬ A b) (hR : R.frames = 10 ∧ R.locals = 390 ∧ 337 ≤ R.cells ∧ 6045 ≤ R.slots) (hn : 400 < n) (hi : i + 5 ≤ Ln) (hL : Ln ≤ 2560) (Rl : Rel B σ μ a) (hB : B + 30000 < 2 ^ 30) (K : ∀ σ' μ' a', Rel (B + 30000) σ' μ' a' → x_W p l e R s m args below meth c D vwCl A H0 337 ad (wfL cs ad) 4 337 6045 Q (lam σ' μ') 855 [(3, .int (nI i)), (2, .ref (ad 333)), (1, .ref (ad 0)), (0, .ref b)] []) : x_W p l e R s m args below meth c D vwCl A H0 337 ad (wfL cs ad) 4 337 6045 Q (lam σ μ) 450 [(3, .int (nI i)), (2, .ref (ad 333)), (1, .ref (ad 0)), (0, .ref b)] [] := by
  obtain ⟨v, σ', μ', a', e1, e2, R2⟩ := M_clearText (n := n) Rl hB
  refine x_pc (pc' := 450) rfl ?_
  refine x_aload_n C0 dL_law_450 rfl 2 rfl ?_
  refine x_subV01 C0 (n' := 333) (ι := fun r => r) (wf' := wfT cs ad) (τ := σ) (τ' := σ') (σ' := lam σ' μ) (fun r h => by omega) (fun _ _ _ _ h => h) (fun r h => wfL_T h) (fun r h => wfL_T h) lam_T (c_X4_clearText n e1) (x_cwV C0 mw_529 mw_530 mw_531 mw_78 mw_532 hd_yX4_clearText ⟨rfl, rfl, by rw [hR.1]; decide, by rw [hR.2.1]; decide⟩) (r := 0) (by decide) rfl wfT_r0 rfl ⟨hR.2.2.1, hR.2.2.2⟩ (Nat.le_of_ble_eq_true rfl) dL_law_451 ?_
  refine x_aload_n C0 dL_law_454 rfl 1 rfl ?_
  refine x_subV01 C0 (n' := 4) (ι := fun r => 333 + r) (wf' := wfR cs (fun a => ad (333 + a))) (τ := μ) (τ' := μ') (σ' := lam σ' μ') (fun r h => by omega) (fun _ _ _ _ h => Nat.add_left_cancel h) (fun r h => wfL_R h) (fun r h => wfL_R h) lam_R (c_X5_clearText n e2) (x_cwV C0 mw_861 mw_862 mw_863 mw_84 mw_864 hd_yX5_clearText ⟨rfl, rfl, by rw [hR.1]; decide, by rw [hR.2.1]; decide⟩) (r := 0) (by decide) rfl wfR_0 rfl ⟨hR.2.2.1, hR.2.2.2⟩ (Nat.le_of_ble_eq_true rfl) dL_law_455 ?_
  refine x_pc (pc' := 458) rfl ?_
  refine x_same C0 (tgt := 855) dL_law_458 (by decide) ?_
  exact K σ' μ' a' R2
set_option maxRecDepth 8000 in
set_option maxHeartbeats 4000000 in
theorem law_run (C0 : x_C p s m args meth c D vwCl (xtys cs) A H0 337 ad (wfL cs ad) cL_law 4 RL ret) (hX : va_X b Ln xs s H0) (hbl : b < H0.size) (hbA : ¬ A b) (hR : R.frames = 10 ∧ R.locals = 390 ∧ 337 ≤ R.cells ∧ 6045 ≤ R.slots) (hn : 400 < n) (hi : i + 5 ≤ Ln) (hL : Ln ≤ 2560) (Rl : Rel B σ μ a) (hB : B + 30000 < 2 ^ 30) (K : ∀ σ' μ' a', Rel (B + 30000) σ' μ' a' → x_W p l e R s m args below meth c D vwCl A H0 337 ad (wfL cs ad) 4 337 6045 Q (lam σ' μ') 855 [(3, .int (nI i)), (2, .ref (ad 333)), (1, .ref (ad 0)), (0, .ref b)] []) : x_W p l e R s m args below meth c D vwCl A H0 337 ad (wfL cs ad) 4 337 6045 Q (lam σ μ) 463 [(3, .int (nI i)), (2, .ref (ad 333)), (1, .ref (ad 0)), (0, .ref b)] [] := by
  obtain ⟨v, σ', μ', a', e1, e2, R2⟩ := M_run Rl hn hB 
  refine x_pc (pc' := 463) rfl ?_
  refine x_aload_n C0 dL_law_463 rfl 2 rfl ?_
  refine x_subV01 C0 (n' := 333) (ι := fun r => r) (wf' := wfT cs ad) (τ := σ) (τ' := σ') (σ' := lam σ' μ) (fun r h => by omega) (fun _ _ _ _ h => h) (fun r h => wfL_T h) (fun r h => wfL_T h) lam_T (c_X4_run n e1) (x_cwV C0 mw_533 mw_534 mw_535 mw_78 mw_536 hd_yX4_run ⟨rfl, rfl, by rw [hR.1]; decide, by rw [hR.2.1]; decide⟩) (r := 0) (by decide) rfl wfT_r0 rfl ⟨hR.2.2.1, hR.2.2.2⟩ (Nat.le_of_ble_eq_true rfl) dL_law_464 ?_
  refine x_aload_n C0 dL_law_467 rfl 1 rfl ?_
  refine x_subV01 C0 (n' := 4) (ι := fun r => 333 + r) (wf' := wfR cs (fun a => ad (333 + a))) (τ := μ) (τ' := μ') (σ' := lam σ' μ') (fun r h => by omega) (fun _ _ _ _ h => Nat.add_left_cancel h) (fun r h => wfL_R h) (fun r h => wfL_R h) lam_R (c_X5_run n e2) (x_cwV C0 mw_865 mw_866 mw_867 mw_84 mw_868 hd_yX5_run ⟨rfl, rfl, by rw [hR.1]; decide, by rw [hR.2.1]; decide⟩) (r := 0) (by decide) rfl wfR_0 rfl ⟨hR.2.2.1, hR.2.2.2⟩ (Nat.le_of_ble_eq_true rfl) dL_law_468 ?_
  refine x_pc (pc' := 471) rfl ?_
  refine x_same C0 (tgt := 855) dL_law_471 (by decide) ?_
  exact K σ' μ' a' R2
set_option maxRecDepth 8000 in
set_option maxHeartbeats 4000000 in
theorem law_undo (C0 : x_C p s m args meth c D vwCl (xtys cs) A H0 337 ad (wfL cs ad) cL_law 4 RL ret) (hX : va_X b Ln xs s H0) (hbl : b < H0.size) (hbA : ¬ A b) (hR : R.frames = 10 ∧ R.locals = 390 ∧ 337 ≤ R.cells ∧ 6045 ≤ R.slots) (hn : 400 < n) (hi : i + 5 ≤ Ln) (hL : Ln ≤ 2560) (Rl : Rel B σ μ a) (hB : B + 30000 < 2 ^ 30) (K : ∀ σ' μ' a', Rel (B + 30000) σ' μ' a' → x_W p l e R s m args below meth c D vwCl A H0 337 ad (wfL cs ad) 4 337 6045 Q (lam σ' μ') 855 [(3, .int (nI i)), (2, .ref (ad 333)), (1, .ref (ad 0)), (0, .ref b)] []) : x_W p l e R s m args below meth c D vwCl A H0 337 ad (wfL cs ad) 4 337 6045 Q (lam σ μ) 476 [(3, .int (nI i)), (2, .ref (ad 333)), (1, .ref (ad 0)), (0, .ref b)] [] := by
  obtain ⟨v, σ', μ', a', e1, e2, R2⟩ := M_undo Rl hn hB 
  refine x_pc (pc' := 476) rfl ?_
  refine x_aload_n C0 dL_law_476 rfl 2 rfl ?_
  refine x_subV01 C0 (n' := 333) (ι := fun r => r) (wf' := wfT cs ad) (τ := σ) (τ' := σ') (σ' := lam σ' μ) (fun r h => by omega) (fun _ _ _ _ h => h) (fun r h => wfL_T h) (fun r h => wfL_T h) lam_T (c_X4_undo n e1) (x_cwV C0 mw_553 mw_554 mw_555 mw_78 mw_556 hd_yX4_undo ⟨rfl, rfl, by rw [hR.1]; decide, by rw [hR.2.1]; decide⟩) (r := 0) (by decide) rfl wfT_r0 rfl ⟨hR.2.2.1, hR.2.2.2⟩ (Nat.le_of_ble_eq_true rfl) dL_law_477 ?_
  refine x_aload_n C0 dL_law_480 rfl 1 rfl ?_
  refine x_subV01 C0 (n' := 4) (ι := fun r => 333 + r) (wf' := wfR cs (fun a => ad (333 + a))) (τ := μ) (τ' := μ') (σ' := lam σ' μ') (fun r h => by omega) (fun _ _ _ _ h => Nat.add_left_cancel h) (fun r h => wfL_R h) (fun r h => wfL_R h) lam_R (c_X5_undo n e2) (x_cwV C0 mw_671 mw_672 mw_673 mw_84 mw_674 hd_yX5_undo ⟨rfl, rfl, by rw [hR.1]; decide, by rw [hR.2.1]; decide⟩) (r := 0) (by decide) rfl wfR_0 rfl ⟨hR.2.2.1, hR.2.2.2⟩ (Nat.le_of_ble_eq_true rfl) dL_law_481 ?_
  refine x_pc (pc' := 484) rfl ?_
  refine x_same C0 (tgt := 855) dL_law_484 (by decide) ?_
  exact K σ' μ' a' R2
set_option maxRecDepth 8000 in
set_option maxHeartbeats 4000000 in
theorem law_keep (C0 : x_C p s m args meth c D vwCl (xtys cs) A H0 337 ad (wfL cs ad) cL_law 4 RL ret) (hX : va_X b Ln xs s H0) (hbl : b < H0.size) (hbA : ¬ A b) (hR : R.frames = 10 ∧ R.locals = 390 ∧ 337 ≤ R.cells ∧ 6045 ≤ R.slots) (hn : 400 < n) (hi : i + 5 ≤ Ln) (hL : Ln ≤ 2560) (Rl : Rel B σ μ a) (hB : B + 30000 < 2 ^ 30) (K : ∀ σ' μ' a', Rel (B + 30000) σ' μ' a' → x_W p l e R s m args below meth c D vwCl A H0 337 ad (wfL cs ad) 4 337 6045 Q (lam σ' μ') 855 [(3, .int (nI i)), (2, .ref (ad 333)), (1, .ref (ad 0)), (0, .ref b)] []) : x_W p l e R s m args below meth c D vwCl A H0 337 ad (wfL cs ad) 4 337 6045 Q (lam σ μ) 489 [(3, .int (nI i)), (2, .ref (ad 333)), (1, .ref (ad 0)), (0, .ref b)] [] := by
  obtain ⟨v, σ', μ', a', e1, e2, R2⟩ := M_keep Rl hn hB 
  refine x_pc (pc' := 489) rfl ?_
  refine x_aload_n C0 dL_law_489 rfl 2 rfl ?_
  refine x_subV01 C0 (n' := 333) (ι := fun r => r) (wf' := wfT cs ad) (τ := σ) (τ' := σ') (σ' := lam σ' μ) (fun r h => by omega) (fun _ _ _ _ h => h) (fun r h => wfL_T h) (fun r h => wfL_T h) lam_T (c_X4_keep n e1) (x_cwV C0 mw_557 mw_558 mw_559 mw_78 mw_560 hd_yX4_keep ⟨rfl, rfl, by rw [hR.1]; decide, by rw [hR.2.1]; decide⟩) (r := 0) (by decide) rfl wfT_r0 rfl ⟨hR.2.2.1, hR.2.2.2⟩ (Nat.le_of_ble_eq_true rfl) dL_law_490 ?_
  refine x_aload_n C0 dL_law_493 rfl 1 rfl ?_
  refine x_subV01 C0 (n' := 4) (ι := fun r => 333 + r) (wf' := wfR cs (fun a => ad (333 + a))) (τ := μ) (τ' := μ') (σ' := lam σ' μ') (fun r h => by omega) (fun _ _ _ _ h => Nat.add_left_cancel h) (fun r h => wfL_R h) (fun r h => wfL_R h) lam_R (c_X5_keep n e2) (x_cwV C0 mw_680 mw_681 mw_682 mw_84 mw_683 hd_yX5_keep ⟨rfl, rfl, by rw [hR.1]; decide, by rw [hR.2.1]; decide⟩) (r := 0) (by decide) rfl wfR_0 rfl ⟨hR.2.2.1, hR.2.2.2⟩ (Nat.le_of_ble_eq_true rfl) dL_law_494 ?_
  refine x_pc (pc' := 497) rfl ?_
  refine x_same C0 (tgt := 855) dL_law_497 (by decide) ?_
  exact K σ' μ' a' R2
set_option maxRecDepth 8000 in
set_option maxHeartbeats 4000000 in
theorem law_restore (C0 : x_C p s m args meth c D vwCl (xtys cs) A H0 337 ad (wfL cs ad) cL_law 4 RL ret) (hX : va_X b Ln xs s H0) (hbl : b < H0.size) (hbA : ¬ A b) (hR : R.frames = 10 ∧ R.locals = 390 ∧ 337 ≤ R.cells ∧ 6045 ≤ R.slots) (hn : 400 < n) (hi : i + 5 ≤ Ln) (hL : Ln ≤ 2560) (Rl : Rel B σ μ a) (hB : B + 30000 < 2 ^ 30) (K : ∀ σ' μ' a', Rel (B + 30000) σ' μ' a' → x_W p l e R s m args below meth c D vwCl A H0 337 ad (wfL cs ad) 4 337 6045 Q (lam σ' μ') 855 [(3, .int (nI i)), (2, .ref (ad 333)), (1, .ref (ad 0)), (0, .ref b)] []) : x_W p l e R s m args below meth c D vwCl A H0 337 ad (wfL cs ad) 4 337 6045 Q (lam σ μ) 502 [(3, .int (nI i)), (2, .ref (ad 333)), (1, .ref (ad 0)), (0, .ref b)] [] := by
  obtain ⟨v, σ', μ', a', e1, e2, R2⟩ := M_restore Rl hn hB 
  refine x_pc (pc' := 502) rfl ?_
  refine x_aload_n C0 dL_law_502 rfl 2 rfl ?_
  refine x_subV01 C0 (n' := 333) (ι := fun r => r) (wf' := wfT cs ad) (τ := σ) (τ' := σ') (σ' := lam σ' μ) (fun r h => by omega) (fun _ _ _ _ h => h) (fun r h => wfL_T h) (fun r h => wfL_T h) lam_T (c_X4_restore n e1) (x_cwV C0 mw_561 mw_562 mw_563 mw_78 mw_564 hd_yX4_restore ⟨rfl, rfl, by rw [hR.1]; decide, by rw [hR.2.1]; decide⟩) (r := 0) (by decide) rfl wfT_r0 rfl ⟨hR.2.2.1, hR.2.2.2⟩ (Nat.le_of_ble_eq_true rfl) dL_law_503 ?_
  refine x_aload_n C0 dL_law_506 rfl 1 rfl ?_
  refine x_subV01 C0 (n' := 4) (ι := fun r => 333 + r) (wf' := wfR cs (fun a => ad (333 + a))) (τ := μ) (τ' := μ') (σ' := lam σ' μ') (fun r h => by omega) (fun _ _ _ _ h => Nat.add_left_cancel h) (fun r h => wfL_R h) (fun r h => wfL_R h) lam_R (c_X5_restore n e2) (x_cwV C0 mw_684 mw_685 mw_686 mw_84 mw_687 hd_yX5_restore ⟨rfl, rfl, by rw [hR.1]; decide, by rw [hR.2.1]; decide⟩) (r := 0) (by decide) rfl wfR_0 rfl ⟨hR.2.2.1, hR.2.2.2⟩ (Nat.le_of_ble_eq_true rfl) dL_law_507 ?_
  refine x_pc (pc' := 510) rfl ?_
  refine x_same C0 (tgt := 855) dL_law_510 (by decide) ?_
  exact K σ' μ' a' R2
end LR
