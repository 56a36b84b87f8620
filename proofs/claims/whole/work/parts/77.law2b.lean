/-! the law's cases *)  -/
theorem nar_char {q : Nat} (hq : q < 65536) : vp_nar .char (nI q) = nI q := by
  have := (pk_charN hq).1
  exact Value.int.inj this
theorem hd_yX4_access : yX4_access.cls ≠ "java/lang/invoke/MethodHandle" ∧ yX4_access.cls ≠ "java/lang/invoke/VarHandle" ∧ (parseMethodDescriptor yX4_access.desc).map (fun d => d.parameters.length) = some 2 := ⟨by decide +kernel, by decide +kernel, by decide +kernel⟩
theorem hd_yX4_forget : yX4_forget.cls ≠ "java/lang/invoke/MethodHandle" ∧ yX4_forget.cls ≠ "java/lang/invoke/VarHandle" ∧ (parseMethodDescriptor yX4_forget.desc).map (fun d => d.parameters.length) = some 1 := ⟨by decide +kernel, by decide +kernel, by decide +kernel⟩
theorem hd_yX4_pardon : yX4_pardon.cls ≠ "java/lang/invoke/MethodHandle" ∧ yX4_pardon.cls ≠ "java/lang/invoke/VarHandle" ∧ (parseMethodDescriptor yX4_pardon.desc).map (fun d => d.parameters.length) = some 1 := ⟨by decide +kernel, by decide +kernel, by decide +kernel⟩
theorem hd_yX4_type : yX4_type.cls ≠ "java/lang/invoke/MethodHandle" ∧ yX4_type.cls ≠ "java/lang/invoke/VarHandle" ∧ (parseMethodDescriptor yX4_type.desc).map (fun d => d.parameters.length) = some 1 := ⟨by decide +kernel, by decide +kernel, by decide +kernel⟩
theorem hd_yX4_walk : yX4_walk.cls ≠ "java/lang/invoke/MethodHandle" ∧ yX4_walk.cls ≠ "java/lang/invoke/VarHandle" ∧ (parseMethodDescriptor yX4_walk.desc).map (fun d => d.parameters.length) = some 4 := ⟨by decide +kernel, by decide +kernel, by decide +kernel⟩
theorem hd_yX5_access : yX5_access.cls ≠ "java/lang/invoke/MethodHandle" ∧ yX5_access.cls ≠ "java/lang/invoke/VarHandle" ∧ (parseMethodDescriptor yX5_access.desc).map (fun d => d.parameters.length) = some 2 := ⟨by decide +kernel, by decide +kernel, by decide +kernel⟩
theorem hd_yX5_forget : yX5_forget.cls ≠ "java/lang/invoke/MethodHandle" ∧ yX5_forget.cls ≠ "java/lang/invoke/VarHandle" ∧ (parseMethodDescriptor yX5_forget.desc).map (fun d => d.parameters.length) = some 1 := ⟨by decide +kernel, by decide +kernel, by decide +kernel⟩
theorem hd_yX5_pardon : yX5_pardon.cls ≠ "java/lang/invoke/MethodHandle" ∧ yX5_pardon.cls ≠ "java/lang/invoke/VarHandle" ∧ (parseMethodDescriptor yX5_pardon.desc).map (fun d => d.parameters.length) = some 1 := ⟨by decide +kernel, by decide +kernel, by decide +kernel⟩
theorem hd_yX5_type : yX5_type.cls ≠ "java/lang/invoke/MethodHandle" ∧ yX5_type.cls ≠ "java/lang/invoke/VarHandle" ∧ (parseMethodDescriptor yX5_type.desc).map (fun d => d.parameters.length) = some 1 := ⟨by decide +kernel, by decide +kernel, by decide +kernel⟩
theorem hd_yX5_walk : yX5_walk.cls ≠ "java/lang/invoke/MethodHandle" ∧ yX5_walk.cls ≠ "java/lang/invoke/VarHandle" ∧ (parseMethodDescriptor yX5_walk.desc).map (fun d => d.parameters.length) = some 4 := ⟨by decide +kernel, by decide +kernel, by decide +kernel⟩
section LR
variable {p : Program} {l : Launch} {e : Env} {R : Room} {s : State} {m : MethodId} {args : Array Value} {below : List Frame} {meth : Method} {c : Code} {D : va_G} {A : Nat → Prop} {H0 : Heap} {cs : Nat → ClassId} {ad : Nat → Nat} {ret : Option FieldType} {Q : State → Prop} {b Ln i n B : Nat} {xs : Nat → Int32} {σ μ : xM} {a : xA}
set_option maxRecDepth 8000 in
set_option maxHeartbeats 4000000 in
theorem law_pardon (C0 : x_C p s m args meth c D vwCl (xtys cs) A H0 337 ad (wfL cs ad) cL_law 4 RL ret) (hX : va_X b Ln xs s H0) (hbl : b < H0.size) (hbA : ¬ A b) (hR : R.frames = 10 ∧ R.locals = 390 ∧ 337 ≤ R.cells ∧ 6045 ≤ R.slots) (hn : 400 < n) (hi : i + 5 ≤ Ln) (hL : Ln ≤ 2560) (Rl : Rel B σ μ a) (hB : B + 30000 < 2 ^ 30) (K : ∀ σ' μ' a', Rel (B + 30000) σ' μ' a' → x_W p l e R s m args below meth c D vwCl A H0 337 ad (wfL cs ad) 4 337 6045 Q (lam σ' μ') 855 [(3, .int (nI i)), (2, .ref (ad 333)), (1, .ref (ad 0)), (0, .ref b)] []) : x_W p l e R s m args below meth c D vwCl A H0 337 ad (wfL cs ad) 4 337 6045 Q (lam σ μ) 293 [(3, .int (nI i)), (2, .ref (ad 333)), (1, .ref (ad 0)), (0, .ref b)] [] := by
  obtain ⟨v, σ', μ', a', e1, e2, R2⟩ := M_pardon Rl hn hB (xs (i + 1))
  refine x_pc (pc' := 293) rfl ?_
  refine x_aload_n C0 dL_law_293 rfl 2 rfl ?_
  refine x_aload_n C0 dL_law_294 rfl 3 rfl ?_
  refine x_iload_n C0 dL_law_295 rfl 0 rfl ?_
  refine x_iconst C0 (v := nI 1) dL_law_296 rfl ?_
  refine x_pc (pc' := 297) rfl ?_
  refine x_iadd C0 dL_law_297 ?_
  refine x_top (v' := .int (nI (i + 1))) (congrArg Value.int (nI_add i 1)) ?_
  refine x_sld C0 hX hbl hbA (vp_in_nI (show i + 1 < Ln by omega) (by omega)) dL_law_298 ?_
  refine x_top (v' := .int (xs (i + 1))) (congrArg (fun z => Value.int (xs z)) (nI_clamp (by omega))) ?_
  refine x_subV11 C0 (n' := 333) (ι := fun r => r) (wf' := wfT cs ad) (τ := σ) (τ' := σ') (σ' := lam σ' μ) (fun r h => by omega) (fun _ _ _ _ h => h) (fun r h => wfL_T h) (fun r h => wfL_T h) lam_T (c_X4_pardon n e1) (x_cwV C0 mw_402 mw_403 mw_404 mw_78 mw_405 hd_yX4_pardon ⟨rfl, rfl, by rw [hR.1]; decide, by rw [hR.2.1]; decide⟩) (r := 0) (by decide) rfl wfT_r0 rfl ⟨hR.2.2.1, hR.2.2.2⟩ (Nat.le_of_ble_eq_true rfl) dL_law_299 ?_
  refine x_aload_n C0 dL_law_302 rfl 1 rfl ?_
  refine x_pc (pc' := 303) rfl ?_
  refine x_aload_n C0 dL_law_303 rfl 3 rfl ?_
  refine x_iload_n C0 dL_law_304 rfl 0 rfl ?_
  refine x_iconst C0 (v := nI 1) dL_law_305 rfl ?_
  refine x_iadd C0 dL_law_306 ?_
  refine x_top (v' := .int (nI (i + 1))) (congrArg Value.int (nI_add i 1)) ?_
  refine x_pc (pc' := 307) rfl ?_
  refine x_sld C0 hX hbl hbA (vp_in_nI (show i + 1 < Ln by omega) (by omega)) dL_law_307 ?_
  refine x_top (v' := .int (xs (i + 1))) (congrArg (fun z => Value.int (xs z)) (nI_clamp (by omega))) ?_
  refine x_subV11 C0 (n' := 4) (ι := fun r => 333 + r) (wf' := wfR cs (fun a => ad (333 + a))) (τ := μ) (τ' := μ') (σ' := lam σ' μ') (fun r h => by omega) (fun _ _ _ _ h => Nat.add_left_cancel h) (fun r h => wfL_R h) (fun r h => wfL_R h) lam_R (c_X5_pardon n e2) (x_cwV C0 mw_760 mw_761 mw_762 mw_84 mw_763 hd_yX5_pardon ⟨rfl, rfl, by rw [hR.1]; decide, by rw [hR.2.1]; decide⟩) (r := 0) (by decide) rfl wfR_0 rfl ⟨hR.2.2.1, hR.2.2.2⟩ (Nat.le_of_ble_eq_true rfl) dL_law_308 ?_
  refine x_same C0 (tgt := 855) dL_law_311 (by decide) ?_
  exact K σ' μ' a' R2
set_option maxRecDepth 8000 in
set_option maxHeartbeats 4000000 in
theorem law_forget (C0 : x_C p s m args meth c D vwCl (xtys cs) A H0 337 ad (wfL cs ad) cL_law 4 RL ret) (hX : va_X b Ln xs s H0) (hbl : b < H0.size) (hbA : ¬ A b) (hR : R.frames = 10 ∧ R.locals = 390 ∧ 337 ≤ R.cells ∧ 6045 ≤ R.slots) (hn : 400 < n) (hi : i + 5 ≤ Ln) (hL : Ln ≤ 2560) (Rl : Rel B σ μ a) (hB : B + 30000 < 2 ^ 30) (K : ∀ σ' μ' a', Rel (B + 30000) σ' μ' a' → x_W p l e R s m args below meth c D vwCl A H0 337 ad (wfL cs ad) 4 337 6045 Q (lam σ' μ') 855 [(3, .int (nI i)), (2, .ref (ad 333)), (1, .ref (ad 0)), (0, .ref b)] []) : x_W p l e R s m args below meth c D vwCl A H0 337 ad (wfL cs ad) 4 337 6045 Q (lam σ μ) 316 [(3, .int (nI i)), (2, .ref (ad 333)), (1, .ref (ad 0)), (0, .ref b)] [] := by
  obtain ⟨v, σ', μ', a', e1, e2, R2⟩ := M_forget Rl hn hB (xs (i + 1))
  refine x_pc (pc' := 316) rfl ?_
  refine x_aload_n C0 dL_law_316 rfl 2 rfl ?_
  refine x_aload_n C0 dL_law_317 rfl 3 rfl ?_
  refine x_iload_n C0 dL_law_318 rfl 0 rfl ?_
  refine x_iconst C0 (v := nI 1) dL_law_319 rfl ?_
  refine x_pc (pc' := 320) rfl ?_
  refine x_iadd C0 dL_law_320 ?_
  refine x_top (v' := .int (nI (i + 1))) (congrArg Value.int (nI_add i 1)) ?_
  refine x_sld C0 hX hbl hbA (vp_in_nI (show i + 1 < Ln by omega) (by omega)) dL_law_321 ?_
  refine x_top (v' := .int (xs (i + 1))) (congrArg (fun z => Value.int (xs z)) (nI_clamp (by omega))) ?_
  refine x_subV11 C0 (n' := 333) (ι := fun r => r) (wf' := wfT cs ad) (τ := σ) (τ' := σ') (σ' := lam σ' μ) (fun r h => by omega) (fun _ _ _ _ h => h) (fun r h => wfL_T h) (fun r h => wfL_T h) lam_T (c_X4_forget n e1) (x_cwV C0 mw_410 mw_411 mw_412 mw_78 mw_413 hd_yX4_forget ⟨rfl, rfl, by rw [hR.1]; decide, by rw [hR.2.1]; decide⟩) (r := 0) (by decide) rfl wfT_r0 rfl ⟨hR.2.2.1, hR.2.2.2⟩ (Nat.le_of_ble_eq_true rfl) dL_law_322 ?_
  refine x_aload_n C0 dL_law_325 rfl 1 rfl ?_
  refine x_pc (pc' := 326) rfl ?_
  refine x_aload_n C0 dL_law_326 rfl 3 rfl ?_
  refine x_iload_n C0 dL_law_327 rfl 0 rfl ?_
  refine x_iconst C0 (v := nI 1) dL_law_328 rfl ?_
  refine x_iadd C0 dL_law_329 ?_
  refine x_top (v' := .int (nI (i + 1))) (congrArg Value.int (nI_add i 1)) ?_
  refine x_pc (pc' := 330) rfl ?_
  refine x_sld C0 hX hbl hbA (vp_in_nI (show i + 1 < Ln by omega) (by omega)) dL_law_330 ?_
  refine x_top (v' := .int (xs (i + 1))) (congrArg (fun z => Value.int (xs z)) (nI_clamp (by omega))) ?_
  refine x_subV11 C0 (n' := 4) (ι := fun r => 333 + r) (wf' := wfR cs (fun a => ad (333 + a))) (τ := μ) (τ' := μ') (σ' := lam σ' μ') (fun r h => by omega) (fun _ _ _ _ h => Nat.add_left_cancel h) (fun r h => wfL_R h) (fun r h => wfL_R h) lam_R (c_X5_forget n e2) (x_cwV C0 mw_764 mw_765 mw_766 mw_84 mw_767 hd_yX5_forget ⟨rfl, rfl, by rw [hR.1]; decide, by rw [hR.2.1]; decide⟩) (r := 0) (by decide) rfl wfR_0 rfl ⟨hR.2.2.1, hR.2.2.2⟩ (Nat.le_of_ble_eq_true rfl) dL_law_331 ?_
  refine x_same C0 (tgt := 855) dL_law_334 (by decide) ?_
  exact K σ' μ' a' R2
set_option maxRecDepth 8000 in
set_option maxHeartbeats 4000000 in
theorem law_access (C0 : x_C p s m args meth c D vwCl (xtys cs) A H0 337 ad (wfL cs ad) cL_law 4 RL ret) (hX : va_X b Ln xs s H0) (hbl : b < H0.size) (hbA : ¬ A b) (hR : R.frames = 10 ∧ R.locals = 390 ∧ 337 ≤ R.cells ∧ 6045 ≤ R.slots) (hn : 400 < n) (hi : i + 5 ≤ Ln) (hL : Ln ≤ 2560) (Rl : Rel B σ μ a) (hB : B + 30000 < 2 ^ 30) (K : ∀ σ' μ' a', Rel (B + 30000) σ' μ' a' → x_W p l e R s m args below meth c D vwCl A H0 337 ad (wfL cs ad) 4 337 6045 Q (lam σ' μ') 855 [(3, .int (nI i)), (2, .ref (ad 333)), (1, .ref (ad 0)), (0, .ref b)] []) : x_W p l e R s m args below meth c D vwCl A H0 337 ad (wfL cs ad) 4 337 6045 Q (lam σ μ) 339 [(3, .int (nI i)), (2, .ref (ad 333)), (1, .ref (ad 0)), (0, .ref b)] [] := by
  obtain ⟨v, σ', μ', a', e1, e2, R2⟩ := M_access Rl hn hB (xs (i + 1)) (xs (i + 2))
  refine x_pc (pc' := 339) rfl ?_
  refine x_aload_n C0 dL_law_339 rfl 2 rfl ?_
  refine x_aload_n C0 dL_law_340 rfl 3 rfl ?_
  refine x_iload_n C0 dL_law_341 rfl 0 rfl ?_
  refine x_iconst C0 (v := nI 1) dL_law_342 rfl ?_
  refine x_pc (pc' := 343) rfl ?_
  refine x_iadd C0 dL_law_343 ?_
  refine x_top (v' := .int (nI (i + 1))) (congrArg Value.int (nI_add i 1)) ?_
  refine x_sld C0 hX hbl hbA (vp_in_nI (show i + 1 < Ln by omega) (by omega)) dL_law_344 ?_
  refine x_top (v' := .int (xs (i + 1))) (congrArg (fun z => Value.int (xs z)) (nI_clamp (by omega))) ?_
  refine x_aload_n C0 dL_law_345 rfl 3 rfl ?_
  refine x_iload_n C0 dL_law_346 rfl 0 rfl ?_
  refine x_pc (pc' := 347) rfl ?_
  refine x_iconst C0 (v := nI 2) dL_law_347 rfl ?_
  refine x_iadd C0 dL_law_348 ?_
  refine x_top (v' := .int (nI (i + 2))) (congrArg Value.int (nI_add i 2)) ?_
  refine x_sld C0 hX hbl hbA (vp_in_nI (show i + 2 < Ln by omega) (by omega)) dL_law_349 ?_
  refine x_top (v' := .int (xs (i + 2))) (congrArg (fun z => Value.int (xs z)) (nI_clamp (by omega))) ?_
  refine x_subV21 C0 (n' := 333) (ι := fun r => r) (wf' := wfT cs ad) (τ := σ) (τ' := σ') (σ' := lam σ' μ) (fun r h => by omega) (fun _ _ _ _ h => h) (fun r h => wfL_T h) (fun r h => wfL_T h) lam_T (c_X4_access n e1) (x_cwV C0 mw_415 mw_416 mw_417 mw_78 mw_418 hd_yX4_access ⟨rfl, rfl, by rw [hR.1]; decide, by rw [hR.2.1]; decide⟩) (r := 0) (by decide) rfl wfT_r0 rfl ⟨hR.2.2.1, hR.2.2.2⟩ (Nat.le_of_ble_eq_true rfl) dL_law_350 ?_
  refine x_pc (pc' := 353) rfl ?_
  refine x_aload_n C0 dL_law_353 rfl 1 rfl ?_
  refine x_aload_n C0 dL_law_354 rfl 3 rfl ?_
  refine x_iload_n C0 dL_law_355 rfl 0 rfl ?_
  refine x_iconst C0 (v := nI 1) dL_law_356 rfl ?_
  refine x_pc (pc' := 357) rfl ?_
  refine x_iadd C0 dL_law_357 ?_
  refine x_top (v' := .int (nI (i + 1))) (congrArg Value.int (nI_add i 1)) ?_
  refine x_sld C0 hX hbl hbA (vp_in_nI (show i + 1 < Ln by omega) (by omega)) dL_law_358 ?_
  refine x_top (v' := .int (xs (i + 1))) (congrArg (fun z => Value.int (xs z)) (nI_clamp (by omega))) ?_
  refine x_aload_n C0 dL_law_359 rfl 3 rfl ?_
  refine x_iload_n C0 dL_law_360 rfl 0 rfl ?_
  refine x_pc (pc' := 361) rfl ?_
  refine x_iconst C0 (v := nI 2) dL_law_361 rfl ?_
  refine x_iadd C0 dL_law_362 ?_
  refine x_top (v' := .int (nI (i + 2))) (congrArg Value.int (nI_add i 2)) ?_
  refine x_sld C0 hX hbl hbA (vp_in_nI (show i + 2 < Ln by omega) (by omega)) dL_law_363 ?_
  refine x_top (v' := .int (xs (i + 2))) (congrArg (fun z => Value.int (xs z)) (nI_clamp (by omega))) ?_
  refine x_subV21 C0 (n' := 4) (ι := fun r => 333 + r) (wf' := wfR cs (fun a => ad (333 + a))) (τ := μ) (τ' := μ') (σ' := lam σ' μ') (fun r h => by omega) (fun _ _ _ _ h => Nat.add_left_cancel h) (fun r h => wfL_R h) (fun r h => wfL_R h) lam_R (c_X5_access n e2) (x_cwV C0 mw_769 mw_770 mw_771 mw_84 mw_772 hd_yX5_access ⟨rfl, rfl, by rw [hR.1]; decide, by rw [hR.2.1]; decide⟩) (r := 0) (by decide) rfl wfR_0 rfl ⟨hR.2.2.1, hR.2.2.2⟩ (Nat.le_of_ble_eq_true rfl) dL_law_364 ?_
  refine x_pc (pc' := 367) rfl ?_
  refine x_same C0 (tgt := 855) dL_law_367 (by decide) ?_
  exact K σ' μ' a' R2
set_option maxRecDepth 8000 in
set_option maxHeartbeats 4000000 in
theorem law_walk (C0 : x_C p s m args meth c D vwCl (xtys cs) A H0 337 ad (wfL cs ad) cL_law 4 RL ret) (hX : va_X b Ln xs s H0) (hbl : b < H0.size) (hbA : ¬ A b) (hR : R.frames = 10 ∧ R.locals = 390 ∧ 337 ≤ R.cells ∧ 6045 ≤ R.slots) (hn : 400 < n) (hi : i + 5 ≤ Ln) (hL : Ln ≤ 2560) (Rl : Rel B σ μ a) (hB : B + 30000 < 2 ^ 30) (K : ∀ σ' μ' a', Rel (B + 30000) σ' μ' a' → x_W p l e R s m args below meth c D vwCl A H0 337 ad (wfL cs ad) 4 337 6045 Q (lam σ' μ') 855 [(3, .int (nI i)), (2, .ref (ad 333)), (1, .ref (ad 0)), (0, .ref b)] []) : x_W p l e R s m args below meth c D vwCl A H0 337 ad (wfL cs ad) 4 337 6045 Q (lam σ μ) 372 [(3, .int (nI i)), (2, .ref (ad 333)), (1, .ref (ad 0)), (0, .ref b)] [] := by
  obtain ⟨v, σ', μ', a', e1, e2, R2⟩ := M_walk Rl hn hB (xs (i + 1)) (xs (i + 2)) (xs (i + 3)) (xs (i + 4))
  refine x_pc (pc' := 372) rfl ?_
  refine x_aload_n C0 dL_law_372 rfl 2 rfl ?_
  refine x_aload_n C0 dL_law_373 rfl 3 rfl ?_
  refine x_iload_n C0 dL_law_374 rfl 0 rfl ?_
  refine x_iconst C0 (v := nI 1) dL_law_375 rfl ?_
  refine x_pc (pc' := 376) rfl ?_
  refine x_iadd C0 dL_law_376 ?_
  refine x_top (v' := .int (nI (i + 1))) (congrArg Value.int (nI_add i 1)) ?_
  refine x_sld C0 hX hbl hbA (vp_in_nI (show i + 1 < Ln by omega) (by omega)) dL_law_377 ?_
  refine x_top (v' := .int (xs (i + 1))) (congrArg (fun z => Value.int (xs z)) (nI_clamp (by omega))) ?_
  refine x_aload_n C0 dL_law_378 rfl 3 rfl ?_
  refine x_iload_n C0 dL_law_379 rfl 0 rfl ?_
  refine x_pc (pc' := 380) rfl ?_
  refine x_iconst C0 (v := nI 2) dL_law_380 rfl ?_
  refine x_iadd C0 dL_law_381 ?_
  refine x_top (v' := .int (nI (i + 2))) (congrArg Value.int (nI_add i 2)) ?_
  refine x_sld C0 hX hbl hbA (vp_in_nI (show i + 2 < Ln by omega) (by omega)) dL_law_382 ?_
  refine x_top (v' := .int (xs (i + 2))) (congrArg (fun z => Value.int (xs z)) (nI_clamp (by omega))) ?_
  refine x_aload_n C0 dL_law_383 rfl 3 rfl ?_
  refine x_pc (pc' := 384) rfl ?_
  refine x_iload_n C0 dL_law_384 rfl 0 rfl ?_
  refine x_iconst C0 (v := nI 3) dL_law_385 rfl ?_
  refine x_iadd C0 dL_law_386 ?_
  refine x_top (v' := .int (nI (i + 3))) (congrArg Value.int (nI_add i 3)) ?_
  refine x_sld C0 hX hbl hbA (vp_in_nI (show i + 3 < Ln by omega) (by omega)) dL_law_387 ?_
  refine x_top (v' := .int (xs (i + 3))) (congrArg (fun z => Value.int (xs z)) (nI_clamp (by omega))) ?_
  refine x_pc (pc' := 388) rfl ?_
  refine x_aload_n C0 dL_law_388 rfl 3 rfl ?_
  refine x_iload_n C0 dL_law_389 rfl 0 rfl ?_
  refine x_iconst C0 (v := nI 4) dL_law_390 rfl ?_
  refine x_iadd C0 dL_law_391 ?_
  refine x_top (v' := .int (nI (i + 4))) (congrArg Value.int (nI_add i 4)) ?_
  refine x_pc (pc' := 392) rfl ?_
  refine x_sld C0 hX hbl hbA (vp_in_nI (show i + 4 < Ln by omega) (by omega)) dL_law_392 ?_
  refine x_top (v' := .int (xs (i + 4))) (congrArg (fun z => Value.int (xs z)) (nI_clamp (by omega))) ?_
  refine x_subV41 C0 (n' := 333) (ι := fun r => r) (wf' := wfT cs ad) (τ := σ) (τ' := σ') (σ' := lam σ' μ) (fun r h => by omega) (fun _ _ _ _ h => h) (fun r h => wfL_T h) (fun r h => wfL_T h) lam_T (c_X4_walk n e1) (x_cwV C0 mw_508 mw_509 mw_510 mw_78 mw_511 hd_yX4_walk ⟨rfl, rfl, by rw [hR.1]; decide, by rw [hR.2.1]; decide⟩) (r := 0) (by decide) rfl wfT_r0 rfl ⟨hR.2.2.1, hR.2.2.2⟩ (Nat.le_of_ble_eq_true rfl) dL_law_393 ?_
  refine x_aload_n C0 dL_law_396 rfl 1 rfl ?_
  refine x_aload_n C0 dL_law_397 rfl 3 rfl ?_
  refine x_pc (pc' := 398) rfl ?_
  refine x_iload_n C0 dL_law_398 rfl 0 rfl ?_
  refine x_iconst C0 (v := nI 1) dL_law_399 rfl ?_
  refine x_iadd C0 dL_law_400 ?_
  refine x_top (v' := .int (nI (i + 1))) (congrArg Value.int (nI_add i 1)) ?_
  refine x_sld C0 hX hbl hbA (vp_in_nI (show i + 1 < Ln by omega) (by omega)) dL_law_401 ?_
  refine x_top (v' := .int (xs (i + 1))) (congrArg (fun z => Value.int (xs z)) (nI_clamp (by omega))) ?_
  refine x_pc (pc' := 402) rfl ?_
  refine x_aload_n C0 dL_law_402 rfl 3 rfl ?_
  refine x_iload_n C0 dL_law_403 rfl 0 rfl ?_
  refine x_iconst C0 (v := nI 2) dL_law_404 rfl ?_
  refine x_iadd C0 dL_law_405 ?_
  refine x_top (v' := .int (nI (i + 2))) (congrArg Value.int (nI_add i 2)) ?_
  refine x_pc (pc' := 406) rfl ?_
  refine x_sld C0 hX hbl hbA (vp_in_nI (show i + 2 < Ln by omega) (by omega)) dL_law_406 ?_
  refine x_top (v' := .int (xs (i + 2))) (congrArg (fun z => Value.int (xs z)) (nI_clamp (by omega))) ?_
  refine x_aload_n C0 dL_law_407 rfl 3 rfl ?_
  refine x_iload_n C0 dL_law_408 rfl 0 rfl ?_
  refine x_iconst C0 (v := nI 3) dL_law_409 rfl ?_
  refine x_pc (pc' := 410) rfl ?_
  refine x_iadd C0 dL_law_410 ?_
  refine x_top (v' := .int (nI (i + 3))) (congrArg Value.int (nI_add i 3)) ?_
  refine x_sld C0 hX hbl hbA (vp_in_nI (show i + 3 < Ln by omega) (by omega)) dL_law_411 ?_
  refine x_top (v' := .int (xs (i + 3))) (congrArg (fun z => Value.int (xs z)) (nI_clamp (by omega))) ?_
  refine x_aload_n C0 dL_law_412 rfl 3 rfl ?_
  refine x_iload_n C0 dL_law_413 rfl 0 rfl ?_
  refine x_pc (pc' := 414) rfl ?_
  refine x_iconst C0 (v := nI 4) dL_law_414 rfl ?_
  refine x_iadd C0 dL_law_415 ?_
  refine x_top (v' := .int (nI (i + 4))) (congrArg Value.int (nI_add i 4)) ?_
  refine x_sld C0 hX hbl hbA (vp_in_nI (show i + 4 < Ln by omega) (by omega)) dL_law_416 ?_
  refine x_top (v' := .int (xs (i + 4))) (congrArg (fun z => Value.int (xs z)) (nI_clamp (by omega))) ?_
  refine x_subV41 C0 (n' := 4) (ι := fun r => 333 + r) (wf' := wfR cs (fun a => ad (333 + a))) (τ := μ) (τ' := μ') (σ' := lam σ' μ') (fun r h => by omega) (fun _ _ _ _ h => Nat.add_left_cancel h) (fun r h => wfL_R h) (fun r h => wfL_R h) lam_R (c_X5_walk n e2) (x_cwV C0 mw_838 mw_839 mw_840 mw_84 mw_841 hd_yX5_walk ⟨rfl, rfl, by rw [hR.1]; decide, by rw [hR.2.1]; decide⟩) (r := 0) (by decide) rfl wfR_0 rfl ⟨hR.2.2.1, hR.2.2.2⟩ (Nat.le_of_ble_eq_true rfl) dL_law_417 ?_
  refine x_pc (pc' := 420) rfl ?_
  refine x_same C0 (tgt := 855) dL_law_420 (by decide) ?_
  exact K σ' μ' a' R2
set_option maxRecDepth 8000 in
set_option maxHeartbeats 4000000 in
theorem law_type (C0 : x_C p s m args meth c D vwCl (xtys cs) A H0 337 ad (wfL cs ad) cL_law 4 RL ret) (hX : va_X b Ln xs s H0) (hbl : b < H0.size) (hbA : ¬ A b) (hR : R.frames = 10 ∧ R.locals = 390 ∧ 337 ≤ R.cells ∧ 6045 ≤ R.slots) (hn : 400 < n) (hi : i + 5 ≤ Ln) (hL : Ln ≤ 2560) (Rl : Rel B σ μ a) (hB : B + 30000 < 2 ^ 30) (K : ∀ σ' μ' a', Rel (B + 30000) σ' μ' a' → x_W p l e R s m args below meth c D vwCl A H0 337 ad (wfL cs ad) 4 337 6045 Q (lam σ' μ') 855 [(3, .int (nI i)), (2, .ref (ad 333)), (1, .ref (ad 0)), (0, .ref b)] []) : x_W p l e R s m args below meth c D vwCl A H0 337 ad (wfL cs ad) 4 337 6045 Q (lam σ μ) 425 [(3, .int (nI i)), (2, .ref (ad 333)), (1, .ref (ad 0)), (0, .ref b)] [] := by
  obtain ⟨q, hq, eq⟩ : ∃ q, q < 65536 ∧ ((xs (i + 1)).toUInt32 % 65536).toInt32 = nI q := ⟨_, Nat.mod_lt _ (by decide), pk_char _⟩
  obtain ⟨v, σ', μ', a', e1, e2, R2⟩ := M_type (n := n) Rl hB (x := nI q) (nar_char hq)
  refine x_pc (pc' := 425) rfl ?_
  refine x_aload_n C0 dL_law_425 rfl 2 rfl ?_
  refine x_aload_n C0 dL_law_426 rfl 3 rfl ?_
  refine x_iload_n C0 dL_law_427 rfl 0 rfl ?_
  refine x_iconst C0 (v := nI 1) dL_law_428 rfl ?_
  refine x_pc (pc' := 429) rfl ?_
  refine x_iadd C0 dL_law_429 ?_
  refine x_top (v' := .int (nI (i + 1))) (congrArg Value.int (nI_add i 1)) ?_
  refine x_sld C0 hX hbl hbA (vp_in_nI (show i + 1 < Ln by omega) (by omega)) dL_law_430 ?_
  refine x_top (v' := .int (xs (i + 1))) (congrArg (fun z => Value.int (xs z)) (nI_clamp (by omega))) ?_
  refine x_i2c C0 (v := nI q) dL_law_431 eq ?_
  refine x_subV11 C0 (n' := 333) (ι := fun r => r) (wf' := wfT cs ad) (τ := σ) (τ' := σ') (σ' := lam σ' μ) (fun r h => by omega) (fun _ _ _ _ h => h) (fun r h => wfL_T h) (fun r h => wfL_T h) lam_T (c_X4_type n e1) (x_cwV C0 mw_520 mw_521 mw_522 mw_78 mw_523 hd_yX4_type ⟨rfl, rfl, by rw [hR.1]; decide, by rw [hR.2.1]; decide⟩) (r := 0) (by decide) rfl wfT_r0 rfl ⟨hR.2.2.1, hR.2.2.2⟩ (Nat.le_of_ble_eq_true rfl) dL_law_432 ?_
  refine x_pc (pc' := 435) rfl ?_
  refine x_aload_n C0 dL_law_435 rfl 1 rfl ?_
  refine x_aload_n C0 dL_law_436 rfl 3 rfl ?_
  refine x_iload_n C0 dL_law_437 rfl 0 rfl ?_
  refine x_iconst C0 (v := nI 1) dL_law_438 rfl ?_
  refine x_pc (pc' := 439) rfl ?_
  refine x_iadd C0 dL_law_439 ?_
  refine x_top (v' := .int (nI (i + 1))) (congrArg Value.int (nI_add i 1)) ?_
  refine x_sld C0 hX hbl hbA (vp_in_nI (show i + 1 < Ln by omega) (by omega)) dL_law_440 ?_
  refine x_top (v' := .int (xs (i + 1))) (congrArg (fun z => Value.int (xs z)) (nI_clamp (by omega))) ?_
  refine x_i2c C0 (v := nI q) dL_law_441 eq ?_
  refine x_subV11 C0 (n' := 4) (ι := fun r => 333 + r) (wf' := wfR cs (fun a => ad (333 + a))) (τ := μ) (τ' := μ') (σ' := lam σ' μ') (fun r h => by omega) (fun _ _ _ _ h => Nat.add_left_cancel h) (fun r h => wfL_R h) (fun r h => wfL_R h) lam_R (c_X5_type n e2) (x_cwV C0 mw_857 mw_858 mw_859 mw_84 mw_860 hd_yX5_type ⟨rfl, rfl, by rw [hR.1]; decide, by rw [hR.2.1]; decide⟩) (r := 0) (by decide) rfl wfR_0 rfl ⟨hR.2.2.1, hR.2.2.2⟩ (Nat.le_of_ble_eq_true rfl) dL_law_442 ?_
  refine x_pc (pc' := 445) rfl ?_
  refine x_same C0 (tgt := 855) dL_law_445 (by decide) ?_
  exact K σ' μ' a' R2
end LR
