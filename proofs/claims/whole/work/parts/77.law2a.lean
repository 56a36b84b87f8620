/-! the law's cases *)  -/
theorem hd_yX4_addHelper : yX4_addHelper.cls ≠ "java/lang/invoke/MethodHandle" ∧ yX4_addHelper.cls ≠ "java/lang/invoke/VarHandle" ∧ (parseMethodDescriptor yX4_addHelper.desc).map (fun d => d.parameters.length) = some 3 := ⟨by decide +kernel, by decide +kernel, by decide +kernel⟩
theorem hd_yX4_flush : yX4_flush.cls ≠ "java/lang/invoke/MethodHandle" ∧ yX4_flush.cls ≠ "java/lang/invoke/VarHandle" ∧ (parseMethodDescriptor yX4_flush.desc).map (fun d => d.parameters.length) = some 0 := ⟨by decide +kernel, by decide +kernel, by decide +kernel⟩
theorem hd_yX4_setDegree : yX4_setDegree.cls ≠ "java/lang/invoke/MethodHandle" ∧ yX4_setDegree.cls ≠ "java/lang/invoke/VarHandle" ∧ (parseMethodDescriptor yX4_setDegree.desc).map (fun d => d.parameters.length) = some 2 := ⟨by decide +kernel, by decide +kernel, by decide +kernel⟩
theorem hd_yX4_setTrial : yX4_setTrial.cls ≠ "java/lang/invoke/MethodHandle" ∧ yX4_setTrial.cls ≠ "java/lang/invoke/VarHandle" ∧ (parseMethodDescriptor yX4_setTrial.desc).map (fun d => d.parameters.length) = some 1 := ⟨by decide +kernel, by decide +kernel, by decide +kernel⟩
theorem hd_yX4_shape : yX4_shape.cls ≠ "java/lang/invoke/MethodHandle" ∧ yX4_shape.cls ≠ "java/lang/invoke/VarHandle" ∧ (parseMethodDescriptor yX4_shape.desc).map (fun d => d.parameters.length) = some 2 := ⟨by decide +kernel, by decide +kernel, by decide +kernel⟩
theorem hd_yX5_addHelper : yX5_addHelper.cls ≠ "java/lang/invoke/MethodHandle" ∧ yX5_addHelper.cls ≠ "java/lang/invoke/VarHandle" ∧ (parseMethodDescriptor yX5_addHelper.desc).map (fun d => d.parameters.length) = some 3 := ⟨by decide +kernel, by decide +kernel, by decide +kernel⟩
theorem hd_yX5_flush : yX5_flush.cls ≠ "java/lang/invoke/MethodHandle" ∧ yX5_flush.cls ≠ "java/lang/invoke/VarHandle" ∧ (parseMethodDescriptor yX5_flush.desc).map (fun d => d.parameters.length) = some 0 := ⟨by decide +kernel, by decide +kernel, by decide +kernel⟩
theorem hd_yX5_setDegree : yX5_setDegree.cls ≠ "java/lang/invoke/MethodHandle" ∧ yX5_setDegree.cls ≠ "java/lang/invoke/VarHandle" ∧ (parseMethodDescriptor yX5_setDegree.desc).map (fun d => d.parameters.length) = some 2 := ⟨by decide +kernel, by decide +kernel, by decide +kernel⟩
theorem hd_yX5_setTrial : yX5_setTrial.cls ≠ "java/lang/invoke/MethodHandle" ∧ yX5_setTrial.cls ≠ "java/lang/invoke/VarHandle" ∧ (parseMethodDescriptor yX5_setTrial.desc).map (fun d => d.parameters.length) = some 1 := ⟨by decide +kernel, by decide +kernel, by decide +kernel⟩
theorem hd_yX5_shape : yX5_shape.cls ≠ "java/lang/invoke/MethodHandle" ∧ yX5_shape.cls ≠ "java/lang/invoke/VarHandle" ∧ (parseMethodDescriptor yX5_shape.desc).map (fun d => d.parameters.length) = some 2 := ⟨by decide +kernel, by decide +kernel, by decide +kernel⟩
section LR
variable {p : Program} {l : Launch} {e : Env} {R : Room} {s : State} {m : MethodId} {args : Array Value} {below : List Frame} {meth : Method} {c : Code} {D : va_G} {A : Nat → Prop} {H0 : Heap} {cs : Nat → ClassId} {ad : Nat → Nat} {ret : Option FieldType} {Q : State → Prop} {b Ln i n B : Nat} {xs : Nat → Int32} {σ μ : xM} {a : xA}
set_option maxRecDepth 8000 in
set_option maxHeartbeats 4000000 in
theorem law_shape (C0 : x_C p s m args meth c D vwCl (xtys cs) A H0 337 ad (wfL cs ad) cL_law 4 RL ret) (hX : va_X b Ln xs s H0) (hbl : b < H0.size) (hbA : ¬ A b) (hR : R.frames = 10 ∧ R.locals = 390 ∧ 337 ≤ R.cells ∧ 6045 ≤ R.slots) (hn : 400 < n) (hi : i + 5 ≤ Ln) (hL : Ln ≤ 2560) (Rl : Rel B σ μ a) (hB : B + 30000 < 2 ^ 30) (K : ∀ σ' μ' a', Rel (B + 30000) σ' μ' a' → x_W p l e R s m args below meth c D vwCl A H0 337 ad (wfL cs ad) 4 337 6045 Q (lam σ' μ') 855 [(3, .int (nI i)), (2, .ref (ad 333)), (1, .ref (ad 0)), (0, .ref b)] []) : x_W p l e R s m args below meth c D vwCl A H0 337 ad (wfL cs ad) 4 337 6045 Q (lam σ μ) 148 [(3, .int (nI i)), (2, .ref (ad 333)), (1, .ref (ad 0)), (0, .ref b)] [] := by
  obtain ⟨v, σ', μ', a', e1, e2, R2⟩ := M_shape Rl hn hB (xs (i + 1)) (xs (i + 2))
  refine x_pc (pc' := 148) rfl ?_
  refine x_aload_n C0 dL_law_148 rfl 2 rfl ?_
  refine x_aload_n C0 dL_law_149 rfl 3 rfl ?_
  refine x_iload_n C0 dL_law_150 rfl 0 rfl ?_
  refine x_iconst C0 (v := nI 1) dL_law_151 rfl ?_
  refine x_pc (pc' := 152) rfl ?_
  refine x_iadd C0 dL_law_152 ?_
  refine x_top (v' := .int (nI (i + 1))) (congrArg Value.int (nI_add i 1)) ?_
  refine x_sld C0 hX hbl hbA (vp_in_nI (show i + 1 < Ln by omega) (by omega)) dL_law_153 ?_
  refine x_top (v' := .int (xs (i + 1))) (congrArg (fun z => Value.int (xs z)) (nI_clamp (by omega))) ?_
  refine x_aload_n C0 dL_law_154 rfl 3 rfl ?_
  refine x_iload_n C0 dL_law_155 rfl 0 rfl ?_
  refine x_pc (pc' := 156) rfl ?_
  refine x_iconst C0 (v := nI 2) dL_law_156 rfl ?_
  refine x_iadd C0 dL_law_157 ?_
  refine x_top (v' := .int (nI (i + 2))) (congrArg Value.int (nI_add i 2)) ?_
  refine x_sld C0 hX hbl hbA (vp_in_nI (show i + 2 < Ln by omega) (by omega)) dL_law_158 ?_
  refine x_top (v' := .int (xs (i + 2))) (congrArg (fun z => Value.int (xs z)) (nI_clamp (by omega))) ?_
  refine x_subV21 C0 (n' := 333) (ι := fun r => r) (wf' := wfT cs ad) (τ := σ) (τ' := σ') (σ' := lam σ' μ) (fun r h => by omega) (fun _ _ _ _ h => h) (fun r h => wfL_T h) (fun r h => wfL_T h) lam_T (c_X4_shape n e1) (x_cwV C0 mw_300 mw_301 mw_302 mw_78 mw_303 hd_yX4_shape ⟨rfl, rfl, by rw [hR.1]; decide, by rw [hR.2.1]; decide⟩) (r := 0) (by decide) rfl wfT_r0 rfl ⟨hR.2.2.1, hR.2.2.2⟩ (Nat.le_of_ble_eq_true rfl) dL_law_159 ?_
  refine x_pc (pc' := 162) rfl ?_
  refine x_aload_n C0 dL_law_162 rfl 1 rfl ?_
  refine x_aload_n C0 dL_law_163 rfl 3 rfl ?_
  refine x_iload_n C0 dL_law_164 rfl 0 rfl ?_
  refine x_iconst C0 (v := nI 1) dL_law_165 rfl ?_
  refine x_pc (pc' := 166) rfl ?_
  refine x_iadd C0 dL_law_166 ?_
  refine x_top (v' := .int (nI (i + 1))) (congrArg Value.int (nI_add i 1)) ?_
  refine x_sld C0 hX hbl hbA (vp_in_nI (show i + 1 < Ln by omega) (by omega)) dL_law_167 ?_
  refine x_top (v' := .int (xs (i + 1))) (congrArg (fun z => Value.int (xs z)) (nI_clamp (by omega))) ?_
  refine x_aload_n C0 dL_law_168 rfl 3 rfl ?_
  refine x_iload_n C0 dL_law_169 rfl 0 rfl ?_
  refine x_pc (pc' := 170) rfl ?_
  refine x_iconst C0 (v := nI 2) dL_law_170 rfl ?_
  refine x_iadd C0 dL_law_171 ?_
  refine x_top (v' := .int (nI (i + 2))) (congrArg Value.int (nI_add i 2)) ?_
  refine x_sld C0 hX hbl hbA (vp_in_nI (show i + 2 < Ln by omega) (by omega)) dL_law_172 ?_
  refine x_top (v' := .int (xs (i + 2))) (congrArg (fun z => Value.int (xs z)) (nI_clamp (by omega))) ?_
  refine x_subV21 C0 (n' := 4) (ι := fun r => 333 + r) (wf' := wfR cs (fun a => ad (333 + a))) (τ := μ) (τ' := μ') (σ' := lam σ' μ') (fun r h => by omega) (fun _ _ _ _ h => Nat.add_left_cancel h) (fun r h => wfL_R h) (fun r h => wfL_R h) lam_R (c_X5_shape n e2) (x_cwV C0 mw_692 mw_693 mw_694 mw_84 mw_695 hd_yX5_shape ⟨rfl, rfl, by rw [hR.1]; decide, by rw [hR.2.1]; decide⟩) (r := 0) (by decide) rfl wfR_0 rfl ⟨hR.2.2.1, hR.2.2.2⟩ (Nat.le_of_ble_eq_true rfl) dL_law_173 ?_
  refine x_pc (pc' := 176) rfl ?_
  refine x_same C0 (tgt := 855) dL_law_176 (by decide) ?_
  exact K σ' μ' a' R2
set_option maxRecDepth 8000 in
set_option maxHeartbeats 4000000 in
theorem law_flush (C0 : x_C p s m args meth c D vwCl (xtys cs) A H0 337 ad (wfL cs ad) cL_law 4 RL ret) (hX : va_X b Ln xs s H0) (hbl : b < H0.size) (hbA : ¬ A b) (hR : R.frames = 10 ∧ R.locals = 390 ∧ 337 ≤ R.cells ∧ 6045 ≤ R.slots) (hn : 400 < n) (hi : i + 5 ≤ Ln) (hL : Ln ≤ 2560) (Rl : Rel B σ μ a) (hB : B + 30000 < 2 ^ 30) (K : ∀ σ' μ' a', Rel (B + 30000) σ' μ' a' → x_W p l e R s m args below meth c D vwCl A H0 337 ad (wfL cs ad) 4 337 6045 Q (lam σ' μ') 855 [(3, .int (nI i)), (2, .ref (ad 333)), (1, .ref (ad 0)), (0, .ref b)] []) : x_W p l e R s m args below meth c D vwCl A H0 337 ad (wfL cs ad) 4 337 6045 Q (lam σ μ) 181 [(3, .int (nI i)), (2, .ref (ad 333)), (1, .ref (ad 0)), (0, .ref b)] [] := by
  obtain ⟨v, σ', μ', a', e1, e2, R2⟩ := M_flush Rl hn hB 
  refine x_pc (pc' := 181) rfl ?_
  refine x_aload_n C0 dL_law_181 rfl 2 rfl ?_
  refine x_subV01 C0 (n' := 333) (ι := fun r => r) (wf' := wfT cs ad) (τ := σ) (τ' := σ') (σ' := lam σ' μ) (fun r h => by omega) (fun _ _ _ _ h => h) (fun r h => wfL_T h) (fun r h => wfL_T h) lam_T (c_X4_flush n e1) (x_cwV C0 mw_373 mw_374 mw_375 mw_78 mw_376 hd_yX4_flush ⟨rfl, rfl, by rw [hR.1]; decide, by rw [hR.2.1]; decide⟩) (r := 0) (by decide) rfl wfT_r0 rfl ⟨hR.2.2.1, hR.2.2.2⟩ (Nat.le_of_ble_eq_true rfl) dL_law_182 ?_
  refine x_aload_n C0 dL_law_185 rfl 1 rfl ?_
  refine x_subV01 C0 (n' := 4) (ι := fun r => 333 + r) (wf' := wfR cs (fun a => ad (333 + a))) (τ := μ) (τ' := μ') (σ' := lam σ' μ') (fun r h => by omega) (fun _ _ _ _ h => Nat.add_left_cancel h) (fun r h => wfL_R h) (fun r h => wfL_R h) lam_R (c_X5_flush n e2) (x_cwV C0 mw_738 mw_739 mw_740 mw_84 mw_741 hd_yX5_flush ⟨rfl, rfl, by rw [hR.1]; decide, by rw [hR.2.1]; decide⟩) (r := 0) (by decide) rfl wfR_0 rfl ⟨hR.2.2.1, hR.2.2.2⟩ (Nat.le_of_ble_eq_true rfl) dL_law_186 ?_
  refine x_pc (pc' := 189) rfl ?_
  refine x_same C0 (tgt := 855) dL_law_189 (by decide) ?_
  exact K σ' μ' a' R2
set_option maxRecDepth 8000 in
set_option maxHeartbeats 4000000 in
theorem law_addHelper (C0 : x_C p s m args meth c D vwCl (xtys cs) A H0 337 ad (wfL cs ad) cL_law 4 RL ret) (hX : va_X b Ln xs s H0) (hbl : b < H0.size) (hbA : ¬ A b) (hR : R.frames = 10 ∧ R.locals = 390 ∧ 337 ≤ R.cells ∧ 6045 ≤ R.slots) (hn : 400 < n) (hi : i + 5 ≤ Ln) (hL : Ln ≤ 2560) (Rl : Rel B σ μ a) (hB : B + 30000 < 2 ^ 30) (K : ∀ σ' μ' a', Rel (B + 30000) σ' μ' a' → x_W p l e R s m args below meth c D vwCl A H0 337 ad (wfL cs ad) 4 337 6045 Q (lam σ' μ') 855 [(3, .int (nI i)), (2, .ref (ad 333)), (1, .ref (ad 0)), (0, .ref b)] []) : x_W p l e R s m args below meth c D vwCl A H0 337 ad (wfL cs ad) 4 337 6045 Q (lam σ μ) 194 [(3, .int (nI i)), (2, .ref (ad 333)), (1, .ref (ad 0)), (0, .ref b)] [] := by
  obtain ⟨v, σ', μ', a', e1, e2, R2⟩ := M_addHelper Rl hn hB (xs (i + 1)) (xs (i + 2)) (xs (i + 3))
  refine x_pc (pc' := 194) rfl ?_
  refine x_aload_n C0 dL_law_194 rfl 2 rfl ?_
  refine x_aload_n C0 dL_law_195 rfl 3 rfl ?_
  refine x_iload_n C0 dL_law_196 rfl 0 rfl ?_
  refine x_iconst C0 (v := nI 1) dL_law_197 rfl ?_
  refine x_pc (pc' := 198) rfl ?_
  refine x_iadd C0 dL_law_198 ?_
  refine x_top (v' := .int (nI (i + 1))) (congrArg Value.int (nI_add i 1)) ?_
  refine x_sld C0 hX hbl hbA (vp_in_nI (show i + 1 < Ln by omega) (by omega)) dL_law_199 ?_
  refine x_top (v' := .int (xs (i + 1))) (congrArg (fun z => Value.int (xs z)) (nI_clamp (by omega))) ?_
  refine x_aload_n C0 dL_law_200 rfl 3 rfl ?_
  refine x_iload_n C0 dL_law_201 rfl 0 rfl ?_
  refine x_pc (pc' := 202) rfl ?_
  refine x_iconst C0 (v := nI 2) dL_law_202 rfl ?_
  refine x_iadd C0 dL_law_203 ?_
  refine x_top (v' := .int (nI (i + 2))) (congrArg Value.int (nI_add i 2)) ?_
  refine x_sld C0 hX hbl hbA (vp_in_nI (show i + 2 < Ln by omega) (by omega)) dL_law_204 ?_
  refine x_top (v' := .int (xs (i + 2))) (congrArg (fun z => Value.int (xs z)) (nI_clamp (by omega))) ?_
  refine x_aload_n C0 dL_law_205 rfl 3 rfl ?_
  refine x_pc (pc' := 206) rfl ?_
  refine x_iload_n C0 dL_law_206 rfl 0 rfl ?_
  refine x_iconst C0 (v := nI 3) dL_law_207 rfl ?_
  refine x_iadd C0 dL_law_208 ?_
  refine x_top (v' := .int (nI (i + 3))) (congrArg Value.int (nI_add i 3)) ?_
  refine x_sld C0 hX hbl hbA (vp_in_nI (show i + 3 < Ln by omega) (by omega)) dL_law_209 ?_
  refine x_top (v' := .int (xs (i + 3))) (congrArg (fun z => Value.int (xs z)) (nI_clamp (by omega))) ?_
  refine x_pc (pc' := 210) rfl ?_
  refine x_subV31 C0 (n' := 333) (ι := fun r => r) (wf' := wfT cs ad) (τ := σ) (τ' := σ') (σ' := lam σ' μ) (fun r h => by omega) (fun _ _ _ _ h => h) (fun r h => wfL_T h) (fun r h => wfL_T h) lam_T (c_X4_addHelper n e1) (x_cwV C0 mw_381 mw_382 mw_383 mw_78 mw_384 hd_yX4_addHelper ⟨rfl, rfl, by rw [hR.1]; decide, by rw [hR.2.1]; decide⟩) (r := 0) (by decide) rfl wfT_r0 rfl ⟨hR.2.2.1, hR.2.2.2⟩ (Nat.le_of_ble_eq_true rfl) dL_law_210 ?_
  refine x_aload_n C0 dL_law_213 rfl 1 rfl ?_
  refine x_aload_n C0 dL_law_214 rfl 3 rfl ?_
  refine x_iload_n C0 dL_law_215 rfl 0 rfl ?_
  refine x_pc (pc' := 216) rfl ?_
  refine x_iconst C0 (v := nI 1) dL_law_216 rfl ?_
  refine x_iadd C0 dL_law_217 ?_
  refine x_top (v' := .int (nI (i + 1))) (congrArg Value.int (nI_add i 1)) ?_
  refine x_sld C0 hX hbl hbA (vp_in_nI (show i + 1 < Ln by omega) (by omega)) dL_law_218 ?_
  refine x_top (v' := .int (xs (i + 1))) (congrArg (fun z => Value.int (xs z)) (nI_clamp (by omega))) ?_
  refine x_aload_n C0 dL_law_219 rfl 3 rfl ?_
  refine x_pc (pc' := 220) rfl ?_
  refine x_iload_n C0 dL_law_220 rfl 0 rfl ?_
  refine x_iconst C0 (v := nI 2) dL_law_221 rfl ?_
  refine x_iadd C0 dL_law_222 ?_
  refine x_top (v' := .int (nI (i + 2))) (congrArg Value.int (nI_add i 2)) ?_
  refine x_sld C0 hX hbl hbA (vp_in_nI (show i + 2 < Ln by omega) (by omega)) dL_law_223 ?_
  refine x_top (v' := .int (xs (i + 2))) (congrArg (fun z => Value.int (xs z)) (nI_clamp (by omega))) ?_
  refine x_pc (pc' := 224) rfl ?_
  refine x_aload_n C0 dL_law_224 rfl 3 rfl ?_
  refine x_iload_n C0 dL_law_225 rfl 0 rfl ?_
  refine x_iconst C0 (v := nI 3) dL_law_226 rfl ?_
  refine x_iadd C0 dL_law_227 ?_
  refine x_top (v' := .int (nI (i + 3))) (congrArg Value.int (nI_add i 3)) ?_
  refine x_pc (pc' := 228) rfl ?_
  refine x_sld C0 hX hbl hbA (vp_in_nI (show i + 3 < Ln by omega) (by omega)) dL_law_228 ?_
  refine x_top (v' := .int (xs (i + 3))) (congrArg (fun z => Value.int (xs z)) (nI_clamp (by omega))) ?_
  refine x_subV31 C0 (n' := 4) (ι := fun r => 333 + r) (wf' := wfR cs (fun a => ad (333 + a))) (τ := μ) (τ' := μ') (σ' := lam σ' μ') (fun r h => by omega) (fun _ _ _ _ h => Nat.add_left_cancel h) (fun r h => wfL_R h) (fun r h => wfL_R h) lam_R (c_X5_addHelper n e2) (x_cwV C0 mw_742 mw_743 mw_744 mw_84 mw_745 hd_yX5_addHelper ⟨rfl, rfl, by rw [hR.1]; decide, by rw [hR.2.1]; decide⟩) (r := 0) (by decide) rfl wfR_0 rfl ⟨hR.2.2.1, hR.2.2.2⟩ (Nat.le_of_ble_eq_true rfl) dL_law_229 ?_
  refine x_same C0 (tgt := 855) dL_law_232 (by decide) ?_
  exact K σ' μ' a' R2
set_option maxRecDepth 8000 in
set_option maxHeartbeats 4000000 in
theorem law_setDegree (C0 : x_C p s m args meth c D vwCl (xtys cs) A H0 337 ad (wfL cs ad) cL_law 4 RL ret) (hX : va_X b Ln xs s H0) (hbl : b < H0.size) (hbA : ¬ A b) (hR : R.frames = 10 ∧ R.locals = 390 ∧ 337 ≤ R.cells ∧ 6045 ≤ R.slots) (hn : 400 < n) (hi : i + 5 ≤ Ln) (hL : Ln ≤ 2560) (Rl : Rel B σ μ a) (hB : B + 30000 < 2 ^ 30) (K : ∀ σ' μ' a', Rel (B + 30000) σ' μ' a' → x_W p l e R s m args below meth c D vwCl A H0 337 ad (wfL cs ad) 4 337 6045 Q (lam σ' μ') 855 [(3, .int (nI i)), (2, .ref (ad 333)), (1, .ref (ad 0)), (0, .ref b)] []) : x_W p l e R s m args below meth c D vwCl A H0 337 ad (wfL cs ad) 4 337 6045 Q (lam σ μ) 237 [(3, .int (nI i)), (2, .ref (ad 333)), (1, .ref (ad 0)), (0, .ref b)] [] := by
  obtain ⟨v, σ', μ', a', e1, e2, R2⟩ := M_setDegree Rl hn hB (xs (i + 1)) (xs (i + 2))
  refine x_pc (pc' := 237) rfl ?_
  refine x_aload_n C0 dL_law_237 rfl 2 rfl ?_
  refine x_aload_n C0 dL_law_238 rfl 3 rfl ?_
  refine x_iload_n C0 dL_law_239 rfl 0 rfl ?_
  refine x_iconst C0 (v := nI 1) dL_law_240 rfl ?_
  refine x_pc (pc' := 241) rfl ?_
  refine x_iadd C0 dL_law_241 ?_
  refine x_top (v' := .int (nI (i + 1))) (congrArg Value.int (nI_add i 1)) ?_
  refine x_sld C0 hX hbl hbA (vp_in_nI (show i + 1 < Ln by omega) (by omega)) dL_law_242 ?_
  refine x_top (v' := .int (xs (i + 1))) (congrArg (fun z => Value.int (xs z)) (nI_clamp (by omega))) ?_
  refine x_aload_n C0 dL_law_243 rfl 3 rfl ?_
  refine x_iload_n C0 dL_law_244 rfl 0 rfl ?_
  refine x_pc (pc' := 245) rfl ?_
  refine x_iconst C0 (v := nI 2) dL_law_245 rfl ?_
  refine x_iadd C0 dL_law_246 ?_
  refine x_top (v' := .int (nI (i + 2))) (congrArg Value.int (nI_add i 2)) ?_
  refine x_sld C0 hX hbl hbA (vp_in_nI (show i + 2 < Ln by omega) (by omega)) dL_law_247 ?_
  refine x_top (v' := .int (xs (i + 2))) (congrArg (fun z => Value.int (xs z)) (nI_clamp (by omega))) ?_
  refine x_subV21 C0 (n' := 333) (ι := fun r => r) (wf' := wfT cs ad) (τ := σ) (τ' := σ') (σ' := lam σ' μ) (fun r h => by omega) (fun _ _ _ _ h => h) (fun r h => wfL_T h) (fun r h => wfL_T h) lam_T (c_X4_setDegree n e1) (x_cwV C0 mw_392 mw_393 mw_394 mw_78 mw_395 hd_yX4_setDegree ⟨rfl, rfl, by rw [hR.1]; decide, by rw [hR.2.1]; decide⟩) (r := 0) (by decide) rfl wfT_r0 rfl ⟨hR.2.2.1, hR.2.2.2⟩ (Nat.le_of_ble_eq_true rfl) dL_law_248 ?_
  refine x_pc (pc' := 251) rfl ?_
  refine x_aload_n C0 dL_law_251 rfl 1 rfl ?_
  refine x_aload_n C0 dL_law_252 rfl 3 rfl ?_
  refine x_iload_n C0 dL_law_253 rfl 0 rfl ?_
  refine x_iconst C0 (v := nI 1) dL_law_254 rfl ?_
  refine x_pc (pc' := 255) rfl ?_
  refine x_iadd C0 dL_law_255 ?_
  refine x_top (v' := .int (nI (i + 1))) (congrArg Value.int (nI_add i 1)) ?_
  refine x_sld C0 hX hbl hbA (vp_in_nI (show i + 1 < Ln by omega) (by omega)) dL_law_256 ?_
  refine x_top (v' := .int (xs (i + 1))) (congrArg (fun z => Value.int (xs z)) (nI_clamp (by omega))) ?_
  refine x_aload_n C0 dL_law_257 rfl 3 rfl ?_
  refine x_iload_n C0 dL_law_258 rfl 0 rfl ?_
  refine x_pc (pc' := 259) rfl ?_
  refine x_iconst C0 (v := nI 2) dL_law_259 rfl ?_
  refine x_iadd C0 dL_law_260 ?_
  refine x_top (v' := .int (nI (i + 2))) (congrArg Value.int (nI_add i 2)) ?_
  refine x_sld C0 hX hbl hbA (vp_in_nI (show i + 2 < Ln by omega) (by omega)) dL_law_261 ?_
  refine x_top (v' := .int (xs (i + 2))) (congrArg (fun z => Value.int (xs z)) (nI_clamp (by omega))) ?_
  refine x_subV21 C0 (n' := 4) (ι := fun r => 333 + r) (wf' := wfR cs (fun a => ad (333 + a))) (τ := μ) (τ' := μ') (σ' := lam σ' μ') (fun r h => by omega) (fun _ _ _ _ h => Nat.add_left_cancel h) (fun r h => wfL_R h) (fun r h => wfL_R h) lam_R (c_X5_setDegree n e2) (x_cwV C0 mw_747 mw_748 mw_749 mw_84 mw_750 hd_yX5_setDegree ⟨rfl, rfl, by rw [hR.1]; decide, by rw [hR.2.1]; decide⟩) (r := 0) (by decide) rfl wfR_0 rfl ⟨hR.2.2.1, hR.2.2.2⟩ (Nat.le_of_ble_eq_true rfl) dL_law_262 ?_
  refine x_pc (pc' := 265) rfl ?_
  refine x_same C0 (tgt := 855) dL_law_265 (by decide) ?_
  exact K σ' μ' a' R2
set_option maxRecDepth 8000 in
set_option maxHeartbeats 4000000 in
theorem law_setTrial (C0 : x_C p s m args meth c D vwCl (xtys cs) A H0 337 ad (wfL cs ad) cL_law 4 RL ret) (hX : va_X b Ln xs s H0) (hbl : b < H0.size) (hbA : ¬ A b) (hR : R.frames = 10 ∧ R.locals = 390 ∧ 337 ≤ R.cells ∧ 6045 ≤ R.slots) (hn : 400 < n) (hi : i + 5 ≤ Ln) (hL : Ln ≤ 2560) (Rl : Rel B σ μ a) (hB : B + 30000 < 2 ^ 30) (K : ∀ σ' μ' a', Rel (B + 30000) σ' μ' a' → x_W p l e R s m args below meth c D vwCl A H0 337 ad (wfL cs ad) 4 337 6045 Q (lam σ' μ') 855 [(3, .int (nI i)), (2, .ref (ad 333)), (1, .ref (ad 0)), (0, .ref b)] []) : x_W p l e R s m args below meth c D vwCl A H0 337 ad (wfL cs ad) 4 337 6045 Q (lam σ μ) 270 [(3, .int (nI i)), (2, .ref (ad 333)), (1, .ref (ad 0)), (0, .ref b)] [] := by
  obtain ⟨v, σ', μ', a', e1, e2, R2⟩ := M_setTrial Rl hn hB (xs (i + 1))
  refine x_pc (pc' := 270) rfl ?_
  refine x_aload_n C0 dL_law_270 rfl 2 rfl ?_
  refine x_aload_n C0 dL_law_271 rfl 3 rfl ?_
  refine x_iload_n C0 dL_law_272 rfl 0 rfl ?_
  refine x_iconst C0 (v := nI 1) dL_law_273 rfl ?_
  refine x_pc (pc' := 274) rfl ?_
  refine x_iadd C0 dL_law_274 ?_
  refine x_top (v' := .int (nI (i + 1))) (congrArg Value.int (nI_add i 1)) ?_
  refine x_sld C0 hX hbl hbA (vp_in_nI (show i + 1 < Ln by omega) (by omega)) dL_law_275 ?_
  refine x_top (v' := .int (xs (i + 1))) (congrArg (fun z => Value.int (xs z)) (nI_clamp (by omega))) ?_
  refine x_subV11 C0 (n' := 333) (ι := fun r => r) (wf' := wfT cs ad) (τ := σ) (τ' := σ') (σ' := lam σ' μ) (fun r h => by omega) (fun _ _ _ _ h => h) (fun r h => wfL_T h) (fun r h => wfL_T h) lam_T (c_X4_setTrial n e1) (x_cwV C0 mw_398 mw_399 mw_400 mw_78 mw_401 hd_yX4_setTrial ⟨rfl, rfl, by rw [hR.1]; decide, by rw [hR.2.1]; decide⟩) (r := 0) (by decide) rfl wfT_r0 rfl ⟨hR.2.2.1, hR.2.2.2⟩ (Nat.le_of_ble_eq_true rfl) dL_law_276 ?_
  refine x_aload_n C0 dL_law_279 rfl 1 rfl ?_
  refine x_pc (pc' := 280) rfl ?_
  refine x_aload_n C0 dL_law_280 rfl 3 rfl ?_
  refine x_iload_n C0 dL_law_281 rfl 0 rfl ?_
  refine x_iconst C0 (v := nI 1) dL_law_282 rfl ?_
  refine x_iadd C0 dL_law_283 ?_
  refine x_top (v' := .int (nI (i + 1))) (congrArg Value.int (nI_add i 1)) ?_
  refine x_pc (pc' := 284) rfl ?_
  refine x_sld C0 hX hbl hbA (vp_in_nI (show i + 1 < Ln by omega) (by omega)) dL_law_284 ?_
  refine x_top (v' := .int (xs (i + 1))) (congrArg (fun z => Value.int (xs z)) (nI_clamp (by omega))) ?_
  refine x_subV11 C0 (n' := 4) (ι := fun r => 333 + r) (wf' := wfR cs (fun a => ad (333 + a))) (τ := μ) (τ' := μ') (σ' := lam σ' μ') (fun r h => by omega) (fun _ _ _ _ h => Nat.add_left_cancel h) (fun r h => wfL_R h) (fun r h => wfL_R h) lam_R (c_X5_setTrial n e2) (x_cwV C0 mw_756 mw_757 mw_758 mw_84 mw_759 hd_yX5_setTrial ⟨rfl, rfl, by rw [hR.1]; decide, by rw [hR.2.1]; decide⟩) (r := 0) (by decide) rfl wfR_0 rfl ⟨hR.2.2.1, hR.2.2.2⟩ (Nat.le_of_ble_eq_true rfl) dL_law_285 ?_
  refine x_same C0 (tgt := 855) dL_law_288 (by decide) ?_
  exact K σ' μ' a' R2
end LR
