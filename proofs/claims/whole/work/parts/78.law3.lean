/-! the law's loop *)  -/
section LR
variable {p : Program} {l : Launch} {e : Env} {R : Room} {s : State} {m : MethodId} {args : Array Value} {below : List Frame} {meth : Method} {c : Code} {D : va_G} {A : Nat → Prop} {H0 : Heap} {cs : Nat → ClassId} {ad : Nat → Nat} {ret : Option FieldType} {Q : State → Prop} {b Ln i n B : Nat} {xs : Nat → Int32} {σ μ : xM} {a : xA}
set_option maxRecDepth 8000 in
set_option maxHeartbeats 4000000 in
theorem law_loop (C0 : x_C p s m args meth c D vwCl (xtys cs) A H0 337 ad (wfL cs ad) cL_law 4 RL ret) (hX : va_X b Ln xs s H0) (hbl : b < H0.size) (hbA : ¬ A b) (hR : R.frames = 10 ∧ R.locals = 390 ∧ 337 ≤ R.cells ∧ 6045 ≤ R.slots) (hn : 400 < n) (hL : Ln ≤ 2560) (Kend : ∀ (σ μ : xM) (i : Nat), x_W p l e R s m args below meth c D vwCl A H0 337 ad (wfL cs ad) 4 337 6045 Q (lam σ μ) 861 [(3, .int (nI i)), (2, .ref (ad 333)), (1, .ref (ad 0)), (0, .ref b)] []) : ∀ (f j : Nat) (σ μ : xM) (a : xA), 5 * j ≤ Ln → Ln - 5 * j < f → Rel (30000 * j) σ μ a → x_W p l e R s m args below meth c D vwCl A H0 337 ad (wfL cs ad) 4 337 6045 Q (lam σ μ) 18 [(3, .int (nI (5 * j))), (2, .ref (ad 333)), (1, .ref (ad 0)), (0, .ref b)] [] := by
  intro f
  induction f with
  | zero => intro j σ μ a _ h; omega
  | succ f ih =>
    intro j σ μ a hj hf Rl
    refine x_iload_n C0 dL_law_18 rfl 0 rfl ?_
    refine x_aload_n C0 dL_law_19 rfl 3 rfl ?_
    refine x_slen C0 hX hbl hbA dL_law_20 ?_
    refine x_iconst C0 (v := nI 5) dL_law_21 rfl ?_
    refine x_isub C0 dL_law_22 ?_
    refine x_icmp_gt C0 (tgt := 861) dL_law_23 (by decide) (a := ()) (b := ()) (res := ()) (by split <;> rfl) (fun _ _ => Kend σ μ (5 * j)) (fun c9 _ => ?_)
    have hi : 5 * j + 5 ≤ Ln := by
      rw [Int32.lt_iff_toInt_lt, pk_sub_toInt (by omega) (by decide), nI_toInt (by omega)] at c9
      omega
    refine x_pc (pc' := 26) rfl ?_
    refine x_aload_n C0 dL_law_26 rfl 3 rfl ?_
    refine x_iload_n C0 dL_law_27 rfl 0 rfl ?_
    refine x_sld C0 hX hbl hbA (vp_in_nI (show 5 * j < Ln by omega) (by omega)) dL_law_28 ?_
    refine x_bipush C0 (v := 31) dL_law_29 (by decide) ?_
    refine x_iand C0 dL_law_31 ?_
    obtain ⟨t, ht, et⟩ := pk_andE (xs (nI (5 * j)).toNatClampNeg) (m := 31) 5 (by decide)
    refine x_top (v' := .int (nI t)) (congrArg Value.int et) ?_
    have hB : 30000 * j + 30000 < 2 ^ 30 := by omega
    have K : ∀ σ' μ' a', Rel (30000 * j + 30000) σ' μ' a' → x_W p l e R s m args below meth c D vwCl A H0 337 ad (wfL cs ad) 4 337 6045 Q (lam σ' μ') 855 [(3, .int (nI (5 * j))), (2, .ref (ad 333)), (1, .ref (ad 0)), (0, .ref b)] [] := by
      intro σ' μ' a' R2
      refine x_iinc C0 (v := 5) (L' := [(3, .int (nI (5 * (j + 1)))), (2, .ref (ad 333)), (1, .ref (ad 0)), (0, .ref b)]) dL_law_855 0 rfl (by decide) (by decide) (by rw [show nI (5 * j) + 5 = nI (5 * (j + 1)) from nI_add (5 * j) 5]; rfl) ?_
      refine x_goto C0 (tgt := 18) dL_law_858 (by decide) ?_
      exact ih (j + 1) σ' μ' a' (by omega) (by omega) R2
    refine x_pc (pc' := 32) rfl ?_
    by_cases q : t < 25
    · rcases (show t = 0 ∨ t = 1 ∨ t = 2 ∨ t = 3 ∨ t = 4 ∨ t = 5 ∨ t = 6 ∨ t = 7 ∨ t = 8 ∨ t = 9 ∨ t = 10 ∨ t = 11 ∨ t = 12 ∨ t = 13 ∨ t = 14 ∨ t = 15 ∨ t = 16 ∨ t = 17 ∨ t = 18 ∨ t = 19 ∨ t = 20 ∨ t = 21 ∨ t = 22 ∨ t = 23 ∨ t = 24 by omega) with rfl | rfl | rfl | rfl | rfl | rfl | rfl | rfl | rfl | rfl | rfl | rfl | rfl | rfl | rfl | rfl | rfl | rfl | rfl | rfl | rfl | rfl | rfl | rfl | rfl
      · exact x_tableIn C0 (off := 116) (tgt := 148) dL_law_32 (by decide) (by decide) rfl (by decide) (law_shape C0 hX hbl hbA hR hn hi hL Rl hB K)
      · exact x_tableIn C0 (off := 149) (tgt := 181) dL_law_32 (by decide) (by decide) rfl (by decide) (law_flush C0 hX hbl hbA hR hn hi hL Rl hB K)
      · exact x_tableIn C0 (off := 162) (tgt := 194) dL_law_32 (by decide) (by decide) rfl (by decide) (law_addHelper C0 hX hbl hbA hR hn hi hL Rl hB K)
      · exact x_tableIn C0 (off := 205) (tgt := 237) dL_law_32 (by decide) (by decide) rfl (by decide) (law_setDegree C0 hX hbl hbA hR hn hi hL Rl hB K)
      · exact x_tableIn C0 (off := 238) (tgt := 270) dL_law_32 (by decide) (by decide) rfl (by decide) (law_setTrial C0 hX hbl hbA hR hn hi hL Rl hB K)
      · exact x_tableIn C0 (off := 261) (tgt := 293) dL_law_32 (by decide) (by decide) rfl (by decide) (law_pardon C0 hX hbl hbA hR hn hi hL Rl hB K)
      · exact x_tableIn C0 (off := 284) (tgt := 316) dL_law_32 (by decide) (by decide) rfl (by decide) (law_forget C0 hX hbl hbA hR hn hi hL Rl hB K)
      · exact x_tableIn C0 (off := 307) (tgt := 339) dL_law_32 (by decide) (by decide) rfl (by decide) (law_access C0 hX hbl hbA hR hn hi hL Rl hB K)
      · exact x_tableIn C0 (off := 340) (tgt := 372) dL_law_32 (by decide) (by decide) rfl (by decide) (law_walk C0 hX hbl hbA hR hn hi hL Rl hB K)
      · exact x_tableIn C0 (off := 393) (tgt := 425) dL_law_32 (by decide) (by decide) rfl (by decide) (law_type C0 hX hbl hbA hR hn hi hL Rl hB K)
      · exact x_tableIn C0 (off := 418) (tgt := 450) dL_law_32 (by decide) (by decide) rfl (by decide) (law_clearText C0 hX hbl hbA hR hn hi hL Rl hB K)
      · exact x_tableIn C0 (off := 431) (tgt := 463) dL_law_32 (by decide) (by decide) rfl (by decide) (law_run C0 hX hbl hbA hR hn hi hL Rl hB K)
      · exact x_tableIn C0 (off := 444) (tgt := 476) dL_law_32 (by decide) (by decide) rfl (by decide) (law_undo C0 hX hbl hbA hR hn hi hL Rl hB K)
      · exact x_tableIn C0 (off := 457) (tgt := 489) dL_law_32 (by decide) (by decide) rfl (by decide) (law_keep C0 hX hbl hbA hR hn hi hL Rl hB K)
      · exact x_tableIn C0 (off := 470) (tgt := 502) dL_law_32 (by decide) (by decide) rfl (by decide) (law_restore C0 hX hbl hbA hR hn hi hL Rl hB K)
      · exact x_tableIn C0 (off := 483) (tgt := 515) dL_law_32 (by decide) (by decide) rfl (by decide) (law_line C0 hX hbl hbA hR hn hi hL Rl hB K)
      · exact x_tableIn C0 (off := 516) (tgt := 548) dL_law_32 (by decide) (by decide) rfl (by decide) (law_inSet C0 hX hbl hbA hR hn hi hL Rl hB K)
      · exact x_tableIn C0 (off := 549) (tgt := 581) dL_law_32 (by decide) (by decide) rfl (by decide) (law_thrownOut C0 hX hbl hbA hR hn hi hL Rl hB K)
      · exact x_tableIn C0 (off := 572) (tgt := 604) dL_law_32 (by decide) (by decide) rfl (by decide) (law_helper C0 hX hbl hbA hR hn hi hL Rl hB K)
      · exact x_tableIn C0 (off := 605) (tgt := 637) dL_law_32 (by decide) (by decide) rfl (by decide) (law_table C0 hX hbl hbA hR hn hi hL Rl hB K)
      · exact x_tableIn C0 (off := 648) (tgt := 680) dL_law_32 (by decide) (by decide) rfl (by decide) (law_wouldAsk C0 hX hbl hbA hR hn hi hL Rl hB K)
      · exact x_tableIn C0 (off := 701) (tgt := 733) dL_law_32 (by decide) (by decide) rfl (by decide) (law_wouldHit C0 hX hbl hbA hR hn hi hL Rl hB K)
      · exact x_tableIn C0 (off := 754) (tgt := 786) dL_law_32 (by decide) (by decide) rfl (by decide) (law_bestHelper C0 hX hbl hbA hR hn hi hL Rl hB K)
      · exact x_tableIn C0 (off := 767) (tgt := 799) dL_law_32 (by decide) (by decide) rfl (by decide) (law_logged C0 hX hbl hbA hR hn hi hL Rl hB K)
      · exact x_tableIn C0 (off := 800) (tgt := 832) dL_law_32 (by decide) (by decide) rfl (by decide) (law_count C0 hX hbl hbA hR hn hi hL Rl hB K)
    · exact x_tableOut C0 (tgt := 855) dL_law_32 (Or.inr (by rw [nI_toInt (by omega)]; omega)) (by decide) (K σ μ a (Rl.mono (by omega) hB))
end LR
