/-! the object's constructor *)  -/
def eX4 : va_E := .inr (4, [.null, .null, .null, .null, .null, .int 0, .int 0])
section YS
variable {p : Program} {l : Launch} {e : Env} {R : Room} {s : State} {m : MethodId} {args : Array Value} {below : List Frame} {meth : Method} {c : Code} {D : va_G} {A : Nat → Prop} {H0 : Heap} {cs : Nat → ClassId} {Q : State → Prop} {h0 q1 q2 q3 q4 : Nat}
set_option maxRecDepth 8000 in
set_option maxHeartbeats 4000000 in
theorem c_X4_loop (hR : R.frames = 4 ∧ R.cells = 332 ∧ R.slots = 3439 ∧ R.locals = 91) (hO : y_O s) (Kend : ∀ ad : Nat → Nat, ad 0 = h0 → ad 1 = q1 → ad 48 = q2 → ad 95 = q3 → ad 142 = q4 → x_C p s m args meth c D vwCl (xtys cs) A H0 331 ad (y_k (wT4 cs (.inr (4, [.ref q1, .ref q2, .ref q3, .ref q4, .null, .int 0, .int 0])) ad 4)) cX4_init 2 RX4 none → x_W p l e R s m args below meth c D vwCl A H0 331 ad (y_k (wT4 cs (.inr (4, [.ref q1, .ref q2, .ref q3, .ref q4, .null, .int 0, .int 0])) ad 4)) 2 330 3357 Q x_z 71 [(1, .int (nI 4)), (0, .ref h0)] []) : ∀ (f i : Nat) (ad : Nat → Nat), i ≤ 4 → 4 - i < f → ad 0 = h0 → ad 1 = q1 → ad 48 = q2 → ad 95 = q3 → ad 142 = q4 → x_C p s m args meth c D vwCl (xtys cs) A H0 (143 + 47 * i) ad (y_k (wT4 cs (.inr (4, [.ref q1, .ref q2, .ref q3, .ref q4, .null, .int 0, .int 0])) ad i)) cX4_init 2 RX4 none → x_W p l e R s m args below meth c D vwCl A H0 (143 + 47 * i) ad (y_k (wT4 cs (.inr (4, [.ref q1, .ref q2, .ref q3, .ref q4, .null, .int 0, .int 0])) ad i)) 2 (142 + 47 * i) (1441 + 479 * i) Q x_z 47 [(1, .int (nI i)), (0, .ref h0)] [] := by
  obtain ⟨hR1, hR2, hR3, hR4⟩ := hR
  intro f
  induction f with
  | zero => intro i ad _ h; omega
  | succ f ih =>
    intro i ad hi hf a0 a1 a2 a3 a4 C0
    refine x_pc (pc' := 47) rfl ?_
    refine x_iload_n C0 dX4_init_47 rfl 0 rfl ?_
    refine x_iconst C0 (v := 4) dX4_init_48 (by decide) ?_
    refine x_icmp_ge C0 (tgt := 71) dX4_init_49 (by decide) (a := ()) (b := ()) (res := ()) (by split <;> rfl) (fun c9 _ => ?_) (fun c9 _ => ?_)
    · have hi4 : i < 4 := (nI_ltI (b := 4) (by omega) (by decide)).mp c9
      refine x_pc (pc' := 52) rfl ?_
      refine x_aload_n C0 dX4_init_52 rfl 1 rfl ?_
      refine y_get C0 inu4 rfl 3 (by decide) mw_245 (r := 0) (by omega) a0 (fs := [.ref q1, .ref q2, .ref q3, .ref q4, .null, .int 0, .int 0]) rfl rfl dX4_init_53 ?_
      refine x_iload_n C0 dX4_init_56 rfl 0 rfl ?_
      refine x_pc (pc' := 57) rfl ?_
      refine y_new C0 inu2 tyX2 tyX2_ok mw_59 mw_60 mw_45 (ci := 2) rfl (fs := [.null, .null, .null, .null, .int 0, .int 0, .int 0, .int 0, .int 0, .int 0, .int 0, .int 0, .int 0]) (fun j hj => by rcases (show j = 0 ∨ j = 1 ∨ j = 2 ∨ j = 3 ∨ j = 4 ∨ j = 5 ∨ j = 6 ∨ j = 7 ∨ j = 8 ∨ j = 9 ∨ j = 10 ∨ j = 11 ∨ j = 12 by omega) with rfl | rfl | rfl | rfl | rfl | rfl | rfl | rfl | rfl | rfl | rfl | rfl | rfl <;> rfl) ⟨by rw [hR2]; omega, by rw [hR3]; omega⟩ dX4_init_57 (fun ad1 h1 C0 => ?_)
      obtain ⟨q9, f9⟩ : ∃ q, ad1 (143 + 47 * i) = q := ⟨_, rfl⟩
      refine x_top (v' := .ref q9) (congrArg Value.ref f9) ?_
      refine x_dup C0 dX4_init_60 rfl ?_
      refine y_callN (As := []) C0 hO c_X2_init mw_61 mw_62 mw_45 mw_63 rfl hd_yX2_init ⟨rfl, rfl, by rw [hR1]; decide, by rw [hR4]; decide⟩ rfl ⟨by rw [hR2]; omega, by rw [hR3]; omega⟩ (Nat.le_of_ble_eq_true rfl) f9 va_up_eq (by decide) dX4_init_61 (fun ad2 h2 b2 C0 => ?_)
      have ag : ∀ j, j < 143 + 47 * i → ad2 j = ad j := fun j hj => (h2 j hj).trans (h1 j hj)
      have a0' : ad2 0 = h0 := (ag 0 (by omega)).trans a0
      have a1' : ad2 1 = q1 := (ag 1 (by omega)).trans a1
      have a2' : ad2 48 = q2 := (ag 48 (by omega)).trans a2
      have a3' : ad2 95 = q3 := (ag 95 (by omega)).trans a3
      have a4' : ad2 142 = q4 := (ag 142 (by omega)).trans a4
      refine x_pc (pc' := 64) rfl ?_
      obtain ⟨vs9, hv9⟩ : ∃ vs, shX2 cs (fun a => ad2 (143 + 47 * i + a)) 0 = .inr (2, vs) := ⟨_, rfl⟩
      refine y_aast C0 4 rfl (r := 142) (rv := 143 + 47 * i) (by omega) (by omega) a4' b2 (nn := 4) (f := fun j => if j < i then some (ad (143 + 47 * j)) else none) (by rw [if_pos (by omega), va_up_off (by omega)]; rfl) (vs := vs9) (ci := 2) (by rw [if_neg (by omega), Nat.sub_self]; exact hv9) rfl (by rw [oob (by omega)]; omega) dX4_init_64 (fun C0 => ?_)
      refine x_iinc C0 (v := 1) (L' := [(1, .int (nI (i + 1))), (0, .ref h0)]) dX4_init_65 0 rfl (by decide) (by decide) (by rw [nI_1]; rfl) ?_
      refine x_goto C0 (tgt := 47) dX4_init_68 (by decide) ?_
      refine x_congr (wf' := y_k (wT4 cs (.inr (4, [.ref q1, .ref q2, .ref q3, .ref q4, .null, .int 0, .int 0])) ad2 (i + 1))) (σ' := x_z) (fun r hr => ?_) ?_
      · have := wT4_step (cs := cs) (f0 := (.inr (4, [.ref q1, .ref q2, .ref q3, .ref q4, .null, .int 0, .int 0]))) (e9 := .inr (2, [.null, .null, .null, .null, .int 0, .int 0, .int 0, .int 0, .int 0, .int 0, .int 0, .int 0, .int 0])) ag b2 r (by omega)
        simp only [y_k]
        rw [nI_clamp (by omega)]
        exact this
      have en : 143 + 47 * i + 47 = 143 + 47 * (i + 1) := by omega
      refine x_eq en (kc' := 142 + 47 * (i + 1)) (ks' := 1441 + 479 * (i + 1)) (by omega) (by omega) ?_
      have C1 := C0.re (y_loc (wT4 cs (.inr (4, [.ref q1, .ref q2, .ref q3, .ref q4, .null, .int 0, .int 0])) ad2 (i + 1)))
      rw [en] at C1
      exact ih (i + 1) ad2 hi4 (by omega) a0' a1' a2' a3' a4' C1
    · have e4 : i = 4 := by
        have : ¬ i < 4 := fun h => c9 ((nI_ltI (a := i) (b := 4) (by omega) (by decide)).mpr h)
        omega
      subst e4
      exact Kend ad a0 a1 a2 a3 a4 C0
end YS
set_option maxRecDepth 16000 in
set_option maxHeartbeats 8000000 in
theorem c_X4_init {l : Launch} {D : va_G} {cs : Nat → ClassId} {h0 : Nat} : y_Met l yX4_init [Cond.code yX4_init cX4_init 2 none] ({ frames := 4, cells := 332, slots := 3439, locals := 91 } : Room) D vwCl (xtys cs) h0 eX4 333 (shX4 cs) [] 332 3439 := by
  refine y_Met_of (L0 := [(0, .ref h0)]) (own := RX4) (by decide) rfl rfl rfl (Nat.le_of_ble_eq_true rfl) rfl ?_
  intro p e s m args below meth c A C0 hin hO
  refine x_pc (pc' := 0) rfl ?_
  refine x_aload_n C0 dX4_init_0 rfl 0 rfl ?_
  refine y_obj C0 mw_56 ⟨Nat.le_of_ble_eq_true rfl, Nat.le_of_ble_eq_true rfl⟩ dX4_init_1 ?_
  refine x_congr (wf' := y_k (wU cs eX4 (fun _ => h0))) (σ' := x_z) (fun r hr => ?_) ?_
  · rcases (show r = 0 by omega) with rfl
    rfl
  have C0 := C0.re (y_loc (wU cs eX4 (fun _ => h0)))
  obtain ⟨ad0, had0, a0⟩ : ∃ ad0 : Nat → Nat, ad0 = (fun _ => h0) ∧ ad0 0 = h0 := ⟨_, rfl, rfl⟩
  rw [← had0] at C0 ⊢
  refine x_aload_n C0 dX4_init_4 rfl 0 rfl ?_
  refine x_pc (pc' := 5) rfl ?_
  refine y_new C0 inu2 tyX2 tyX2_ok mw_59 mw_60 mw_45 (ci := 2) rfl (fs := [.null, .null, .null, .null, .int 0, .int 0, .int 0, .int 0, .int 0, .int 0, .int 0, .int 0, .int 0]) (fun j hj => by rcases (show j = 0 ∨ j = 1 ∨ j = 2 ∨ j = 3 ∨ j = 4 ∨ j = 5 ∨ j = 6 ∨ j = 7 ∨ j = 8 ∨ j = 9 ∨ j = 10 ∨ j = 11 ∨ j = 12 by omega) with rfl | rfl | rfl | rfl | rfl | rfl | rfl | rfl | rfl | rfl | rfl | rfl | rfl <;> rfl) ⟨Nat.le_of_ble_eq_true rfl, Nat.le_of_ble_eq_true rfl⟩ dX4_init_5 (fun bd1 h10 C0 => ?_)
  obtain ⟨q1, f1⟩ : ∃ q, bd1 1 = q := ⟨_, rfl⟩
  refine x_top (v' := .ref q1) (congrArg Value.ref f1) ?_
  refine x_dup C0 dX4_init_8 rfl ?_
  refine y_callN (As := []) C0 hO c_X2_init mw_61 mw_62 mw_45 mw_63 rfl hd_yX2_init ⟨rfl, rfl, Nat.le_of_ble_eq_true rfl, Nat.le_of_ble_eq_true rfl⟩ rfl ⟨Nat.le_of_ble_eq_true rfl, Nat.le_of_ble_eq_true rfl⟩ (Nat.le_of_ble_eq_true rfl) f1 va_up_eq (by decide) dX4_init_9 (fun ad1 h20 b1 C0 => ?_)
  have ag1 : ∀ j, j < 1 + 47 * 0 → ad1 j = ad0 j := fun j hj => (h20 j hj).trans (h10 j hj)
  have a0 : ad1 0 = h0 := (ag1 0 (by decide)).trans a0
  have a1 : ad1 1 = q1 := b1
  refine x_pc (pc' := 12) rfl ?_
  refine y_putF C0 hin inu4 tyX4 tyX4_ok nmX4 rfl 0 (by decide) mw_242 rfl rfl rfl rfl (r := 0) (by decide) a0 (fs := [.null, .null, .null, .null, .null, .int 0, .int 0]) rfl (Nat.le_of_ble_eq_true rfl) dX4_init_12 (fun C0 => ?_)
  refine x_congr (wf' := y_k (wU cs (.inr (4, [.ref q1, .null, .null, .null, .null, .int 0, .int 0])) ad1)) (σ' := x_z) (fun r hr => wU_step (j := 0) (by decide) ag1 r hr) ?_
  have C0 := C0.re (y_loc (wU cs (.inr (4, [.ref q1, .null, .null, .null, .null, .int 0, .int 0])) ad1))
  refine x_aload_n C0 dX4_init_15 rfl 0 rfl ?_
  refine y_new C0 inu2 tyX2 tyX2_ok mw_59 mw_60 mw_45 (ci := 2) rfl (fs := [.null, .null, .null, .null, .int 0, .int 0, .int 0, .int 0, .int 0, .int 0, .int 0, .int 0, .int 0]) (fun j hj => by rcases (show j = 0 ∨ j = 1 ∨ j = 2 ∨ j = 3 ∨ j = 4 ∨ j = 5 ∨ j = 6 ∨ j = 7 ∨ j = 8 ∨ j = 9 ∨ j = 10 ∨ j = 11 ∨ j = 12 by omega) with rfl | rfl | rfl | rfl | rfl | rfl | rfl | rfl | rfl | rfl | rfl | rfl | rfl <;> rfl) ⟨Nat.le_of_ble_eq_true rfl, Nat.le_of_ble_eq_true rfl⟩ dX4_init_16 (fun bd2 h11 C0 => ?_)
  obtain ⟨q2, f2⟩ : ∃ q, bd2 48 = q := ⟨_, rfl⟩
  refine x_top (v' := .ref q2) (congrArg Value.ref f2) ?_
  refine x_pc (pc' := 19) rfl ?_
  refine x_dup C0 dX4_init_19 rfl ?_
  refine y_callN (As := []) C0 hO c_X2_init mw_61 mw_62 mw_45 mw_63 rfl hd_yX2_init ⟨rfl, rfl, Nat.le_of_ble_eq_true rfl, Nat.le_of_ble_eq_true rfl⟩ rfl ⟨Nat.le_of_ble_eq_true rfl, Nat.le_of_ble_eq_true rfl⟩ (Nat.le_of_ble_eq_true rfl) f2 va_up_eq (by decide) dX4_init_20 (fun ad2 h21 b2 C0 => ?_)
  have ag2 : ∀ j, j < 1 + 47 * 1 → ad2 j = ad1 j := fun j hj => (h21 j hj).trans (h11 j hj)
  have a0 : ad2 0 = h0 := (ag2 0 (by decide)).trans a0
  have a1 : ad2 1 = q1 := (ag2 1 (by decide)).trans a1
  have a2 : ad2 48 = q2 := b2
  refine y_putF C0 hin inu4 tyX4 tyX4_ok nmX4 rfl 1 (by decide) mw_243 rfl rfl rfl rfl (r := 0) (by decide) a0 (fs := [.ref q1, .null, .null, .null, .null, .int 0, .int 0]) rfl (Nat.le_of_ble_eq_true rfl) dX4_init_23 (fun C0 => ?_)
  refine x_congr (wf' := y_k (wU cs (.inr (4, [.ref q1, .ref q2, .null, .null, .null, .int 0, .int 0])) ad2)) (σ' := x_z) (fun r hr => wU_step (j := 1) (by decide) ag2 r hr) ?_
  have C0 := C0.re (y_loc (wU cs (.inr (4, [.ref q1, .ref q2, .null, .null, .null, .int 0, .int 0])) ad2))
  refine x_pc (pc' := 26) rfl ?_
  refine x_aload_n C0 dX4_init_26 rfl 0 rfl ?_
  refine y_new C0 inu2 tyX2 tyX2_ok mw_59 mw_60 mw_45 (ci := 2) rfl (fs := [.null, .null, .null, .null, .int 0, .int 0, .int 0, .int 0, .int 0, .int 0, .int 0, .int 0, .int 0]) (fun j hj => by rcases (show j = 0 ∨ j = 1 ∨ j = 2 ∨ j = 3 ∨ j = 4 ∨ j = 5 ∨ j = 6 ∨ j = 7 ∨ j = 8 ∨ j = 9 ∨ j = 10 ∨ j = 11 ∨ j = 12 by omega) with rfl | rfl | rfl | rfl | rfl | rfl | rfl | rfl | rfl | rfl | rfl | rfl | rfl <;> rfl) ⟨Nat.le_of_ble_eq_true rfl, Nat.le_of_ble_eq_true rfl⟩ dX4_init_27 (fun bd3 h12 C0 => ?_)
  obtain ⟨q3, f3⟩ : ∃ q, bd3 95 = q := ⟨_, rfl⟩
  refine x_top (v' := .ref q3) (congrArg Value.ref f3) ?_
  refine x_dup C0 dX4_init_30 rfl ?_
  refine x_pc (pc' := 31) rfl ?_
  refine y_callN (As := []) C0 hO c_X2_init mw_61 mw_62 mw_45 mw_63 rfl hd_yX2_init ⟨rfl, rfl, Nat.le_of_ble_eq_true rfl, Nat.le_of_ble_eq_true rfl⟩ rfl ⟨Nat.le_of_ble_eq_true rfl, Nat.le_of_ble_eq_true rfl⟩ (Nat.le_of_ble_eq_true rfl) f3 va_up_eq (by decide) dX4_init_31 (fun ad3 h22 b3 C0 => ?_)
  have ag3 : ∀ j, j < 1 + 47 * 2 → ad3 j = ad2 j := fun j hj => (h22 j hj).trans (h12 j hj)
  have a0 : ad3 0 = h0 := (ag3 0 (by decide)).trans a0
  have a1 : ad3 1 = q1 := (ag3 1 (by decide)).trans a1
  have a2 : ad3 48 = q2 := (ag3 48 (by decide)).trans a2
  have a3 : ad3 95 = q3 := b3
  refine y_putF C0 hin inu4 tyX4 tyX4_ok nmX4 rfl 2 (by decide) mw_244 rfl rfl rfl rfl (r := 0) (by decide) a0 (fs := [.ref q1, .ref q2, .null, .null, .null, .int 0, .int 0]) rfl (Nat.le_of_ble_eq_true rfl) dX4_init_34 (fun C0 => ?_)
  refine x_congr (wf' := y_k (wU cs (.inr (4, [.ref q1, .ref q2, .ref q3, .null, .null, .int 0, .int 0])) ad3)) (σ' := x_z) (fun r hr => wU_step (j := 2) (by decide) ag3 r hr) ?_
  have C0 := C0.re (y_loc (wU cs (.inr (4, [.ref q1, .ref q2, .ref q3, .null, .null, .int 0, .int 0])) ad3))
  refine x_aload_n C0 dX4_init_37 rfl 0 rfl ?_
  refine x_pc (pc' := 38) rfl ?_
  refine x_iconst C0 (v := 4) dX4_init_38 (by decide) ?_
  refine y_newq C0 mw_59 hO.2.2 4 rfl (N' := 4) (by decide) rfl (Nat.le_of_ble_eq_true rfl) ⟨Nat.le_of_ble_eq_true rfl, Nat.le_of_ble_eq_true rfl⟩ dX4_init_39 (fun ad4 h4 C0 => ?_)
  have a0 : ad4 0 = h0 := (h4 0 (by decide)).trans a0
  have a1 : ad4 1 = q1 := (h4 1 (by decide)).trans a1
  have a2 : ad4 48 = q2 := (h4 48 (by decide)).trans a2
  have a3 : ad4 95 = q3 := (h4 95 (by decide)).trans a3
  obtain ⟨q4, a4⟩ : ∃ q, ad4 142 = q := ⟨_, rfl⟩
  refine x_top (v' := .ref q4) (congrArg Value.ref a4) ?_
  refine y_putF C0 hin inu4 tyX4 tyX4_ok nmX4 rfl 3 (by decide) mw_245 rfl rfl rfl rfl (r := 0) (by decide) a0 (fs := [.ref q1, .ref q2, .ref q3, .null, .null, .int 0, .int 0]) rfl (Nat.le_of_ble_eq_true rfl) dX4_init_42 (fun C0 => ?_)
  refine x_pc (pc' := 45) rfl ?_
  refine x_iconst C0 (v := 0) dX4_init_45 (by decide) ?_
  refine x_istore_n C0 (L' := [(1, .int 0), (0, .ref h0)]) dX4_init_46 rfl (by decide) rfl ?_
  refine x_congr (wf' := y_k (wT4 cs (.inr (4, [.ref q1, .ref q2, .ref q3, .ref q4, .null, .int 0, .int 0])) ad4 0)) (σ' := x_z) (fun r hr => ?_) ?_
  · simp only [y_k]
    unfold wT4
    by_cases r0 : r = 0
    · subst r0
      rfl
    · rw [va_up_off r0, if_neg r0]
      by_cases r1 : r = 142
      · subst r1
        rw [if_pos rfl]
        show rfq (cs 4) 4 (fun _ => none) = rfq (cs 4) 4 _
        congr 1
      · rw [if_neg r1, va_up_off r1]
        unfold wU
        rw [if_neg r0]
        exact wSC_a1 (J := 3) (by decide) (fun x hx => h4 x hx) r0 (by omega)
  refine c_X4_loop ⟨rfl, rfl, rfl, rfl⟩ hO ?_ 20 0 ad4 (by decide) (by decide) a0 a1 a2 a3 a4 (C0.re (y_loc _))
  clear C0 a0 a1 a2 a3 a4 h4
  intro ad a0 a1 a2 a3 a4 C0
  refine x_pc (pc' := 71) rfl ?_
  refine x_aload_n C0 dX4_init_71 rfl 1 rfl ?_
  refine y_new C0 inu3 tyX3 tyX3_ok mw_227 mw_228 mw_49 (ci := 3) rfl (fs := [.null, .int 0]) (fun j hj => by rcases (show j = 0 ∨ j = 1 by omega) with rfl | rfl <;> rfl) ⟨Nat.le_of_ble_eq_true rfl, Nat.le_of_ble_eq_true rfl⟩ dX4_init_72 (fun ad5 h5 C0 => ?_)
  obtain ⟨q5, f5⟩ : ∃ q, ad5 331 = q := ⟨_, rfl⟩
  refine x_top (v' := .ref q5) (congrArg Value.ref f5) ?_
  refine x_dup C0 dX4_init_75 rfl ?_
  refine x_pc (pc' := 76) rfl ?_
  refine y_callN (As := []) C0 hO c_X3_init mw_229 mw_230 mw_49 mw_231 rfl hd_yX3_init ⟨rfl, rfl, Nat.le_of_ble_eq_true rfl, Nat.le_of_ble_eq_true rfl⟩ rfl ⟨Nat.le_of_ble_eq_true rfl, Nat.le_of_ble_eq_true rfl⟩ (Nat.le_of_ble_eq_true rfl) f5 va_up_eq (by decide) dX4_init_76 (fun ad6 h6 b6 C0 => ?_)
  have ag : ∀ j, j < 331 → ad6 j = ad j := fun j hj => (h6 j hj).trans (h5 j hj)
  have a0 : ad6 0 = h0 := (ag 0 (by decide)).trans a0
  have a1 : ad6 1 = q1 := (ag 1 (by decide)).trans a1
  have a2 : ad6 48 = q2 := (ag 48 (by decide)).trans a2
  have a3 : ad6 95 = q3 := (ag 95 (by decide)).trans a3
  have a4 : ad6 142 = q4 := (ag 142 (by decide)).trans a4
  refine y_putF C0 hin inu4 tyX4 tyX4_ok nmX4 rfl 4 (by decide) mw_246 rfl rfl rfl rfl (r := 0) (by decide) a0 (fs := [.ref q1, .ref q2, .ref q3, .ref q4, .null, .int 0, .int 0]) rfl (Nat.le_of_ble_eq_true rfl) dX4_init_79 (fun C0 => ?_)
  refine x_aload_n C0 dX4_init_82 rfl 1 rfl ?_
  refine x_pc (pc' := 83) rfl ?_
  refine x_iconst C0 (v := 0) dX4_init_83 (by decide) ?_
  refine y_put C0 inu4 tyX4 tyX4_ok nmX4 rfl 5 (by decide) mw_247 rfl rfl rfl (r := 0) (by decide) a0 (fs := [.ref q1, .ref q2, .ref q3, .ref q4, .ref q5, .int 0, .int 0]) rfl (Nat.le_of_ble_eq_true rfl) dX4_init_84 (fun C0 => ?_)
  refine x_aload_n C0 dX4_init_87 rfl 1 rfl ?_
  refine x_pc (pc' := 88) rfl ?_
  refine x_iconst C0 (v := 0) dX4_init_88 (by decide) ?_
  refine y_put C0 inu4 tyX4 tyX4_ok nmX4 rfl 6 (by decide) mw_248 rfl rfl rfl (r := 0) (by decide) a0 (fs := [.ref q1, .ref q2, .ref q3, .ref q4, .ref q5, .int 0, .int 0]) rfl (Nat.le_of_ble_eq_true rfl) dX4_init_89 (fun C0 => ?_)
  refine y_vret C0 a0 (fun r hr => ?_) dX4_init_92
  by_cases r0 : r = 0
  · subst r0
    rw [shX4_0, a1, a2, a3, a4, show ad6 331 = q5 from b6]
    rfl
  · simp only [y_k]
    rw [va_up_off r0, va_up_off r0, va_up_off r0]
    by_cases r331 : r < 331
    · rw [if_pos r331, va_up_off (by omega)]
      unfold wT4
      rw [if_neg r0]
      by_cases r1 : r = 142
      · rw [if_pos r1, r1, shX4_r1]
        congr 1
        funext j
        by_cases q : j < 4
        · rw [if_pos q, if_pos q, ag _ (by omega)]
        · rw [if_neg q, if_neg q]
      · rw [if_neg r1, wSC_a2 (J := 4) (ad' := ad6) (fun x hx => ag x (by omega)) r0 r1 (by omega)]
        by_cases r2 : r < 142
        · obtain ⟨j, i, hi, rfl⟩ : ∃ j i, i < 47 ∧ r = 1 + 47 * j + i := ⟨(r - 1) / 47, (r - 1) % 47, Nat.mod_lt _ (by decide), by omega⟩
          rw [wSC_1 (by omega) hi, shX4_1 (by omega) hi]
        · obtain ⟨j, i, hi, rfl⟩ : ∃ j i, i < 47 ∧ r = 143 + 47 * j + i := ⟨(r - 143) / 47, (r - 143) % 47, Nat.mod_lt _ (by decide), by omega⟩
          rw [wSC_2 hi, shX4_2 (by omega) hi]
    · rw [if_neg r331]
      rcases (show r = 331 ∨ r = 332 by omega) with rfl | rfl
      · rw [shX4_331]
        rfl
      · rw [shX4_332]
        rfl
