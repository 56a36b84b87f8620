/-! a State's constructor *)  -/
set_option maxRecDepth 16000 in
set_option maxHeartbeats 8000000 in
theorem c_X2_init {l : Launch} {D : va_G} {cs : Nat → ClassId} {h0 : Nat} : y_Met l yX2_init [Cond.code yX2_init cX2_init 2 none] ({ frames := 3, cells := 46, slots := 466, locals := 70 } : Room) D vwCl (xtys cs) h0 eX2 47 (shX2 cs) [] 46 466 := by
  refine y_Met_of (L0 := [(0, .ref h0)]) (own := RX2) (by decide) rfl rfl rfl (Nat.le_of_ble_eq_true rfl) rfl ?_
  intro p e s m args below meth c A C0 hin hO
  refine x_pc (pc' := 0) rfl ?_
  refine x_aload_n C0 dX2_init_0 rfl 0 rfl ?_
  refine y_obj C0 mw_64 ⟨Nat.le_of_ble_eq_true rfl, Nat.le_of_ble_eq_true rfl⟩ dX2_init_1 ?_
  refine x_aload_n C0 dX2_init_4 rfl 0 rfl ?_
  refine x_pc (pc' := 5) rfl ?_
  refine x_bipush C0 (v := 8) dX2_init_5 (by decide) ?_
  refine y_newq C0 mw_65 hO.2.1 3 rfl (N' := 8) (by decide) rfl (Nat.le_of_ble_eq_true rfl) ⟨Nat.le_of_ble_eq_true rfl, Nat.le_of_ble_eq_true rfl⟩ dX2_init_7 (fun ad1 h1 C0 => ?_)
  have a0 : ad1 0 = h0 := h1 0 (by decide)
  obtain ⟨q1, f1⟩ : ∃ q, ad1 1 = q := ⟨_, rfl⟩
  refine x_top (v' := .ref q1) (congrArg Value.ref f1) ?_
  refine y_putF C0 hin inu2 tyX2 tyX2_ok nmX2 rfl 0 (by decide) mw_175 rfl rfl rfl rfl (r := 0) (by decide) a0 (fs := [.null, .null, .null, .null, .int 0, .int 0, .int 0, .int 0, .int 0, .int 0, .int 0, .int 0, .int 0]) rfl (Nat.le_of_ble_eq_true rfl) dX2_init_10 (fun C0 => ?_)
  refine x_pc (pc' := 13) rfl ?_
  refine x_iconst C0 (v := 0) dX2_init_13 (by decide) ?_
  refine x_istore_n C0 (L' := [(1, .int 0), (0, .ref h0)]) dX2_init_14 rfl (by decide) rfl ?_
  refine x_congr (wf' := y_k (wSt cs q1 ad1 0)) (σ' := x_z) (fun r hr => ?_) ?_
  · rcases (show r = 0 ∨ r = 1 by omega) with rfl | rfl
    · rfl
    · show rfq (cs 3) 8 (fun _ => none) = rfq (cs 3) 8 _
      congr 1
  refine c_X2_loop1 ⟨rfl, rfl, rfl, rfl⟩ hO ?_ 20 0 ad1 (by decide) (by decide) a0 f1 (C0.re (y_loc _))
  intro ad a0 a1 C0
  refine x_pc (pc' := 42) rfl ?_
  refine x_aload_n C0 dX2_init_42 rfl 1 rfl ?_
  refine y_new C0 inu1 tyX1 tyX1_ok mw_65 mw_67 mw_46 (ci := 1) rfl (fs := [.int 0, .int 0, .null, .int 0]) (fun j hj => by rcases (show j = 0 ∨ j = 1 ∨ j = 2 ∨ j = 3 by omega) with rfl | rfl | rfl | rfl <;> rfl) ⟨Nat.le_of_ble_eq_true rfl, Nat.le_of_ble_eq_true rfl⟩ dX2_init_43 (fun ad2 h2 C0 => ?_)
  obtain ⟨q18, f18⟩ : ∃ q, ad2 18 = q := ⟨_, rfl⟩
  refine x_top (v' := .ref q18) (congrArg Value.ref f18) ?_
  refine x_dup C0 dX2_init_46 rfl ?_
  refine x_pc (pc' := 47) rfl ?_
  refine x_bipush C0 (v := nI 8) dX2_init_47 rfl ?_
  refine x_iconst C0 (v := nI 2) dX2_init_49 rfl ?_
  refine y_callN (As := [.int (nI 8), .int (nI 2)]) C0 hO (c_X1_init (cap := 8) (c9 := 2) (by decide) (by decide) (by decide) (by decide)) mw_68 mw_69 mw_46 mw_70 rfl hd_yX1_init ⟨rfl, rfl, Nat.le_of_ble_eq_true rfl, Nat.le_of_ble_eq_true rfl⟩ rfl ⟨Nat.le_of_ble_eq_true rfl, Nat.le_of_ble_eq_true rfl⟩ (Nat.le_of_ble_eq_true rfl) f18 va_up_eq (by decide) dX2_init_50 (fun ad3 h3 b3 C0 => ?_)
  have ag : ∀ j, j < 18 → ad3 j = ad j := fun j hj => (h3 j hj).trans (h2 j hj)
  have a0 : ad3 0 = h0 := (ag 0 (by decide)).trans a0
  refine x_pc (pc' := 53) rfl ?_
  refine y_putF C0 hin inu2 tyX2 tyX2_ok nmX2 rfl 1 (by decide) mw_176 rfl rfl rfl rfl (r := 0) (by decide) a0 (fs := [.ref q1, .null, .null, .null, .int 0, .int 0, .int 0, .int 0, .int 0, .int 0, .int 0, .int 0, .int 0]) rfl (Nat.le_of_ble_eq_true rfl) dX2_init_53 (fun C0 => ?_)
  refine x_aload_n C0 dX2_init_56 rfl 1 rfl ?_
  refine x_bipush C0 (v := 6) dX2_init_57 (by decide) ?_
  refine x_pc (pc' := 59) rfl ?_
  refine y_newq C0 mw_92 hO.1 2 rfl (N' := 6) (by decide) rfl (Nat.le_of_ble_eq_true rfl) ⟨Nat.le_of_ble_eq_true rfl, Nat.le_of_ble_eq_true rfl⟩ dX2_init_59 (fun ad4 h4 C0 => ?_)
  have ag4 : ∀ j, j < 18 → ad4 j = ad j := fun j hj => (h4 j (by omega)).trans (ag j hj)
  have a0 : ad4 0 = h0 := (h4 0 (by decide)).trans a0
  have b4 : ad4 18 = q18 := (h4 18 (by decide)).trans b3
  have b5 : ad4 19 = ad3 19 := h4 19 (by decide)
  obtain ⟨q20, f20⟩ : ∃ q, ad4 20 = q := ⟨_, rfl⟩
  refine x_top (v' := .ref q20) (congrArg Value.ref f20) ?_
  refine y_putF C0 hin inu2 tyX2 tyX2_ok nmX2 rfl 2 (by decide) mw_178 rfl rfl rfl rfl (r := 0) (by decide) a0 (fs := [.ref q1, .ref q18, .null, .null, .int 0, .int 0, .int 0, .int 0, .int 0, .int 0, .int 0, .int 0, .int 0]) rfl (Nat.le_of_ble_eq_true rfl) dX2_init_62 (fun C0 => ?_)
  refine x_iconst C0 (v := 0) dX2_init_65 (by decide) ?_
  refine x_pc (pc' := 66) rfl ?_
  refine x_istore_n C0 (L' := [(1, .int 0), (0, .ref h0)]) dX2_init_66 rfl (by decide) rfl ?_
  refine x_congr (wf' := y_k (wH2 cs q1 q18 q20 ad4 0)) (σ' := x_z) (fun r hr => ?_) ?_
  · by_cases r0 : r = 0
    · subst r0
      rfl
    · by_cases r20 : r = 20
      · subst r20
        show rfq (cs 2) 6 (fun _ => none) = rfq (cs 2) 6 _
        congr 1
      · have e9 : wH2 cs q1 q18 q20 ad4 0 r = wfS cs ad4 sI r := by
          unfold wH2
          rw [if_neg r0, if_neg r20]
        simp only [y_k]
        rw [e9, va_up_off r0, va_up_off r20, va_up_off r0]
        by_cases r18 : r < 18
        · rw [if_pos r18, va_up_off (by omega)]
          unfold wSt
          rw [if_neg r0]
          by_cases r1 : r = 1
          · rw [if_pos r1, r1, wI_1]
            congr 1
            funext j
            by_cases q : j < 8
            · rw [if_pos q, if_pos q, ag4 _ (by omega)]
            · rw [if_neg q, if_neg q]
          · rw [if_neg r1]
            rcases (show ∃ t, r = 2 + 2 * t ∨ r = 3 + 2 * t from ⟨(r - 2) / 2, by omega⟩) with ⟨t, rfl | rfl⟩
            · rw [wI_S (by omega), wI_S (by omega), ag4 _ (by omega)]
            · rw [wI_s (by omega), wI_s (by omega)]
        · rw [if_neg r18]
          rcases (show r = 18 ∨ r = 19 by omega) with rfl | rfl
          · rw [wI_18]
            show (Sum.inr (1, [.int (nI 8), .int (nI 2), .ref (ad3 19), .int 0]) : va_E) = _
            rw [b5]
          · rw [wI_19]
            rfl
  refine c_X2_loop2 ⟨rfl, rfl, rfl, rfl⟩ hO ?_ 20 0 ad4 (by decide) (by decide) a0 ((ag4 1 (by decide)).trans a1) b4 f20 (C0.re (y_loc _))
  clear C0 h2 h3 h4 ag ag4 b5 b4 f20 b3 f18 a1 f1 h1
  intro ad a0 a1 a18 a20 C0
  refine x_pc (pc' := 92) rfl ?_
  refine x_aload_n C0 dX2_init_92 rfl 1 rfl ?_
  refine y_new C0 inu1 tyX1 tyX1_ok mw_65 mw_67 mw_46 (ci := 1) rfl (fs := [.int 0, .int 0, .null, .int 0]) (fun j hj => by rcases (show j = 0 ∨ j = 1 ∨ j = 2 ∨ j = 3 by omega) with rfl | rfl | rfl | rfl <;> rfl) ⟨Nat.le_of_ble_eq_true rfl, Nat.le_of_ble_eq_true rfl⟩ dX2_init_93 (fun ad5 h5 C0 => ?_)
  obtain ⟨q45, f45⟩ : ∃ q, ad5 45 = q := ⟨_, rfl⟩
  refine x_top (v' := .ref q45) (congrArg Value.ref f45) ?_
  refine x_dup C0 dX2_init_96 rfl ?_
  refine x_pc (pc' := 97) rfl ?_
  refine x_bipush C0 (v := nI 12) dX2_init_97 rfl ?_
  refine x_iconst C0 (v := nI 5) dX2_init_99 rfl ?_
  refine y_callN (As := [.int (nI 12), .int (nI 5)]) C0 hO (c_X1_init (cap := 12) (c9 := 5) (by decide) (by decide) (by decide) (by decide)) mw_68 mw_69 mw_46 mw_70 rfl hd_yX1_init ⟨rfl, rfl, Nat.le_of_ble_eq_true rfl, Nat.le_of_ble_eq_true rfl⟩ rfl ⟨Nat.le_of_ble_eq_true rfl, Nat.le_of_ble_eq_true rfl⟩ (Nat.le_of_ble_eq_true rfl) f45 va_up_eq (by decide) dX2_init_100 (fun ad6 h6 b6 C0 => ?_)
  have ag : ∀ j, j < 45 → ad6 j = ad j := fun j hj => (h6 j hj).trans (h5 j hj)
  have a0 : ad6 0 = h0 := (ag 0 (by decide)).trans a0
  refine x_pc (pc' := 103) rfl ?_
  refine y_putF C0 hin inu2 tyX2 tyX2_ok nmX2 rfl 3 (by decide) mw_179 rfl rfl rfl rfl (r := 0) (by decide) a0 (fs := [.ref q1, .ref q18, .ref q20, .null, .int 0, .int 0, .int 0, .int 0, .int 0, .int 0, .int 0, .int 0, .int 0]) rfl (Nat.le_of_ble_eq_true rfl) dX2_init_103 (fun C0 => ?_)
  refine x_congr (wf' := y_k (va_up (wfS cs ad6 sI) 0 (.inr (2, [.ref q1, .ref q18, .ref q20, .ref q45, .int 0, .int 0, .int 0, .int 0, .int 0, .int 0, .int 0, .int 0, .int 0])))) (σ' := x_z) (fun r hr => ?_) ?_
  · by_cases r0 : r = 0
    · subst r0
      rfl
    · simp only [y_k]
      rw [va_up_off r0, va_up_off r0]
      by_cases r45 : r < 45
      · rw [if_pos r45, va_up_off (by omega)]
        unfold wH2
        rw [if_neg r0]
        by_cases r20 : r = 20
        · rw [if_pos r20, r20, wI_20]
          congr 1
          funext j
          by_cases q : j < 6
          · rw [if_pos q, if_pos q, ag _ (by omega)]
          · rw [if_neg q, if_neg q]
        · rw [if_neg r20]
          by_cases r3 : r < 21
          · exact wI_ad ag (fun k b hb => Nat.lt_of_lt_of_le (gr_lo r r3 r0 r20 k b hb) (by omega))
          · obtain ⟨t, x, hx, rfl⟩ : ∃ t x, x < 4 ∧ r = 21 + 4 * t + x := ⟨(r - 21) / 4, (r - 21) % 4, Nat.mod_lt _ (by decide), by omega⟩
            rw [wI_H (by omega) hx, wI_H (by omega) hx]
            have e1 : ad6 (21 + 4 * t + 1) = ad (21 + 4 * t + 1) := ag _ (by omega)
            have e2 : ad6 (21 + 4 * t + 2) = ad (21 + 4 * t + 2) := ag _ (by omega)
            have e3 : ad6 (21 + 4 * t + 3) = ad (21 + 4 * t + 3) := ag _ (by omega)
            unfold shX0 wfB
            simp only [e1, e2, e3]
      · rw [if_neg r45]
        rcases (show r = 45 ∨ r = 46 by omega) with rfl | rfl
        · rw [wI_45]
          rfl
        · rw [wI_46]
          rfl
  have C0 := C0.re (y_loc (va_up (wfS cs ad6 sI) 0 (.inr (2, [.ref q1, .ref q18, .ref q20, .ref q45, .int 0, .int 0, .int 0, .int 0, .int 0, .int 0, .int 0, .int 0, .int 0]))))
  have a1 : ad6 1 = q1 := (ag 1 (by decide)).trans a1
  have a18 : ad6 18 = q18 := (ag 18 (by decide)).trans a18
  have a20 : ad6 20 = q20 := (ag 20 (by decide)).trans a20
  clear ag h5 h6 f45
  refine x_pc (pc' := 106) rfl ?_
  refine x_aload_n C0 dX2_init_106 rfl 1 rfl ?_
  refine x_iconst C0 (v := 4) dX2_init_107 (by decide) ?_
  refine y_put C0 inu2 tyX2 tyX2_ok nmX2 rfl 4 (by decide) mw_181 rfl rfl rfl (r := 0) (by decide) a0 (fs := [.ref q1, .ref q18, .ref q20, .ref q45, .int 0, .int 0, .int 0, .int 0, .int 0, .int 0, .int 0, .int 0, .int 0]) rfl (Nat.le_of_ble_eq_true rfl) dX2_init_108 (fun C0 => ?_)
  refine x_pc (pc' := 111) rfl ?_
  refine x_aload_n C0 dX2_init_111 rfl 1 rfl ?_
  refine x_iconst C0 (v := 2) dX2_init_112 (by decide) ?_
  refine y_put C0 inu2 tyX2 tyX2_ok nmX2 rfl 5 (by decide) mw_183 rfl rfl rfl (r := 0) (by decide) a0 (fs := [.ref q1, .ref q18, .ref q20, .ref q45, .int 4, .int 0, .int 0, .int 0, .int 0, .int 0, .int 0, .int 0, .int 0]) rfl (Nat.le_of_ble_eq_true rfl) dX2_init_113 (fun C0 => ?_)
  refine x_pc (pc' := 116) rfl ?_
  refine x_aload_n C0 dX2_init_116 rfl 1 rfl ?_
  refine x_iconst C0 (v := 0) dX2_init_117 (by decide) ?_
  refine y_put C0 inu2 tyX2 tyX2_ok nmX2 rfl 6 (by decide) mw_185 rfl rfl rfl (r := 0) (by decide) a0 (fs := [.ref q1, .ref q18, .ref q20, .ref q45, .int 4, .int 2, .int 0, .int 0, .int 0, .int 0, .int 0, .int 0, .int 0]) rfl (Nat.le_of_ble_eq_true rfl) dX2_init_118 (fun C0 => ?_)
  refine x_pc (pc' := 121) rfl ?_
  refine x_aload_n C0 dX2_init_121 rfl 1 rfl ?_
  refine x_iconst C0 (v := 3) dX2_init_122 (by decide) ?_
  refine y_put C0 inu2 tyX2 tyX2_ok nmX2 rfl 7 (by decide) mw_187 rfl rfl rfl (r := 0) (by decide) a0 (fs := [.ref q1, .ref q18, .ref q20, .ref q45, .int 4, .int 2, .int 0, .int 0, .int 0, .int 0, .int 0, .int 0, .int 0]) rfl (Nat.le_of_ble_eq_true rfl) dX2_init_123 (fun C0 => ?_)
  refine x_pc (pc' := 126) rfl ?_
  refine x_aload_n C0 dX2_init_126 rfl 1 rfl ?_
  refine x_iconst C0 (v := 0) dX2_init_127 (by decide) ?_
  refine y_put C0 inu2 tyX2 tyX2_ok nmX2 rfl 8 (by decide) mw_189 rfl rfl rfl (r := 0) (by decide) a0 (fs := [.ref q1, .ref q18, .ref q20, .ref q45, .int 4, .int 2, .int 0, .int 3, .int 0, .int 0, .int 0, .int 0, .int 0]) rfl (Nat.le_of_ble_eq_true rfl) dX2_init_128 (fun C0 => ?_)
  refine x_pc (pc' := 131) rfl ?_
  refine x_aload_n C0 dX2_init_131 rfl 1 rfl ?_
  refine x_iconst C0 (v := 0) dX2_init_132 (by decide) ?_
  refine y_put C0 inu2 tyX2 tyX2_ok nmX2 rfl 9 (by decide) mw_191 rfl rfl rfl (r := 0) (by decide) a0 (fs := [.ref q1, .ref q18, .ref q20, .ref q45, .int 4, .int 2, .int 0, .int 3, .int 0, .int 0, .int 0, .int 0, .int 0]) rfl (Nat.le_of_ble_eq_true rfl) dX2_init_133 (fun C0 => ?_)
  refine x_pc (pc' := 136) rfl ?_
  refine x_aload_n C0 dX2_init_136 rfl 1 rfl ?_
  refine x_iconst C0 (v := 0) dX2_init_137 (by decide) ?_
  refine y_put C0 inu2 tyX2 tyX2_ok nmX2 rfl 10 (by decide) mw_193 rfl rfl rfl (r := 0) (by decide) a0 (fs := [.ref q1, .ref q18, .ref q20, .ref q45, .int 4, .int 2, .int 0, .int 3, .int 0, .int 0, .int 0, .int 0, .int 0]) rfl (Nat.le_of_ble_eq_true rfl) dX2_init_138 (fun C0 => ?_)
  refine x_pc (pc' := 141) rfl ?_
  refine x_aload_n C0 dX2_init_141 rfl 1 rfl ?_
  refine x_iconst C0 (v := 0) dX2_init_142 (by decide) ?_
  refine y_put C0 inu2 tyX2 tyX2_ok nmX2 rfl 11 (by decide) mw_195 rfl rfl rfl (r := 0) (by decide) a0 (fs := [.ref q1, .ref q18, .ref q20, .ref q45, .int 4, .int 2, .int 0, .int 3, .int 0, .int 0, .int 0, .int 0, .int 0]) rfl (Nat.le_of_ble_eq_true rfl) dX2_init_143 (fun C0 => ?_)
  refine x_pc (pc' := 146) rfl ?_
  refine x_aload_n C0 dX2_init_146 rfl 1 rfl ?_
  refine x_iconst C0 (v := 0) dX2_init_147 (by decide) ?_
  refine y_put C0 inu2 tyX2 tyX2_ok nmX2 rfl 12 (by decide) mw_197 rfl rfl rfl (r := 0) (by decide) a0 (fs := [.ref q1, .ref q18, .ref q20, .ref q45, .int 4, .int 2, .int 0, .int 3, .int 0, .int 0, .int 0, .int 0, .int 0]) rfl (Nat.le_of_ble_eq_true rfl) dX2_init_148 (fun C0 => ?_)
  refine x_pc (pc' := 151) rfl ?_
  refine y_vret C0 a0 (fun r hr => ?_) dX2_init_151
  by_cases r0 : r = 0
  · subst r0
    show (Sum.inr (2, [.ref q1, .ref q18, .ref q20, .ref q45, .int 4, .int 2, .int 0, .int 3, .int 0, .int 0, .int 0, .int 0, .int 0]) : va_E) = Sum.inr (2, [.ref (ad6 1), .ref (ad6 18), .ref (ad6 20), .ref (ad6 45), .int 4, .int 2, .int 0, .int 3, .int 0, .int 0, .int 0, .int 0, .int 0])
    have b45 : ad6 45 = q45 := b6
    rw [a1, a18, a20, b45]
  · simp only [y_k]
    rw [va_up_off r0, va_up_off r0, va_up_off r0, va_up_off r0, va_up_off r0, va_up_off r0, va_up_off r0, va_up_off r0, va_up_off r0, va_up_off r0]
    rfl
