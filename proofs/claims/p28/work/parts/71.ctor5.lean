/-! a State's constructor: the helpers, the end *)  -/
section YS
variable {p : Program} {l : Launch} {e : Env} {R : Room} {s : State} {m : MethodId} {args : Array Value} {below : List Frame} {meth : Method} {c : Code} {D : va_G} {A : Nat → Prop} {H0 : Heap} {cs : Nat → ClassId} {Q : State → Prop} {h0 q1 q18 q20 : Nat}
/-- the references of the cells ahead of the helpers lie ahead of them *)  -/
theorem gr_lo : ∀ r, r < 21 → r ≠ 0 → r ≠ 20 → ∀ k b, gr r k = some b → b < 20 := by
  intro r hr h0 h20 k b h
  have d : ∀ r, r < 20 → r ≠ 0 → r ≠ 1 → (kd r = 1 ∧ r + 1 < 20) ∨ kd r = 7 := by decide
  by_cases h1 : r = 1
  · subst h1
    rw [gr1] at h
    split at h
    · cases h
      omega
    · cases h
  · rcases d r (by omega) h0 h1 with ⟨e, e2⟩ | e
    · unfold gr at h
      rw [e, if_neg (by decide), if_neg (by decide), if_pos rfl] at h
      split at h
      · cases h
        exact e2
      · cases h
    · unfold gr at h
      rw [e, if_neg (by decide), if_neg (by decide), if_neg (by decide), if_neg (by decide), if_neg (by decide)] at h
      cases h
set_option maxRecDepth 8000 in
set_option maxHeartbeats 4000000 in
theorem c_X2_loop2 (hR : R.frames = 3 ∧ R.cells = 46 ∧ R.slots = 466 ∧ R.locals = 70) (hO : y_O s) (Kend : ∀ ad : Nat → Nat, ad 0 = h0 → ad 1 = q1 → ad 18 = q18 → ad 20 = q20 → x_C p s m args meth c D vwCl (xtys cs) A H0 45 ad (y_k (wH2 cs q1 q18 q20 ad 6)) cX2_init 2 RX2 none → x_W p l e R s m args below meth c D vwCl A H0 45 ad (y_k (wH2 cs q1 q18 q20 ad 6)) 2 44 402 Q x_z 92 [(1, .int (nI 6)), (0, .ref h0)] []) : ∀ (f i : Nat) (ad : Nat → Nat), i ≤ 6 → 6 - i < f → ad 0 = h0 → ad 1 = q1 → ad 18 = q18 → ad 20 = q20 → x_C p s m args meth c D vwCl (xtys cs) A H0 (21 + 4 * i) ad (y_k (wH2 cs q1 q18 q20 ad i)) cX2_init 2 RX2 none → x_W p l e R s m args below meth c D vwCl A H0 (21 + 4 * i) ad (y_k (wH2 cs q1 q18 q20 ad i)) 2 (20 + 4 * i) (162 + 40 * i) Q x_z 67 [(1, .int (nI i)), (0, .ref h0)] [] := by
  obtain ⟨hR1, hR2, hR3, hR4⟩ := hR
  intro f
  induction f with
  | zero => intro i ad _ h; omega
  | succ f ih =>
    intro i ad hi hf a0 a1 a18 a20 C0
    refine x_pc (pc' := 67) rfl ?_
    refine x_iload_n C0 dX2_init_67 rfl 0 rfl ?_
    refine x_bipush C0 (v := 6) dX2_init_68 (by decide) ?_
    refine x_icmp_ge C0 (tgt := 92) dX2_init_70 (by decide) (a := ()) (b := ()) (res := ()) (by split <;> rfl) (fun c9 _ => ?_) (fun c9 _ => ?_)
    · have hi6 : i < 6 := (nI_ltI (b := 6) (by omega) (by decide)).mp c9
      refine x_pc (pc' := 73) rfl ?_
      refine x_aload_n C0 dX2_init_73 rfl 1 rfl ?_
      refine y_get C0 inu2 rfl 2 (by decide) mw_178 (r := 0) (by omega) a0 (fs := [.ref q1, .ref q18, .ref q20, .null, .int 0, .int 0, .int 0, .int 0, .int 0, .int 0, .int 0, .int 0, .int 0]) rfl rfl dX2_init_74 ?_
      refine x_iload_n C0 dX2_init_77 rfl 0 rfl ?_
      refine x_pc (pc' := 78) rfl ?_
      refine y_new C0 inu0 tyX0 tyX0_ok mw_92 mw_94 mw_48 (ci := 0) rfl (fs := [.null, .null, .int 0, .int 0, .int 0, .int 0, .int 0, .int 0, .int 0, .int 0, .int 0, .int 0, .int 0, .int 0, .int 0, .int 0]) (fun j hj => by rcases (show j = 0 ∨ j = 1 ∨ j = 2 ∨ j = 3 ∨ j = 4 ∨ j = 5 ∨ j = 6 ∨ j = 7 ∨ j = 8 ∨ j = 9 ∨ j = 10 ∨ j = 11 ∨ j = 12 ∨ j = 13 ∨ j = 14 ∨ j = 15 by omega) with rfl | rfl | rfl | rfl | rfl | rfl | rfl | rfl | rfl | rfl | rfl | rfl | rfl | rfl | rfl | rfl <;> rfl) ⟨by rw [hR2]; omega, by rw [hR3]; omega⟩ dX2_init_78 (fun ad1 h1 C0 => ?_)
      obtain ⟨q9, f9⟩ : ∃ q, ad1 (21 + 4 * i) = q := ⟨_, rfl⟩
      refine x_top (v' := .ref q9) (congrArg Value.ref f9) ?_
      refine x_dup C0 dX2_init_81 rfl ?_
      refine y_callN (As := []) C0 hO c_X0_init mw_95 mw_96 mw_48 mw_97 rfl hd_yX0_init ⟨rfl, rfl, by rw [hR1]; decide, by rw [hR4]; decide⟩ rfl ⟨by rw [hR2]; omega, by rw [hR3]; omega⟩ (Nat.le_of_ble_eq_true rfl) f9 va_up_eq (by decide) dX2_init_82 (fun ad2 h2 b2 C0 => ?_)
      have ag : ∀ j, j < 21 + 4 * i → ad2 j = ad j := fun j hj => (h2 j hj).trans (h1 j hj)
      have a0' : ad2 0 = h0 := (ag 0 (by omega)).trans a0
      have a1' : ad2 1 = q1 := (ag 1 (by omega)).trans a1
      have a18' : ad2 18 = q18 := (ag 18 (by omega)).trans a18
      have a20' : ad2 20 = q20 := (ag 20 (by omega)).trans a20
      refine x_pc (pc' := 85) rfl ?_
      have hv : ∃ vs, shX0 cs (fun a => ad2 (21 + 4 * i + a)) 0 = .inr (0, vs) := ⟨_, rfl⟩
      obtain ⟨vs9, hv9⟩ := hv
      refine y_aast C0 2 rfl (r := 20) (rv := 21 + 4 * i) (by omega) (by omega) a20' b2 (nn := 6) (f := fun j => if j < i then some (ad (21 + 4 * j)) else none) (by rw [if_pos (by omega), va_up_off (by omega)]; rfl) (vs := vs9) (ci := 0) (by rw [if_neg (by omega), Nat.sub_self]; exact hv9) rfl (by rw [oob (by omega)]; omega) dX2_init_85 (fun C0 => ?_)
      refine x_iinc C0 (v := 1) (L' := [(1, .int (nI (i + 1))), (0, .ref h0)]) dX2_init_86 0 rfl (by decide) (by decide) (by rw [nI_1]; rfl) ?_
      refine x_goto C0 (tgt := 67) dX2_init_89 (by decide) ?_
      have cg : ∀ r, r < 21 + 4 * (i + 1) → va_up (fun r => if r < 21 + 4 * i then va_up (wH2 cs q1 q18 q20 ad i) (21 + 4 * i) (.inr (0, [.null, .null, .int 0, .int 0, .int 0, .int 0, .int 0, .int 0, .int 0, .int 0, .int 0, .int 0, .int 0, .int 0, .int 0, .int 0])) r else shX0 cs (fun a => ad2 (21 + 4 * i + a)) (r - (21 + 4 * i))) 20 (rfq (cs 2) 6 (va_up (fun j => if j < i then some (ad (21 + 4 * j)) else none) (nI i).toNatClampNeg (some q9))) r = wH2 cs q1 q18 q20 ad2 (i + 1) r := by
        intro r hr
        by_cases r1 : r = 20
        · subst r1
          rw [va_up_eq, nI_clamp (by omega)]
          unfold wH2
          rw [if_neg (by decide), if_pos rfl]
          congr 1
          funext j
          by_cases q : j = i
          · subst q
            rw [va_up_eq, if_pos (Nat.lt_succ_self _), b2]
          · rw [va_up_off q]
            by_cases q2 : j < i
            · rw [if_pos q2, if_pos (by omega), ag _ (by omega)]
            · rw [if_neg q2, if_neg (by omega)]
        · rw [va_up_off r1]
          by_cases r2 : r < 21 + 4 * i
          · rw [if_pos r2, va_up_off (by omega)]
            unfold wH2
            by_cases r0 : r = 0
            · rw [if_pos r0, if_pos r0]
            · rw [if_neg r0, if_neg r1, if_neg r0, if_neg r1]
              by_cases r3 : r < 21
              · exact wI_ad ag (fun k b hb => Nat.lt_of_lt_of_le (gr_lo r r3 r0 r1 k b hb) (by omega))
              · obtain ⟨t, x, hx, rfl⟩ : ∃ t x, x < 4 ∧ r = 21 + 4 * t + x := ⟨(r - 21) / 4, (r - 21) % 4, Nat.mod_lt _ (by decide), by omega⟩
                rw [wI_H (by omega) hx, wI_H (by omega) hx]
                have e1 : ad2 (21 + 4 * t + 1) = ad (21 + 4 * t + 1) := ag _ (by omega)
                have e2 : ad2 (21 + 4 * t + 2) = ad (21 + 4 * t + 2) := ag _ (by omega)
                have e3 : ad2 (21 + 4 * t + 3) = ad (21 + 4 * t + 3) := ag _ (by omega)
                unfold shX0 wfB
                simp only [e1, e2, e3]
          · rw [if_neg r2]
            unfold wH2
            rw [if_neg (by omega), if_neg r1]
            obtain ⟨x, hx, rfl⟩ : ∃ x, x < 4 ∧ r = 21 + 4 * i + x := ⟨r - (21 + 4 * i), by omega, by omega⟩
            rw [wI_H hi6 hx, Nat.add_sub_cancel_left]
      refine x_congr (wf' := y_k (wH2 cs q1 q18 q20 ad2 (i + 1))) (σ' := x_z) (fun r hr => cg r (by omega)) ?_
      have en : 21 + 4 * i + 4 = 21 + 4 * (i + 1) := by omega
      refine x_eq en (kc' := 20 + 4 * (i + 1)) (ks' := 162 + 40 * (i + 1)) (by omega) (by omega) ?_
      have C1 := C0.re (y_loc (wH2 cs q1 q18 q20 ad2 (i + 1)))
      rw [en] at C1
      exact ih (i + 1) ad2 hi6 (by omega) a0' a1' a18' a20' C1
    · have e6 : i = 6 := by
        have : ¬ i < 6 := fun h => c9 ((nI_ltI (a := i) (b := 6) (by omega) (by decide)).mpr h)
        omega
      subst e6
      exact Kend ad a0 a1 a18 a20 C0
end YS
