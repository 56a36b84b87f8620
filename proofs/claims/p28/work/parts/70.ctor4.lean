/-! a State's constructor *)  -/
def sI : xM := fun r k => if r = 0 then (if k = 4 then 4 else if k = 5 then 2 else if k = 7 then 3 else 0) else if r < 18 then (if r % 2 = 0 then (if k = 0 then 4 else if k = 1 then 3 else 0) else 0) else if r = 18 then (if k = 0 then 8 else if k = 1 then 2 else 0) else if 21 ≤ r ∧ r < 45 then (if (r - 21) % 4 = 0 then (if k = 4 then 1 else if k = 5 then 1 else 0) else if (r - 21) % 4 = 1 then (if k = 0 then 4 else if k = 1 then 4 else 0) else 0) else if r = 45 then (if k = 0 then 12 else if k = 1 then 5 else 0) else 0
theorem sI_S : ∀ s, s < 8 → kd (2 + 2 * s) = 1 ∧ gr (2 + 2 * s) 2 = some (3 + 2 * s) ∧ sI (2 + 2 * s) 0 = nI 4 ∧ sI (2 + 2 * s) 1 = nI 3 ∧ sI (2 + 2 * s) 3 = 0 ∧ kd (3 + 2 * s) = 7 ∧ ln (3 + 2 * s) = 12 := by decide
theorem sI_H : ∀ h, h < 6 → kd (21 + 4 * h) = 0 ∧ gr (21 + 4 * h) 0 = some (22 + 4 * h) ∧ gr (21 + 4 * h) 1 = some (24 + 4 * h) ∧ (∀ k, k < 16 → sI (21 + 4 * h) k = F_B tau0 0 1 1 0 k) ∧ kd (22 + 4 * h) = 1 ∧ gr (22 + 4 * h) 2 = some (23 + 4 * h) ∧ sI (22 + 4 * h) 0 = 4 ∧ sI (22 + 4 * h) 1 = 4 ∧ sI (22 + 4 * h) 3 = 0 ∧ kd (23 + 4 * h) = 7 ∧ ln (23 + 4 * h) = 16 ∧ kd (24 + 4 * h) = 7 ∧ ln (24 + 4 * h) = 4 := by decide +kernel
theorem sI_0 {r : Nat} (h : kd r = 7) (hr : r < 47) : sI r = fun _ => 0 := by
  funext k
  have d : ∀ r, r < 47 → kd r = 7 → (r ≠ 0 ∧ (18 ≤ r ∨ r % 2 ≠ 0) ∧ r ≠ 18 ∧ (r < 21 ∨ 45 ≤ r ∨ (r - 21) % 4 ≠ 0 ∧ (r - 21) % 4 ≠ 1) ∧ r ≠ 45) := by decide
  obtain ⟨d1, d2, d3, d4, d5⟩ := d r hr h
  unfold sI
  rw [if_neg d1]
  by_cases c1 : r < 18
  · rw [if_pos c1, if_neg (by omega)]
  · rw [if_neg c1, if_neg d3]
    by_cases c2 : 21 ≤ r ∧ r < 45
    · rw [if_pos c2, if_neg (by omega), if_neg (by omega)]
    · rw [if_neg c2, if_neg d5]
theorem wI_7 {cs : Nat → ClassId} {ad : Nat → Nat} {r : Nat} (h : kd r = 7) (hr : r < 47) : wfS cs ad sI r = .inl (cs 1, ln r, .inl (fun _ => 0)) := by
  rw [wfS_7 h, sI_0 h hr]
theorem wI_S {cs : Nat → ClassId} {ad : Nat → Nat} {s : Nat} (hs : s < 8) : wfS cs ad sI (2 + 2 * s) = .inr (1, [.int (nI 4), .int (nI 3), .ref (ad (3 + 2 * s)), .int 0]) := by
  obtain ⟨e1, e2, e3, e4, e5, -⟩ := sI_S s hs
  rw [wfS_1 e1, e2, e3, e4, e5]
  rfl
theorem wI_s {cs : Nat → ClassId} {ad : Nat → Nat} {s : Nat} (hs : s < 8) : wfS cs ad sI (3 + 2 * s) = .inl (cs 1, 12, .inl (fun _ => 0)) := by
  obtain ⟨-, -, -, -, -, e6, e7⟩ := sI_S s hs
  rw [wI_7 e6 (by omega), e7]
theorem wI_H {cs : Nat → ClassId} {ad : Nat → Nat} {h r : Nat} (hh : h < 6) (hr : r < 4) : wfS cs ad sI (21 + 4 * h + r) = shX0 cs (fun a => ad (21 + 4 * h + a)) r := by
  obtain ⟨e1, e2, e3, e4, e5, e6, e7, e8, e9, f1, f2, f3, f4⟩ := sI_H h hh
  rcases (show r = 0 ∨ r = 1 ∨ r = 2 ∨ r = 3 by omega) with rfl | rfl | rfl | rfl
  · rw [Nat.add_zero, wfS_0 e1, e2, e3]
    simp only [e4 _ (show 2 < 16 by decide), e4 _ (show 3 < 16 by decide), e4 _ (show 4 < 16 by decide), e4 _ (show 5 < 16 by decide), e4 _ (show 6 < 16 by decide), e4 _ (show 7 < 16 by decide), e4 _ (show 8 < 16 by decide), e4 _ (show 9 < 16 by decide), e4 _ (show 10 < 16 by decide), e4 _ (show 11 < 16 by decide), e4 _ (show 12 < 16 by decide), e4 _ (show 13 < 16 by decide), e4 _ (show 14 < 16 by decide), e4 _ (show 15 < 16 by decide)]
    show (Sum.inr (0, Value.ref (ad (22 + 4 * h)) :: Value.ref (ad (24 + 4 * h)) :: _) : va_E) = Sum.inr (0, Value.ref (ad (21 + 4 * h + 1)) :: Value.ref (ad (21 + 4 * h + 3)) :: _)
    rw [show 21 + 4 * h + 1 = 22 + 4 * h by omega, show 21 + 4 * h + 3 = 24 + 4 * h by omega]
  · rw [show 21 + 4 * h + 1 = 22 + 4 * h by omega, wfS_1 e5, e6, e7, e8, e9]
    show (Sum.inr (1, [.int 4, .int 4, .ref (ad (23 + 4 * h)), .int 0]) : va_E) = Sum.inr (1, [.int 4, .int 4, .ref (ad (21 + 4 * h + 2)), .int 0])
    rw [show 21 + 4 * h + 2 = 23 + 4 * h by omega]
  · rw [show 21 + 4 * h + 2 = 23 + 4 * h by omega, wI_7 f1 (by omega), f2]
    rfl
  · rw [show 21 + 4 * h + 3 = 24 + 4 * h by omega, wI_7 f3 (by omega), f4]
    rfl
def rfq (cA : ClassId) (n : Nat) (f : Nat → Option Nat) : va_E := .inl (cA, n, .inr (.inr (.inr (.inr f))))
theorem gr1 : ∀ k, (gr 1 k) = if k < 8 then some (2 + 2 * k) else none := fun k => by
  show (if kd 1 = 2 then _ else _) = _
  rw [if_neg (by decide), if_pos (by decide)]
theorem gr20 : ∀ k, (gr 20 k) = if k < 6 then some (21 + 4 * k) else none := fun k => by
  show (if kd 20 = 2 then _ else _) = _
  rw [if_neg (by decide), if_neg (by decide), if_neg (by decide), if_pos (by decide)]
theorem wI_1 {cs : Nat → ClassId} {ad : Nat → Nat} : wfS cs ad sI 1 = rfq (cs 3) 8 (fun j => if j < 8 then some (ad (2 + 2 * j)) else none) := by
  rw [wfS_9 (by decide)]
  unfold rfq
  congr 7
  funext j
  rw [gr1]
  by_cases q : j < 8
  · rw [if_pos q, if_pos q]
    rfl
  · rw [if_neg q, if_neg q]
    rfl
theorem wI_20 {cs : Nat → ClassId} {ad : Nat → Nat} : wfS cs ad sI 20 = rfq (cs 2) 6 (fun j => if j < 6 then some (ad (21 + 4 * j)) else none) := by
  rw [wfS_8 (by decide)]
  unfold rfq
  congr 7
  funext j
  rw [gr20]
  by_cases q : j < 6
  · rw [if_pos q, if_pos q]
    rfl
  · rw [if_neg q, if_neg q]
    rfl
theorem wI_18 {cs : Nat → ClassId} {ad : Nat → Nat} : wfS cs ad sI 18 = .inr (1, [.int (nI 8), .int (nI 2), .ref (ad 19), .int 0]) := rfl
theorem wI_19 {cs : Nat → ClassId} {ad : Nat → Nat} : wfS cs ad sI 19 = .inl (cs 1, 8 * 2, .inl (fun _ => 0)) := wI_7 (r := 19) rfl (by decide)
theorem wI_45 {cs : Nat → ClassId} {ad : Nat → Nat} : wfS cs ad sI 45 = .inr (1, [.int (nI 12), .int (nI 5), .ref (ad 46), .int 0]) := rfl
theorem wI_46 {cs : Nat → ClassId} {ad : Nat → Nat} : wfS cs ad sI 46 = .inl (cs 1, 12 * 5, .inl (fun _ => 0)) := wI_7 (r := 46) rfl (by decide)
/-- what a cell holds doesn't change with new addresses *)  -/
theorem wI_ad {cs : Nat → ClassId} {ad ad' : Nat → Nat} {n r : Nat} (h : ∀ j, j < n → ad' j = ad j) (hr : ∀ k b, gr r k = some b → b < n) : wfS cs ad sI r = wfS cs ad' sI r := by
  have e : ∀ k, (gr r k).map ad' = (gr r k).map ad := fun k => by
    cases hk : gr r k with
    | none => rfl
    | some b =>
      show some (ad' b) = some (ad b)
      rw [h b (hr k b hk)]
  unfold wfS
  simp only [e]
def eX2 : va_E := .inr (2, [.null, .null, .null, .null, .int 0, .int 0, .int 0, .int 0, .int 0, .int 0, .int 0, .int 0, .int 0])
def shX2 (cs : Nat → ClassId) (ad : Nat → Nat) (r : Nat) : va_E := wfS cs ad sI r
def wSt (cs : Nat → ClassId) (q1 : Nat) (ad : Nat → Nat) (i : Nat) (r : Nat) : va_E := if r = 0 then .inr (2, [.ref q1, .null, .null, .null, .int 0, .int 0, .int 0, .int 0, .int 0, .int 0, .int 0, .int 0, .int 0]) else if r = 1 then rfq (cs 3) 8 (fun j => if j < i then some (ad (2 + 2 * j)) else none) else wfS cs ad sI r
def wH2 (cs : Nat → ClassId) (q1 q18 q20 : Nat) (ad : Nat → Nat) (i : Nat) (r : Nat) : va_E := if r = 0 then .inr (2, [.ref q1, .ref q18, .ref q20, .null, .int 0, .int 0, .int 0, .int 0, .int 0, .int 0, .int 0, .int 0, .int 0]) else if r = 20 then rfq (cs 2) 6 (fun j => if j < i then some (ad (21 + 4 * j)) else none) else wfS cs ad sI r
section YS
variable {p : Program} {l : Launch} {e : Env} {R : Room} {s : State} {m : MethodId} {args : Array Value} {below : List Frame} {meth : Method} {c : Code} {D : va_G} {A : Nat → Prop} {H0 : Heap} {cs : Nat → ClassId} {Q : State → Prop} {h0 q1 q18 q20 : Nat}
theorem x_eq {cl : List vw_C} {n n' kc kc' ks ks' : Nat} {ad : Nat → Nat} {wf : xM → Nat → va_E} {nL : Nat} {σ : xM} {pc : Nat} {L : List (Nat × Value)} {st : List Value} (h1 : n = n') (h2 : kc = kc') (h3 : ks = ks') (K : x_W p l e R s m args below meth c D cl A H0 n' ad wf nL kc' ks' Q σ pc L st) : x_W p l e R s m args below meth c D cl A H0 n ad wf nL kc ks Q σ pc L st := by
  subst h1
  subst h2
  subst h3
  exact K
set_option maxRecDepth 8000 in
set_option maxHeartbeats 4000000 in
theorem c_X2_loop1 (hR : R.frames = 3 ∧ R.cells = 46 ∧ R.slots = 466 ∧ R.locals = 70) (hO : y_O s) (Kend : ∀ ad : Nat → Nat, ad 0 = h0 → ad 1 = q1 → x_C p s m args meth c D vwCl (xtys cs) A H0 18 ad (y_k (wSt cs q1 ad 8)) cX2_init 2 RX2 none → x_W p l e R s m args below meth c D vwCl A H0 18 ad (y_k (wSt cs q1 ad 8)) 2 17 136 Q x_z 42 [(1, .int (nI 8)), (0, .ref h0)] []) : ∀ (f i : Nat) (ad : Nat → Nat), i ≤ 8 → 8 - i < f → ad 0 = h0 → ad 1 = q1 → x_C p s m args meth c D vwCl (xtys cs) A H0 (2 + 2 * i) ad (y_k (wSt cs q1 ad i)) cX2_init 2 RX2 none → x_W p l e R s m args below meth c D vwCl A H0 (2 + 2 * i) ad (y_k (wSt cs q1 ad i)) 2 (1 + 2 * i) (8 + 16 * i) Q x_z 15 [(1, .int (nI i)), (0, .ref h0)] [] := by
  obtain ⟨hR1, hR2, hR3, hR4⟩ := hR
  intro f
  induction f with
  | zero => intro i ad _ h; omega
  | succ f ih =>
    intro i ad hi hf a0 a1 C0
    refine x_pc (pc' := 15) rfl ?_
    refine x_iload_n C0 dX2_init_15 rfl 0 rfl ?_
    refine x_bipush C0 (v := 8) dX2_init_16 (by decide) ?_
    refine x_icmp_ge C0 (tgt := 42) dX2_init_18 (by decide) (a := ()) (b := ()) (res := ()) (by split <;> rfl) (fun c9 _ => ?_) (fun c9 _ => ?_)
    · have hi8 : i < 8 := (nI_ltI (b := 8) (by omega) (by decide)).mp c9
      refine x_pc (pc' := 21) rfl ?_
      refine x_aload_n C0 dX2_init_21 rfl 1 rfl ?_
      refine y_get C0 inu2 rfl 0 (by decide) mw_175 (r := 0) (by omega) a0 (fs := [.ref q1, .null, .null, .null, .int 0, .int 0, .int 0, .int 0, .int 0, .int 0, .int 0, .int 0, .int 0]) rfl rfl dX2_init_22 ?_
      refine x_iload_n C0 dX2_init_25 rfl 0 rfl ?_
      refine x_pc (pc' := 26) rfl ?_
      refine y_new C0 inu1 tyX1 tyX1_ok mw_65 mw_67 mw_46 (ci := 1) rfl (fs := [.int 0, .int 0, .null, .int 0]) (fun j hj => by rcases (show j = 0 ∨ j = 1 ∨ j = 2 ∨ j = 3 by omega) with rfl | rfl | rfl | rfl <;> rfl) ⟨by rw [hR2]; omega, by rw [hR3]; omega⟩ dX2_init_26 (fun ad1 h1 C0 => ?_)
      obtain ⟨q9, f9⟩ : ∃ q, ad1 (2 + 2 * i) = q := ⟨_, rfl⟩
      refine x_top (v' := .ref q9) (congrArg Value.ref f9) ?_
      refine x_dup C0 dX2_init_29 rfl ?_
      refine x_iconst C0 (v := nI 4) dX2_init_30 rfl ?_
      refine x_pc (pc' := 31) rfl ?_
      refine x_iconst C0 (v := nI 3) dX2_init_31 rfl ?_
      refine y_callN (As := [.int (nI 4), .int (nI 3)]) C0 hO (c_X1_init (cap := 4) (c9 := 3) (by decide) (by decide) (by decide) (by decide)) mw_68 mw_69 mw_46 mw_70 rfl hd_yX1_init ⟨rfl, rfl, by rw [hR1]; decide, by rw [hR4]; decide⟩ rfl ⟨by rw [hR2]; omega, by rw [hR3]; omega⟩ (Nat.le_of_ble_eq_true rfl) f9 va_up_eq (by decide) dX2_init_32 (fun ad2 h2 b2 C0 => ?_)
      have a0' : ad2 0 = h0 := (h2 0 (by omega)).trans ((h1 0 (by omega)).trans a0)
      have a1' : ad2 1 = q1 := (h2 1 (by omega)).trans ((h1 1 (by omega)).trans a1)
      have ag : ∀ j, j < 2 + 2 * i → ad2 j = ad j := fun j hj => (h2 j hj).trans (h1 j hj)
      refine y_aast C0 3 rfl (r := 1) (rv := 2 + 2 * i) (by omega) (by omega) a1' b2 (nn := 8) (f := fun j => if j < i then some (ad (2 + 2 * j)) else none) (by rw [if_pos (by omega), va_up_off (by omega)]; rfl) (vs := [.int (nI 4), .int (nI 3), .ref (ad2 (2 + 2 * i + 1)), .int 0]) (ci := 1) (by rw [if_neg (by omega), Nat.sub_self]; rfl) rfl (by rw [oob (by omega)]; omega) dX2_init_35 (fun C0 => ?_)
      refine x_pc (pc' := 36) rfl ?_
      refine x_iinc C0 (v := 1) (L' := [(1, .int (nI (i + 1))), (0, .ref h0)]) dX2_init_36 0 rfl (by decide) (by decide) (by rw [nI_1]; rfl) ?_
      refine x_goto C0 (tgt := 15) dX2_init_39 (by decide) ?_
      have cg : ∀ r, r < 2 + 2 * (i + 1) → va_up (fun r => if r < 2 + 2 * i then va_up (wSt cs q1 ad i) (2 + 2 * i) (.inr (1, [.int 0, .int 0, .null, .int 0])) r else shX1 cs 4 3 (fun a => ad2 (2 + 2 * i + a)) (r - (2 + 2 * i))) 1 (rfq (cs 3) 8 (va_up (fun j => if j < i then some (ad (2 + 2 * j)) else none) (nI i).toNatClampNeg (some q9))) r = wSt cs q1 ad2 (i + 1) r := by
        intro r hr
        by_cases r1 : r = 1
        · subst r1
          rw [va_up_eq, nI_clamp (by omega)]
          unfold wSt
          rw [if_neg (by decide), if_pos rfl]
          congr 1
          funext j
          by_cases q : j = i
          · subst q
            rw [va_up_eq, if_pos (Nat.lt_succ_self _), b2]
          · rw [va_up_off q]
            by_cases q2 : j < i
            · rw [if_pos q2, if_pos (by omega), ag _ (by omega)]
            · rw [if_neg q2, if_neg (by omega)]
        · rw [va_up_off r1]
          by_cases r2 : r < 2 + 2 * i
          · rw [if_pos r2, va_up_off (by omega)]
            unfold wSt
            by_cases r0 : r = 0
            · rw [if_pos r0, if_pos r0]
            · rw [if_neg r0, if_neg r1, if_neg r0, if_neg r1]
              rcases (show ∃ t, r = 2 + 2 * t ∨ r = 3 + 2 * t from ⟨(r - 2) / 2, by omega⟩) with ⟨t, rfl | rfl⟩
              · rw [wI_S (by omega), wI_S (by omega), ag _ (by omega)]
              · rw [wI_s (by omega), wI_s (by omega)]
          · rw [if_neg r2]
            unfold wSt
            rw [if_neg (by omega), if_neg r1]
            rcases (show r = 2 + 2 * i ∨ r = 3 + 2 * i by omega) with rfl | rfl
            · rw [wI_S hi8, Nat.sub_self]
              show (Sum.inr (1, [.int (nI 4), .int (nI 3), .ref (ad2 (2 + 2 * i + 1)), .int 0]) : va_E) = _
              rw [show 2 + 2 * i + 1 = 3 + 2 * i by omega]
            · rw [wI_s hi8, show 3 + 2 * i - (2 + 2 * i) = 1 by omega]
              rfl
      refine x_congr (wf' := y_k (wSt cs q1 ad2 (i + 1))) (σ' := x_z) (fun r hr => cg r (by omega)) ?_
      have en : 2 + 2 * i + 2 = 2 + 2 * (i + 1) := by omega
      refine x_eq en (kc' := 1 + 2 * (i + 1)) (ks' := 8 + 16 * (i + 1)) (by omega) (by omega) ?_
      have C1 := C0.re (y_loc (wSt cs q1 ad2 (i + 1)))
      rw [en] at C1
      exact ih (i + 1) ad2 hi8 (by omega) a0' a1' C1
    · have e8 : i = 8 := by
        have : ¬ i < 8 := fun h => c9 ((nI_ltI (a := i) (b := 8) (by omega) (by decide)).mpr h)
        omega
      subst e8
      exact Kend ad a0 a1 C0
end YS
