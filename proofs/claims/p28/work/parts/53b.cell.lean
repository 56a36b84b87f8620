/-! the law reads its script *)  -/
def cfun (Ln : Nat) (xs : Nat → Int32) (k : Int32) : Int32 := if k < nI Ln then xs k.toNatClampNeg else (7919 * (k + 7)) * (k + 13)
section LR
variable {p : Program} {l : Launch} {e : Env} {R : Room} {s : State} {m : MethodId} {args : Array Value} {below : List Frame} {meth : Method} {c : Code} {D : va_G} {cl : List vw_C} {tys : List (ClassId × FieldType)} {A : Nat → Prop} {H0 : Heap} {n : Nat} {ad : Nat → Nat} {wf : xM → Nat → va_E} {cc : ByteArray} {nL kc ks : Nat} {own : String} {ret : Option FieldType} {Q : State → Prop} {σ : xM} {pc : Nat} {L : List (Nat × Value)} {st : List Value}
theorem x_sld (C0 : x_C p s m args meth c D cl tys A H0 n ad wf cc nL own ret) {b Ln : Nat} {xs : Nat → Int32} (hX : va_X b Ln xs s H0) (hbl : b < H0.size) (hbA : ¬ A b) {i : Int32} (hin : vp_in i Ln) (d : decode cc pc = .ok (.iaload, 1)) (K : x_W p l e R s m args below meth c D cl A H0 n ad wf nL kc ks Q σ (pc + 1) L (.int (xs i.toNatClampNeg) :: st)) : x_W p l e R s m args below meth c D cl A H0 n ad wf nL kc ks Q σ pc L (.int i :: .ref b :: st) :=
  fun H locs ls hl hP hS => va_sld C0.1.1 C0.1.2.1 hX hbl hbA hS hin d (K H locs ls hl hP hS)
theorem x_slen (C0 : x_C p s m args meth c D cl tys A H0 n ad wf cc nL own ret) {b Ln : Nat} {xs : Nat → Int32} (hX : va_X b Ln xs s H0) (hbl : b < H0.size) (hbA : ¬ A b) (d : decode cc pc = .ok (.arraylength, 1)) (K : x_W p l e R s m args below meth c D cl A H0 n ad wf nL kc ks Q σ (pc + 1) L (.int (nI Ln) :: st)) : x_W p l e R s m args below meth c D cl A H0 n ad wf nL kc ks Q σ pc L (.ref b :: st) :=
  fun H locs ls hl hP hS => va_slen C0.1.1 C0.1.2.1 hX hbl hbA hS d (K H locs ls hl hP hS)
/-- the start of cell: no cells of its own, and the script -/
def x_PX (D : va_G) (cl : List vw_C) (tys : List (ClassId × FieldType)) (b Ln : Nat) (xs : Nat → Int32) (sz : Nat) (U : State) : Prop := U.heap.size = sz ∧ va_K D cl tys U ∧ x_N U ∧ va_X b Ln xs U U.heap ∧ b < sz
theorem x_blindX {av : List Value} {sz b Ln : Nat} {xs : Nat → Int32} : FrameBlind (va_Pc av (x_PX D cl tys b Ln xs sz)) :=
  fun a U g mk q => by obtain ⟨q0, q1, qK, qN, qX, qb⟩ := q; exact ⟨q0, q1, va_K.moved (u := U) (U := U.calling g mk a) (Vm.Alike.refl U.vm) qK, x_N_same (s := U) (U := U.calling g mk a) rfl qN, va_X.moved (u := U) (U := U.calling g mk a) (Vm.Alike.refl U.vm) qX, qb⟩
set_option maxRecDepth 4000 in
set_option maxHeartbeats 2000000 in
theorem c_L_cell {l : Launch} {D : va_G} {cs : Nat → ClassId} {b Ln : Nat} {xs : Nat → Int32} {k : Int32} (hk : ¬ k < 0) (hL : Ln < 2 ^ 31) (sz : Nat) : Met l yL_cell [Cond.code yL_cell cL_cell 2 (some .int)] ({ frames := 0, cells := 0, slots := 0, locals := 0 } : Room) (va_Pc [.ref b, .int k] (x_PX D vwCl (xtys cs) b Ln xs sz)) (x_Q (some (.int (cfun Ln xs k))) (fun _ => True) (fun q => sz ≤ q)) 0 0 (fun q => sz ≤ q) := by
  refine Met.ofW (cc := cL_cell) (maxL := 2) (ret := some .int) (ws' := []) (by decide) rfl ?_
  intro p e s m args below meth c s₁ B hml hv
  obtain ⟨rfl, hsz, hK, hN, hX, hb9⟩ := hv
  have hx := B.exec
  have hb := B.bytes
  have hr := B.returns
  have hown : s.vm.findClass RL = some m.cls := findClass_of_methodNamed B.named
  have hlocks := B.notSynchronized
  subst hsz
  have hl := lv_entry [.ref b, .int k] (n := 2) (Nat.le_of_ble_eq_true rfl)
  rw [lg_entry_eq]
  have C0 : x_C p s m #[Value.ref b, Value.int k] meth c D vwCl (xtys cs) (fun q => s.heap.size ≤ q) s.heap 0 (fun _ => 0) wf0 cL_cell 2 RL (some .int) := ⟨⟨hx, hb, hml, hown, fun w hw => hN _ w hw⟩, hK, fun σ1 => ⟨fun i j x y h _ _ => absurd (x_bl_mem h).1 (Nat.not_lt_zero _), fun k q h => absurd (x_bl_mem h).1 (Nat.not_lt_zero _)⟩, fun q h => h, wf0_loc, hlocks, hr, hN⟩
  have hbA : ¬ (fun q => s.heap.size ≤ q) b := Nat.not_le.mpr hb9
  have ed : ∀ (v : Int32) (L : List (Nat × Value)), x_W p l e ({ frames := 0, cells := 0, slots := 0, locals := 0 } : Room) s m #[Value.ref b, Value.int k] below meth c D vwCl (fun q => s.heap.size ≤ q) s.heap 0 (fun _ => 0) wf0 2 0 0 (MQ below (x_Q (some (.int v)) (fun _ => True) (fun q => s.heap.size ≤ q)) #[Value.ref b, Value.int k] s 0 0 (fun q => s.heap.size ≤ q)) m0 25 L [.int v] := fun v L => fun H locs ls hl hP hS => W.iret C0.1.1 C0.1.2.1 C0.2.2.2.2.2.2.1 (fun t ht hW => ⟨⟨rfl, trivial⟩, hS.F ht⟩) hS.2.2 dL_cell_25 C0.2.2.2.2.2.1
  suffices K : x_W p l e ({ frames := 0, cells := 0, slots := 0, locals := 0 } : Room) s m #[Value.ref b, Value.int k] below meth c D vwCl (fun q => s.heap.size ≤ q) s.heap 0 (fun _ => 0) wf0 2 0 0 (MQ below (x_Q (some (.int (cfun Ln xs k))) (fun _ => True) (fun q => s.heap.size ≤ q)) #[Value.ref b, Value.int k] s 0 0 (fun q => s.heap.size ≤ q)) m0 0 [(0, .ref b), (1, .int k)] [] from K s.heap [] _ hl (fun k q h => absurd (x_bl_mem h).1 (Nat.not_lt_zero _)) va_S.rf
  refine x_iload_n C0 dL_cell_0 rfl 1 rfl ?_
  refine x_aload_n C0 dL_cell_1 rfl 0 rfl ?_
  refine x_slen C0 hX hb9 hbA dL_cell_2 ?_
  refine x_icmp_ge C0 (tgt := 12) dL_cell_3 (by decide) (a := ()) (b := ()) (res := ()) (by split <;> rfl) (fun c9 _ => ?_) (fun c9 _ => ?_)
  · refine x_aload_n C0 dL_cell_6 rfl 0 rfl ?_
    refine x_iload_n C0 dL_cell_7 rfl 1 rfl ?_
    have e : cfun Ln xs k = xs k.toNatClampNeg := if_pos c9
    rw [e]
    refine x_sld C0 hX hb9 hbA (fun q => ?_) dL_cell_8 ?_
    · rcases q with q | q
      · exact hk q
      · obtain ⟨j, hj, rfl⟩ := nI_of hk
        rw [nI_ltI hj hL] at c9
        rw [nI_clamp hj] at q
        omega
    · refine x_goto C0 (tgt := 25) dL_cell_9 (by decide) ?_
      exact ed _ _
  · have e : cfun Ln xs k = (7919 * (k + 7)) * (k + 13) := if_neg c9
    rw [e]
    refine x_sipush C0 (v := 7919) dL_cell_12 (by decide) ?_
    refine x_iload_n C0 dL_cell_15 rfl 1 rfl ?_
    refine x_bipush C0 (v := 7) dL_cell_16 (by decide) ?_
    refine x_iadd C0 dL_cell_18 ?_
    refine x_imul C0 dL_cell_19 ?_
    refine x_iload_n C0 dL_cell_20 rfl 1 rfl ?_
    refine x_bipush C0 (v := 13) dL_cell_21 (by decide) ?_
    refine x_iadd C0 dL_cell_23 ?_
    refine x_imul C0 dL_cell_24 ?_
    exact ed _ _
theorem x_cell {cs : Nat → ClassId} (C0 : x_C p s m args meth c D vwCl (xtys cs) A H0 n ad wf cc nL own ret) {b Ln : Nat} {xs : Nat → Int32} {cf : Int32 → Int32} (hX : va_X b Ln xs s H0) (hbl : b < H0.size) (hbA : ¬ A b) (hcf : cf = cfun Ln xs ∧ Ln < 2 ^ 31) {index : Nat} (cw : CallB R s args own index yL_cell cL_cell 2 (some .int) [Cond.code yL_cell cL_cell 2 (some .int)] ({ frames := 0, cells := 0, slots := 0, locals := 0 } : Room) 0 0 2 ∧ (Cond.static yL_cell).before args s = true) (hkk : kc ≤ R.cells ∧ ks ≤ R.slots) (hW : (st.map fun v => v.category).sum ≤ 8) (d : decode cc pc = .ok (.invokestatic index, 3)) {ρ : Type} {k : Int32} {b' : Option ρ} {res : ρ} (h : (if k < 0 then none else b') = some res) (K : ¬ k < 0 → b' = some res → x_W p l e R s m args below meth c D vwCl A H0 n ad wf nL kc ks Q σ (pc + 3) L (.int (cf k) :: st)) : x_W p l e R s m args below meth c D vwCl A H0 n ad wf nL kc ks Q σ pc L (.int k :: .ref b :: st) := by
  by_cases hk : k < 0
  · rw [if_pos hk] at h; cases h
  rw [if_neg hk] at h
  have K := K hk h
  intro H locs ls hl hP hS T hT X
  have hXH : va_X b Ln xs s H := hX.kept (hS.2.1 b hbl hbA)
  have hbH : b < H.size := Nat.lt_of_lt_of_le hbl hS.1
  have run : va_Run p l e R s m args below meth c H locs kc ks 0 0 (F0 m pc ls ([Value.ref b, Value.int k].reverse ++ st)) st (x_Q (some (.int (cfun Ln xs k))) (fun _ => True) (fun q => H.size ≤ q) [Value.ref b, Value.int k].toArray) (fun q => H.size ≤ q) :=
    va_runS C0.1 (c_L_cell (l := l) (D := D) (cs := cs) (b := b) (Ln := Ln) (xs := xs) hk hcf.2 H.size) cw ⟨x_blindX, fun U hU hW => ⟨rfl, by rw [hU], va_K.moved hW.alike C0.2.1, x_N_warm hW C0.2.2.2.2.2.2.2, by rw [hU]; exact va_X.moved hW.alike hXH, hbH⟩⟩ rfl rfl hl.1 rfl (lv_room hW) d hkk
  obtain ⟨v, st₀, t, T', L', h0, X', hL, e1, e2, ⟨⟨hv, hb⟩, hz, hk⟩, go⟩ := run T hT X
  cases hv
  rw [h0] at hz hk
  have hS1 : va_S A H0 T'.heap (locs ++ L') := ⟨Nat.le_trans hS.1 (by rw [e1]; exact hz), fun q h1 h2 => by rw [e1, hk q (Nat.lt_of_lt_of_le h1 hS.1) (Nat.not_le.mpr (Nat.lt_of_lt_of_le h1 hS.1))]; exact hS.2.1 q h1 h2, fun q hq => by
      rcases List.mem_append.mp hq with h | h
      · exact hS.2.2 q h
      · exact C0.2.2.2.1 _ (Nat.le_trans hS.1 (hL q h))⟩
  have hP1 : va_P D vwCl (x_bl n ad wf σ) T'.heap := by
    intro k9 q hq
    have h1 := hP k9 q hq
    refine h1.kept ?_
    rw [e1]
    exact hk _ h1.lt (Nat.not_le.mpr h1.lt)
  rw [hcf.1] at K
  obtain ⟨t2, a1, b1⟩ := K T'.heap (locs ++ L') ls hl hP1 hS1 T' rfl X'
  exact ⟨t2, go t2 a1, b1⟩
end LR
