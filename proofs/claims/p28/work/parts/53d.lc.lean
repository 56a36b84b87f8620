theorem kb_10 : (Int8.ofInt 10).toInt32 = 10 := by decide
theorem kb_11 : (Int8.ofInt 11).toInt32 = 11 := by decide
theorem kb_13 : (Int8.ofInt 13).toInt32 = 13 := by decide
theorem kb_14 : (Int8.ofInt 14).toInt32 = 14 := by decide
theorem kb_17 : (Int8.ofInt 17).toInt32 = 17 := by decide
theorem kb_20 : (Int8.ofInt 20).toInt32 = 20 := by decide
theorem kb_24 : (Int8.ofInt 24).toInt32 = 24 := by decide
theorem kb_27 : (Int8.ofInt 27).toInt32 = 27 := by decide
theorem kb_28 : (Int8.ofInt 28).toInt32 = 28 := by decide
theorem kb_40 : (Int8.ofInt 40).toInt32 = 40 := by decide
theorem kb_48 : (Int8.ofInt 48).toInt32 = 48 := by decide
theorem kb_60 : (Int8.ofInt 60).toInt32 = 60 := by decide
theorem hd_yL_acts : yL_acts.cls ≠ "java/lang/invoke/MethodHandle" ∧ yL_acts.cls ≠ "java/lang/invoke/VarHandle" ∧ (parseMethodDescriptor yL_acts.desc).map (fun d => d.parameters.length) = some 2 := ⟨by decide +kernel, by decide +kernel, by decide +kernel⟩
theorem hd_yL_all : yL_all.cls ≠ "java/lang/invoke/MethodHandle" ∧ yL_all.cls ≠ "java/lang/invoke/VarHandle" ∧ (parseMethodDescriptor yL_all.desc).map (fun d => d.parameters.length) = some 1 := ⟨by decide +kernel, by decide +kernel, by decide +kernel⟩
theorem hd_yL_cell : yL_cell.cls ≠ "java/lang/invoke/MethodHandle" ∧ yL_cell.cls ≠ "java/lang/invoke/VarHandle" ∧ (parseMethodDescriptor yL_cell.desc).map (fun d => d.parameters.length) = some 2 := ⟨by decide +kernel, by decide +kernel, by decide +kernel⟩
theorem hd_yL_isForetold : yL_isForetold.cls ≠ "java/lang/invoke/MethodHandle" ∧ yL_isForetold.cls ≠ "java/lang/invoke/VarHandle" ∧ (parseMethodDescriptor yL_isForetold.desc).map (fun d => d.parameters.length) = some 2 := ⟨by decide +kernel, by decide +kernel, by decide +kernel⟩
theorem hd_yL_isSound : yL_isSound.cls ≠ "java/lang/invoke/MethodHandle" ∧ yL_isSound.cls ≠ "java/lang/invoke/VarHandle" ∧ (parseMethodDescriptor yL_isSound.desc).map (fun d => d.parameters.length) = some 1 := ⟨by decide +kernel, by decide +kernel, by decide +kernel⟩
theorem hd_yL_low : yL_low.cls ≠ "java/lang/invoke/MethodHandle" ∧ yL_low.cls ≠ "java/lang/invoke/VarHandle" ∧ (parseMethodDescriptor yL_low.desc).map (fun d => d.parameters.length) = some 2 := ⟨by decide +kernel, by decide +kernel, by decide +kernel⟩
theorem hd_yX4_access : yX4_access.cls ≠ "java/lang/invoke/MethodHandle" ∧ yX4_access.cls ≠ "java/lang/invoke/VarHandle" ∧ (parseMethodDescriptor yX4_access.desc).map (fun d => d.parameters.length) = some 2 := ⟨by decide +kernel, by decide +kernel, by decide +kernel⟩
theorem hd_yX4_addHelper : yX4_addHelper.cls ≠ "java/lang/invoke/MethodHandle" ∧ yX4_addHelper.cls ≠ "java/lang/invoke/VarHandle" ∧ (parseMethodDescriptor yX4_addHelper.desc).map (fun d => d.parameters.length) = some 3 := ⟨by decide +kernel, by decide +kernel, by decide +kernel⟩
theorem hd_yX4_count : yX4_count.cls ≠ "java/lang/invoke/MethodHandle" ∧ yX4_count.cls ≠ "java/lang/invoke/VarHandle" ∧ (parseMethodDescriptor yX4_count.desc).map (fun d => d.parameters.length) = some 1 := ⟨by decide +kernel, by decide +kernel, by decide +kernel⟩
theorem hd_yX4_flush : yX4_flush.cls ≠ "java/lang/invoke/MethodHandle" ∧ yX4_flush.cls ≠ "java/lang/invoke/VarHandle" ∧ (parseMethodDescriptor yX4_flush.desc).map (fun d => d.parameters.length) = some 0 := ⟨by decide +kernel, by decide +kernel, by decide +kernel⟩
theorem hd_yX4_forget : yX4_forget.cls ≠ "java/lang/invoke/MethodHandle" ∧ yX4_forget.cls ≠ "java/lang/invoke/VarHandle" ∧ (parseMethodDescriptor yX4_forget.desc).map (fun d => d.parameters.length) = some 1 := ⟨by decide +kernel, by decide +kernel, by decide +kernel⟩
theorem hd_yX4_helper : yX4_helper.cls ≠ "java/lang/invoke/MethodHandle" ∧ yX4_helper.cls ≠ "java/lang/invoke/VarHandle" ∧ (parseMethodDescriptor yX4_helper.desc).map (fun d => d.parameters.length) = some 2 := ⟨by decide +kernel, by decide +kernel, by decide +kernel⟩
theorem hd_yX4_inSet : yX4_inSet.cls ≠ "java/lang/invoke/MethodHandle" ∧ yX4_inSet.cls ≠ "java/lang/invoke/VarHandle" ∧ (parseMethodDescriptor yX4_inSet.desc).map (fun d => d.parameters.length) = some 2 := ⟨by decide +kernel, by decide +kernel, by decide +kernel⟩
theorem hd_yX4_keep : yX4_keep.cls ≠ "java/lang/invoke/MethodHandle" ∧ yX4_keep.cls ≠ "java/lang/invoke/VarHandle" ∧ (parseMethodDescriptor yX4_keep.desc).map (fun d => d.parameters.length) = some 0 := ⟨by decide +kernel, by decide +kernel, by decide +kernel⟩
theorem hd_yX4_line : yX4_line.cls ≠ "java/lang/invoke/MethodHandle" ∧ yX4_line.cls ≠ "java/lang/invoke/VarHandle" ∧ (parseMethodDescriptor yX4_line.desc).map (fun d => d.parameters.length) = some 2 := ⟨by decide +kernel, by decide +kernel, by decide +kernel⟩
theorem hd_yX4_logged : yX4_logged.cls ≠ "java/lang/invoke/MethodHandle" ∧ yX4_logged.cls ≠ "java/lang/invoke/VarHandle" ∧ (parseMethodDescriptor yX4_logged.desc).map (fun d => d.parameters.length) = some 2 := ⟨by decide +kernel, by decide +kernel, by decide +kernel⟩
theorem hd_yX4_pardon : yX4_pardon.cls ≠ "java/lang/invoke/MethodHandle" ∧ yX4_pardon.cls ≠ "java/lang/invoke/VarHandle" ∧ (parseMethodDescriptor yX4_pardon.desc).map (fun d => d.parameters.length) = some 1 := ⟨by decide +kernel, by decide +kernel, by decide +kernel⟩
theorem hd_yX4_restore : yX4_restore.cls ≠ "java/lang/invoke/MethodHandle" ∧ yX4_restore.cls ≠ "java/lang/invoke/VarHandle" ∧ (parseMethodDescriptor yX4_restore.desc).map (fun d => d.parameters.length) = some 0 := ⟨by decide +kernel, by decide +kernel, by decide +kernel⟩
theorem hd_yX4_setDegree : yX4_setDegree.cls ≠ "java/lang/invoke/MethodHandle" ∧ yX4_setDegree.cls ≠ "java/lang/invoke/VarHandle" ∧ (parseMethodDescriptor yX4_setDegree.desc).map (fun d => d.parameters.length) = some 2 := ⟨by decide +kernel, by decide +kernel, by decide +kernel⟩
theorem hd_yX4_setTrial : yX4_setTrial.cls ≠ "java/lang/invoke/MethodHandle" ∧ yX4_setTrial.cls ≠ "java/lang/invoke/VarHandle" ∧ (parseMethodDescriptor yX4_setTrial.desc).map (fun d => d.parameters.length) = some 1 := ⟨by decide +kernel, by decide +kernel, by decide +kernel⟩
theorem hd_yX4_shape : yX4_shape.cls ≠ "java/lang/invoke/MethodHandle" ∧ yX4_shape.cls ≠ "java/lang/invoke/VarHandle" ∧ (parseMethodDescriptor yX4_shape.desc).map (fun d => d.parameters.length) = some 2 := ⟨by decide +kernel, by decide +kernel, by decide +kernel⟩
theorem hd_yX4_table : yX4_table.cls ≠ "java/lang/invoke/MethodHandle" ∧ yX4_table.cls ≠ "java/lang/invoke/VarHandle" ∧ (parseMethodDescriptor yX4_table.desc).map (fun d => d.parameters.length) = some 3 := ⟨by decide +kernel, by decide +kernel, by decide +kernel⟩
theorem hd_yX4_thrownOut : yX4_thrownOut.cls ≠ "java/lang/invoke/MethodHandle" ∧ yX4_thrownOut.cls ≠ "java/lang/invoke/VarHandle" ∧ (parseMethodDescriptor yX4_thrownOut.desc).map (fun d => d.parameters.length) = some 1 := ⟨by decide +kernel, by decide +kernel, by decide +kernel⟩
theorem hd_yX4_undo : yX4_undo.cls ≠ "java/lang/invoke/MethodHandle" ∧ yX4_undo.cls ≠ "java/lang/invoke/VarHandle" ∧ (parseMethodDescriptor yX4_undo.desc).map (fun d => d.parameters.length) = some 0 := ⟨by decide +kernel, by decide +kernel, by decide +kernel⟩
theorem hd_yX4_walk : yX4_walk.cls ≠ "java/lang/invoke/MethodHandle" ∧ yX4_walk.cls ≠ "java/lang/invoke/VarHandle" ∧ (parseMethodDescriptor yX4_walk.desc).map (fun d => d.parameters.length) = some 4 := ⟨by decide +kernel, by decide +kernel, by decide +kernel⟩
theorem hd_yX4_wouldAsk : yX4_wouldAsk.cls ≠ "java/lang/invoke/MethodHandle" ∧ yX4_wouldAsk.cls ≠ "java/lang/invoke/VarHandle" ∧ (parseMethodDescriptor yX4_wouldAsk.desc).map (fun d => d.parameters.length) = some 4 := ⟨by decide +kernel, by decide +kernel, by decide +kernel⟩
theorem hd_yX4_wouldHit : yX4_wouldHit.cls ≠ "java/lang/invoke/MethodHandle" ∧ yX4_wouldHit.cls ≠ "java/lang/invoke/VarHandle" ∧ (parseMethodDescriptor yX4_wouldHit.desc).map (fun d => d.parameters.length) = some 4 := ⟨by decide +kernel, by decide +kernel, by decide +kernel⟩
set_option maxRecDepth 4000 in
set_option maxHeartbeats 2000000 in
theorem c_L_low {l : Launch} {D : va_G} {cs : Nat → ClassId} {ad : Nat → Nat} (n : Nat) {σ : xM} {x0 : Int32} {x1 : Int32}  {res : Int32} (h : F_L_low n σ x0 x1 = some res) : x_Met l yL_low [Cond.code yL_low cL_low 2 (some FieldType.int)] ({ frames := 0, cells := 0, slots := 0, locals := 0 } : Room) D vwCl (xtys cs) 333 ad (wfT cs ad) [.int x0, .int x1] σ (some (.int res)) σ := by
  refine x_Met_of (L0 := [(0, .int x0), (1, .int x1)]) (own := RL) (by decide) rfl rfl wfT_loc (Nat.le_of_ble_eq_true rfl) rfl ?_
  intro p e s m args below meth c A C0
  refine x_iload_n C0 dL_low_0 rfl 0 rfl ?_
  refine x_ldc C0 mw_516 dL_low_1 ?_
  refine x_iand C0 dL_low_3 ?_
  refine x_iload_n C0 dL_low_4 rfl 1 rfl ?_
  refine x_irem C0 dL_low_5 h (fun _ h => ?_)
  obtain rfl := x_inj h
  exact x_iret C0 dL_low_6
set_option maxRecDepth 4000 in
set_option maxHeartbeats 2000000 in
theorem b_L_all_32 {p : Program} {l : Launch} {e : Env} {s : State} {m : MethodId} {args : Array Value} {below : List Frame} {meth : Method} {c : Code} {D : va_G} {cs : Nat → ClassId} {ad : Nat → Nat} {A : Nat → Prop} (C0 : x_C p s m args meth c D vwCl (xtys cs) A s.heap 333 ad (wfT cs ad) cL_all 5 RL (some FieldType.long))  (n : Nat) {σ : xM} {res : Int64} {K6 : Int64 → Int32 → Option Int64} (hK6 : ∀ (l1 : Int64) (l3 : Int32) , K6 l1 l3 = some res → x_W p l e ({ frames := 5, cells := 0, slots := 0, locals := 111 } : Room) s m args below meth c D vwCl A s.heap 333 ad (wfT cs ad) 5 0 0 (x_E below args s D vwCl 333 ad (wfT cs ad) A (some (.long res)) σ) σ 6 [(0, .ref (ad 0)), (1, .long l1), (3, .int l3)] []) : ∀ (l3 : Int32) (s0 : Int64) (s1 : Int32), B_L_all_32 n σ K6 l3 s0 s1 = some res → x_W p l e ({ frames := 5, cells := 0, slots := 0, locals := 111 } : Room) s m args below meth c D vwCl A s.heap 333 ad (wfT cs ad) 5 0 0 (x_E below args s D vwCl 333 ad (wfT cs ad) A (some (.long res)) σ) σ 32 [(0, .ref (ad 0)), (3, .int l3)] [.int s1, .long s0] := by
  intro l3 s0 s1 h
  refine x_i2l C0 dL_all_32 ?_
  refine x_ladd C0 dL_all_33 ?_
  refine x_lstore_n C0 dL_all_34 rfl (L' := [(1, _), (0, _), (3, _)]) (by decide) rfl ?_
  refine x_iinc C0 (v := 1) (L' := [(3, _), (1, _), (0, _)]) dL_all_35 2 rfl ki_1 (by decide) rfl ?_
  refine x_goto C0 (tgt := 6) dL_all_38 rfl ?_
  refine x_sub [2, 1, 0] (L' := [(0, _), (1, _), (3, _)]) rfl ?_
  refine x_pc (pc' := 6) rfl ?_
  exact hK6 _ _ h
set_option maxRecDepth 4000 in
set_option maxHeartbeats 2000000 in
theorem b_L_all_52 {p : Program} {l : Launch} {e : Env} {s : State} {m : MethodId} {args : Array Value} {below : List Frame} {meth : Method} {c : Code} {D : va_G} {cs : Nat → ClassId} {ad : Nat → Nat} {A : Nat → Prop} (C0 : x_C p s m args meth c D vwCl (xtys cs) A s.heap 333 ad (wfT cs ad) cL_all 5 RL (some FieldType.long))  (n : Nat) {σ : xM} {res : Int64} {K43 : Int64 → Int32 → Option Int64} (hK43 : ∀ (l1 : Int64) (l3 : Int32) , K43 l1 l3 = some res → x_W p l e ({ frames := 5, cells := 0, slots := 0, locals := 111 } : Room) s m args below meth c D vwCl A s.heap 333 ad (wfT cs ad) 5 0 0 (x_E below args s D vwCl 333 ad (wfT cs ad) A (some (.long res)) σ) σ 43 [(0, .ref (ad 0)), (1, .long l1), (3, .int l3)] []) : ∀ (f : Nat) (l1 : Int64) (l3 : Int32) (l4 : Int32), B_L_all_52 n σ K43 f l1 l3 l4 = some res → x_W p l e ({ frames := 5, cells := 0, slots := 0, locals := 111 } : Room) s m args below meth c D vwCl A s.heap 333 ad (wfT cs ad) 5 0 0 (x_E below args s D vwCl 333 ad (wfT cs ad) A (some (.long res)) σ) σ 52 [(0, .ref (ad 0)), (1, .long l1), (3, .int l3), (4, .int l4)] [] := by
  intro f
  induction f with
  | zero =>
    intro l1 l3 l4 h
    cases h
  | succ f ih =>
    intro l1 l3 l4 h
    refine x_iload C0 dL_all_52 3 rfl ?_
    refine x_bipush C0 (v := 6) dL_all_54 kb_6 ?_
    refine x_icmp_ge C0 (tgt := 80) dL_all_56 rfl h (fun _ h => ?_) (fun _ h => ?_)
    · refine x_ldc2 C0 mw_521 dL_all_59 ?_
      refine x_lload_n C0 dL_all_62 rfl 1 rfl ?_
      refine x_lmul C0 dL_all_63 ?_
      refine x_aload_n C0 dL_all_64 rfl 0 rfl ?_
      refine x_iload_n C0 dL_all_65 rfl 2 rfl ?_
      refine x_iload C0 dL_all_66 3 rfl ?_
      obtain ⟨q2, eq2, h⟩ := x_bind h
      refine x_callV21 C0 (c_X4_line n eq2) (x_cwV C0 mw_522 mw_523 mw_524 mw_44 mw_525 hd_yX4_line ⟨rfl, rfl, Nat.le_of_ble_eq_true rfl, Nat.le_of_ble_eq_true rfl⟩) (by decide) rfl wfT_r0 rfl ⟨Nat.zero_le _, Nat.zero_le _⟩ (Nat.le_of_ble_eq_true rfl) dL_all_68 ?_
      refine x_pc (pc' := 71) rfl ?_
      refine x_i2l C0 dL_all_71 ?_
      refine x_ladd C0 dL_all_72 ?_
      refine x_lstore_n C0 dL_all_73 rfl (L' := [(1, _), (0, _), (3, _), (4, _)]) (by decide) rfl ?_
      refine x_iinc C0 (v := 1) (L' := [(4, _), (1, _), (0, _), (3, _)]) dL_all_74 3 rfl ki_1 (by decide) rfl ?_
      refine x_goto C0 (tgt := 52) dL_all_77 rfl ?_
      refine x_sub [2, 1, 3, 0] (L' := [(0, _), (1, _), (3, _), (4, _)]) rfl ?_
      refine x_pc (pc' := 52) rfl ?_
      exact ih _ _ _ h
    · refine x_iinc C0 (v := 1) (L' := [(3, _), (0, _), (1, _), (4, _)]) dL_all_80 2 rfl ki_1 (by decide) rfl ?_
      refine x_goto C0 (tgt := 43) dL_all_83 rfl ?_
      refine x_sub [1, 2, 0] (L' := [(0, _), (1, _), (3, _)]) rfl ?_
      refine x_pc (pc' := 43) rfl ?_
      exact hK43 _ _ h
set_option maxRecDepth 4000 in
set_option maxHeartbeats 2000000 in
theorem b_L_all_132 {p : Program} {l : Launch} {e : Env} {s : State} {m : MethodId} {args : Array Value} {below : List Frame} {meth : Method} {c : Code} {D : va_G} {cs : Nat → ClassId} {ad : Nat → Nat} {A : Nat → Prop} (C0 : x_C p s m args meth c D vwCl (xtys cs) A s.heap 333 ad (wfT cs ad) cL_all 5 RL (some FieldType.long))  (n : Nat) {σ : xM} {res : Int64} {K88 : Int64 → Int32 → Option Int64} (hK88 : ∀ (l1 : Int64) (l3 : Int32) , K88 l1 l3 = some res → x_W p l e ({ frames := 5, cells := 0, slots := 0, locals := 111 } : Room) s m args below meth c D vwCl A s.heap 333 ad (wfT cs ad) 5 0 0 (x_E below args s D vwCl 333 ad (wfT cs ad) A (some (.long res)) σ) σ 88 [(0, .ref (ad 0)), (1, .long l1), (3, .int l3)] []) : ∀ (f : Nat) (l1 : Int64) (l3 : Int32) (l4 : Int32), B_L_all_132 n σ K88 f l1 l3 l4 = some res → x_W p l e ({ frames := 5, cells := 0, slots := 0, locals := 111 } : Room) s m args below meth c D vwCl A s.heap 333 ad (wfT cs ad) 5 0 0 (x_E below args s D vwCl 333 ad (wfT cs ad) A (some (.long res)) σ) σ 132 [(0, .ref (ad 0)), (1, .long l1), (3, .int l3), (4, .int l4)] [] := by
  intro f
  induction f with
  | zero =>
    intro l1 l3 l4 h
    cases h
  | succ f ih =>
    intro l1 l3 l4 h
    refine x_iload C0 dL_all_132 3 rfl ?_
    refine x_bipush C0 (v := 16) dL_all_134 kb_16 ?_
    refine x_icmp_ge C0 (tgt := 166) dL_all_136 rfl h (fun _ h => ?_) (fun _ h => ?_)
    · refine x_ldc2 C0 mw_521 dL_all_139 ?_
      refine x_lload_n C0 dL_all_142 rfl 1 rfl ?_
      refine x_lmul C0 dL_all_143 ?_
      refine x_aload_n C0 dL_all_144 rfl 0 rfl ?_
      refine x_iload_n C0 dL_all_145 rfl 2 rfl ?_
      refine x_iload C0 dL_all_146 3 rfl ?_
      refine x_iconst C0 (v := 4) dL_all_148 ki_4 ?_
      refine x_pc (pc' := 149) rfl ?_
      refine x_idiv C0 dL_all_149 h (fun _ h => ?_)
      refine x_iload C0 dL_all_150 3 rfl ?_
      refine x_iconst C0 (v := 4) dL_all_152 ki_4 ?_
      refine x_irem C0 dL_all_153 h (fun _ h => ?_)
      obtain ⟨q6, eq6, h⟩ := x_bind h
      refine x_callV31 C0 (c_X4_table n eq6) (x_cwV C0 mw_534 mw_535 mw_536 mw_44 mw_537 hd_yX4_table ⟨rfl, rfl, Nat.le_of_ble_eq_true rfl, Nat.le_of_ble_eq_true rfl⟩) (by decide) rfl wfT_r0 rfl ⟨Nat.zero_le _, Nat.zero_le _⟩ (Nat.le_of_ble_eq_true rfl) dL_all_154 ?_
      refine x_i2l C0 dL_all_157 ?_
      refine x_ladd C0 dL_all_158 ?_
      refine x_lstore_n C0 dL_all_159 rfl (L' := [(1, _), (0, _), (3, _), (4, _)]) (by decide) rfl ?_
      refine x_pc (pc' := 160) rfl ?_
      refine x_iinc C0 (v := 1) (L' := [(4, _), (1, _), (0, _), (3, _)]) dL_all_160 3 rfl ki_1 (by decide) rfl ?_
      refine x_goto C0 (tgt := 132) dL_all_163 rfl ?_
      refine x_sub [2, 1, 3, 0] (L' := [(0, _), (1, _), (3, _), (4, _)]) rfl ?_
      refine x_pc (pc' := 132) rfl ?_
      exact ih _ _ _ h
    · refine x_iinc C0 (v := 1) (L' := [(3, _), (0, _), (1, _), (4, _)]) dL_all_166 2 rfl ki_1 (by decide) rfl ?_
      refine x_goto C0 (tgt := 88) dL_all_169 rfl ?_
      refine x_sub [1, 2, 0] (L' := [(0, _), (1, _), (3, _)]) rfl ?_
      refine x_pc (pc' := 88) rfl ?_
      exact hK88 _ _ h
set_option maxRecDepth 4000 in
set_option maxHeartbeats 2000000 in
theorem b_L_all_101 {p : Program} {l : Launch} {e : Env} {s : State} {m : MethodId} {args : Array Value} {below : List Frame} {meth : Method} {c : Code} {D : va_G} {cs : Nat → ClassId} {ad : Nat → Nat} {A : Nat → Prop} (C0 : x_C p s m args meth c D vwCl (xtys cs) A s.heap 333 ad (wfT cs ad) cL_all 5 RL (some FieldType.long))  (n : Nat) {σ : xM} {res : Int64} {K88 : Int64 → Int32 → Option Int64} (hK88 : ∀ (l1 : Int64) (l3 : Int32) , K88 l1 l3 = some res → x_W p l e ({ frames := 5, cells := 0, slots := 0, locals := 111 } : Room) s m args below meth c D vwCl A s.heap 333 ad (wfT cs ad) 5 0 0 (x_E below args s D vwCl 333 ad (wfT cs ad) A (some (.long res)) σ) σ 88 [(0, .ref (ad 0)), (1, .long l1), (3, .int l3)] []) : ∀ (f : Nat) (l1 : Int64) (l3 : Int32) (l4 : Int32), B_L_all_101 n σ K88 f l1 l3 l4 = some res → x_W p l e ({ frames := 5, cells := 0, slots := 0, locals := 111 } : Room) s m args below meth c D vwCl A s.heap 333 ad (wfT cs ad) 5 0 0 (x_E below args s D vwCl 333 ad (wfT cs ad) A (some (.long res)) σ) σ 101 [(0, .ref (ad 0)), (1, .long l1), (3, .int l3), (4, .int l4)] [] := by
  intro f
  induction f with
  | zero =>
    intro l1 l3 l4 h
    cases h
  | succ f ih =>
    intro l1 l3 l4 h
    refine x_iload C0 dL_all_101 3 rfl ?_
    refine x_bipush C0 (v := 16) dL_all_103 kb_16 ?_
    refine x_icmp_ge C0 (tgt := 129) dL_all_105 rfl h (fun _ h => ?_) (fun _ h => ?_)
    · refine x_ldc2 C0 mw_521 dL_all_108 ?_
      refine x_lload_n C0 dL_all_111 rfl 1 rfl ?_
      refine x_lmul C0 dL_all_112 ?_
      refine x_aload_n C0 dL_all_113 rfl 0 rfl ?_
      refine x_iload_n C0 dL_all_114 rfl 2 rfl ?_
      refine x_iload C0 dL_all_115 3 rfl ?_
      obtain ⟨q4, eq4, h⟩ := x_bind h
      refine x_callV21 C0 (c_X4_helper n eq4) (x_cwV C0 mw_528 mw_529 mw_530 mw_44 mw_531 hd_yX4_helper ⟨rfl, rfl, Nat.le_of_ble_eq_true rfl, Nat.le_of_ble_eq_true rfl⟩) (by decide) rfl wfT_r0 rfl ⟨Nat.zero_le _, Nat.zero_le _⟩ (Nat.le_of_ble_eq_true rfl) dL_all_117 ?_
      refine x_pc (pc' := 120) rfl ?_
      refine x_i2l C0 dL_all_120 ?_
      refine x_ladd C0 dL_all_121 ?_
      refine x_lstore_n C0 dL_all_122 rfl (L' := [(1, _), (0, _), (3, _), (4, _)]) (by decide) rfl ?_
      refine x_iinc C0 (v := 1) (L' := [(4, _), (1, _), (0, _), (3, _)]) dL_all_123 3 rfl ki_1 (by decide) rfl ?_
      refine x_goto C0 (tgt := 101) dL_all_126 rfl ?_
      refine x_sub [2, 1, 3, 0] (L' := [(0, _), (1, _), (3, _), (4, _)]) rfl ?_
      refine x_pc (pc' := 101) rfl ?_
      exact ih _ _ _ h
    · refine x_iconst C0 (v := 0) dL_all_129 ki_0 ?_
      refine x_istore C0 dL_all_130 (L' := [(4, _), (0, _), (1, _), (3, _)]) (by decide) rfl ?_
      refine x_sub [1, 2, 3, 0] (L' := [(0, _), (1, _), (3, _), (4, _)]) rfl ?_
      refine x_pc (pc' := 132) rfl ?_
      exact b_L_all_132 C0 n hK88 n _ _ _ h
set_option maxRecDepth 4000 in
set_option maxHeartbeats 2000000 in
theorem b_L_all_174 {p : Program} {l : Launch} {e : Env} {s : State} {m : MethodId} {args : Array Value} {below : List Frame} {meth : Method} {c : Code} {D : va_G} {cs : Nat → ClassId} {ad : Nat → Nat} {A : Nat → Prop} (C0 : x_C p s m args meth c D vwCl (xtys cs) A s.heap 333 ad (wfT cs ad) cL_all 5 RL (some FieldType.long))  (n : Nat) {σ : xM} {res : Int64} : ∀ (f : Nat) (l1 : Int64) (l3 : Int32), B_L_all_174 n σ f l1 l3 = some res → x_W p l e ({ frames := 5, cells := 0, slots := 0, locals := 111 } : Room) s m args below meth c D vwCl A s.heap 333 ad (wfT cs ad) 5 0 0 (x_E below args s D vwCl 333 ad (wfT cs ad) A (some (.long res)) σ) σ 174 [(0, .ref (ad 0)), (1, .long l1), (3, .int l3)] [] := by
  intro f
  induction f with
  | zero =>
    intro l1 l3 h
    cases h
  | succ f ih =>
    intro l1 l3 h
    refine x_iload_n C0 dL_all_174 rfl 2 rfl ?_
    refine x_bipush C0 (v := 48) dL_all_175 kb_48 ?_
    refine x_icmp_ge C0 (tgt := 204) dL_all_177 rfl h (fun _ h => ?_) (fun _ h => ?_)
    · refine x_ldc2 C0 mw_521 dL_all_180 ?_
      refine x_lload_n C0 dL_all_183 rfl 1 rfl ?_
      refine x_lmul C0 dL_all_184 ?_
      refine x_aload_n C0 dL_all_185 rfl 0 rfl ?_
      refine x_iload_n C0 dL_all_186 rfl 2 rfl ?_
      refine x_iconst C0 (v := 4) dL_all_187 ki_4 ?_
      refine x_idiv C0 dL_all_188 h (fun _ h => ?_)
      refine x_pc (pc' := 189) rfl ?_
      refine x_iload_n C0 dL_all_189 rfl 2 rfl ?_
      refine x_iconst C0 (v := 4) dL_all_190 ki_4 ?_
      refine x_irem C0 dL_all_191 h (fun _ h => ?_)
      obtain ⟨q5, eq5, h⟩ := x_bind h
      refine x_callV21 C0 (c_X4_logged n eq5) (x_cwV C0 mw_475 mw_476 mw_477 mw_44 mw_478 hd_yX4_logged ⟨rfl, rfl, Nat.le_of_ble_eq_true rfl, Nat.le_of_ble_eq_true rfl⟩) (by decide) rfl wfT_r0 rfl ⟨Nat.zero_le _, Nat.zero_le _⟩ (Nat.le_of_ble_eq_true rfl) dL_all_192 ?_
      refine x_i2l C0 dL_all_195 ?_
      refine x_ladd C0 dL_all_196 ?_
      refine x_lstore_n C0 dL_all_197 rfl (L' := [(1, _), (0, _), (3, _)]) (by decide) rfl ?_
      refine x_iinc C0 (v := 1) (L' := [(3, _), (1, _), (0, _)]) dL_all_198 2 rfl ki_1 (by decide) rfl ?_
      refine x_pc (pc' := 201) rfl ?_
      refine x_goto C0 (tgt := 174) dL_all_201 rfl ?_
      refine x_sub [2, 1, 0] (L' := [(0, _), (1, _), (3, _)]) rfl ?_
      refine x_pc (pc' := 174) rfl ?_
      exact ih _ _ h
    · refine x_lload_n C0 dL_all_204 rfl 1 rfl ?_
      obtain rfl := x_inj h
      exact x_lret C0 dL_all_205
set_option maxRecDepth 4000 in
set_option maxHeartbeats 2000000 in
theorem b_L_all_88 {p : Program} {l : Launch} {e : Env} {s : State} {m : MethodId} {args : Array Value} {below : List Frame} {meth : Method} {c : Code} {D : va_G} {cs : Nat → ClassId} {ad : Nat → Nat} {A : Nat → Prop} (C0 : x_C p s m args meth c D vwCl (xtys cs) A s.heap 333 ad (wfT cs ad) cL_all 5 RL (some FieldType.long))  (n : Nat) {σ : xM} {res : Int64} : ∀ (f : Nat) (l1 : Int64) (l3 : Int32), B_L_all_88 n σ f l1 l3 = some res → x_W p l e ({ frames := 5, cells := 0, slots := 0, locals := 111 } : Room) s m args below meth c D vwCl A s.heap 333 ad (wfT cs ad) 5 0 0 (x_E below args s D vwCl 333 ad (wfT cs ad) A (some (.long res)) σ) σ 88 [(0, .ref (ad 0)), (1, .long l1), (3, .int l3)] [] := by
  intro f
  induction f with
  | zero =>
    intro l1 l3 h
    cases h
  | succ f ih =>
    intro l1 l3 h
    refine x_iload_n C0 dL_all_88 rfl 2 rfl ?_
    refine x_aload_n C0 dL_all_89 rfl 0 rfl ?_
    refine x_bipush C0 (v := 10) dL_all_90 kb_10 ?_
    obtain ⟨q3, eq3, h⟩ := x_bind h
    refine x_callV11 C0 (c_X4_count n eq3) (x_cwV C0 mw_480 mw_481 mw_482 mw_44 mw_483 hd_yX4_count ⟨rfl, rfl, Nat.le_of_ble_eq_true rfl, Nat.le_of_ble_eq_true rfl⟩) (by decide) rfl wfT_r0 rfl ⟨Nat.zero_le _, Nat.zero_le _⟩ (Nat.le_of_ble_eq_true rfl) dL_all_92 ?_
    refine x_icmp_ge C0 (tgt := 172) dL_all_95 rfl h (fun _ h => ?_) (fun _ h => ?_)
    · refine x_iconst C0 (v := 0) dL_all_98 ki_0 ?_
      refine x_istore C0 dL_all_99 (L' := [(4, _), (0, _), (1, _), (3, _)]) (by decide) rfl ?_
      refine x_sub [1, 2, 3, 0] (L' := [(0, _), (1, _), (3, _), (4, _)]) rfl ?_
      refine x_pc (pc' := 101) rfl ?_
      exact b_L_all_101 C0 n (fun l1 l3 h => ih l1 l3 h) n _ _ _ h
    · refine x_iconst C0 (v := 0) dL_all_172 ki_0 ?_
      refine x_istore_n C0 dL_all_173 rfl (L' := [(3, _), (0, _), (1, _)]) (by decide) rfl ?_
      refine x_sub [1, 2, 0] (L' := [(0, _), (1, _), (3, _)]) rfl ?_
      refine x_pc (pc' := 174) rfl ?_
      exact b_L_all_174 C0 n n _ _ h
set_option maxRecDepth 4000 in
set_option maxHeartbeats 2000000 in
theorem b_L_all_43 {p : Program} {l : Launch} {e : Env} {s : State} {m : MethodId} {args : Array Value} {below : List Frame} {meth : Method} {c : Code} {D : va_G} {cs : Nat → ClassId} {ad : Nat → Nat} {A : Nat → Prop} (C0 : x_C p s m args meth c D vwCl (xtys cs) A s.heap 333 ad (wfT cs ad) cL_all 5 RL (some FieldType.long))  (n : Nat) {σ : xM} {res : Int64} : ∀ (f : Nat) (l1 : Int64) (l3 : Int32), B_L_all_43 n σ f l1 l3 = some res → x_W p l e ({ frames := 5, cells := 0, slots := 0, locals := 111 } : Room) s m args below meth c D vwCl A s.heap 333 ad (wfT cs ad) 5 0 0 (x_E below args s D vwCl 333 ad (wfT cs ad) A (some (.long res)) σ) σ 43 [(0, .ref (ad 0)), (1, .long l1), (3, .int l3)] [] := by
  intro f
  induction f with
  | zero =>
    intro l1 l3 h
    cases h
  | succ f ih =>
    intro l1 l3 h
    refine x_iload_n C0 dL_all_43 rfl 2 rfl ?_
    refine x_bipush C0 (v := 40) dL_all_44 kb_40 ?_
    refine x_icmp_ge C0 (tgt := 86) dL_all_46 rfl h (fun _ h => ?_) (fun _ h => ?_)
    · refine x_iconst C0 (v := 0) dL_all_49 ki_0 ?_
      refine x_istore C0 dL_all_50 (L' := [(4, _), (0, _), (1, _), (3, _)]) (by decide) rfl ?_
      refine x_sub [1, 2, 3, 0] (L' := [(0, _), (1, _), (3, _), (4, _)]) rfl ?_
      refine x_pc (pc' := 52) rfl ?_
      exact b_L_all_52 C0 n (fun l1 l3 h => ih l1 l3 h) n _ _ _ h
    · refine x_iconst C0 (v := 0) dL_all_86 ki_0 ?_
      refine x_istore_n C0 dL_all_87 rfl (L' := [(3, _), (0, _), (1, _)]) (by decide) rfl ?_
      refine x_sub [1, 2, 0] (L' := [(0, _), (1, _), (3, _)]) rfl ?_
      refine x_pc (pc' := 88) rfl ?_
      exact b_L_all_88 C0 n n _ _ h
set_option maxRecDepth 4000 in
set_option maxHeartbeats 2000000 in
theorem b_L_all_6 {p : Program} {l : Launch} {e : Env} {s : State} {m : MethodId} {args : Array Value} {below : List Frame} {meth : Method} {c : Code} {D : va_G} {cs : Nat → ClassId} {ad : Nat → Nat} {A : Nat → Prop} (C0 : x_C p s m args meth c D vwCl (xtys cs) A s.heap 333 ad (wfT cs ad) cL_all 5 RL (some FieldType.long))  (n : Nat) {σ : xM} {res : Int64} : ∀ (f : Nat) (l1 : Int64) (l3 : Int32), B_L_all_6 n σ f l1 l3 = some res → x_W p l e ({ frames := 5, cells := 0, slots := 0, locals := 111 } : Room) s m args below meth c D vwCl A s.heap 333 ad (wfT cs ad) 5 0 0 (x_E below args s D vwCl 333 ad (wfT cs ad) A (some (.long res)) σ) σ 6 [(0, .ref (ad 0)), (1, .long l1), (3, .int l3)] [] := by
  intro f
  induction f with
  | zero =>
    intro l1 l3 h
    cases h
  | succ f ih =>
    intro l1 l3 h
    refine x_iload_n C0 dL_all_6 rfl 2 rfl ?_
    refine x_bipush C0 (v := 17) dL_all_7 kb_17 ?_
    refine x_icmp_ge C0 (tgt := 41) dL_all_9 rfl h (fun _ h => ?_) (fun _ h => ?_)
    · refine x_ldc2 C0 mw_521 dL_all_12 ?_
      refine x_lload_n C0 dL_all_15 rfl 1 rfl ?_
      refine x_lmul C0 dL_all_16 ?_
      refine x_iload_n C0 dL_all_17 rfl 2 rfl ?_
      refine x_bipush C0 (v := 14) dL_all_18 kb_14 ?_
      refine x_icmp_ne C0 (tgt := 27) dL_all_20 rfl h (fun _ h => ?_) (fun _ h => ?_)
      · refine x_iconst C0 (v := 0) dL_all_23 ki_0 ?_
        refine x_goto C0 (tgt := 32) dL_all_24 rfl ?_
        refine x_sub [0, 2] (L' := [(0, _), (3, _)]) rfl ?_
        refine x_pc (pc' := 32) rfl ?_
        exact b_L_all_32 C0 n (fun l1 l3 h => ih l1 l3 h) _ _ _ h
      · refine x_aload_n C0 dL_all_27 rfl 0 rfl ?_
        refine x_iload_n C0 dL_all_28 rfl 2 rfl ?_
        obtain ⟨q1, eq1, h⟩ := x_bind h
        refine x_callV11 C0 (c_X4_count n eq1) (x_cwV C0 mw_480 mw_481 mw_482 mw_44 mw_483 hd_yX4_count ⟨rfl, rfl, Nat.le_of_ble_eq_true rfl, Nat.le_of_ble_eq_true rfl⟩) (by decide) rfl wfT_r0 rfl ⟨Nat.zero_le _, Nat.zero_le _⟩ (Nat.le_of_ble_eq_true rfl) dL_all_29 ?_
        refine x_sub [0, 2] (L' := [(0, _), (3, _)]) rfl ?_
        refine x_pc (pc' := 32) rfl ?_
        exact b_L_all_32 C0 n (fun l1 l3 h => ih l1 l3 h) _ _ _ h
    · refine x_iconst C0 (v := 0) dL_all_41 ki_0 ?_
      refine x_istore_n C0 dL_all_42 rfl (L' := [(3, _), (0, _), (1, _)]) (by decide) rfl ?_
      refine x_sub [1, 2, 0] (L' := [(0, _), (1, _), (3, _)]) rfl ?_
      refine x_pc (pc' := 43) rfl ?_
      exact b_L_all_43 C0 n n _ _ h
set_option maxRecDepth 4000 in
set_option maxHeartbeats 2000000 in
theorem c_L_all {l : Launch} {D : va_G} {cs : Nat → ClassId} {ad : Nat → Nat} (n : Nat) {σ : xM}  {res : Int64} (h : F_L_all n σ = some res) : x_Met l yL_all [Cond.code yL_all cL_all 5 (some FieldType.long)] ({ frames := 5, cells := 0, slots := 0, locals := 111 } : Room) D vwCl (xtys cs) 333 ad (wfT cs ad) [.ref (ad 0)] σ (some (.long res)) σ := by
  refine x_Met_of (L0 := [(0, .ref (ad 0))]) (own := RL) (by decide) rfl rfl wfT_loc (Nat.le_of_ble_eq_true rfl) rfl ?_
  intro p e s m args below meth c A C0
  refine x_ldc2 C0 mw_520 dL_all_0 ?_
  refine x_lstore_n C0 dL_all_3 rfl (L' := [(1, _), (0, _)]) (by decide) rfl ?_
  refine x_iconst C0 (v := 0) dL_all_4 ki_0 ?_
  refine x_istore_n C0 dL_all_5 rfl (L' := [(3, _), (1, _), (0, _)]) (by decide) rfl ?_
  refine x_sub [2, 1, 0] (L' := [(0, _), (1, _), (3, _)]) rfl ?_
  refine x_pc (pc' := 6) rfl ?_
  exact b_L_all_6 C0 n n _ _ h
set_option maxRecDepth 4000 in
set_option maxHeartbeats 2000000 in
theorem b_L_isSound_218 {p : Program} {l : Launch} {e : Env} {s : State} {m : MethodId} {args : Array Value} {below : List Frame} {meth : Method} {c : Code} {D : va_G} {cs : Nat → ClassId} {ad : Nat → Nat} {A : Nat → Prop} (C0 : x_C p s m args meth c D vwCl (xtys cs) A s.heap 333 ad (wfT cs ad) cL_isSound 9 RL (some FieldType.boolean))  (n : Nat) {σ : xM} {res : Int32} {K9 : Int32 → Int32 → Int32 → Int32 → Option Int32} (hK9 : ∀ (l1 : Int32) (l2 : Int32) (l3 : Int32) (l4 : Int32) , K9 l1 l2 l3 l4 = some res → x_W p l e ({ frames := 5, cells := 0, slots := 0, locals := 111 } : Room) s m args below meth c D vwCl A s.heap 333 ad (wfT cs ad) 9 0 0 (x_E below args s D vwCl 333 ad (wfT cs ad) A (some (.int res)) σ) σ 9 [(0, .ref (ad 0)), (1, .int l1), (2, .int l2), (3, .int l3), (4, .int l4)] []) : ∀ (l1 : Int32) (l2 : Int32) (l3 : Int32) (l4 : Int32) (s0 : Int32) (s1 : Int32), B_L_isSound_218 n σ K9 l1 l2 l3 l4 s0 s1 = some res → x_W p l e ({ frames := 5, cells := 0, slots := 0, locals := 111 } : Room) s m args below meth c D vwCl A s.heap 333 ad (wfT cs ad) 9 0 0 (x_E below args s D vwCl 333 ad (wfT cs ad) A (some (.int res)) σ) σ 218 [(0, .ref (ad 0)), (1, .int l1), (2, .int l2), (3, .int l3), (4, .int l4)] [.int s1, .int s0] := by
  intro l1 l2 l3 l4 s0 s1 h
  refine x_icmp_eq C0 (tgt := 223) dL_isSound_218 rfl h (fun _ h => ?_) (fun _ h => ?_)
  · refine x_iload_n C0 dL_isSound_223 rfl 1 rfl ?_
    refine x_aload_n C0 dL_isSound_224 rfl 0 rfl ?_
    refine x_iload C0 dL_isSound_225 4 rfl ?_
    refine x_bipush C0 (v := 7) dL_isSound_227 kb_7 ?_
    obtain ⟨q37, eq37, h⟩ := x_bind h
    refine x_callV21 C0 (c_X4_helper n eq37) (x_cwV C0 mw_528 mw_529 mw_530 mw_44 mw_531 hd_yX4_helper ⟨rfl, rfl, Nat.le_of_ble_eq_true rfl, Nat.le_of_ble_eq_true rfl⟩) (by decide) rfl wfT_r0 rfl ⟨Nat.zero_le _, Nat.zero_le _⟩ (Nat.le_of_ble_eq_true rfl) dL_isSound_229 ?_
    refine x_iadd C0 dL_isSound_232 ?_
    refine x_istore_n C0 dL_isSound_233 rfl (L' := [(1, _), (0, _), (2, _), (3, _), (4, _)]) (by decide) rfl ?_
    refine x_pc (pc' := 234) rfl ?_
    refine x_iload_n C0 dL_isSound_234 rfl 2 rfl ?_
    refine x_aload_n C0 dL_isSound_235 rfl 1 rfl ?_
    refine x_iload C0 dL_isSound_236 4 rfl ?_
    refine x_bipush C0 (v := 8) dL_isSound_238 kb_8 ?_
    obtain ⟨q38, eq38, h⟩ := x_bind h
    refine x_callV21 C0 (c_X4_helper n eq38) (x_cwV C0 mw_528 mw_529 mw_530 mw_44 mw_531 hd_yX4_helper ⟨rfl, rfl, Nat.le_of_ble_eq_true rfl, Nat.le_of_ble_eq_true rfl⟩) (by decide) rfl wfT_r0 rfl ⟨Nat.zero_le _, Nat.zero_le _⟩ (Nat.le_of_ble_eq_true rfl) dL_isSound_240 ?_
    refine x_iadd C0 dL_isSound_243 ?_
    refine x_istore_n C0 dL_isSound_244 rfl (L' := [(2, _), (1, _), (0, _), (3, _), (4, _)]) (by decide) rfl ?_
    refine x_iload_n C0 dL_isSound_245 rfl 3 rfl ?_
    refine x_pc (pc' := 246) rfl ?_
    refine x_aload_n C0 dL_isSound_246 rfl 2 rfl ?_
    refine x_iload C0 dL_isSound_247 4 rfl ?_
    refine x_bipush C0 (v := 10) dL_isSound_249 kb_10 ?_
    obtain ⟨q39, eq39, h⟩ := x_bind h
    refine x_callV21 C0 (c_X4_helper n eq39) (x_cwV C0 mw_528 mw_529 mw_530 mw_44 mw_531 hd_yX4_helper ⟨rfl, rfl, Nat.le_of_ble_eq_true rfl, Nat.le_of_ble_eq_true rfl⟩) (by decide) rfl wfT_r0 rfl ⟨Nat.zero_le _, Nat.zero_le _⟩ (Nat.le_of_ble_eq_true rfl) dL_isSound_251 ?_
    refine x_iadd C0 dL_isSound_254 ?_
    refine x_istore_n C0 dL_isSound_255 rfl (L' := [(3, _), (2, _), (1, _), (0, _), (4, _)]) (by decide) rfl ?_
    refine x_iinc C0 (v := 1) (L' := [(4, _), (3, _), (2, _), (1, _), (0, _)]) dL_isSound_256 4 rfl ki_1 (by decide) rfl ?_
    refine x_goto C0 (tgt := 9) dL_isSound_259 rfl ?_
    refine x_sub [4, 3, 2, 1, 0] (L' := [(0, _), (1, _), (2, _), (3, _), (4, _)]) rfl ?_
    refine x_pc (pc' := 9) rfl ?_
    exact hK9 _ _ _ _ h
  · refine x_iconst C0 (v := 0) dL_isSound_221 ki_0 ?_
    obtain rfl := x_inj h
    exact x_zret (v := 0) C0 rfl dL_isSound_222
set_option maxRecDepth 4000 in
set_option maxHeartbeats 2000000 in
theorem b_L_isSound_181 {p : Program} {l : Launch} {e : Env} {s : State} {m : MethodId} {args : Array Value} {below : List Frame} {meth : Method} {c : Code} {D : va_G} {cs : Nat → ClassId} {ad : Nat → Nat} {A : Nat → Prop} (C0 : x_C p s m args meth c D vwCl (xtys cs) A s.heap 333 ad (wfT cs ad) cL_isSound 9 RL (some FieldType.boolean))  (n : Nat) {σ : xM} {res : Int32} {K9 : Int32 → Int32 → Int32 → Int32 → Option Int32} (hK9 : ∀ (l1 : Int32) (l2 : Int32) (l3 : Int32) (l4 : Int32) , K9 l1 l2 l3 l4 = some res → x_W p l e ({ frames := 5, cells := 0, slots := 0, locals := 111 } : Room) s m args below meth c D vwCl A s.heap 333 ad (wfT cs ad) 9 0 0 (x_E below args s D vwCl 333 ad (wfT cs ad) A (some (.int res)) σ) σ 9 [(0, .ref (ad 0)), (1, .int l1), (2, .int l2), (3, .int l3), (4, .int l4)] []) : ∀ (l1 : Int32) (l2 : Int32) (l3 : Int32) (l4 : Int32) (l5 : Int32) (s0 : Int32) (s1 : Int32), B_L_isSound_181 n σ K9 l1 l2 l3 l4 l5 s0 s1 = some res → x_W p l e ({ frames := 5, cells := 0, slots := 0, locals := 111 } : Room) s m args below meth c D vwCl A s.heap 333 ad (wfT cs ad) 9 0 0 (x_E below args s D vwCl 333 ad (wfT cs ad) A (some (.int res)) σ) σ 181 [(0, .ref (ad 0)), (1, .int l1), (2, .int l2), (3, .int l3), (4, .int l4), (5, .int l5)] [.int s1, .int s0] := by
  intro l1 l2 l3 l4 l5 s0 s1 h
  refine x_icmp_ne C0 (tgt := 221) dL_isSound_181 rfl h (fun _ h => ?_) (fun _ h => ?_)
  · refine x_aload_n C0 dL_isSound_184 rfl 0 rfl ?_
    refine x_iload C0 dL_isSound_185 4 rfl ?_
    refine x_bipush C0 (v := 6) dL_isSound_187 kb_6 ?_
    obtain ⟨q29, eq29, h⟩ := x_bind h
    refine x_callV21 C0 (c_X4_helper n eq29) (x_cwV C0 mw_528 mw_529 mw_530 mw_44 mw_531 hd_yX4_helper ⟨rfl, rfl, Nat.le_of_ble_eq_true rfl, Nat.le_of_ble_eq_true rfl⟩) (by decide) rfl wfT_r0 rfl ⟨Nat.zero_le _, Nat.zero_le _⟩ (Nat.le_of_ble_eq_true rfl) dL_isSound_189 ?_
    refine x_iload C0 dL_isSound_192 5 rfl ?_
    refine x_if_ne C0 (tgt := 207) dL_isSound_194 rfl h (fun _ h => ?_) (fun _ h => ?_)
    · refine x_aload_n C0 dL_isSound_197 rfl 0 rfl ?_
      refine x_iload C0 dL_isSound_198 4 rfl ?_
      refine x_iconst C0 (v := 1) dL_isSound_200 ki_1 ?_
      obtain ⟨q30, eq30, h⟩ := x_bind h
      refine x_callV21 C0 (c_X4_helper n eq30) (x_cwV C0 mw_528 mw_529 mw_530 mw_44 mw_531 hd_yX4_helper ⟨rfl, rfl, Nat.le_of_ble_eq_true rfl, Nat.le_of_ble_eq_true rfl⟩) (by decide) rfl wfT_r0 rfl ⟨Nat.zero_le _, Nat.zero_le _⟩ (Nat.le_of_ble_eq_true rfl) dL_isSound_201 ?_
      refine x_goto C0 (tgt := 218) dL_isSound_204 rfl ?_
      refine x_sub [0, 1, 2, 3, 4] (L' := [(0, _), (1, _), (2, _), (3, _), (4, _)]) rfl ?_
      refine x_pc (pc' := 218) rfl ?_
      exact b_L_isSound_218 C0 n hK9 _ _ _ _ _ _ h
    · refine x_iload C0 dL_isSound_207 5 rfl ?_
      refine x_iconst C0 (v := 1) dL_isSound_209 ki_1 ?_
      refine x_icmp_ne C0 (tgt := 217) dL_isSound_210 rfl h (fun _ h => ?_) (fun _ h => ?_)
      · refine x_iconst C0 (v := 1) dL_isSound_213 ki_1 ?_
        refine x_goto C0 (tgt := 218) dL_isSound_214 rfl ?_
        refine x_sub [0, 1, 2, 3, 4] (L' := [(0, _), (1, _), (2, _), (3, _), (4, _)]) rfl ?_
        refine x_pc (pc' := 218) rfl ?_
        exact b_L_isSound_218 C0 n hK9 _ _ _ _ _ _ h
      · refine x_iconst C0 (v := 0) dL_isSound_217 ki_0 ?_
        refine x_sub [0, 1, 2, 3, 4] (L' := [(0, _), (1, _), (2, _), (3, _), (4, _)]) rfl ?_
        refine x_pc (pc' := 218) rfl ?_
        exact b_L_isSound_218 C0 n hK9 _ _ _ _ _ _ h
  · refine x_iconst C0 (v := 0) dL_isSound_221 ki_0 ?_
    obtain rfl := x_inj h
    exact x_zret (v := 0) C0 rfl dL_isSound_222
set_option maxRecDepth 4000 in
set_option maxHeartbeats 2000000 in
theorem b_L_isSound_171 {p : Program} {l : Launch} {e : Env} {s : State} {m : MethodId} {args : Array Value} {below : List Frame} {meth : Method} {c : Code} {D : va_G} {cs : Nat → ClassId} {ad : Nat → Nat} {A : Nat → Prop} (C0 : x_C p s m args meth c D vwCl (xtys cs) A s.heap 333 ad (wfT cs ad) cL_isSound 9 RL (some FieldType.boolean))  (n : Nat) {σ : xM} {res : Int32} {K9 : Int32 → Int32 → Int32 → Int32 → Option Int32} (hK9 : ∀ (l1 : Int32) (l2 : Int32) (l3 : Int32) (l4 : Int32) , K9 l1 l2 l3 l4 = some res → x_W p l e ({ frames := 5, cells := 0, slots := 0, locals := 111 } : Room) s m args below meth c D vwCl A s.heap 333 ad (wfT cs ad) 9 0 0 (x_E below args s D vwCl 333 ad (wfT cs ad) A (some (.int res)) σ) σ 9 [(0, .ref (ad 0)), (1, .int l1), (2, .int l2), (3, .int l3), (4, .int l4)] []) : ∀ (l1 : Int32) (l2 : Int32) (l3 : Int32) (l4 : Int32) (l5 : Int32) (l7 : Int32) (s0 : Int32), B_L_isSound_171 n σ K9 l1 l2 l3 l4 l5 l7 s0 = some res → x_W p l e ({ frames := 5, cells := 0, slots := 0, locals := 111 } : Room) s m args below meth c D vwCl A s.heap 333 ad (wfT cs ad) 9 0 0 (x_E below args s D vwCl 333 ad (wfT cs ad) A (some (.int res)) σ) σ 171 [(0, .ref (ad 0)), (1, .int l1), (2, .int l2), (3, .int l3), (4, .int l4), (5, .int l5), (7, .int l7)] [.int s0] := by
  intro l1 l2 l3 l4 l5 l7 s0 h
  refine x_iload C0 dL_isSound_171 6 rfl ?_
  refine x_if_le C0 (tgt := 180) dL_isSound_173 rfl h (fun _ h => ?_) (fun _ h => ?_)
  · refine x_iconst C0 (v := 1) dL_isSound_176 ki_1 ?_
    refine x_goto C0 (tgt := 181) dL_isSound_177 rfl ?_
    refine x_sub [0, 1, 2, 3, 4, 5] (L' := [(0, _), (1, _), (2, _), (3, _), (4, _), (5, _)]) rfl ?_
    refine x_pc (pc' := 181) rfl ?_
    exact b_L_isSound_181 C0 n hK9 _ _ _ _ _ _ _ h
  · refine x_iconst C0 (v := 0) dL_isSound_180 ki_0 ?_
    refine x_sub [0, 1, 2, 3, 4, 5] (L' := [(0, _), (1, _), (2, _), (3, _), (4, _), (5, _)]) rfl ?_
    refine x_pc (pc' := 181) rfl ?_
    exact b_L_isSound_181 C0 n hK9 _ _ _ _ _ _ _ h
set_option maxRecDepth 4000 in
set_option maxHeartbeats 2000000 in
theorem b_L_isSound_157 {p : Program} {l : Launch} {e : Env} {s : State} {m : MethodId} {args : Array Value} {below : List Frame} {meth : Method} {c : Code} {D : va_G} {cs : Nat → ClassId} {ad : Nat → Nat} {A : Nat → Prop} (C0 : x_C p s m args meth c D vwCl (xtys cs) A s.heap 333 ad (wfT cs ad) cL_isSound 9 RL (some FieldType.boolean))  (n : Nat) {σ : xM} {res : Int32} {K9 : Int32 → Int32 → Int32 → Int32 → Option Int32} (hK9 : ∀ (l1 : Int32) (l2 : Int32) (l3 : Int32) (l4 : Int32) , K9 l1 l2 l3 l4 = some res → x_W p l e ({ frames := 5, cells := 0, slots := 0, locals := 111 } : Room) s m args below meth c D vwCl A s.heap 333 ad (wfT cs ad) 9 0 0 (x_E below args s D vwCl 333 ad (wfT cs ad) A (some (.int res)) σ) σ 9 [(0, .ref (ad 0)), (1, .int l1), (2, .int l2), (3, .int l3), (4, .int l4)] []) : ∀ (l1 : Int32) (l2 : Int32) (l3 : Int32) (l4 : Int32) (l5 : Int32) (l7 : Int32) (s0 : Int32) (s1 : Int32), B_L_isSound_157 n σ K9 l1 l2 l3 l4 l5 l7 s0 s1 = some res → x_W p l e ({ frames := 5, cells := 0, slots := 0, locals := 111 } : Room) s m args below meth c D vwCl A s.heap 333 ad (wfT cs ad) 9 0 0 (x_E below args s D vwCl 333 ad (wfT cs ad) A (some (.int res)) σ) σ 157 [(0, .ref (ad 0)), (1, .int l1), (2, .int l2), (3, .int l3), (4, .int l4), (5, .int l5), (7, .int l7)] [.int s1, .int s0] := by
  intro l1 l2 l3 l4 l5 l7 s0 s1 h
  refine x_icmp_ne C0 (tgt := 221) dL_isSound_157 rfl h (fun _ h => ?_) (fun _ h => ?_)
  · refine x_iload C0 dL_isSound_160 5 rfl ?_
    refine x_iconst C0 (v := 1) dL_isSound_162 ki_1 ?_
    refine x_icmp_ne C0 (tgt := 170) dL_isSound_163 rfl h (fun _ h => ?_) (fun _ h => ?_)
    · refine x_iconst C0 (v := 1) dL_isSound_166 ki_1 ?_
      refine x_goto C0 (tgt := 171) dL_isSound_167 rfl ?_
      refine x_sub [0, 1, 2, 3, 4, 5, 6] (L' := [(0, _), (1, _), (2, _), (3, _), (4, _), (5, _), (7, _)]) rfl ?_
      refine x_pc (pc' := 171) rfl ?_
      exact b_L_isSound_171 C0 n hK9 _ _ _ _ _ _ _ h
    · refine x_iconst C0 (v := 0) dL_isSound_170 ki_0 ?_
      refine x_sub [0, 1, 2, 3, 4, 5, 6] (L' := [(0, _), (1, _), (2, _), (3, _), (4, _), (5, _), (7, _)]) rfl ?_
      refine x_pc (pc' := 171) rfl ?_
      exact b_L_isSound_171 C0 n hK9 _ _ _ _ _ _ _ h
  · refine x_iconst C0 (v := 0) dL_isSound_221 ki_0 ?_
    obtain rfl := x_inj h
    exact x_zret (v := 0) C0 rfl dL_isSound_222
set_option maxRecDepth 4000 in
set_option maxHeartbeats 2000000 in
theorem b_L_isSound_147 {p : Program} {l : Launch} {e : Env} {s : State} {m : MethodId} {args : Array Value} {below : List Frame} {meth : Method} {c : Code} {D : va_G} {cs : Nat → ClassId} {ad : Nat → Nat} {A : Nat → Prop} (C0 : x_C p s m args meth c D vwCl (xtys cs) A s.heap 333 ad (wfT cs ad) cL_isSound 9 RL (some FieldType.boolean))  (n : Nat) {σ : xM} {res : Int32} {K9 : Int32 → Int32 → Int32 → Int32 → Option Int32} (hK9 : ∀ (l1 : Int32) (l2 : Int32) (l3 : Int32) (l4 : Int32) , K9 l1 l2 l3 l4 = some res → x_W p l e ({ frames := 5, cells := 0, slots := 0, locals := 111 } : Room) s m args below meth c D vwCl A s.heap 333 ad (wfT cs ad) 9 0 0 (x_E below args s D vwCl 333 ad (wfT cs ad) A (some (.int res)) σ) σ 9 [(0, .ref (ad 0)), (1, .int l1), (2, .int l2), (3, .int l3), (4, .int l4)] []) : ∀ (l1 : Int32) (l2 : Int32) (l3 : Int32) (l4 : Int32) (l5 : Int32) (l6 : Int32) (l7 : Int32) (s0 : Int32), B_L_isSound_147 n σ K9 l1 l2 l3 l4 l5 l6 l7 s0 = some res → x_W p l e ({ frames := 5, cells := 0, slots := 0, locals := 111 } : Room) s m args below meth c D vwCl A s.heap 333 ad (wfT cs ad) 9 0 0 (x_E below args s D vwCl 333 ad (wfT cs ad) A (some (.int res)) σ) σ 147 [(0, .ref (ad 0)), (1, .int l1), (2, .int l2), (3, .int l3), (4, .int l4), (5, .int l5), (6, .int l6), (7, .int l7)] [.int s0] := by
  intro l1 l2 l3 l4 l5 l6 l7 s0 h
  refine x_iload C0 dL_isSound_147 6 rfl ?_
  refine x_if_le C0 (tgt := 156) dL_isSound_149 rfl h (fun _ h => ?_) (fun _ h => ?_)
  · refine x_iconst C0 (v := 1) dL_isSound_152 ki_1 ?_
    refine x_goto C0 (tgt := 157) dL_isSound_153 rfl ?_
    refine x_sub [0, 1, 2, 3, 4, 5, 7] (L' := [(0, _), (1, _), (2, _), (3, _), (4, _), (5, _), (7, _)]) rfl ?_
    refine x_pc (pc' := 157) rfl ?_
    exact b_L_isSound_157 C0 n hK9 _ _ _ _ _ _ _ _ h
  · refine x_iconst C0 (v := 0) dL_isSound_156 ki_0 ?_
    refine x_sub [0, 1, 2, 3, 4, 5, 7] (L' := [(0, _), (1, _), (2, _), (3, _), (4, _), (5, _), (7, _)]) rfl ?_
    refine x_pc (pc' := 157) rfl ?_
    exact b_L_isSound_157 C0 n hK9 _ _ _ _ _ _ _ _ h
set_option maxRecDepth 4000 in
set_option maxHeartbeats 2000000 in
theorem b_L_isSound_381 {p : Program} {l : Launch} {e : Env} {s : State} {m : MethodId} {args : Array Value} {below : List Frame} {meth : Method} {c : Code} {D : va_G} {cs : Nat → ClassId} {ad : Nat → Nat} {A : Nat → Prop} (C0 : x_C p s m args meth c D vwCl (xtys cs) A s.heap 333 ad (wfT cs ad) cL_isSound 9 RL (some FieldType.boolean))  (n : Nat) {σ : xM} {res : Int32} {K268 : Int32 → Int32 → Int32 → Int32 → Int32 → Option Int32} {K282 : Int32 → Int32 → Int32 → Int32 → Int32 → Int32 → Option Int32} (hK268 : ∀ (l1 : Int32) (l2 : Int32) (l3 : Int32) (l4 : Int32) (l5 : Int32) , K268 l1 l2 l3 l4 l5 = some res → x_W p l e ({ frames := 5, cells := 0, slots := 0, locals := 111 } : Room) s m args below meth c D vwCl A s.heap 333 ad (wfT cs ad) 9 0 0 (x_E below args s D vwCl 333 ad (wfT cs ad) A (some (.int res)) σ) σ 268 [(0, .ref (ad 0)), (1, .int l1), (2, .int l2), (3, .int l3), (4, .int l4), (5, .int l5)] []) (hK282 : ∀ (l1 : Int32) (l2 : Int32) (l3 : Int32) (l4 : Int32) (l5 : Int32) (l6 : Int32) , K282 l1 l2 l3 l4 l5 l6 = some res → x_W p l e ({ frames := 5, cells := 0, slots := 0, locals := 111 } : Room) s m args below meth c D vwCl A s.heap 333 ad (wfT cs ad) 9 0 0 (x_E below args s D vwCl 333 ad (wfT cs ad) A (some (.int res)) σ) σ 282 [(0, .ref (ad 0)), (1, .int l1), (2, .int l2), (3, .int l3), (4, .int l4), (5, .int l5), (6, .int l6)] []) : ∀ (l1 : Int32) (l2 : Int32) (l3 : Int32) (l4 : Int32) (l5 : Int32) (l6 : Int32), B_L_isSound_381 n σ K268 K282 l1 l2 l3 l4 l5 l6 = some res → x_W p l e ({ frames := 5, cells := 0, slots := 0, locals := 111 } : Room) s m args below meth c D vwCl A s.heap 333 ad (wfT cs ad) 9 0 0 (x_E below args s D vwCl 333 ad (wfT cs ad) A (some (.int res)) σ) σ 381 [(0, .ref (ad 0)), (1, .int l1), (2, .int l2), (3, .int l3), (4, .int l4), (5, .int l5), (6, .int l6)] [] := by
  intro l1 l2 l3 l4 l5 l6 h
  refine x_iinc C0 (v := 1) (L' := [(6, _), (0, _), (1, _), (2, _), (3, _), (4, _), (5, _)]) dL_isSound_381 6 rfl ki_1 (by decide) rfl ?_
  refine x_goto C0 (tgt := 282) dL_isSound_384 rfl ?_
  refine x_sub [1, 2, 3, 4, 5, 6, 0] (L' := [(0, _), (1, _), (2, _), (3, _), (4, _), (5, _), (6, _)]) rfl ?_
  refine x_pc (pc' := 282) rfl ?_
  exact hK282 _ _ _ _ _ _ h
set_option maxRecDepth 4000 in
set_option maxHeartbeats 2000000 in
theorem b_L_isSound_322 {p : Program} {l : Launch} {e : Env} {s : State} {m : MethodId} {args : Array Value} {below : List Frame} {meth : Method} {c : Code} {D : va_G} {cs : Nat → ClassId} {ad : Nat → Nat} {A : Nat → Prop} (C0 : x_C p s m args meth c D vwCl (xtys cs) A s.heap 333 ad (wfT cs ad) cL_isSound 9 RL (some FieldType.boolean))  (n : Nat) {σ : xM} {res : Int32} {K268 : Int32 → Int32 → Int32 → Int32 → Int32 → Option Int32} {K282 : Int32 → Int32 → Int32 → Int32 → Int32 → Int32 → Option Int32} (hK268 : ∀ (l1 : Int32) (l2 : Int32) (l3 : Int32) (l4 : Int32) (l5 : Int32) , K268 l1 l2 l3 l4 l5 = some res → x_W p l e ({ frames := 5, cells := 0, slots := 0, locals := 111 } : Room) s m args below meth c D vwCl A s.heap 333 ad (wfT cs ad) 9 0 0 (x_E below args s D vwCl 333 ad (wfT cs ad) A (some (.int res)) σ) σ 268 [(0, .ref (ad 0)), (1, .int l1), (2, .int l2), (3, .int l3), (4, .int l4), (5, .int l5)] []) (hK282 : ∀ (l1 : Int32) (l2 : Int32) (l3 : Int32) (l4 : Int32) (l5 : Int32) (l6 : Int32) , K282 l1 l2 l3 l4 l5 l6 = some res → x_W p l e ({ frames := 5, cells := 0, slots := 0, locals := 111 } : Room) s m args below meth c D vwCl A s.heap 333 ad (wfT cs ad) 9 0 0 (x_E below args s D vwCl 333 ad (wfT cs ad) A (some (.int res)) σ) σ 282 [(0, .ref (ad 0)), (1, .int l1), (2, .int l2), (3, .int l3), (4, .int l4), (5, .int l5), (6, .int l6)] []) : ∀ (l1 : Int32) (l2 : Int32) (l3 : Int32) (l5 : Int32) (l6 : Int32) (l7 : Int32) (l8 : Int32) (s0 : Int32) (s1 : Int32), B_L_isSound_322 n σ K268 K282 l1 l2 l3 l5 l6 l7 l8 s0 s1 = some res → x_W p l e ({ frames := 5, cells := 0, slots := 0, locals := 111 } : Room) s m args below meth c D vwCl A s.heap 333 ad (wfT cs ad) 9 0 0 (x_E below args s D vwCl 333 ad (wfT cs ad) A (some (.int res)) σ) σ 322 [(0, .ref (ad 0)), (1, .int l1), (2, .int l2), (3, .int l3), (5, .int l5), (6, .int l6), (7, .int l7), (8, .int l8)] [.int s1, .int s0] := by
  intro l1 l2 l3 l5 l6 l7 l8 s0 s1 h
  refine x_iadd C0 dL_isSound_322 ?_
  refine x_istore C0 dL_isSound_323 (L' := [(4, _), (0, _), (1, _), (2, _), (3, _), (5, _), (6, _), (7, _), (8, _)]) (by decide) rfl ?_
  refine x_iload C0 dL_isSound_325 8 rfl ?_
  refine x_if_eq C0 (tgt := 381) dL_isSound_327 rfl h (fun _ h => ?_) (fun _ h => ?_)
  · refine x_sub [1, 2, 3, 4, 0, 5, 6] (L' := [(0, _), (1, _), (2, _), (3, _), (4, _), (5, _), (6, _)]) rfl ?_
    refine x_pc (pc' := 381) rfl ?_
    exact b_L_isSound_381 C0 n hK268 hK282 _ _ _ _ _ _ h
  · refine x_iload C0 dL_isSound_330 6 rfl ?_
    refine x_aload_n C0 dL_isSound_332 rfl 1 rfl ?_
    refine x_bipush C0 (v := 7) dL_isSound_333 kb_7 ?_
    obtain ⟨q31, eq31, h⟩ := x_bind h
    refine x_callV11 C0 (c_X4_count n eq31) (x_cwV C0 mw_480 mw_481 mw_482 mw_44 mw_483 hd_yX4_count ⟨rfl, rfl, Nat.le_of_ble_eq_true rfl, Nat.le_of_ble_eq_true rfl⟩) (by decide) rfl wfT_r0 rfl ⟨Nat.zero_le _, Nat.zero_le _⟩ (Nat.le_of_ble_eq_true rfl) dL_isSound_335 ?_
    refine x_icmp_ge C0 (tgt := 379) dL_isSound_338 rfl h (fun _ h => ?_) (fun _ h => ?_)
    · refine x_iload C0 dL_isSound_341 7 rfl ?_
      refine x_aload_n C0 dL_isSound_343 rfl 1 rfl ?_
      refine x_bipush C0 (v := 6) dL_isSound_344 kb_6 ?_
      obtain ⟨q32, eq32, h⟩ := x_bind h
      refine x_callV11 C0 (c_X4_count n eq32) (x_cwV C0 mw_480 mw_481 mw_482 mw_44 mw_483 hd_yX4_count ⟨rfl, rfl, Nat.le_of_ble_eq_true rfl, Nat.le_of_ble_eq_true rfl⟩) (by decide) rfl wfT_r0 rfl ⟨Nat.zero_le _, Nat.zero_le _⟩ (Nat.le_of_ble_eq_true rfl) dL_isSound_346 ?_
      refine x_irem C0 dL_isSound_349 h (fun _ h => ?_)
      refine x_iload C0 dL_isSound_350 5 rfl ?_
      refine x_icmp_ne C0 (tgt := 379) dL_isSound_352 rfl h (fun _ h => ?_) (fun _ h => ?_)
      · refine x_aload_n C0 dL_isSound_355 rfl 1 rfl ?_
        refine x_iload C0 dL_isSound_356 7 rfl ?_
        refine x_iconst C0 (v := 3) dL_isSound_358 ki_3 ?_
        obtain ⟨q33, eq33, h⟩ := x_bind h
        refine x_callV21 C0 (c_X4_line n eq33) (x_cwV C0 mw_522 mw_523 mw_524 mw_44 mw_525 hd_yX4_line ⟨rfl, rfl, Nat.le_of_ble_eq_true rfl, Nat.le_of_ble_eq_true rfl⟩) (by decide) rfl wfT_r0 rfl ⟨Nat.zero_le _, Nat.zero_le _⟩ (Nat.le_of_ble_eq_true rfl) dL_isSound_359 ?_
        refine x_iload C0 dL_isSound_362 6 rfl ?_
        refine x_icmp_ne C0 (tgt := 379) dL_isSound_364 rfl h (fun _ h => ?_) (fun _ h => ?_)
        · refine x_aload_n C0 dL_isSound_367 rfl 1 rfl ?_
          refine x_iload C0 dL_isSound_368 7 rfl ?_
          refine x_iconst C0 (v := 4) dL_isSound_370 ki_4 ?_
          obtain ⟨q34, eq34, h⟩ := x_bind h
          refine x_callV21 C0 (c_X4_line n eq34) (x_cwV C0 mw_522 mw_523 mw_524 mw_44 mw_525 hd_yX4_line ⟨rfl, rfl, Nat.le_of_ble_eq_true rfl, Nat.le_of_ble_eq_true rfl⟩) (by decide) rfl wfT_r0 rfl ⟨Nat.zero_le _, Nat.zero_le _⟩ (Nat.le_of_ble_eq_true rfl) dL_isSound_371 ?_
          refine x_ldc C0 mw_546 dL_isSound_374 ?_
          refine x_icmp_eq C0 (tgt := 381) dL_isSound_376 rfl h (fun _ h => ?_) (fun _ h => ?_)
          · refine x_sub [1, 2, 3, 4, 0, 5, 6] (L' := [(0, _), (1, _), (2, _), (3, _), (4, _), (5, _), (6, _)]) rfl ?_
            refine x_pc (pc' := 381) rfl ?_
            exact b_L_isSound_381 C0 n hK268 hK282 _ _ _ _ _ _ h
          · refine x_iconst C0 (v := 0) dL_isSound_379 ki_0 ?_
            obtain rfl := x_inj h
            exact x_zret (v := 0) C0 rfl dL_isSound_380
        · refine x_iconst C0 (v := 0) dL_isSound_379 ki_0 ?_
          obtain rfl := x_inj h
          exact x_zret (v := 0) C0 rfl dL_isSound_380
      · refine x_iconst C0 (v := 0) dL_isSound_379 ki_0 ?_
        obtain rfl := x_inj h
        exact x_zret (v := 0) C0 rfl dL_isSound_380
    · refine x_iconst C0 (v := 0) dL_isSound_379 ki_0 ?_
      obtain rfl := x_inj h
      exact x_zret (v := 0) C0 rfl dL_isSound_380
set_option maxRecDepth 4000 in
set_option maxHeartbeats 2000000 in
theorem b_L_isSound_308 {p : Program} {l : Launch} {e : Env} {s : State} {m : MethodId} {args : Array Value} {below : List Frame} {meth : Method} {c : Code} {D : va_G} {cs : Nat → ClassId} {ad : Nat → Nat} {A : Nat → Prop} (C0 : x_C p s m args meth c D vwCl (xtys cs) A s.heap 333 ad (wfT cs ad) cL_isSound 9 RL (some FieldType.boolean))  (n : Nat) {σ : xM} {res : Int32} {K268 : Int32 → Int32 → Int32 → Int32 → Int32 → Option Int32} {K282 : Int32 → Int32 → Int32 → Int32 → Int32 → Int32 → Option Int32} (hK268 : ∀ (l1 : Int32) (l2 : Int32) (l3 : Int32) (l4 : Int32) (l5 : Int32) , K268 l1 l2 l3 l4 l5 = some res → x_W p l e ({ frames := 5, cells := 0, slots := 0, locals := 111 } : Room) s m args below meth c D vwCl A s.heap 333 ad (wfT cs ad) 9 0 0 (x_E below args s D vwCl 333 ad (wfT cs ad) A (some (.int res)) σ) σ 268 [(0, .ref (ad 0)), (1, .int l1), (2, .int l2), (3, .int l3), (4, .int l4), (5, .int l5)] []) (hK282 : ∀ (l1 : Int32) (l2 : Int32) (l3 : Int32) (l4 : Int32) (l5 : Int32) (l6 : Int32) , K282 l1 l2 l3 l4 l5 l6 = some res → x_W p l e ({ frames := 5, cells := 0, slots := 0, locals := 111 } : Room) s m args below meth c D vwCl A s.heap 333 ad (wfT cs ad) 9 0 0 (x_E below args s D vwCl 333 ad (wfT cs ad) A (some (.int res)) σ) σ 282 [(0, .ref (ad 0)), (1, .int l1), (2, .int l2), (3, .int l3), (4, .int l4), (5, .int l5), (6, .int l6)] []) : ∀ (l1 : Int32) (l2 : Int32) (l3 : Int32) (l4 : Int32) (l5 : Int32) (l6 : Int32) (l7 : Int32) (s0 : Int32), B_L_isSound_308 n σ K268 K282 l1 l2 l3 l4 l5 l6 l7 s0 = some res → x_W p l e ({ frames := 5, cells := 0, slots := 0, locals := 111 } : Room) s m args below meth c D vwCl A s.heap 333 ad (wfT cs ad) 9 0 0 (x_E below args s D vwCl 333 ad (wfT cs ad) A (some (.int res)) σ) σ 308 [(0, .ref (ad 0)), (1, .int l1), (2, .int l2), (3, .int l3), (4, .int l4), (5, .int l5), (6, .int l6), (7, .int l7)] [.int s0] := by
  intro l1 l2 l3 l4 l5 l6 l7 s0 h
  refine x_istore C0 dL_isSound_308 (L' := [(8, _), (0, _), (1, _), (2, _), (3, _), (4, _), (5, _), (6, _), (7, _)]) (by decide) rfl ?_
  refine x_iload C0 dL_isSound_310 5 rfl ?_
  refine x_iload C0 dL_isSound_312 0 rfl ?_
  refine x_if_eq C0 (tgt := 321) dL_isSound_314 rfl h (fun _ h => ?_) (fun _ h => ?_)
  · refine x_iconst C0 (v := 0) dL_isSound_321 ki_0 ?_
    refine x_sub [1, 2, 3, 4, 6, 7, 8, 0] (L' := [(0, _), (1, _), (2, _), (3, _), (5, _), (6, _), (7, _), (8, _)]) rfl ?_
    refine x_pc (pc' := 322) rfl ?_
    exact b_L_isSound_322 C0 n hK268 hK282 _ _ _ _ _ _ _ _ _ h
  · refine x_iconst C0 (v := 1) dL_isSound_317 ki_1 ?_
    refine x_goto C0 (tgt := 322) dL_isSound_318 rfl ?_
    refine x_sub [1, 2, 3, 4, 6, 7, 8, 0] (L' := [(0, _), (1, _), (2, _), (3, _), (5, _), (6, _), (7, _), (8, _)]) rfl ?_
    refine x_pc (pc' := 322) rfl ?_
    exact b_L_isSound_322 C0 n hK268 hK282 _ _ _ _ _ _ _ _ _ h
set_option maxRecDepth 4000 in
set_option maxHeartbeats 2000000 in
theorem b_L_isSound_282 {p : Program} {l : Launch} {e : Env} {s : State} {m : MethodId} {args : Array Value} {below : List Frame} {meth : Method} {c : Code} {D : va_G} {cs : Nat → ClassId} {ad : Nat → Nat} {A : Nat → Prop} (C0 : x_C p s m args meth c D vwCl (xtys cs) A s.heap 333 ad (wfT cs ad) cL_isSound 9 RL (some FieldType.boolean))  (n : Nat) {σ : xM} {res : Int32} {K268 : Int32 → Int32 → Int32 → Int32 → Int32 → Option Int32} (hK268 : ∀ (l1 : Int32) (l2 : Int32) (l3 : Int32) (l4 : Int32) (l5 : Int32) , K268 l1 l2 l3 l4 l5 = some res → x_W p l e ({ frames := 5, cells := 0, slots := 0, locals := 111 } : Room) s m args below meth c D vwCl A s.heap 333 ad (wfT cs ad) 9 0 0 (x_E below args s D vwCl 333 ad (wfT cs ad) A (some (.int res)) σ) σ 268 [(0, .ref (ad 0)), (1, .int l1), (2, .int l2), (3, .int l3), (4, .int l4), (5, .int l5)] []) : ∀ (f : Nat) (l1 : Int32) (l2 : Int32) (l3 : Int32) (l4 : Int32) (l5 : Int32) (l6 : Int32), B_L_isSound_282 n σ K268 f l1 l2 l3 l4 l5 l6 = some res → x_W p l e ({ frames := 5, cells := 0, slots := 0, locals := 111 } : Room) s m args below meth c D vwCl A s.heap 333 ad (wfT cs ad) 9 0 0 (x_E below args s D vwCl 333 ad (wfT cs ad) A (some (.int res)) σ) σ 282 [(0, .ref (ad 0)), (1, .int l1), (2, .int l2), (3, .int l3), (4, .int l4), (5, .int l5), (6, .int l6)] [] := by
  intro f
  induction f with
  | zero =>
    intro l1 l2 l3 l4 l5 l6 h
    cases h
  | succ f ih =>
    intro l1 l2 l3 l4 l5 l6 h
    refine x_iload C0 dL_isSound_282 6 rfl ?_
    refine x_iconst C0 (v := 5) dL_isSound_284 ki_5 ?_
    refine x_icmp_ge C0 (tgt := 387) dL_isSound_285 rfl h (fun _ h => ?_) (fun _ h => ?_)
    · refine x_aload_n C0 dL_isSound_288 rfl 0 rfl ?_
      refine x_iload C0 dL_isSound_289 5 rfl ?_
      refine x_iload C0 dL_isSound_291 6 rfl ?_
      obtain ⟨q15, eq15, h⟩ := x_bind h
      refine x_callV21 C0 (c_X4_inSet n eq15) (x_cwV C0 mw_541 mw_542 mw_543 mw_44 mw_544 hd_yX4_inSet ⟨rfl, rfl, Nat.le_of_ble_eq_true rfl, Nat.le_of_ble_eq_true rfl⟩) (by decide) rfl wfT_r0 rfl ⟨Nat.zero_le _, Nat.zero_le _⟩ (Nat.le_of_ble_eq_true rfl) dL_isSound_293 ?_
      refine x_istore C0 dL_isSound_296 (L' := [(7, _), (0, _), (1, _), (2, _), (3, _), (4, _), (5, _), (6, _)]) (by decide) rfl ?_
      refine x_iload C0 dL_isSound_298 0 rfl ?_
      refine x_if_lt C0 (tgt := 307) dL_isSound_300 rfl h (fun _ h => ?_) (fun _ h => ?_)
      · refine x_iconst C0 (v := 0) dL_isSound_307 ki_0 ?_
        refine x_sub [1, 2, 3, 4, 5, 6, 7, 0] (L' := [(0, _), (1, _), (2, _), (3, _), (4, _), (5, _), (6, _), (7, _)]) rfl ?_
        refine x_pc (pc' := 308) rfl ?_
        exact b_L_isSound_308 C0 n hK268 (fun l1 l2 l3 l4 l5 l6 h => ih l1 l2 l3 l4 l5 l6 h) _ _ _ _ _ _ _ _ h
      · refine x_iconst C0 (v := 1) dL_isSound_303 ki_1 ?_
        refine x_goto C0 (tgt := 308) dL_isSound_304 rfl ?_
        refine x_sub [1, 2, 3, 4, 5, 6, 7, 0] (L' := [(0, _), (1, _), (2, _), (3, _), (4, _), (5, _), (6, _), (7, _)]) rfl ?_
        refine x_pc (pc' := 308) rfl ?_
        exact b_L_isSound_308 C0 n hK268 (fun l1 l2 l3 l4 l5 l6 h => ih l1 l2 l3 l4 l5 l6 h) _ _ _ _ _ _ _ _ h
    · refine x_iinc C0 (v := 1) (L' := [(5, _), (0, _), (1, _), (2, _), (3, _), (4, _), (6, _)]) dL_isSound_387 5 rfl ki_1 (by decide) rfl ?_
      refine x_goto C0 (tgt := 268) dL_isSound_390 rfl ?_
      refine x_sub [1, 2, 3, 4, 5, 0] (L' := [(0, _), (1, _), (2, _), (3, _), (4, _), (5, _)]) rfl ?_
      refine x_pc (pc' := 268) rfl ?_
      exact hK268 _ _ _ _ _ h
set_option maxRecDepth 4000 in
set_option maxHeartbeats 2000000 in
theorem b_L_isSound_470 {p : Program} {l : Launch} {e : Env} {s : State} {m : MethodId} {args : Array Value} {below : List Frame} {meth : Method} {c : Code} {D : va_G} {cs : Nat → ClassId} {ad : Nat → Nat} {A : Nat → Prop} (C0 : x_C p s m args meth c D vwCl (xtys cs) A s.heap 333 ad (wfT cs ad) cL_isSound 9 RL (some FieldType.boolean))  (n : Nat) {σ : xM} {res : Int32} {K396 : Int32 → Int32 → Int32 → Int32 → Int32 → Option Int32} (hK396 : ∀ (l1 : Int32) (l2 : Int32) (l3 : Int32) (l4 : Int32) (l5 : Int32) , K396 l1 l2 l3 l4 l5 = some res → x_W p l e ({ frames := 5, cells := 0, slots := 0, locals := 111 } : Room) s m args below meth c D vwCl A s.heap 333 ad (wfT cs ad) 9 0 0 (x_E below args s D vwCl 333 ad (wfT cs ad) A (some (.int res)) σ) σ 396 [(0, .ref (ad 0)), (1, .int l1), (2, .int l2), (3, .int l3), (4, .int l4), (5, .int l5)] []) : ∀ (l1 : Int32) (l2 : Int32) (l3 : Int32) (l4 : Int32) (l5 : Int32), B_L_isSound_470 n σ K396 l1 l2 l3 l4 l5 = some res → x_W p l e ({ frames := 5, cells := 0, slots := 0, locals := 111 } : Room) s m args below meth c D vwCl A s.heap 333 ad (wfT cs ad) 9 0 0 (x_E below args s D vwCl 333 ad (wfT cs ad) A (some (.int res)) σ) σ 470 [(0, .ref (ad 0)), (1, .int l1), (2, .int l2), (3, .int l3), (4, .int l4), (5, .int l5)] [] := by
  intro l1 l2 l3 l4 l5 h
  refine x_iinc C0 (v := 1) (L' := [(5, _), (0, _), (1, _), (2, _), (3, _), (4, _)]) dL_isSound_470 5 rfl ki_1 (by decide) rfl ?_
  refine x_goto C0 (tgt := 396) dL_isSound_473 rfl ?_
  refine x_sub [1, 2, 3, 4, 5, 0] (L' := [(0, _), (1, _), (2, _), (3, _), (4, _), (5, _)]) rfl ?_
  refine x_pc (pc' := 396) rfl ?_
  exact hK396 _ _ _ _ _ h
set_option maxRecDepth 4000 in
set_option maxHeartbeats 2000000 in
theorem b_L_isSound_437 {p : Program} {l : Launch} {e : Env} {s : State} {m : MethodId} {args : Array Value} {below : List Frame} {meth : Method} {c : Code} {D : va_G} {cs : Nat → ClassId} {ad : Nat → Nat} {A : Nat → Prop} (C0 : x_C p s m args meth c D vwCl (xtys cs) A s.heap 333 ad (wfT cs ad) cL_isSound 9 RL (some FieldType.boolean))  (n : Nat) {σ : xM} {res : Int32} {K396 : Int32 → Int32 → Int32 → Int32 → Int32 → Option Int32} (hK396 : ∀ (l1 : Int32) (l2 : Int32) (l3 : Int32) (l4 : Int32) (l5 : Int32) , K396 l1 l2 l3 l4 l5 = some res → x_W p l e ({ frames := 5, cells := 0, slots := 0, locals := 111 } : Room) s m args below meth c D vwCl A s.heap 333 ad (wfT cs ad) 9 0 0 (x_E below args s D vwCl 333 ad (wfT cs ad) A (some (.int res)) σ) σ 396 [(0, .ref (ad 0)), (1, .int l1), (2, .int l2), (3, .int l3), (4, .int l4), (5, .int l5)] []) : ∀ (l1 : Int32) (l2 : Int32) (l3 : Int32) (l4 : Int32) (l5 : Int32) (l6 : Int32) (s0 : Int32) (s1 : Int32), B_L_isSound_437 n σ K396 l1 l2 l3 l4 l5 l6 s0 s1 = some res → x_W p l e ({ frames := 5, cells := 0, slots := 0, locals := 111 } : Room) s m args below meth c D vwCl A s.heap 333 ad (wfT cs ad) 9 0 0 (x_E below args s D vwCl 333 ad (wfT cs ad) A (some (.int res)) σ) σ 437 [(0, .ref (ad 0)), (1, .int l1), (2, .int l2), (3, .int l3), (4, .int l4), (5, .int l5), (6, .int l6)] [.int s1, .int s0] := by
  intro l1 l2 l3 l4 l5 l6 s0 s1 h
  refine x_icmp_ne C0 (tgt := 468) dL_isSound_437 rfl h (fun _ h => ?_) (fun _ h => ?_)
  · refine x_iload C0 dL_isSound_440 6 rfl ?_
    refine x_if_lt C0 (tgt := 470) dL_isSound_442 rfl h (fun _ h => ?_) (fun _ h => ?_)
    · refine x_sub [0, 1, 2, 3, 4, 5] (L' := [(0, _), (1, _), (2, _), (3, _), (4, _), (5, _)]) rfl ?_
      refine x_pc (pc' := 470) rfl ?_
      exact b_L_isSound_470 C0 n hK396 _ _ _ _ _ h
    · refine x_aload_n C0 dL_isSound_445 rfl 0 rfl ?_
      refine x_iload C0 dL_isSound_446 6 rfl ?_
      refine x_iconst C0 (v := 4) dL_isSound_448 ki_4 ?_
      obtain ⟨q35, eq35, h⟩ := x_bind h
      refine x_callV21 C0 (c_X4_line n eq35) (x_cwV C0 mw_522 mw_523 mw_524 mw_44 mw_525 hd_yX4_line ⟨rfl, rfl, Nat.le_of_ble_eq_true rfl, Nat.le_of_ble_eq_true rfl⟩) (by decide) rfl wfT_r0 rfl ⟨Nat.zero_le _, Nat.zero_le _⟩ (Nat.le_of_ble_eq_true rfl) dL_isSound_449 ?_
      refine x_iload C0 dL_isSound_452 5 rfl ?_
      refine x_icmp_ne C0 (tgt := 468) dL_isSound_454 rfl h (fun _ h => ?_) (fun _ h => ?_)
      · refine x_aload_n C0 dL_isSound_457 rfl 0 rfl ?_
        refine x_iload C0 dL_isSound_458 6 rfl ?_
        refine x_iconst C0 (v := 0) dL_isSound_460 ki_0 ?_
        obtain ⟨q36, eq36, h⟩ := x_bind h
        refine x_callV21 C0 (c_X4_line n eq36) (x_cwV C0 mw_522 mw_523 mw_524 mw_44 mw_525 hd_yX4_line ⟨rfl, rfl, Nat.le_of_ble_eq_true rfl, Nat.le_of_ble_eq_true rfl⟩) (by decide) rfl wfT_r0 rfl ⟨Nat.zero_le _, Nat.zero_le _⟩ (Nat.le_of_ble_eq_true rfl) dL_isSound_461 ?_
        refine x_iconst C0 (v := 1) dL_isSound_464 ki_1 ?_
        refine x_icmp_ne C0 (tgt := 470) dL_isSound_465 rfl h (fun _ h => ?_) (fun _ h => ?_)
        · refine x_iconst C0 (v := 0) dL_isSound_468 ki_0 ?_
          obtain rfl := x_inj h
          exact x_zret (v := 0) C0 rfl dL_isSound_469
        · refine x_sub [0, 1, 2, 3, 4, 5] (L' := [(0, _), (1, _), (2, _), (3, _), (4, _), (5, _)]) rfl ?_
          refine x_pc (pc' := 470) rfl ?_
          exact b_L_isSound_470 C0 n hK396 _ _ _ _ _ h
      · refine x_iconst C0 (v := 0) dL_isSound_468 ki_0 ?_
        obtain rfl := x_inj h
        exact x_zret (v := 0) C0 rfl dL_isSound_469
  · refine x_iconst C0 (v := 0) dL_isSound_468 ki_0 ?_
    obtain rfl := x_inj h
    exact x_zret (v := 0) C0 rfl dL_isSound_469
set_option maxRecDepth 4000 in
set_option maxHeartbeats 2000000 in
theorem b_L_isSound_421 {p : Program} {l : Launch} {e : Env} {s : State} {m : MethodId} {args : Array Value} {below : List Frame} {meth : Method} {c : Code} {D : va_G} {cs : Nat → ClassId} {ad : Nat → Nat} {A : Nat → Prop} (C0 : x_C p s m args meth c D vwCl (xtys cs) A s.heap 333 ad (wfT cs ad) cL_isSound 9 RL (some FieldType.boolean))  (n : Nat) {σ : xM} {res : Int32} {K396 : Int32 → Int32 → Int32 → Int32 → Int32 → Option Int32} (hK396 : ∀ (l1 : Int32) (l2 : Int32) (l3 : Int32) (l4 : Int32) (l5 : Int32) , K396 l1 l2 l3 l4 l5 = some res → x_W p l e ({ frames := 5, cells := 0, slots := 0, locals := 111 } : Room) s m args below meth c D vwCl A s.heap 333 ad (wfT cs ad) 9 0 0 (x_E below args s D vwCl 333 ad (wfT cs ad) A (some (.int res)) σ) σ 396 [(0, .ref (ad 0)), (1, .int l1), (2, .int l2), (3, .int l3), (4, .int l4), (5, .int l5)] []) : ∀ (l1 : Int32) (l2 : Int32) (l3 : Int32) (l4 : Int32) (l5 : Int32) (l6 : Int32) (s0 : Int32), B_L_isSound_421 n σ K396 l1 l2 l3 l4 l5 l6 s0 = some res → x_W p l e ({ frames := 5, cells := 0, slots := 0, locals := 111 } : Room) s m args below meth c D vwCl A s.heap 333 ad (wfT cs ad) 9 0 0 (x_E below args s D vwCl 333 ad (wfT cs ad) A (some (.int res)) σ) σ 421 [(0, .ref (ad 0)), (1, .int l1), (2, .int l2), (3, .int l3), (4, .int l4), (5, .int l5), (6, .int l6)] [.int s0] := by
  intro l1 l2 l3 l4 l5 l6 s0 h
  refine x_iload C0 dL_isSound_421 5 rfl ?_
  refine x_aload_n C0 dL_isSound_423 rfl 0 rfl ?_
  refine x_bipush C0 (v := 13) dL_isSound_424 kb_13 ?_
  obtain ⟨q21, eq21, h⟩ := x_bind h
  refine x_callV11 C0 (c_X4_count n eq21) (x_cwV C0 mw_480 mw_481 mw_482 mw_44 mw_483 hd_yX4_count ⟨rfl, rfl, Nat.le_of_ble_eq_true rfl, Nat.le_of_ble_eq_true rfl⟩) (by decide) rfl wfT_r0 rfl ⟨Nat.zero_le _, Nat.zero_le _⟩ (Nat.le_of_ble_eq_true rfl) dL_isSound_426 ?_
  refine x_icmp_ge C0 (tgt := 436) dL_isSound_429 rfl h (fun _ h => ?_) (fun _ h => ?_)
  · refine x_iconst C0 (v := 1) dL_isSound_432 ki_1 ?_
    refine x_goto C0 (tgt := 437) dL_isSound_433 rfl ?_
    refine x_sub [0, 1, 2, 3, 4, 5, 6] (L' := [(0, _), (1, _), (2, _), (3, _), (4, _), (5, _), (6, _)]) rfl ?_
    refine x_pc (pc' := 437) rfl ?_
    exact b_L_isSound_437 C0 n hK396 _ _ _ _ _ _ _ _ h
  · refine x_iconst C0 (v := 0) dL_isSound_436 ki_0 ?_
    refine x_sub [0, 1, 2, 3, 4, 5, 6] (L' := [(0, _), (1, _), (2, _), (3, _), (4, _), (5, _), (6, _)]) rfl ?_
    refine x_pc (pc' := 437) rfl ?_
    exact b_L_isSound_437 C0 n hK396 _ _ _ _ _ _ _ _ h
set_option maxRecDepth 4000 in
set_option maxHeartbeats 2000000 in
theorem b_L_isSound_507 {p : Program} {l : Launch} {e : Env} {s : State} {m : MethodId} {args : Array Value} {below : List Frame} {meth : Method} {c : Code} {D : va_G} {cs : Nat → ClassId} {ad : Nat → Nat} {A : Nat → Prop} (C0 : x_C p s m args meth c D vwCl (xtys cs) A s.heap 333 ad (wfT cs ad) cL_isSound 9 RL (some FieldType.boolean))  (n : Nat) {σ : xM} {res : Int32} : ∀ (l1 : Int32) (l2 : Int32) (l3 : Int32) (l4 : Int32) (s0 : Int32), B_L_isSound_507 n σ l1 l2 l3 l4 s0 = some res → x_W p l e ({ frames := 5, cells := 0, slots := 0, locals := 111 } : Room) s m args below meth c D vwCl A s.heap 333 ad (wfT cs ad) 9 0 0 (x_E below args s D vwCl 333 ad (wfT cs ad) A (some (.int res)) σ) σ 507 [(0, .ref (ad 0)), (1, .int l1), (2, .int l2), (3, .int l3), (4, .int l4)] [.int s0] := by
  intro l1 l2 l3 l4 s0 h
  refine x_istore C0 dL_isSound_507 (L' := [(5, _), (0, _), (1, _), (2, _), (3, _), (4, _)]) (by decide) rfl ?_
  refine x_iload C0 dL_isSound_509 0 rfl ?_
  refine x_if_eq C0 (tgt := 576) dL_isSound_511 rfl h (fun _ h => ?_) (fun _ h => ?_)
  · refine x_iconst C0 (v := 0) dL_isSound_576 ki_0 ?_
    obtain rfl := x_inj h
    exact x_zret (v := 0) C0 rfl dL_isSound_577
  · refine x_aload_n C0 dL_isSound_514 rfl 1 rfl ?_
    refine x_iconst C0 (v := 0) dL_isSound_515 ki_0 ?_
    obtain ⟨q22, eq22, h⟩ := x_bind h
    refine x_callV11 C0 (c_X4_count n eq22) (x_cwV C0 mw_480 mw_481 mw_482 mw_44 mw_483 hd_yX4_count ⟨rfl, rfl, Nat.le_of_ble_eq_true rfl, Nat.le_of_ble_eq_true rfl⟩) (by decide) rfl wfT_r0 rfl ⟨Nat.zero_le _, Nat.zero_le _⟩ (Nat.le_of_ble_eq_true rfl) dL_isSound_516 ?_
    refine x_aload_n C0 dL_isSound_519 rfl 1 rfl ?_
    refine x_iconst C0 (v := 1) dL_isSound_520 ki_1 ?_
    obtain ⟨q23, eq23, h⟩ := x_bind h
    refine x_callV11 C0 (c_X4_count n eq23) (x_cwV C0 mw_480 mw_481 mw_482 mw_44 mw_483 hd_yX4_count ⟨rfl, rfl, Nat.le_of_ble_eq_true rfl, Nat.le_of_ble_eq_true rfl⟩) (by decide) rfl wfT_r0 rfl ⟨Nat.zero_le _, Nat.zero_le _⟩ (Nat.le_of_ble_eq_true rfl) dL_isSound_521 ?_
    refine x_aload_n C0 dL_isSound_524 rfl 1 rfl ?_
    refine x_pc (pc' := 525) rfl ?_
    refine x_iconst C0 (v := 3) dL_isSound_525 ki_3 ?_
    obtain ⟨q24, eq24, h⟩ := x_bind h
    refine x_callV11 C0 (c_X4_count n eq24) (x_cwV C0 mw_480 mw_481 mw_482 mw_44 mw_483 hd_yX4_count ⟨rfl, rfl, Nat.le_of_ble_eq_true rfl, Nat.le_of_ble_eq_true rfl⟩) (by decide) rfl wfT_r0 rfl ⟨Nat.zero_le _, Nat.zero_le _⟩ (Nat.le_of_ble_eq_true rfl) dL_isSound_526 ?_
    refine x_iadd C0 dL_isSound_529 ?_
    refine x_icmp_ne C0 (tgt := 576) dL_isSound_530 rfl h (fun _ h => ?_) (fun _ h => ?_)
    · refine x_aload_n C0 dL_isSound_533 rfl 1 rfl ?_
      refine x_iconst C0 (v := 4) dL_isSound_534 ki_4 ?_
      obtain ⟨q25, eq25, h⟩ := x_bind h
      refine x_callV11 C0 (c_X4_count n eq25) (x_cwV C0 mw_480 mw_481 mw_482 mw_44 mw_483 hd_yX4_count ⟨rfl, rfl, Nat.le_of_ble_eq_true rfl, Nat.le_of_ble_eq_true rfl⟩) (by decide) rfl wfT_r0 rfl ⟨Nat.zero_le _, Nat.zero_le _⟩ (Nat.le_of_ble_eq_true rfl) dL_isSound_535 ?_
      refine x_iload_n C0 dL_isSound_538 rfl 2 rfl ?_
      refine x_icmp_ne C0 (tgt := 576) dL_isSound_539 rfl h (fun _ h => ?_) (fun _ h => ?_)
      · refine x_aload_n C0 dL_isSound_542 rfl 1 rfl ?_
        refine x_iconst C0 (v := 2) dL_isSound_543 ki_2 ?_
        obtain ⟨q26, eq26, h⟩ := x_bind h
        refine x_callV11 C0 (c_X4_count n eq26) (x_cwV C0 mw_480 mw_481 mw_482 mw_44 mw_483 hd_yX4_count ⟨rfl, rfl, Nat.le_of_ble_eq_true rfl, Nat.le_of_ble_eq_true rfl⟩) (by decide) rfl wfT_r0 rfl ⟨Nat.zero_le _, Nat.zero_le _⟩ (Nat.le_of_ble_eq_true rfl) dL_isSound_544 ?_
        refine x_iload_n C0 dL_isSound_547 rfl 3 rfl ?_
        refine x_icmp_ne C0 (tgt := 576) dL_isSound_548 rfl h (fun _ h => ?_) (fun _ h => ?_)
        · refine x_aload_n C0 dL_isSound_551 rfl 1 rfl ?_
          refine x_bipush C0 (v := 9) dL_isSound_552 kb_9 ?_
          obtain ⟨q27, eq27, h⟩ := x_bind h
          refine x_callV11 C0 (c_X4_count n eq27) (x_cwV C0 mw_480 mw_481 mw_482 mw_44 mw_483 hd_yX4_count ⟨rfl, rfl, Nat.le_of_ble_eq_true rfl, Nat.le_of_ble_eq_true rfl⟩) (by decide) rfl wfT_r0 rfl ⟨Nat.zero_le _, Nat.zero_le _⟩ (Nat.le_of_ble_eq_true rfl) dL_isSound_554 ?_
          refine x_iload_n C0 dL_isSound_557 rfl 4 rfl ?_
          refine x_icmp_ne C0 (tgt := 576) dL_isSound_558 rfl h (fun _ h => ?_) (fun _ h => ?_)
          · refine x_aload_n C0 dL_isSound_561 rfl 1 rfl ?_
            refine x_bipush C0 (v := 8) dL_isSound_562 kb_8 ?_
            obtain ⟨q28, eq28, h⟩ := x_bind h
            refine x_callV11 C0 (c_X4_count n eq28) (x_cwV C0 mw_480 mw_481 mw_482 mw_44 mw_483 hd_yX4_count ⟨rfl, rfl, Nat.le_of_ble_eq_true rfl, Nat.le_of_ble_eq_true rfl⟩) (by decide) rfl wfT_r0 rfl ⟨Nat.zero_le _, Nat.zero_le _⟩ (Nat.le_of_ble_eq_true rfl) dL_isSound_564 ?_
            refine x_iload C0 dL_isSound_567 5 rfl ?_
            refine x_icmp_ne C0 (tgt := 576) dL_isSound_569 rfl h (fun _ h => ?_) (fun _ h => ?_)
            · refine x_iconst C0 (v := 1) dL_isSound_572 ki_1 ?_
              refine x_goto C0 (tgt := 577) dL_isSound_573 rfl ?_
              obtain rfl := x_inj h
              exact x_zret (v := 1) C0 rfl dL_isSound_577
            · refine x_iconst C0 (v := 0) dL_isSound_576 ki_0 ?_
              obtain rfl := x_inj h
              exact x_zret (v := 0) C0 rfl dL_isSound_577
          · refine x_iconst C0 (v := 0) dL_isSound_576 ki_0 ?_
            obtain rfl := x_inj h
            exact x_zret (v := 0) C0 rfl dL_isSound_577
        · refine x_iconst C0 (v := 0) dL_isSound_576 ki_0 ?_
          obtain rfl := x_inj h
          exact x_zret (v := 0) C0 rfl dL_isSound_577
      · refine x_iconst C0 (v := 0) dL_isSound_576 ki_0 ?_
        obtain rfl := x_inj h
        exact x_zret (v := 0) C0 rfl dL_isSound_577
    · refine x_iconst C0 (v := 0) dL_isSound_576 ki_0 ?_
      obtain rfl := x_inj h
      exact x_zret (v := 0) C0 rfl dL_isSound_577
set_option maxRecDepth 4000 in
set_option maxHeartbeats 2000000 in
theorem b_L_isSound_396 {p : Program} {l : Launch} {e : Env} {s : State} {m : MethodId} {args : Array Value} {below : List Frame} {meth : Method} {c : Code} {D : va_G} {cs : Nat → ClassId} {ad : Nat → Nat} {A : Nat → Prop} (C0 : x_C p s m args meth c D vwCl (xtys cs) A s.heap 333 ad (wfT cs ad) cL_isSound 9 RL (some FieldType.boolean))  (n : Nat) {σ : xM} {res : Int32} : ∀ (f : Nat) (l1 : Int32) (l2 : Int32) (l3 : Int32) (l4 : Int32) (l5 : Int32), B_L_isSound_396 n σ f l1 l2 l3 l4 l5 = some res → x_W p l e ({ frames := 5, cells := 0, slots := 0, locals := 111 } : Room) s m args below meth c D vwCl A s.heap 333 ad (wfT cs ad) 9 0 0 (x_E below args s D vwCl 333 ad (wfT cs ad) A (some (.int res)) σ) σ 396 [(0, .ref (ad 0)), (1, .int l1), (2, .int l2), (3, .int l3), (4, .int l4), (5, .int l5)] [] := by
  intro f
  induction f with
  | zero =>
    intro l1 l2 l3 l4 l5 h
    cases h
  | succ f ih =>
    intro l1 l2 l3 l4 l5 h
    refine x_iload C0 dL_isSound_396 5 rfl ?_
    refine x_bipush C0 (v := 8) dL_isSound_398 kb_8 ?_
    refine x_icmp_ge C0 (tgt := 476) dL_isSound_400 rfl h (fun _ h => ?_) (fun _ h => ?_)
    · refine x_aload_n C0 dL_isSound_403 rfl 0 rfl ?_
      refine x_iload C0 dL_isSound_404 5 rfl ?_
      obtain ⟨q16, eq16, h⟩ := x_bind h
      refine x_callV11 C0 (c_X4_thrownOut n eq16) (x_cwV C0 mw_547 mw_548 mw_549 mw_44 mw_550 hd_yX4_thrownOut ⟨rfl, rfl, Nat.le_of_ble_eq_true rfl, Nat.le_of_ble_eq_true rfl⟩) (by decide) rfl wfT_r0 rfl ⟨Nat.zero_le _, Nat.zero_le _⟩ (Nat.le_of_ble_eq_true rfl) dL_isSound_406 ?_
      refine x_istore C0 dL_isSound_409 (L' := [(6, _), (0, _), (1, _), (2, _), (3, _), (4, _), (5, _)]) (by decide) rfl ?_
      refine x_iload C0 dL_isSound_411 0 rfl ?_
      refine x_if_lt C0 (tgt := 420) dL_isSound_413 rfl h (fun _ h => ?_) (fun _ h => ?_)
      · refine x_iconst C0 (v := 0) dL_isSound_420 ki_0 ?_
        refine x_sub [1, 2, 3, 4, 5, 6, 0] (L' := [(0, _), (1, _), (2, _), (3, _), (4, _), (5, _), (6, _)]) rfl ?_
        refine x_pc (pc' := 421) rfl ?_
        exact b_L_isSound_421 C0 n (fun l1 l2 l3 l4 l5 h => ih l1 l2 l3 l4 l5 h) _ _ _ _ _ _ _ h
      · refine x_iconst C0 (v := 1) dL_isSound_416 ki_1 ?_
        refine x_goto C0 (tgt := 421) dL_isSound_417 rfl ?_
        refine x_sub [1, 2, 3, 4, 5, 6, 0] (L' := [(0, _), (1, _), (2, _), (3, _), (4, _), (5, _), (6, _)]) rfl ?_
        refine x_pc (pc' := 421) rfl ?_
        exact b_L_isSound_421 C0 n (fun l1 l2 l3 l4 l5 h => ih l1 l2 l3 l4 l5 h) _ _ _ _ _ _ _ h
    · refine x_aload_n C0 dL_isSound_476 rfl 0 rfl ?_
      refine x_iconst C0 (v := 3) dL_isSound_477 ki_3 ?_
      obtain ⟨q17, eq17, h⟩ := x_bind h
      refine x_callV11 C0 (c_X4_count n eq17) (x_cwV C0 mw_480 mw_481 mw_482 mw_44 mw_483 hd_yX4_count ⟨rfl, rfl, Nat.le_of_ble_eq_true rfl, Nat.le_of_ble_eq_true rfl⟩) (by decide) rfl wfT_r0 rfl ⟨Nat.zero_le _, Nat.zero_le _⟩ (Nat.le_of_ble_eq_true rfl) dL_isSound_478 ?_
      refine x_aload_n C0 dL_isSound_481 rfl 0 rfl ?_
      refine x_iconst C0 (v := 4) dL_isSound_482 ki_4 ?_
      obtain ⟨q18, eq18, h⟩ := x_bind h
      refine x_callV11 C0 (c_X4_count n eq18) (x_cwV C0 mw_480 mw_481 mw_482 mw_44 mw_483 hd_yX4_count ⟨rfl, rfl, Nat.le_of_ble_eq_true rfl, Nat.le_of_ble_eq_true rfl⟩) (by decide) rfl wfT_r0 rfl ⟨Nat.zero_le _, Nat.zero_le _⟩ (Nat.le_of_ble_eq_true rfl) dL_isSound_483 ?_
      refine x_iadd C0 dL_isSound_486 ?_
      refine x_pc (pc' := 487) rfl ?_
      refine x_aload_n C0 dL_isSound_487 rfl 0 rfl ?_
      refine x_bipush C0 (v := 8) dL_isSound_488 kb_8 ?_
      obtain ⟨q19, eq19, h⟩ := x_bind h
      refine x_callV11 C0 (c_X4_count n eq19) (x_cwV C0 mw_480 mw_481 mw_482 mw_44 mw_483 hd_yX4_count ⟨rfl, rfl, Nat.le_of_ble_eq_true rfl, Nat.le_of_ble_eq_true rfl⟩) (by decide) rfl wfT_r0 rfl ⟨Nat.zero_le _, Nat.zero_le _⟩ (Nat.le_of_ble_eq_true rfl) dL_isSound_490 ?_
      refine x_aload_n C0 dL_isSound_493 rfl 0 rfl ?_
      refine x_iconst C0 (v := 5) dL_isSound_494 ki_5 ?_
      obtain ⟨q20, eq20, h⟩ := x_bind h
      refine x_callV11 C0 (c_X4_count n eq20) (x_cwV C0 mw_480 mw_481 mw_482 mw_44 mw_483 hd_yX4_count ⟨rfl, rfl, Nat.le_of_ble_eq_true rfl, Nat.le_of_ble_eq_true rfl⟩) (by decide) rfl wfT_r0 rfl ⟨Nat.zero_le _, Nat.zero_le _⟩ (Nat.le_of_ble_eq_true rfl) dL_isSound_495 ?_
      refine x_iadd C0 dL_isSound_498 ?_
      refine x_icmp_ne C0 (tgt := 506) dL_isSound_499 rfl h (fun _ h => ?_) (fun _ h => ?_)
      · refine x_iconst C0 (v := 1) dL_isSound_502 ki_1 ?_
        refine x_goto C0 (tgt := 507) dL_isSound_503 rfl ?_
        refine x_sub [0, 1, 2, 3, 4] (L' := [(0, _), (1, _), (2, _), (3, _), (4, _)]) rfl ?_
        refine x_pc (pc' := 507) rfl ?_
        exact b_L_isSound_507 C0 n _ _ _ _ _ h
      · refine x_iconst C0 (v := 0) dL_isSound_506 ki_0 ?_
        refine x_sub [0, 1, 2, 3, 4] (L' := [(0, _), (1, _), (2, _), (3, _), (4, _)]) rfl ?_
        refine x_pc (pc' := 507) rfl ?_
        exact b_L_isSound_507 C0 n _ _ _ _ _ h
set_option maxRecDepth 4000 in
set_option maxHeartbeats 2000000 in
theorem b_L_isSound_268 {p : Program} {l : Launch} {e : Env} {s : State} {m : MethodId} {args : Array Value} {below : List Frame} {meth : Method} {c : Code} {D : va_G} {cs : Nat → ClassId} {ad : Nat → Nat} {A : Nat → Prop} (C0 : x_C p s m args meth c D vwCl (xtys cs) A s.heap 333 ad (wfT cs ad) cL_isSound 9 RL (some FieldType.boolean))  (n : Nat) {σ : xM} {res : Int32} : ∀ (f : Nat) (l1 : Int32) (l2 : Int32) (l3 : Int32) (l4 : Int32) (l5 : Int32), B_L_isSound_268 n σ f l1 l2 l3 l4 l5 = some res → x_W p l e ({ frames := 5, cells := 0, slots := 0, locals := 111 } : Room) s m args below meth c D vwCl A s.heap 333 ad (wfT cs ad) 9 0 0 (x_E below args s D vwCl 333 ad (wfT cs ad) A (some (.int res)) σ) σ 268 [(0, .ref (ad 0)), (1, .int l1), (2, .int l2), (3, .int l3), (4, .int l4), (5, .int l5)] [] := by
  intro f
  induction f with
  | zero =>
    intro l1 l2 l3 l4 l5 h
    cases h
  | succ f ih =>
    intro l1 l2 l3 l4 l5 h
    refine x_iload C0 dL_isSound_268 5 rfl ?_
    refine x_aload_n C0 dL_isSound_270 rfl 0 rfl ?_
    refine x_bipush C0 (v := 6) dL_isSound_271 kb_6 ?_
    obtain ⟨q14, eq14, h⟩ := x_bind h
    refine x_callV11 C0 (c_X4_count n eq14) (x_cwV C0 mw_480 mw_481 mw_482 mw_44 mw_483 hd_yX4_count ⟨rfl, rfl, Nat.le_of_ble_eq_true rfl, Nat.le_of_ble_eq_true rfl⟩) (by decide) rfl wfT_r0 rfl ⟨Nat.zero_le _, Nat.zero_le _⟩ (Nat.le_of_ble_eq_true rfl) dL_isSound_273 ?_
    refine x_icmp_ge C0 (tgt := 393) dL_isSound_276 rfl h (fun _ h => ?_) (fun _ h => ?_)
    · refine x_iconst C0 (v := 0) dL_isSound_279 ki_0 ?_
      refine x_istore C0 dL_isSound_280 (L' := [(6, _), (0, _), (1, _), (2, _), (3, _), (4, _), (5, _)]) (by decide) rfl ?_
      refine x_sub [1, 2, 3, 4, 5, 6, 0] (L' := [(0, _), (1, _), (2, _), (3, _), (4, _), (5, _), (6, _)]) rfl ?_
      refine x_pc (pc' := 282) rfl ?_
      exact b_L_isSound_282 C0 n (fun l1 l2 l3 l4 l5 h => ih l1 l2 l3 l4 l5 h) n _ _ _ _ _ _ h
    · refine x_iconst C0 (v := 0) dL_isSound_393 ki_0 ?_
      refine x_istore C0 dL_isSound_394 (L' := [(5, _), (0, _), (1, _), (2, _), (3, _), (4, _)]) (by decide) rfl ?_
      refine x_sub [1, 2, 3, 4, 5, 0] (L' := [(0, _), (1, _), (2, _), (3, _), (4, _), (5, _)]) rfl ?_
      refine x_pc (pc' := 396) rfl ?_
      exact b_L_isSound_396 C0 n n _ _ _ _ _ h
set_option maxRecDepth 4000 in
set_option maxHeartbeats 2000000 in
theorem b_L_isSound_9 {p : Program} {l : Launch} {e : Env} {s : State} {m : MethodId} {args : Array Value} {below : List Frame} {meth : Method} {c : Code} {D : va_G} {cs : Nat → ClassId} {ad : Nat → Nat} {A : Nat → Prop} (C0 : x_C p s m args meth c D vwCl (xtys cs) A s.heap 333 ad (wfT cs ad) cL_isSound 9 RL (some FieldType.boolean))  (n : Nat) {σ : xM} {res : Int32} : ∀ (f : Nat) (l1 : Int32) (l2 : Int32) (l3 : Int32) (l4 : Int32), B_L_isSound_9 n σ f l1 l2 l3 l4 = some res → x_W p l e ({ frames := 5, cells := 0, slots := 0, locals := 111 } : Room) s m args below meth c D vwCl A s.heap 333 ad (wfT cs ad) 9 0 0 (x_E below args s D vwCl 333 ad (wfT cs ad) A (some (.int res)) σ) σ 9 [(0, .ref (ad 0)), (1, .int l1), (2, .int l2), (3, .int l3), (4, .int l4)] [] := by
  intro f
  induction f with
  | zero =>
    intro l1 l2 l3 l4 h
    cases h
  | succ f ih =>
    intro l1 l2 l3 l4 h
    refine x_iload C0 dL_isSound_9 4 rfl ?_
    refine x_aload_n C0 dL_isSound_11 rfl 0 rfl ?_
    refine x_bipush C0 (v := 10) dL_isSound_12 kb_10 ?_
    obtain ⟨q1, eq1, h⟩ := x_bind h
    refine x_callV11 C0 (c_X4_count n eq1) (x_cwV C0 mw_480 mw_481 mw_482 mw_44 mw_483 hd_yX4_count ⟨rfl, rfl, Nat.le_of_ble_eq_true rfl, Nat.le_of_ble_eq_true rfl⟩) (by decide) rfl wfT_r0 rfl ⟨Nat.zero_le _, Nat.zero_le _⟩ (Nat.le_of_ble_eq_true rfl) dL_isSound_14 ?_
    refine x_icmp_ge C0 (tgt := 262) dL_isSound_17 rfl h (fun _ h => ?_) (fun _ h => ?_)
    · refine x_aload_n C0 dL_isSound_20 rfl 0 rfl ?_
      refine x_iload C0 dL_isSound_21 4 rfl ?_
      refine x_iconst C0 (v := 3) dL_isSound_23 ki_3 ?_
      obtain ⟨q2, eq2, h⟩ := x_bind h
      refine x_callV21 C0 (c_X4_helper n eq2) (x_cwV C0 mw_528 mw_529 mw_530 mw_44 mw_531 hd_yX4_helper ⟨rfl, rfl, Nat.le_of_ble_eq_true rfl, Nat.le_of_ble_eq_true rfl⟩) (by decide) rfl wfT_r0 rfl ⟨Nat.zero_le _, Nat.zero_le _⟩ (Nat.le_of_ble_eq_true rfl) dL_isSound_24 ?_
      refine x_istore C0 dL_isSound_27 (L' := [(5, _), (0, _), (1, _), (2, _), (3, _), (4, _)]) (by decide) rfl ?_
      refine x_aload_n C0 dL_isSound_29 rfl 1 rfl ?_
      refine x_iload C0 dL_isSound_30 5 rfl ?_
      refine x_pc (pc' := 32) rfl ?_
      refine x_iconst C0 (v := 4) dL_isSound_32 ki_4 ?_
      obtain ⟨q3, eq3, h⟩ := x_bind h
      refine x_callV21 C0 (c_X4_helper n eq3) (x_cwV C0 mw_528 mw_529 mw_530 mw_44 mw_531 hd_yX4_helper ⟨rfl, rfl, Nat.le_of_ble_eq_true rfl, Nat.le_of_ble_eq_true rfl⟩) (by decide) rfl wfT_r0 rfl ⟨Nat.zero_le _, Nat.zero_le _⟩ (Nat.le_of_ble_eq_true rfl) dL_isSound_33 ?_
      refine x_istore C0 dL_isSound_36 (L' := [(6, _), (5, _), (0, _), (1, _), (2, _), (3, _), (4, _)]) (by decide) rfl ?_
      refine x_aload_n C0 dL_isSound_38 rfl 2 rfl ?_
      refine x_iload C0 dL_isSound_39 6 rfl ?_
      refine x_iconst C0 (v := 5) dL_isSound_41 ki_5 ?_
      obtain ⟨q4, eq4, h⟩ := x_bind h
      refine x_callV21 C0 (c_X4_helper n eq4) (x_cwV C0 mw_528 mw_529 mw_530 mw_44 mw_531 hd_yX4_helper ⟨rfl, rfl, Nat.le_of_ble_eq_true rfl, Nat.le_of_ble_eq_true rfl⟩) (by decide) rfl wfT_r0 rfl ⟨Nat.zero_le _, Nat.zero_le _⟩ (Nat.le_of_ble_eq_true rfl) dL_isSound_42 ?_
      refine x_istore C0 dL_isSound_45 (L' := [(7, _), (6, _), (5, _), (0, _), (1, _), (2, _), (3, _), (4, _)]) (by decide) rfl ?_
      refine x_pc (pc' := 47) rfl ?_
      refine x_aload_n C0 dL_isSound_47 rfl 3 rfl ?_
      refine x_iload C0 dL_isSound_48 7 rfl ?_
      refine x_bipush C0 (v := 7) dL_isSound_50 kb_7 ?_
      obtain ⟨q5, eq5, h⟩ := x_bind h
      refine x_callV21 C0 (c_X4_helper n eq5) (x_cwV C0 mw_528 mw_529 mw_530 mw_44 mw_531 hd_yX4_helper ⟨rfl, rfl, Nat.le_of_ble_eq_true rfl, Nat.le_of_ble_eq_true rfl⟩) (by decide) rfl wfT_r0 rfl ⟨Nat.zero_le _, Nat.zero_le _⟩ (Nat.le_of_ble_eq_true rfl) dL_isSound_52 ?_
      refine x_aload_n C0 dL_isSound_55 rfl 3 rfl ?_
      refine x_iload C0 dL_isSound_56 7 rfl ?_
      refine x_bipush C0 (v := 8) dL_isSound_58 kb_8 ?_
      obtain ⟨q6, eq6, h⟩ := x_bind h
      refine x_callV21 C0 (c_X4_helper n eq6) (x_cwV C0 mw_528 mw_529 mw_530 mw_44 mw_531 hd_yX4_helper ⟨rfl, rfl, Nat.le_of_ble_eq_true rfl, Nat.le_of_ble_eq_true rfl⟩) (by decide) rfl wfT_r0 rfl ⟨Nat.zero_le _, Nat.zero_le _⟩ (Nat.le_of_ble_eq_true rfl) dL_isSound_60 ?_
      refine x_pc (pc' := 63) rfl ?_
      refine x_aload_n C0 dL_isSound_63 rfl 3 rfl ?_
      refine x_iload C0 dL_isSound_64 7 rfl ?_
      refine x_bipush C0 (v := 9) dL_isSound_66 kb_9 ?_
      obtain ⟨q7, eq7, h⟩ := x_bind h
      refine x_callV21 C0 (c_X4_helper n eq7) (x_cwV C0 mw_528 mw_529 mw_530 mw_44 mw_531 hd_yX4_helper ⟨rfl, rfl, Nat.le_of_ble_eq_true rfl, Nat.le_of_ble_eq_true rfl⟩) (by decide) rfl wfT_r0 rfl ⟨Nat.zero_le _, Nat.zero_le _⟩ (Nat.le_of_ble_eq_true rfl) dL_isSound_68 ?_
      refine x_iadd C0 dL_isSound_71 ?_
      refine x_aload_n C0 dL_isSound_72 rfl 3 rfl ?_
      refine x_iload C0 dL_isSound_73 7 rfl ?_
      refine x_bipush C0 (v := 10) dL_isSound_75 kb_10 ?_
      refine x_pc (pc' := 77) rfl ?_
      obtain ⟨q8, eq8, h⟩ := x_bind h
      refine x_callV21 C0 (c_X4_helper n eq8) (x_cwV C0 mw_528 mw_529 mw_530 mw_44 mw_531 hd_yX4_helper ⟨rfl, rfl, Nat.le_of_ble_eq_true rfl, Nat.le_of_ble_eq_true rfl⟩) (by decide) rfl wfT_r0 rfl ⟨Nat.zero_le _, Nat.zero_le _⟩ (Nat.le_of_ble_eq_true rfl) dL_isSound_77 ?_
      refine x_iadd C0 dL_isSound_80 ?_
      refine x_icmp_ne C0 (tgt := 134) dL_isSound_81 rfl h (fun _ h => ?_) (fun _ h => ?_)
      · refine x_aload_n C0 dL_isSound_84 rfl 3 rfl ?_
        refine x_iload C0 dL_isSound_85 7 rfl ?_
        refine x_bipush C0 (v := 12) dL_isSound_87 kb_12 ?_
        obtain ⟨q9, eq9, h⟩ := x_bind h
        refine x_callV21 C0 (c_X4_helper n eq9) (x_cwV C0 mw_528 mw_529 mw_530 mw_44 mw_531 hd_yX4_helper ⟨rfl, rfl, Nat.le_of_ble_eq_true rfl, Nat.le_of_ble_eq_true rfl⟩) (by decide) rfl wfT_r0 rfl ⟨Nat.zero_le _, Nat.zero_le _⟩ (Nat.le_of_ble_eq_true rfl) dL_isSound_89 ?_
        refine x_aload_n C0 dL_isSound_92 rfl 3 rfl ?_
        refine x_iload C0 dL_isSound_93 7 rfl ?_
        refine x_bipush C0 (v := 13) dL_isSound_95 kb_13 ?_
        refine x_pc (pc' := 97) rfl ?_
        obtain ⟨q10, eq10, h⟩ := x_bind h
        refine x_callV21 C0 (c_X4_helper n eq10) (x_cwV C0 mw_528 mw_529 mw_530 mw_44 mw_531 hd_yX4_helper ⟨rfl, rfl, Nat.le_of_ble_eq_true rfl, Nat.le_of_ble_eq_true rfl⟩) (by decide) rfl wfT_r0 rfl ⟨Nat.zero_le _, Nat.zero_le _⟩ (Nat.le_of_ble_eq_true rfl) dL_isSound_97 ?_
        refine x_iadd C0 dL_isSound_100 ?_
        refine x_iload C0 dL_isSound_101 1 rfl ?_
        refine x_iadd C0 dL_isSound_103 ?_
        refine x_aload_n C0 dL_isSound_104 rfl 3 rfl ?_
        refine x_iload C0 dL_isSound_105 7 rfl ?_
        refine x_iconst C0 (v := 2) dL_isSound_107 ki_2 ?_
        obtain ⟨q11, eq11, h⟩ := x_bind h
        refine x_callV21 C0 (c_X4_helper n eq11) (x_cwV C0 mw_528 mw_529 mw_530 mw_44 mw_531 hd_yX4_helper ⟨rfl, rfl, Nat.le_of_ble_eq_true rfl, Nat.le_of_ble_eq_true rfl⟩) (by decide) rfl wfT_r0 rfl ⟨Nat.zero_le _, Nat.zero_le _⟩ (Nat.le_of_ble_eq_true rfl) dL_isSound_108 ?_
        refine x_pc (pc' := 111) rfl ?_
        refine x_aload_n C0 dL_isSound_111 rfl 3 rfl ?_
        refine x_iload C0 dL_isSound_112 7 rfl ?_
        refine x_bipush C0 (v := 9) dL_isSound_114 kb_9 ?_
        obtain ⟨q12, eq12, h⟩ := x_bind h
        refine x_callV21 C0 (c_X4_helper n eq12) (x_cwV C0 mw_528 mw_529 mw_530 mw_44 mw_531 hd_yX4_helper ⟨rfl, rfl, Nat.le_of_ble_eq_true rfl, Nat.le_of_ble_eq_true rfl⟩) (by decide) rfl wfT_r0 rfl ⟨Nat.zero_le _, Nat.zero_le _⟩ (Nat.le_of_ble_eq_true rfl) dL_isSound_116 ?_
        refine x_imul C0 dL_isSound_119 ?_
        refine x_iconst C0 (v := 2) dL_isSound_120 ki_2 ?_
        refine x_aload_n C0 dL_isSound_121 rfl 3 rfl ?_
        refine x_iload C0 dL_isSound_122 7 rfl ?_
        refine x_pc (pc' := 124) rfl ?_
        refine x_bipush C0 (v := 11) dL_isSound_124 kb_11 ?_
        obtain ⟨q13, eq13, h⟩ := x_bind h
        refine x_callV21 C0 (c_X4_helper n eq13) (x_cwV C0 mw_528 mw_529 mw_530 mw_44 mw_531 hd_yX4_helper ⟨rfl, rfl, Nat.le_of_ble_eq_true rfl, Nat.le_of_ble_eq_true rfl⟩) (by decide) rfl wfT_r0 rfl ⟨Nat.zero_le _, Nat.zero_le _⟩ (Nat.le_of_ble_eq_true rfl) dL_isSound_126 ?_
        refine x_imul C0 dL_isSound_129 ?_
        refine x_iadd C0 dL_isSound_130 ?_
        refine x_icmp_eq C0 (tgt := 136) dL_isSound_131 rfl h (fun _ h => ?_) (fun _ h => ?_)
        · refine x_iload C0 dL_isSound_136 2 rfl ?_
          refine x_iconst C0 (v := 2) dL_isSound_138 ki_2 ?_
          refine x_icmp_ne C0 (tgt := 146) dL_isSound_139 rfl h (fun _ h => ?_) (fun _ h => ?_)
          · refine x_iconst C0 (v := 1) dL_isSound_142 ki_1 ?_
            refine x_goto C0 (tgt := 147) dL_isSound_143 rfl ?_
            refine x_sub [3, 4, 5, 6, 7, 2, 1, 0] (L' := [(0, _), (1, _), (2, _), (3, _), (4, _), (5, _), (6, _), (7, _)]) rfl ?_
            refine x_pc (pc' := 147) rfl ?_
            exact b_L_isSound_147 C0 n (fun l1 l2 l3 l4 h => ih l1 l2 l3 l4 h) _ _ _ _ _ _ _ _ h
          · refine x_iconst C0 (v := 0) dL_isSound_146 ki_0 ?_
            refine x_sub [3, 4, 5, 6, 7, 2, 1, 0] (L' := [(0, _), (1, _), (2, _), (3, _), (4, _), (5, _), (6, _), (7, _)]) rfl ?_
            refine x_pc (pc' := 147) rfl ?_
            exact b_L_isSound_147 C0 n (fun l1 l2 l3 l4 h => ih l1 l2 l3 l4 h) _ _ _ _ _ _ _ _ h
        · refine x_iconst C0 (v := 0) dL_isSound_134 ki_0 ?_
          obtain rfl := x_inj h
          exact x_zret (v := 0) C0 rfl dL_isSound_135
      · refine x_iconst C0 (v := 0) dL_isSound_134 ki_0 ?_
        obtain rfl := x_inj h
        exact x_zret (v := 0) C0 rfl dL_isSound_135
    · refine x_iconst C0 (v := 0) dL_isSound_262 ki_0 ?_
      refine x_istore C0 dL_isSound_263 (L' := [(4, _), (0, _), (1, _), (2, _), (3, _)]) (by decide) rfl ?_
      refine x_iconst C0 (v := 0) dL_isSound_265 ki_0 ?_
      refine x_istore C0 dL_isSound_266 (L' := [(5, _), (4, _), (0, _), (1, _), (2, _), (3, _)]) (by decide) rfl ?_
      refine x_sub [2, 3, 4, 5, 1, 0] (L' := [(0, _), (1, _), (2, _), (3, _), (4, _), (5, _)]) rfl ?_
      refine x_pc (pc' := 268) rfl ?_
      exact b_L_isSound_268 C0 n n _ _ _ _ _ h
set_option maxRecDepth 4000 in
set_option maxHeartbeats 2000000 in
theorem c_L_isSound {l : Launch} {D : va_G} {cs : Nat → ClassId} {ad : Nat → Nat} (n : Nat) {σ : xM}  {res : Int32} (h : F_L_isSound n σ = some res) : x_Met l yL_isSound [Cond.code yL_isSound cL_isSound 9 (some FieldType.boolean)] ({ frames := 5, cells := 0, slots := 0, locals := 111 } : Room) D vwCl (xtys cs) 333 ad (wfT cs ad) [.ref (ad 0)] σ (some (.int res)) σ := by
  refine x_Met_of (L0 := [(0, .ref (ad 0))]) (own := RL) (by decide) rfl rfl wfT_loc (Nat.le_of_ble_eq_true rfl) rfl ?_
  intro p e s m args below meth c A C0
  refine x_iconst C0 (v := 0) dL_isSound_0 ki_0 ?_
  refine x_istore_n C0 dL_isSound_1 rfl (L' := [(1, _), (0, _)]) (by decide) rfl ?_
  refine x_iconst C0 (v := 0) dL_isSound_2 ki_0 ?_
  refine x_istore_n C0 dL_isSound_3 rfl (L' := [(2, _), (1, _), (0, _)]) (by decide) rfl ?_
  refine x_iconst C0 (v := 0) dL_isSound_4 ki_0 ?_
  refine x_istore_n C0 dL_isSound_5 rfl (L' := [(3, _), (2, _), (1, _), (0, _)]) (by decide) rfl ?_
  refine x_iconst C0 (v := 0) dL_isSound_6 ki_0 ?_
  refine x_pc (pc' := 7) rfl ?_
  refine x_istore C0 dL_isSound_7 (L' := [(4, _), (3, _), (2, _), (1, _), (0, _)]) (by decide) rfl ?_
  refine x_sub [4, 3, 2, 1, 0] (L' := [(0, _), (1, _), (2, _), (3, _), (4, _)]) rfl ?_
  refine x_pc (pc' := 9) rfl ?_
  exact b_L_isSound_9 C0 n n _ _ _ _ h
set_option maxRecDepth 4000 in
set_option maxHeartbeats 2000000 in
theorem b_L_acts_37 {p : Program} {l : Launch} {e : Env} {s : State} {m : MethodId} {args : Array Value} {below : List Frame} {meth : Method} {c : Code} {D : va_G} {cs : Nat → ClassId} {ad : Nat → Nat} {A : Nat → Prop} (C0 : x_C p s m args meth c D vwCl (xtys cs) A s.heap 333 ad (wfT cs ad) cL_acts 5 RL (some FieldType.int))  (n : Nat) {res : Int32 × xM} : ∀ (σ : xM) (l1 : Int32) (l2 : Int32) (l3 : Int32) (s0 : Int32) (s1 : Int32), B_L_acts_37 n σ l1 l2 l3 s0 s1 = some res → x_W p l e ({ frames := 8, cells := 0, slots := 0, locals := 195 } : Room) s m args below meth c D vwCl A s.heap 333 ad (wfT cs ad) 5 0 0 (x_E below args s D vwCl 333 ad (wfT cs ad) A (some (.int res.1)) res.2) σ 37 [(0, .ref (ad 0)), (1, .int l1), (2, .int l2), (3, .int l3)] [.int s1, .int s0] := by
  intro σ l1 l2 l3 s0 s1 h
  obtain ⟨q3, eq3, h⟩ := x_bind h
  refine x_callS21 C0 (c_L_low n eq3) (x_cwS C0 mw_513 mw_514 mw_43 mw_515 hd_yL_low ⟨rfl, rfl, Nat.le_of_ble_eq_true rfl, Nat.le_of_ble_eq_true rfl⟩) ⟨Nat.zero_le _, Nat.zero_le _⟩ (Nat.le_of_ble_eq_true rfl) dL_acts_37 ?_
  refine x_istore C0 dL_acts_40 (L' := [(4, _), (0, _), (1, _), (2, _), (3, _)]) (by decide) rfl ?_
  refine x_iload_n C0 dL_acts_42 rfl 2 rfl ?_
  refine x_bipush C0 (v := 16) dL_acts_43 kb_16 ?_
  obtain ⟨q4, eq4, h⟩ := x_bind h
  refine x_callS21 C0 (c_L_low n eq4) (x_cwS C0 mw_513 mw_514 mw_43 mw_515 hd_yL_low ⟨rfl, rfl, Nat.le_of_ble_eq_true rfl, Nat.le_of_ble_eq_true rfl⟩) ⟨Nat.zero_le _, Nat.zero_le _⟩ (Nat.le_of_ble_eq_true rfl) dL_acts_45 ?_
  refine x_ite h (fun hc h => ?_) (fun hc0 h => ?_)
  · refine x_top (congrArg Value.int hc) ?_
    refine x_tableIn C0 (off := 56) (tgt := 104) dL_acts_48 (by decide) (by decide) (by decide) rfl ?_
    refine x_aload_n C0 dL_acts_104 rfl 1 rfl ?_
    refine x_iconst C0 (v := 1) dL_acts_105 ki_1 ?_
    refine x_iload_n C0 dL_acts_106 rfl 2 rfl ?_
    refine x_bipush C0 (v := 9) dL_acts_107 kb_9 ?_
    refine x_ishr C0 dL_acts_109 ?_
    refine x_iconst C0 (v := 4) dL_acts_110 ki_4 ?_
    obtain ⟨q5, eq5, h⟩ := x_bind h
    refine x_callS21 C0 (c_L_low n eq5) (x_cwS C0 mw_513 mw_514 mw_43 mw_515 hd_yL_low ⟨rfl, rfl, Nat.le_of_ble_eq_true rfl, Nat.le_of_ble_eq_true rfl⟩) ⟨Nat.zero_le _, Nat.zero_le _⟩ (Nat.le_of_ble_eq_true rfl) dL_acts_111 ?_
    refine x_pc (pc' := 114) rfl ?_
    refine x_iadd C0 dL_acts_114 ?_
    refine x_iconst C0 (v := 1) dL_acts_115 ki_1 ?_
    refine x_iload_n C0 dL_acts_116 rfl 2 rfl ?_
    refine x_bipush C0 (v := 12) dL_acts_117 kb_12 ?_
    refine x_ishr C0 dL_acts_119 ?_
    refine x_iconst C0 (v := 3) dL_acts_120 ki_3 ?_
    obtain ⟨q6, eq6, h⟩ := x_bind h
    refine x_callS21 C0 (c_L_low n eq6) (x_cwS C0 mw_513 mw_514 mw_43 mw_515 hd_yL_low ⟨rfl, rfl, Nat.le_of_ble_eq_true rfl, Nat.le_of_ble_eq_true rfl⟩) ⟨Nat.zero_le _, Nat.zero_le _⟩ (Nat.le_of_ble_eq_true rfl) dL_acts_121 ?_
    refine x_iadd C0 dL_acts_124 ?_
    refine x_pc (pc' := 125) rfl ?_
    obtain ⟨q7, eq7, h⟩ := x_bind h
    refine x_callV21 C0 (c_X4_shape n eq7) (x_cwV C0 mw_264 mw_265 mw_266 mw_44 mw_267 hd_yX4_shape ⟨rfl, rfl, Nat.le_of_ble_eq_true rfl, Nat.le_of_ble_eq_true rfl⟩) (by decide) rfl wfT_r0 rfl ⟨Nat.zero_le _, Nat.zero_le _⟩ (Nat.le_of_ble_eq_true rfl) dL_acts_125 ?_
    obtain rfl := x_inj h
    exact x_iret C0 dL_acts_128
  · refine x_ite h (fun hc h => ?_) (fun hc1 h => ?_)
    · refine x_top (congrArg Value.int hc) ?_
      refine x_tableIn C0 (off := 81) (tgt := 129) dL_acts_48 (by decide) (by decide) (by decide) rfl ?_
      refine x_aload_n C0 dL_acts_129 rfl 1 rfl ?_
      obtain ⟨q8, eq8, h⟩ := x_bind h
      refine x_callV01 C0 (c_X4_flush n eq8) (x_cwV C0 mw_554 mw_555 mw_556 mw_44 mw_557 hd_yX4_flush ⟨rfl, rfl, Nat.le_of_ble_eq_true rfl, Nat.le_of_ble_eq_true rfl⟩) (by decide) rfl wfT_r0 rfl ⟨Nat.zero_le _, Nat.zero_le _⟩ (Nat.le_of_ble_eq_true rfl) dL_acts_130 ?_
      obtain rfl := x_inj h
      exact x_iret C0 dL_acts_133
    · refine x_ite h (fun hc h => ?_) (fun hc2 h => ?_)
      · refine x_top (congrArg Value.int hc) ?_
        refine x_tableIn C0 (off := 86) (tgt := 134) dL_acts_48 (by decide) (by decide) (by decide) rfl ?_
        refine x_aload_n C0 dL_acts_134 rfl 1 rfl ?_
        refine x_iload_n C0 dL_acts_135 rfl 2 rfl ?_
        refine x_bipush C0 (v := 9) dL_acts_136 kb_9 ?_
        refine x_ishr C0 dL_acts_138 ?_
        refine x_iconst C0 (v := 3) dL_acts_139 ki_3 ?_
        obtain ⟨q9, eq9, h⟩ := x_bind h
        refine x_callS21 C0 (c_L_low n eq9) (x_cwS C0 mw_513 mw_514 mw_43 mw_515 hd_yL_low ⟨rfl, rfl, Nat.le_of_ble_eq_true rfl, Nat.le_of_ble_eq_true rfl⟩) ⟨Nat.zero_le _, Nat.zero_le _⟩ (Nat.le_of_ble_eq_true rfl) dL_acts_140 ?_
        refine x_iconst C0 (v := 1) dL_acts_143 ki_1 ?_
        refine x_pc (pc' := 144) rfl ?_
        refine x_iload_n C0 dL_acts_144 rfl 2 rfl ?_
        refine x_bipush C0 (v := 11) dL_acts_145 kb_11 ?_
        refine x_ishr C0 dL_acts_147 ?_
        refine x_iconst C0 (v := 5) dL_acts_148 ki_5 ?_
        obtain ⟨q10, eq10, h⟩ := x_bind h
        refine x_callS21 C0 (c_L_low n eq10) (x_cwS C0 mw_513 mw_514 mw_43 mw_515 hd_yL_low ⟨rfl, rfl, Nat.le_of_ble_eq_true rfl, Nat.le_of_ble_eq_true rfl⟩) ⟨Nat.zero_le _, Nat.zero_le _⟩ (Nat.le_of_ble_eq_true rfl) dL_acts_149 ?_
        refine x_iadd C0 dL_acts_152 ?_
        refine x_iconst C0 (v := 1) dL_acts_153 ki_1 ?_
        refine x_iload_n C0 dL_acts_154 rfl 2 rfl ?_
        refine x_pc (pc' := 155) rfl ?_
        refine x_bipush C0 (v := 14) dL_acts_155 kb_14 ?_
        refine x_ishr C0 dL_acts_157 ?_
        refine x_iconst C0 (v := 5) dL_acts_158 ki_5 ?_
        obtain ⟨q11, eq11, h⟩ := x_bind h
        refine x_callS21 C0 (c_L_low n eq11) (x_cwS C0 mw_513 mw_514 mw_43 mw_515 hd_yL_low ⟨rfl, rfl, Nat.le_of_ble_eq_true rfl, Nat.le_of_ble_eq_true rfl⟩) ⟨Nat.zero_le _, Nat.zero_le _⟩ (Nat.le_of_ble_eq_true rfl) dL_acts_159 ?_
        refine x_iadd C0 dL_acts_162 ?_
        obtain ⟨q12, eq12, h⟩ := x_bind h
        refine x_callV31 C0 (c_X4_addHelper n eq12) (x_cwV C0 mw_337 mw_338 mw_339 mw_44 mw_340 hd_yX4_addHelper ⟨rfl, rfl, Nat.le_of_ble_eq_true rfl, Nat.le_of_ble_eq_true rfl⟩) (by decide) rfl wfT_r0 rfl ⟨Nat.zero_le _, Nat.zero_le _⟩ (Nat.le_of_ble_eq_true rfl) dL_acts_163 ?_
        obtain rfl := x_inj h
        exact x_iret C0 dL_acts_166
      · refine x_ite h (fun hc h => ?_) (fun hc3 h => ?_)
        · refine x_top (congrArg Value.int hc) ?_
          refine x_tableIn C0 (off := 119) (tgt := 167) dL_acts_48 (by decide) (by decide) (by decide) rfl ?_
          refine x_aload_n C0 dL_acts_167 rfl 1 rfl ?_
          refine x_iload_n C0 dL_acts_168 rfl 3 rfl ?_
          refine x_iload_n C0 dL_acts_169 rfl 2 rfl ?_
          refine x_bipush C0 (v := 9) dL_acts_170 kb_9 ?_
          refine x_ishr C0 dL_acts_172 ?_
          refine x_bipush C0 (v := 6) dL_acts_173 kb_6 ?_
          obtain ⟨q13, eq13, h⟩ := x_bind h
          refine x_callS21 C0 (c_L_low n eq13) (x_cwS C0 mw_513 mw_514 mw_43 mw_515 hd_yL_low ⟨rfl, rfl, Nat.le_of_ble_eq_true rfl, Nat.le_of_ble_eq_true rfl⟩) ⟨Nat.zero_le _, Nat.zero_le _⟩ (Nat.le_of_ble_eq_true rfl) dL_acts_175 ?_
          refine x_pc (pc' := 178) rfl ?_
          obtain ⟨q14, eq14, h⟩ := x_bind h
          refine x_callV21 C0 (c_X4_setDegree n eq14) (x_cwV C0 mw_558 mw_559 mw_560 mw_44 mw_561 hd_yX4_setDegree ⟨rfl, rfl, Nat.le_of_ble_eq_true rfl, Nat.le_of_ble_eq_true rfl⟩) (by decide) rfl wfT_r0 rfl ⟨Nat.zero_le _, Nat.zero_le _⟩ (Nat.le_of_ble_eq_true rfl) dL_acts_178 ?_
          obtain rfl := x_inj h
          exact x_iret C0 dL_acts_181
        · refine x_ite h (fun hc h => ?_) (fun hc4 h => ?_)
          · refine x_top (congrArg Value.int hc) ?_
            refine x_tableIn C0 (off := 134) (tgt := 182) dL_acts_48 (by decide) (by decide) (by decide) rfl ?_
            refine x_aload_n C0 dL_acts_182 rfl 1 rfl ?_
            refine x_iconst C0 (v := 1) dL_acts_183 ki_1 ?_
            refine x_iload_n C0 dL_acts_184 rfl 2 rfl ?_
            refine x_bipush C0 (v := 9) dL_acts_185 kb_9 ?_
            refine x_ishr C0 dL_acts_187 ?_
            refine x_iconst C0 (v := 4) dL_acts_188 ki_4 ?_
            obtain ⟨q15, eq15, h⟩ := x_bind h
            refine x_callS21 C0 (c_L_low n eq15) (x_cwS C0 mw_513 mw_514 mw_43 mw_515 hd_yL_low ⟨rfl, rfl, Nat.le_of_ble_eq_true rfl, Nat.le_of_ble_eq_true rfl⟩) ⟨Nat.zero_le _, Nat.zero_le _⟩ (Nat.le_of_ble_eq_true rfl) dL_acts_189 ?_
            refine x_pc (pc' := 192) rfl ?_
            refine x_iadd C0 dL_acts_192 ?_
            obtain ⟨q16, eq16, h⟩ := x_bind h
            refine x_callV11 C0 (c_X4_setTrial n eq16) (x_cwV C0 mw_562 mw_563 mw_564 mw_44 mw_565 hd_yX4_setTrial ⟨rfl, rfl, Nat.le_of_ble_eq_true rfl, Nat.le_of_ble_eq_true rfl⟩) (by decide) rfl wfT_r0 rfl ⟨Nat.zero_le _, Nat.zero_le _⟩ (Nat.le_of_ble_eq_true rfl) dL_acts_193 ?_
            obtain rfl := x_inj h
            exact x_iret C0 dL_acts_196
          · refine x_ite h (fun hc h => ?_) (fun hc5 h => ?_)
            · refine x_top (congrArg Value.int hc) ?_
              refine x_tableIn C0 (off := 149) (tgt := 197) dL_acts_48 (by decide) (by decide) (by decide) rfl ?_
              refine x_aload_n C0 dL_acts_197 rfl 1 rfl ?_
              refine x_iload_n C0 dL_acts_198 rfl 3 rfl ?_
              obtain ⟨q17, eq17, h⟩ := x_bind h
              refine x_callV11 C0 (c_X4_pardon n eq17) (x_cwV C0 mw_566 mw_567 mw_568 mw_44 mw_569 hd_yX4_pardon ⟨rfl, rfl, Nat.le_of_ble_eq_true rfl, Nat.le_of_ble_eq_true rfl⟩) (by decide) rfl wfT_r0 rfl ⟨Nat.zero_le _, Nat.zero_le _⟩ (Nat.le_of_ble_eq_true rfl) dL_acts_199 ?_
              obtain rfl := x_inj h
              exact x_iret C0 dL_acts_202
            · refine x_ite h (fun hc h => ?_) (fun hc6 h => ?_)
              · refine x_top (congrArg Value.int hc) ?_
                refine x_tableIn C0 (off := 155) (tgt := 203) dL_acts_48 (by decide) (by decide) (by decide) rfl ?_
                refine x_aload_n C0 dL_acts_203 rfl 1 rfl ?_
                refine x_iload_n C0 dL_acts_204 rfl 3 rfl ?_
                obtain ⟨q18, eq18, h⟩ := x_bind h
                refine x_callV11 C0 (c_X4_forget n eq18) (x_cwV C0 mw_574 mw_575 mw_576 mw_44 mw_577 hd_yX4_forget ⟨rfl, rfl, Nat.le_of_ble_eq_true rfl, Nat.le_of_ble_eq_true rfl⟩) (by decide) rfl wfT_r0 rfl ⟨Nat.zero_le _, Nat.zero_le _⟩ (Nat.le_of_ble_eq_true rfl) dL_acts_205 ?_
                obtain rfl := x_inj h
                exact x_iret C0 dL_acts_208
              · refine x_ite h (fun hc h => ?_) (fun hc7 h => ?_)
                · refine x_top (congrArg Value.int hc) ?_
                  refine x_tableIn C0 (off := 161) (tgt := 209) dL_acts_48 (by decide) (by decide) (by decide) rfl ?_
                  refine x_aload_n C0 dL_acts_209 rfl 1 rfl ?_
                  refine x_iload_n C0 dL_acts_210 rfl 4 rfl ?_
                  refine x_iload C0 dL_acts_211 0 rfl ?_
                  refine x_iload_n C0 dL_acts_213 rfl 2 rfl ?_
                  refine x_bipush C0 (v := 16) dL_acts_214 kb_16 ?_
                  refine x_ishr C0 dL_acts_216 ?_
                  refine x_bipush C0 (v := 9) dL_acts_217 kb_9 ?_
                  refine x_pc (pc' := 219) rfl ?_
                  obtain ⟨q19, eq19, h⟩ := x_bind h
                  refine x_callS21 C0 (c_L_low n eq19) (x_cwS C0 mw_513 mw_514 mw_43 mw_515 hd_yL_low ⟨rfl, rfl, Nat.le_of_ble_eq_true rfl, Nat.le_of_ble_eq_true rfl⟩) ⟨Nat.zero_le _, Nat.zero_le _⟩ (Nat.le_of_ble_eq_true rfl) dL_acts_219 ?_
                  refine x_iconst C0 (v := 4) dL_acts_222 ki_4 ?_
                  refine x_isub C0 dL_acts_223 ?_
                  refine x_iconst C0 (v := 1) dL_acts_224 ki_1 ?_
                  refine x_iload_n C0 dL_acts_225 rfl 2 rfl ?_
                  refine x_bipush C0 (v := 20) dL_acts_226 kb_20 ?_
                  refine x_ishr C0 dL_acts_228 ?_
                  refine x_bipush C0 (v := 8) dL_acts_229 kb_8 ?_
                  refine x_pc (pc' := 231) rfl ?_
                  obtain ⟨q20, eq20, h⟩ := x_bind h
                  refine x_callS21 C0 (c_L_low n eq20) (x_cwS C0 mw_513 mw_514 mw_43 mw_515 hd_yL_low ⟨rfl, rfl, Nat.le_of_ble_eq_true rfl, Nat.le_of_ble_eq_true rfl⟩) ⟨Nat.zero_le _, Nat.zero_le _⟩ (Nat.le_of_ble_eq_true rfl) dL_acts_231 ?_
                  refine x_iadd C0 dL_acts_234 ?_
                  obtain ⟨q21, eq21, h⟩ := x_bind h
                  refine x_callV41 C0 (c_X4_walk n eq21) (x_cwV C0 mw_348 mw_349 mw_350 mw_44 mw_351 hd_yX4_walk ⟨rfl, rfl, Nat.le_of_ble_eq_true rfl, Nat.le_of_ble_eq_true rfl⟩) (by decide) rfl wfT_r0 rfl ⟨Nat.zero_le _, Nat.zero_le _⟩ (Nat.le_of_ble_eq_true rfl) dL_acts_235 ?_
                  obtain rfl := x_inj h
                  exact x_iret C0 dL_acts_238
                · refine x_ite h (fun hc h => ?_) (fun hc8 h => ?_)
                  · refine x_top (congrArg Value.int hc) ?_
                    refine x_tableIn C0 (off := 161) (tgt := 209) dL_acts_48 (by decide) (by decide) (by decide) rfl ?_
                    refine x_aload_n C0 dL_acts_209 rfl 1 rfl ?_
                    refine x_iload_n C0 dL_acts_210 rfl 4 rfl ?_
                    refine x_iload C0 dL_acts_211 0 rfl ?_
                    refine x_iload_n C0 dL_acts_213 rfl 2 rfl ?_
                    refine x_bipush C0 (v := 16) dL_acts_214 kb_16 ?_
                    refine x_ishr C0 dL_acts_216 ?_
                    refine x_bipush C0 (v := 9) dL_acts_217 kb_9 ?_
                    refine x_pc (pc' := 219) rfl ?_
                    obtain ⟨q22, eq22, h⟩ := x_bind h
                    refine x_callS21 C0 (c_L_low n eq22) (x_cwS C0 mw_513 mw_514 mw_43 mw_515 hd_yL_low ⟨rfl, rfl, Nat.le_of_ble_eq_true rfl, Nat.le_of_ble_eq_true rfl⟩) ⟨Nat.zero_le _, Nat.zero_le _⟩ (Nat.le_of_ble_eq_true rfl) dL_acts_219 ?_
                    refine x_iconst C0 (v := 4) dL_acts_222 ki_4 ?_
                    refine x_isub C0 dL_acts_223 ?_
                    refine x_iconst C0 (v := 1) dL_acts_224 ki_1 ?_
                    refine x_iload_n C0 dL_acts_225 rfl 2 rfl ?_
                    refine x_bipush C0 (v := 20) dL_acts_226 kb_20 ?_
                    refine x_ishr C0 dL_acts_228 ?_
                    refine x_bipush C0 (v := 8) dL_acts_229 kb_8 ?_
                    refine x_pc (pc' := 231) rfl ?_
                    obtain ⟨q23, eq23, h⟩ := x_bind h
                    refine x_callS21 C0 (c_L_low n eq23) (x_cwS C0 mw_513 mw_514 mw_43 mw_515 hd_yL_low ⟨rfl, rfl, Nat.le_of_ble_eq_true rfl, Nat.le_of_ble_eq_true rfl⟩) ⟨Nat.zero_le _, Nat.zero_le _⟩ (Nat.le_of_ble_eq_true rfl) dL_acts_231 ?_
                    refine x_iadd C0 dL_acts_234 ?_
                    obtain ⟨q24, eq24, h⟩ := x_bind h
                    refine x_callV41 C0 (c_X4_walk n eq24) (x_cwV C0 mw_348 mw_349 mw_350 mw_44 mw_351 hd_yX4_walk ⟨rfl, rfl, Nat.le_of_ble_eq_true rfl, Nat.le_of_ble_eq_true rfl⟩) (by decide) rfl wfT_r0 rfl ⟨Nat.zero_le _, Nat.zero_le _⟩ (Nat.le_of_ble_eq_true rfl) dL_acts_235 ?_
                    obtain rfl := x_inj h
                    exact x_iret C0 dL_acts_238
                  · refine x_ite h (fun hc h => ?_) (fun hc9 h => ?_)
                    · refine x_top (congrArg Value.int hc) ?_
                      refine x_tableIn C0 (off := 161) (tgt := 209) dL_acts_48 (by decide) (by decide) (by decide) rfl ?_
                      refine x_aload_n C0 dL_acts_209 rfl 1 rfl ?_
                      refine x_iload_n C0 dL_acts_210 rfl 4 rfl ?_
                      refine x_iload C0 dL_acts_211 0 rfl ?_
                      refine x_iload_n C0 dL_acts_213 rfl 2 rfl ?_
                      refine x_bipush C0 (v := 16) dL_acts_214 kb_16 ?_
                      refine x_ishr C0 dL_acts_216 ?_
                      refine x_bipush C0 (v := 9) dL_acts_217 kb_9 ?_
                      refine x_pc (pc' := 219) rfl ?_
                      obtain ⟨q25, eq25, h⟩ := x_bind h
                      refine x_callS21 C0 (c_L_low n eq25) (x_cwS C0 mw_513 mw_514 mw_43 mw_515 hd_yL_low ⟨rfl, rfl, Nat.le_of_ble_eq_true rfl, Nat.le_of_ble_eq_true rfl⟩) ⟨Nat.zero_le _, Nat.zero_le _⟩ (Nat.le_of_ble_eq_true rfl) dL_acts_219 ?_
                      refine x_iconst C0 (v := 4) dL_acts_222 ki_4 ?_
                      refine x_isub C0 dL_acts_223 ?_
                      refine x_iconst C0 (v := 1) dL_acts_224 ki_1 ?_
                      refine x_iload_n C0 dL_acts_225 rfl 2 rfl ?_
                      refine x_bipush C0 (v := 20) dL_acts_226 kb_20 ?_
                      refine x_ishr C0 dL_acts_228 ?_
                      refine x_bipush C0 (v := 8) dL_acts_229 kb_8 ?_
                      refine x_pc (pc' := 231) rfl ?_
                      obtain ⟨q26, eq26, h⟩ := x_bind h
                      refine x_callS21 C0 (c_L_low n eq26) (x_cwS C0 mw_513 mw_514 mw_43 mw_515 hd_yL_low ⟨rfl, rfl, Nat.le_of_ble_eq_true rfl, Nat.le_of_ble_eq_true rfl⟩) ⟨Nat.zero_le _, Nat.zero_le _⟩ (Nat.le_of_ble_eq_true rfl) dL_acts_231 ?_
                      refine x_iadd C0 dL_acts_234 ?_
                      obtain ⟨q27, eq27, h⟩ := x_bind h
                      refine x_callV41 C0 (c_X4_walk n eq27) (x_cwV C0 mw_348 mw_349 mw_350 mw_44 mw_351 hd_yX4_walk ⟨rfl, rfl, Nat.le_of_ble_eq_true rfl, Nat.le_of_ble_eq_true rfl⟩) (by decide) rfl wfT_r0 rfl ⟨Nat.zero_le _, Nat.zero_le _⟩ (Nat.le_of_ble_eq_true rfl) dL_acts_235 ?_
                      obtain rfl := x_inj h
                      exact x_iret C0 dL_acts_238
                    · refine x_tableOut C0 (tgt := 239) dL_acts_48 (x_swo_9 hc0 hc1 hc2 hc3 hc4 hc5 hc6 hc7 hc8 hc9) rfl ?_
                      refine x_aload_n C0 dL_acts_239 rfl 1 rfl ?_
                      refine x_iload_n C0 dL_acts_240 rfl 4 rfl ?_
                      refine x_iload C0 dL_acts_241 0 rfl ?_
                      obtain ⟨q28, eq28, h⟩ := x_bind h
                      refine x_callV21 C0 (c_X4_access n eq28) (x_cwV C0 mw_579 mw_580 mw_581 mw_44 mw_582 hd_yX4_access ⟨rfl, rfl, Nat.le_of_ble_eq_true rfl, Nat.le_of_ble_eq_true rfl⟩) (by decide) rfl wfT_r0 rfl ⟨Nat.zero_le _, Nat.zero_le _⟩ (Nat.le_of_ble_eq_true rfl) dL_acts_243 ?_
                      obtain rfl := x_inj h
                      exact x_iret C0 dL_acts_246
set_option maxRecDepth 4000 in
set_option maxHeartbeats 2000000 in
theorem c_L_acts {l : Launch} {D : va_G} {cs : Nat → ClassId} {ad : Nat → Nat} (n : Nat) {σ : xM} {x1 : Int32}  {res : Int32 × xM} (h : F_L_acts n σ x1 = some res) : x_Met l yL_acts [Cond.code yL_acts cL_acts 5 (some FieldType.int)] ({ frames := 8, cells := 0, slots := 0, locals := 195 } : Room) D vwCl (xtys cs) 333 ad (wfT cs ad) [.ref (ad 0), .int x1] σ (some (.int res.1)) res.2 := by
  refine x_Met_of (L0 := [(0, .ref (ad 0)), (1, .int x1)]) (own := RL) (by decide) rfl rfl wfT_loc (Nat.le_of_ble_eq_true rfl) rfl ?_
  intro p e s m args below meth c A C0
  refine x_iload_n C0 dL_acts_0 rfl 1 rfl ?_
  refine x_iconst C0 (v := 5) dL_acts_1 ki_5 ?_
  refine x_ishr C0 dL_acts_2 ?_
  refine x_iconst C0 (v := 4) dL_acts_3 ki_4 ?_
  obtain ⟨q1, eq1, h⟩ := x_bind h
  refine x_callS21 C0 (c_L_low n eq1) (x_cwS C0 mw_513 mw_514 mw_43 mw_515 hd_yL_low ⟨rfl, rfl, Nat.le_of_ble_eq_true rfl, Nat.le_of_ble_eq_true rfl⟩) ⟨Nat.zero_le _, Nat.zero_le _⟩ (Nat.le_of_ble_eq_true rfl) dL_acts_4 ?_
  refine x_istore_n C0 dL_acts_7 rfl (L' := [(2, _), (0, _), (1, _)]) (by decide) rfl ?_
  refine x_iload_n C0 dL_acts_8 rfl 2 rfl ?_
  refine x_pc (pc' := 9) rfl ?_
  refine x_bipush C0 (v := 8) dL_acts_9 kb_8 ?_
  refine x_ishr C0 dL_acts_11 ?_
  refine x_iconst C0 (v := 3) dL_acts_12 ki_3 ?_
  obtain ⟨q2, eq2, h⟩ := x_bind h
  refine x_callS21 C0 (c_L_low n eq2) (x_cwS C0 mw_513 mw_514 mw_43 mw_515 hd_yL_low ⟨rfl, rfl, Nat.le_of_ble_eq_true rfl, Nat.le_of_ble_eq_true rfl⟩) ⟨Nat.zero_le _, Nat.zero_le _⟩ (Nat.le_of_ble_eq_true rfl) dL_acts_13 ?_
  refine x_istore_n C0 dL_acts_16 rfl (L' := [(3, _), (2, _), (0, _), (1, _)]) (by decide) rfl ?_
  refine x_iload_n C0 dL_acts_17 rfl 3 rfl ?_
  refine x_bipush C0 (v := 11) dL_acts_18 kb_11 ?_
  refine x_ishr C0 dL_acts_20 ?_
  refine x_pc (pc' := 21) rfl ?_
  refine x_iload_n C0 dL_acts_21 rfl 3 rfl ?_
  refine x_bipush C0 (v := 27) dL_acts_22 kb_27 ?_
  refine x_ishr C0 dL_acts_24 ?_
  refine x_iconst C0 (v := 1) dL_acts_25 ki_1 ?_
  refine x_iand C0 dL_acts_26 ?_
  refine x_if_ne C0 (tgt := 35) dL_acts_27 rfl h (fun _ h => ?_) (fun _ h => ?_)
  · refine x_bipush C0 (v := 40) dL_acts_30 kb_40 ?_
    refine x_goto C0 (tgt := 37) dL_acts_32 rfl ?_
    refine x_sub [2, 3, 1, 0] (L' := [(0, _), (1, _), (2, _), (3, _)]) rfl ?_
    refine x_pc (pc' := 37) rfl ?_
    exact b_L_acts_37 C0 n _ _ _ _ _ _ h
  · refine x_bipush C0 (v := 12) dL_acts_35 kb_12 ?_
    refine x_sub [2, 3, 1, 0] (L' := [(0, _), (1, _), (2, _), (3, _)]) rfl ?_
    refine x_pc (pc' := 37) rfl ?_
    exact b_L_acts_37 C0 n _ _ _ _ _ _ h
set_option maxRecDepth 4000 in
set_option maxHeartbeats 2000000 in
theorem b_L_isForetold_117 {p : Program} {l : Launch} {e : Env} {s : State} {m : MethodId} {args : Array Value} {below : List Frame} {meth : Method} {c : Code} {D : va_G} {cs : Nat → ClassId} {ad : Nat → Nat} {A : Nat → Prop} (C0 : x_C p s m args meth c D vwCl (xtys cs) A s.heap 333 ad (wfT cs ad) cL_isForetold 13 RL (some FieldType.boolean))  (n : Nat) {res : Int32 × xM} {K71 : xM → Int64 → Int32 → Int32 → Int32 → Int32 → Int32 → Int32 → Int32 → Option (Int32 × xM)} {K85 : xM → Int64 → Int32 → Int32 → Int32 → Int32 → Int32 → Int32 → Int32 → Int32 → Option (Int32 × xM)} (hK71 : ∀ (σ : xM) (l2 : Int64) (l4 : Int32) (l5 : Int32) (l6 : Int32) (l7 : Int32) (l8 : Int32) (l9 : Int32) (l10 : Int32) , K71 σ l2 l4 l5 l6 l7 l8 l9 l10 = some res → x_W p l e ({ frames := 8, cells := 0, slots := 0, locals := 195 } : Room) s m args below meth c D vwCl A s.heap 333 ad (wfT cs ad) 13 0 0 (x_E below args s D vwCl 333 ad (wfT cs ad) A (some (.int res.1)) res.2) σ 71 [(0, .ref (ad 0)), (2, .long l2), (4, .int l4), (5, .int l5), (6, .int l6), (7, .int l7), (8, .int l8), (9, .int l9), (10, .int l10)] []) (hK85 : ∀ (σ : xM) (l2 : Int64) (l4 : Int32) (l5 : Int32) (l6 : Int32) (l7 : Int32) (l8 : Int32) (l9 : Int32) (l10 : Int32) (l11 : Int32) , K85 σ l2 l4 l5 l6 l7 l8 l9 l10 l11 = some res → x_W p l e ({ frames := 8, cells := 0, slots := 0, locals := 195 } : Room) s m args below meth c D vwCl A s.heap 333 ad (wfT cs ad) 13 0 0 (x_E below args s D vwCl 333 ad (wfT cs ad) A (some (.int res.1)) res.2) σ 85 [(0, .ref (ad 0)), (2, .long l2), (4, .int l4), (5, .int l5), (6, .int l6), (7, .int l7), (8, .int l8), (9, .int l9), (10, .int l10), (11, .int l11)] []) : ∀ (σ : xM) (l2 : Int64) (l4 : Int32) (l5 : Int32) (l6 : Int32) (l7 : Int32) (l8 : Int32) (l10 : Int32) (l11 : Int32) (s0 : Int32) (s1 : Int32), B_L_isForetold_117 n K71 K85 σ l2 l4 l5 l6 l7 l8 l10 l11 s0 s1 = some res → x_W p l e ({ frames := 8, cells := 0, slots := 0, locals := 195 } : Room) s m args below meth c D vwCl A s.heap 333 ad (wfT cs ad) 13 0 0 (x_E below args s D vwCl 333 ad (wfT cs ad) A (some (.int res.1)) res.2) σ 117 [(0, .ref (ad 0)), (2, .long l2), (4, .int l4), (5, .int l5), (6, .int l6), (7, .int l7), (8, .int l8), (10, .int l10), (11, .int l11)] [.int s1, .int s0] := by
  intro σ l2 l4 l5 l6 l7 l8 l10 l11 s0 s1 h
  refine x_iadd C0 dL_isForetold_117 ?_
  refine x_istore C0 dL_isForetold_118 (L' := [(9, _), (0, _), (2, _), (4, _), (5, _), (6, _), (7, _), (8, _), (10, _), (11, _)]) (by decide) rfl ?_
  refine x_iinc C0 (v := 1) (L' := [(11, _), (9, _), (0, _), (2, _), (4, _), (5, _), (6, _), (7, _), (8, _), (10, _)]) dL_isForetold_120 9 rfl ki_1 (by decide) rfl ?_
  refine x_goto C0 (tgt := 85) dL_isForetold_123 rfl ?_
  refine x_sub [2, 3, 4, 5, 6, 7, 8, 1, 9, 0] (L' := [(0, _), (2, _), (4, _), (5, _), (6, _), (7, _), (8, _), (9, _), (10, _), (11, _)]) rfl ?_
  refine x_pc (pc' := 85) rfl ?_
  exact hK85 _ _ _ _ _ _ _ _ _ _ h
set_option maxRecDepth 4000 in
set_option maxHeartbeats 2000000 in
theorem b_L_isForetold_85 {p : Program} {l : Launch} {e : Env} {s : State} {m : MethodId} {args : Array Value} {below : List Frame} {meth : Method} {c : Code} {D : va_G} {cs : Nat → ClassId} {ad : Nat → Nat} {A : Nat → Prop} (C0 : x_C p s m args meth c D vwCl (xtys cs) A s.heap 333 ad (wfT cs ad) cL_isForetold 13 RL (some FieldType.boolean))  (n : Nat) {res : Int32 × xM} {K71 : xM → Int64 → Int32 → Int32 → Int32 → Int32 → Int32 → Int32 → Int32 → Option (Int32 × xM)} (hK71 : ∀ (σ : xM) (l2 : Int64) (l4 : Int32) (l5 : Int32) (l6 : Int32) (l7 : Int32) (l8 : Int32) (l9 : Int32) (l10 : Int32) , K71 σ l2 l4 l5 l6 l7 l8 l9 l10 = some res → x_W p l e ({ frames := 8, cells := 0, slots := 0, locals := 195 } : Room) s m args below meth c D vwCl A s.heap 333 ad (wfT cs ad) 13 0 0 (x_E below args s D vwCl 333 ad (wfT cs ad) A (some (.int res.1)) res.2) σ 71 [(0, .ref (ad 0)), (2, .long l2), (4, .int l4), (5, .int l5), (6, .int l6), (7, .int l7), (8, .int l8), (9, .int l9), (10, .int l10)] []) : ∀ (f : Nat) (σ : xM) (l2 : Int64) (l4 : Int32) (l5 : Int32) (l6 : Int32) (l7 : Int32) (l8 : Int32) (l9 : Int32) (l10 : Int32) (l11 : Int32), B_L_isForetold_85 n K71 f σ l2 l4 l5 l6 l7 l8 l9 l10 l11 = some res → x_W p l e ({ frames := 8, cells := 0, slots := 0, locals := 195 } : Room) s m args below meth c D vwCl A s.heap 333 ad (wfT cs ad) 13 0 0 (x_E below args s D vwCl 333 ad (wfT cs ad) A (some (.int res.1)) res.2) σ 85 [(0, .ref (ad 0)), (2, .long l2), (4, .int l4), (5, .int l5), (6, .int l6), (7, .int l7), (8, .int l8), (9, .int l9), (10, .int l10), (11, .int l11)] [] := by
  intro f
  induction f with
  | zero =>
    intro σ l2 l4 l5 l6 l7 l8 l9 l10 l11 h
    cases h
  | succ f ih =>
    intro σ l2 l4 l5 l6 l7 l8 l9 l10 l11 h
    refine x_iload C0 dL_isForetold_85 9 rfl ?_
    refine x_iconst C0 (v := 4) dL_isForetold_87 ki_4 ?_
    refine x_icmp_ge C0 (tgt := 126) dL_isForetold_88 rfl h (fun _ h => ?_) (fun _ h => ?_)
    · refine x_aload_n C0 dL_isForetold_91 rfl 0 rfl ?_
      refine x_iload C0 dL_isForetold_92 8 rfl ?_
      refine x_iload C0 dL_isForetold_94 2 rfl ?_
      refine x_iload C0 dL_isForetold_96 3 rfl ?_
      refine x_iload C0 dL_isForetold_98 9 rfl ?_
      obtain ⟨q14, eq14, h⟩ := x_bind h
      refine x_callV41 C0 (c_X4_wouldAsk n eq14) (x_cwV C0 mw_460 mw_461 mw_462 mw_44 mw_463 hd_yX4_wouldAsk ⟨rfl, rfl, Nat.le_of_ble_eq_true rfl, Nat.le_of_ble_eq_true rfl⟩) (by decide) rfl wfT_r0 rfl ⟨Nat.zero_le _, Nat.zero_le _⟩ (Nat.le_of_ble_eq_true rfl) dL_isForetold_100 ?_
      refine x_istore C0 dL_isForetold_103 (L' := [(12, _), (0, _), (2, _), (4, _), (5, _), (6, _), (7, _), (8, _), (9, _), (10, _), (11, _)]) (by decide) rfl ?_
      refine x_pc (pc' := 105) rfl ?_
      refine x_iload C0 dL_isForetold_105 8 rfl ?_
      refine x_iload C0 dL_isForetold_107 0 rfl ?_
      refine x_if_lt C0 (tgt := 116) dL_isForetold_109 rfl h (fun _ h => ?_) (fun _ h => ?_)
      · refine x_iconst C0 (v := 0) dL_isForetold_116 ki_0 ?_
        refine x_sub [1, 2, 3, 4, 5, 6, 7, 9, 10] (L' := [(0, _), (2, _), (4, _), (5, _), (6, _), (7, _), (8, _), (10, _), (11, _)]) rfl ?_
        refine x_pc (pc' := 117) rfl ?_
        exact b_L_isForetold_117 C0 n hK71 (fun σ l2 l4 l5 l6 l7 l8 l9 l10 l11 h => ih σ l2 l4 l5 l6 l7 l8 l9 l10 l11 h) _ _ _ _ _ _ _ _ _ _ _ h
      · refine x_iconst C0 (v := 1) dL_isForetold_112 ki_1 ?_
        refine x_goto C0 (tgt := 117) dL_isForetold_113 rfl ?_
        refine x_sub [1, 2, 3, 4, 5, 6, 7, 9, 10] (L' := [(0, _), (2, _), (4, _), (5, _), (6, _), (7, _), (8, _), (10, _), (11, _)]) rfl ?_
        refine x_pc (pc' := 117) rfl ?_
        exact b_L_isForetold_117 C0 n hK71 (fun σ l2 l4 l5 l6 l7 l8 l9 l10 l11 h => ih σ l2 l4 l5 l6 l7 l8 l9 l10 l11 h) _ _ _ _ _ _ _ _ _ _ _ h
    · refine x_iinc C0 (v := 1) (L' := [(10, _), (0, _), (2, _), (4, _), (5, _), (6, _), (7, _), (8, _), (9, _), (11, _)]) dL_isForetold_126 8 rfl ki_1 (by decide) rfl ?_
      refine x_goto C0 (tgt := 71) dL_isForetold_129 rfl ?_
      refine x_sub [1, 2, 3, 4, 5, 6, 7, 8, 0] (L' := [(0, _), (2, _), (4, _), (5, _), (6, _), (7, _), (8, _), (9, _), (10, _)]) rfl ?_
      refine x_pc (pc' := 71) rfl ?_
      exact hK71 _ _ _ _ _ _ _ _ _ h
set_option maxRecDepth 4000 in
set_option maxHeartbeats 2000000 in
theorem b_L_isForetold_204 {p : Program} {l : Launch} {e : Env} {s : State} {m : MethodId} {args : Array Value} {below : List Frame} {meth : Method} {c : Code} {D : va_G} {cs : Nat → ClassId} {ad : Nat → Nat} {A : Nat → Prop} (C0 : x_C p s m args meth c D vwCl (xtys cs) A s.heap 333 ad (wfT cs ad) cL_isForetold 13 RL (some FieldType.boolean))  (n : Nat) {res : Int32 × xM} : ∀ (σ : xM) (l2 : Int64) (l4 : Int32) (l5 : Int32) (l6 : Int32) (l7 : Int32) (l8 : Int32) (s0 : Int32), B_L_isForetold_204 n σ l2 l4 l5 l6 l7 l8 s0 = some res → x_W p l e ({ frames := 8, cells := 0, slots := 0, locals := 195 } : Room) s m args below meth c D vwCl A s.heap 333 ad (wfT cs ad) 13 0 0 (x_E below args s D vwCl 333 ad (wfT cs ad) A (some (.int res.1)) res.2) σ 204 [(0, .ref (ad 0)), (2, .long l2), (4, .int l4), (5, .int l5), (6, .int l6), (7, .int l7), (8, .int l8)] [.int s0] := by
  intro σ l2 l4 l5 l6 l7 l8 s0 h
  refine x_istore C0 dL_isForetold_204 (L' := [(12, _), (0, _), (2, _), (4, _), (5, _), (6, _), (7, _), (8, _)]) (by decide) rfl ?_
  refine x_aload_n C0 dL_isForetold_206 rfl 1 rfl ?_
  obtain ⟨q15, eq15, h⟩ := x_bind h
  refine x_callV01 C0 (c_X4_undo n eq15) (x_cwV C0 mw_448 mw_449 mw_450 mw_44 mw_451 hd_yX4_undo ⟨rfl, rfl, Nat.le_of_ble_eq_true rfl, Nat.le_of_ble_eq_true rfl⟩) (by decide) rfl wfT_r0 rfl ⟨Nat.zero_le _, Nat.zero_le _⟩ (Nat.le_of_ble_eq_true rfl) dL_isForetold_207 ?_
  refine x_pop C0 dL_isForetold_210 rfl ?_
  refine x_iload C0 dL_isForetold_211 0 rfl ?_
  refine x_if_eq C0 (tgt := 242) dL_isForetold_213 rfl h (fun _ h => ?_) (fun _ h => ?_)
  · refine x_iconst C0 (v := 0) dL_isForetold_242 ki_0 ?_
    obtain rfl := x_inj h
    exact x_zret (v := 0) C0 rfl dL_isForetold_243
  · refine x_aload_n C0 dL_isForetold_216 rfl 1 rfl ?_
    obtain ⟨q16, eq16, h⟩ := x_bind h
    refine x_callS11 C0 (c_L_all n eq16) (x_cwS C0 mw_517 mw_518 mw_43 mw_519 hd_yL_all ⟨rfl, rfl, Nat.le_of_ble_eq_true rfl, Nat.le_of_ble_eq_true rfl⟩) ⟨Nat.zero_le _, Nat.zero_le _⟩ (Nat.le_of_ble_eq_true rfl) dL_isForetold_217 ?_
    refine x_lload_n C0 dL_isForetold_220 rfl 2 rfl ?_
    refine x_lcmp C0 dL_isForetold_221 ?_
    refine x_if_ne C0 (tgt := 242) dL_isForetold_222 rfl h (fun _ h => ?_) (fun _ h => ?_)
    · refine x_aload_n C0 dL_isForetold_225 rfl 1 rfl ?_
      refine x_iload C0 dL_isForetold_226 3 rfl ?_
      refine x_iload C0 dL_isForetold_228 4 rfl ?_
      refine x_iload C0 dL_isForetold_230 5 rfl ?_
      refine x_iload C0 dL_isForetold_232 6 rfl ?_
      obtain ⟨q17, eq17, h⟩ := x_bind h
      refine x_callV41 C0 (c_X4_walk n eq17) (x_cwV C0 mw_348 mw_349 mw_350 mw_44 mw_351 hd_yX4_walk ⟨rfl, rfl, Nat.le_of_ble_eq_true rfl, Nat.le_of_ble_eq_true rfl⟩) (by decide) rfl wfT_r0 rfl ⟨Nat.zero_le _, Nat.zero_le _⟩ (Nat.le_of_ble_eq_true rfl) dL_isForetold_234 ?_
      refine x_iload C0 dL_isForetold_237 7 rfl ?_
      refine x_pc (pc' := 239) rfl ?_
      refine x_icmp_eq C0 (tgt := 244) dL_isForetold_239 rfl h (fun _ h => ?_) (fun _ h => ?_)
      · refine x_aload_n C0 dL_isForetold_244 rfl 1 rfl ?_
        obtain ⟨q18, eq18, h⟩ := x_bind h
        refine x_callV01 C0 (c_X4_undo n eq18) (x_cwV C0 mw_448 mw_449 mw_450 mw_44 mw_451 hd_yX4_undo ⟨rfl, rfl, Nat.le_of_ble_eq_true rfl, Nat.le_of_ble_eq_true rfl⟩) (by decide) rfl wfT_r0 rfl ⟨Nat.zero_le _, Nat.zero_le _⟩ (Nat.le_of_ble_eq_true rfl) dL_isForetold_245 ?_
        refine x_pop C0 dL_isForetold_248 rfl ?_
        refine x_aload_n C0 dL_isForetold_249 rfl 1 rfl ?_
        obtain ⟨q19, eq19, h⟩ := x_bind h
        refine x_callS11 C0 (c_L_all n eq19) (x_cwS C0 mw_517 mw_518 mw_43 mw_519 hd_yL_all ⟨rfl, rfl, Nat.le_of_ble_eq_true rfl, Nat.le_of_ble_eq_true rfl⟩) ⟨Nat.zero_le _, Nat.zero_le _⟩ (Nat.le_of_ble_eq_true rfl) dL_isForetold_250 ?_
        refine x_lload_n C0 dL_isForetold_253 rfl 2 rfl ?_
        refine x_lcmp C0 dL_isForetold_254 ?_
        refine x_pc (pc' := 255) rfl ?_
        refine x_if_ne C0 (tgt := 262) dL_isForetold_255 rfl h (fun _ h => ?_) (fun _ h => ?_)
        · refine x_iconst C0 (v := 1) dL_isForetold_258 ki_1 ?_
          refine x_goto C0 (tgt := 263) dL_isForetold_259 rfl ?_
          obtain rfl := x_inj h
          exact x_zret (v := 1) C0 rfl dL_isForetold_263
        · refine x_iconst C0 (v := 0) dL_isForetold_262 ki_0 ?_
          obtain rfl := x_inj h
          exact x_zret (v := 0) C0 rfl dL_isForetold_263
      · refine x_iconst C0 (v := 0) dL_isForetold_242 ki_0 ?_
        obtain rfl := x_inj h
        exact x_zret (v := 0) C0 rfl dL_isForetold_243
    · refine x_iconst C0 (v := 0) dL_isForetold_242 ki_0 ?_
      obtain rfl := x_inj h
      exact x_zret (v := 0) C0 rfl dL_isForetold_243
set_option maxRecDepth 4000 in
set_option maxHeartbeats 2000000 in
theorem b_L_isForetold_203 {p : Program} {l : Launch} {e : Env} {s : State} {m : MethodId} {args : Array Value} {below : List Frame} {meth : Method} {c : Code} {D : va_G} {cs : Nat → ClassId} {ad : Nat → Nat} {A : Nat → Prop} (C0 : x_C p s m args meth c D vwCl (xtys cs) A s.heap 333 ad (wfT cs ad) cL_isForetold 13 RL (some FieldType.boolean))  (n : Nat) {res : Int32 × xM} : ∀ (σ : xM) (l2 : Int64) (l4 : Int32) (l5 : Int32) (l6 : Int32) (l7 : Int32) (l8 : Int32), B_L_isForetold_203 n σ l2 l4 l5 l6 l7 l8 = some res → x_W p l e ({ frames := 8, cells := 0, slots := 0, locals := 195 } : Room) s m args below meth c D vwCl A s.heap 333 ad (wfT cs ad) 13 0 0 (x_E below args s D vwCl 333 ad (wfT cs ad) A (some (.int res.1)) res.2) σ 203 [(0, .ref (ad 0)), (2, .long l2), (4, .int l4), (5, .int l5), (6, .int l6), (7, .int l7), (8, .int l8)] [] := by
  intro σ l2 l4 l5 l6 l7 l8 h
  refine x_iconst C0 (v := 0) dL_isForetold_203 ki_0 ?_
  refine x_sub [0, 1, 2, 3, 4, 5, 6] (L' := [(0, _), (2, _), (4, _), (5, _), (6, _), (7, _), (8, _)]) rfl ?_
  refine x_pc (pc' := 204) rfl ?_
  exact b_L_isForetold_204 C0 n _ _ _ _ _ _ _ _ h
set_option maxRecDepth 4000 in
set_option maxHeartbeats 2000000 in
theorem b_L_isForetold_71 {p : Program} {l : Launch} {e : Env} {s : State} {m : MethodId} {args : Array Value} {below : List Frame} {meth : Method} {c : Code} {D : va_G} {cs : Nat → ClassId} {ad : Nat → Nat} {A : Nat → Prop} (C0 : x_C p s m args meth c D vwCl (xtys cs) A s.heap 333 ad (wfT cs ad) cL_isForetold 13 RL (some FieldType.boolean))  (n : Nat) {res : Int32 × xM} : ∀ (f : Nat) (σ : xM) (l2 : Int64) (l4 : Int32) (l5 : Int32) (l6 : Int32) (l7 : Int32) (l8 : Int32) (l9 : Int32) (l10 : Int32), B_L_isForetold_71 n f σ l2 l4 l5 l6 l7 l8 l9 l10 = some res → x_W p l e ({ frames := 8, cells := 0, slots := 0, locals := 195 } : Room) s m args below meth c D vwCl A s.heap 333 ad (wfT cs ad) 13 0 0 (x_E below args s D vwCl 333 ad (wfT cs ad) A (some (.int res.1)) res.2) σ 71 [(0, .ref (ad 0)), (2, .long l2), (4, .int l4), (5, .int l5), (6, .int l6), (7, .int l7), (8, .int l8), (9, .int l9), (10, .int l10)] [] := by
  intro f
  induction f with
  | zero =>
    intro σ l2 l4 l5 l6 l7 l8 l9 l10 h
    cases h
  | succ f ih =>
    intro σ l2 l4 l5 l6 l7 l8 l9 l10 h
    refine x_iload C0 dL_isForetold_71 8 rfl ?_
    refine x_aload_n C0 dL_isForetold_73 rfl 0 rfl ?_
    refine x_bipush C0 (v := 10) dL_isForetold_74 kb_10 ?_
    obtain ⟨q7, eq7, h⟩ := x_bind h
    refine x_callV11 C0 (c_X4_count n eq7) (x_cwV C0 mw_480 mw_481 mw_482 mw_44 mw_483 hd_yX4_count ⟨rfl, rfl, Nat.le_of_ble_eq_true rfl, Nat.le_of_ble_eq_true rfl⟩) (by decide) rfl wfT_r0 rfl ⟨Nat.zero_le _, Nat.zero_le _⟩ (Nat.le_of_ble_eq_true rfl) dL_isForetold_76 ?_
    refine x_icmp_ge C0 (tgt := 132) dL_isForetold_79 rfl h (fun _ h => ?_) (fun _ h => ?_)
    · refine x_iconst C0 (v := 0) dL_isForetold_82 ki_0 ?_
      refine x_istore C0 dL_isForetold_83 (L' := [(11, _), (0, _), (2, _), (4, _), (5, _), (6, _), (7, _), (8, _), (9, _), (10, _)]) (by decide) rfl ?_
      refine x_sub [1, 2, 3, 4, 5, 6, 7, 8, 9, 0] (L' := [(0, _), (2, _), (4, _), (5, _), (6, _), (7, _), (8, _), (9, _), (10, _), (11, _)]) rfl ?_
      refine x_pc (pc' := 85) rfl ?_
      exact b_L_isForetold_85 C0 n (fun σ l2 l4 l5 l6 l7 l8 l9 l10 h => ih σ l2 l4 l5 l6 l7 l8 l9 l10 h) n _ _ _ _ _ _ _ _ _ _ h
    · refine x_aload_n C0 dL_isForetold_132 rfl 0 rfl ?_
      obtain ⟨q8, eq8, h⟩ := x_bind h
      refine x_callS11 C0 (c_L_all n eq8) (x_cwS C0 mw_517 mw_518 mw_43 mw_519 hd_yL_all ⟨rfl, rfl, Nat.le_of_ble_eq_true rfl, Nat.le_of_ble_eq_true rfl⟩) ⟨Nat.zero_le _, Nat.zero_le _⟩ (Nat.le_of_ble_eq_true rfl) dL_isForetold_133 ?_
      refine x_lload_n C0 dL_isForetold_136 rfl 1 rfl ?_
      refine x_lcmp C0 dL_isForetold_137 ?_
      refine x_if_eq C0 (tgt := 143) dL_isForetold_138 rfl h (fun _ h => ?_) (fun _ h => ?_)
      · refine x_aload_n C0 dL_isForetold_143 rfl 0 rfl ?_
        refine x_iconst C0 (v := 4) dL_isForetold_144 ki_4 ?_
        obtain ⟨q9, eq9, h⟩ := x_bind h
        refine x_callV11 C0 (c_X4_count n eq9) (x_cwV C0 mw_480 mw_481 mw_482 mw_44 mw_483 hd_yX4_count ⟨rfl, rfl, Nat.le_of_ble_eq_true rfl, Nat.le_of_ble_eq_true rfl⟩) (by decide) rfl wfT_r0 rfl ⟨Nat.zero_le _, Nat.zero_le _⟩ (Nat.le_of_ble_eq_true rfl) dL_isForetold_145 ?_
        refine x_istore C0 dL_isForetold_148 (L' := [(10, _), (0, _), (2, _), (4, _), (5, _), (6, _), (7, _), (8, _), (9, _)]) (by decide) rfl ?_
        refine x_aload_n C0 dL_isForetold_150 rfl 1 rfl ?_
        refine x_iload C0 dL_isForetold_151 3 rfl ?_
        refine x_iload C0 dL_isForetold_153 4 rfl ?_
        refine x_pc (pc' := 155) rfl ?_
        obtain ⟨q10, eq10, h⟩ := x_bind h
        refine x_callV21 C0 (c_X4_access n eq10) (x_cwV C0 mw_579 mw_580 mw_581 mw_44 mw_582 hd_yX4_access ⟨rfl, rfl, Nat.le_of_ble_eq_true rfl, Nat.le_of_ble_eq_true rfl⟩) (by decide) rfl wfT_r0 rfl ⟨Nat.zero_le _, Nat.zero_le _⟩ (Nat.le_of_ble_eq_true rfl) dL_isForetold_155 ?_
        refine x_istore C0 dL_isForetold_158 (L' := [(11, _), (10, _), (0, _), (2, _), (4, _), (5, _), (6, _), (7, _), (8, _), (9, _)]) (by decide) rfl ?_
        refine x_iload C0 dL_isForetold_160 0 rfl ?_
        refine x_if_lt C0 (tgt := 203) dL_isForetold_162 rfl h (fun _ h => ?_) (fun _ h => ?_)
        · refine x_sub [2, 3, 4, 5, 6, 7, 8] (L' := [(0, _), (2, _), (4, _), (5, _), (6, _), (7, _), (8, _)]) rfl ?_
          refine x_pc (pc' := 203) rfl ?_
          exact b_L_isForetold_203 C0 n _ _ _ _ _ _ _ h
        · refine x_iload C0 dL_isForetold_165 0 rfl ?_
          refine x_iconst C0 (v := 3) dL_isForetold_167 ki_3 ?_
          refine x_icmp_ge C0 (tgt := 203) dL_isForetold_168 rfl h (fun _ h => ?_) (fun _ h => ?_)
          · refine x_aload_n C0 dL_isForetold_171 rfl 2 rfl ?_
            refine x_iconst C0 (v := 0) dL_isForetold_172 ki_0 ?_
            refine x_iconst C0 (v := 3) dL_isForetold_173 ki_3 ?_
            obtain ⟨q11, eq11, h⟩ := x_bind h
            refine x_callV21 C0 (c_X4_logged n eq11) (x_cwV C0 mw_475 mw_476 mw_477 mw_44 mw_478 hd_yX4_logged ⟨rfl, rfl, Nat.le_of_ble_eq_true rfl, Nat.le_of_ble_eq_true rfl⟩) (by decide) rfl wfT_r0 rfl ⟨Nat.zero_le _, Nat.zero_le _⟩ (Nat.le_of_ble_eq_true rfl) dL_isForetold_174 ?_
            refine x_aload_n C0 dL_isForetold_177 rfl 2 rfl ?_
            refine x_iconst C0 (v := 4) dL_isForetold_178 ki_4 ?_
            obtain ⟨q12, eq12, h⟩ := x_bind h
            refine x_callV11 C0 (c_X4_count n eq12) (x_cwV C0 mw_480 mw_481 mw_482 mw_44 mw_483 hd_yX4_count ⟨rfl, rfl, Nat.le_of_ble_eq_true rfl, Nat.le_of_ble_eq_true rfl⟩) (by decide) rfl wfT_r0 rfl ⟨Nat.zero_le _, Nat.zero_le _⟩ (Nat.le_of_ble_eq_true rfl) dL_isForetold_179 ?_
            refine x_pc (pc' := 182) rfl ?_
            refine x_iload C0 dL_isForetold_182 1 rfl ?_
            refine x_isub C0 dL_isForetold_184 ?_
            refine x_icmp_ne C0 (tgt := 203) dL_isForetold_185 rfl h (fun _ h => ?_) (fun _ h => ?_)
            · refine x_aload_n C0 dL_isForetold_188 rfl 2 rfl ?_
              refine x_iconst C0 (v := 0) dL_isForetold_189 ki_0 ?_
              refine x_iconst C0 (v := 3) dL_isForetold_190 ki_3 ?_
              obtain ⟨q13, eq13, h⟩ := x_bind h
              refine x_callV21 C0 (c_X4_logged n eq13) (x_cwV C0 mw_475 mw_476 mw_477 mw_44 mw_478 hd_yX4_logged ⟨rfl, rfl, Nat.le_of_ble_eq_true rfl, Nat.le_of_ble_eq_true rfl⟩) (by decide) rfl wfT_r0 rfl ⟨Nat.zero_le _, Nat.zero_le _⟩ (Nat.le_of_ble_eq_true rfl) dL_isForetold_191 ?_
              refine x_iload C0 dL_isForetold_194 9 rfl ?_
              refine x_icmp_gt C0 (tgt := 203) dL_isForetold_196 rfl h (fun _ h => ?_) (fun _ h => ?_)
              · refine x_sub [2, 3, 4, 5, 6, 7, 8] (L' := [(0, _), (2, _), (4, _), (5, _), (6, _), (7, _), (8, _)]) rfl ?_
                refine x_pc (pc' := 203) rfl ?_
                exact b_L_isForetold_203 C0 n _ _ _ _ _ _ _ h
              · refine x_iconst C0 (v := 1) dL_isForetold_199 ki_1 ?_
                refine x_goto C0 (tgt := 204) dL_isForetold_200 rfl ?_
                refine x_sub [2, 3, 4, 5, 6, 7, 8] (L' := [(0, _), (2, _), (4, _), (5, _), (6, _), (7, _), (8, _)]) rfl ?_
                refine x_pc (pc' := 204) rfl ?_
                exact b_L_isForetold_204 C0 n _ _ _ _ _ _ _ _ h
            · refine x_sub [2, 3, 4, 5, 6, 7, 8] (L' := [(0, _), (2, _), (4, _), (5, _), (6, _), (7, _), (8, _)]) rfl ?_
              refine x_pc (pc' := 203) rfl ?_
              exact b_L_isForetold_203 C0 n _ _ _ _ _ _ _ h
          · refine x_sub [2, 3, 4, 5, 6, 7, 8] (L' := [(0, _), (2, _), (4, _), (5, _), (6, _), (7, _), (8, _)]) rfl ?_
            refine x_pc (pc' := 203) rfl ?_
            exact b_L_isForetold_203 C0 n _ _ _ _ _ _ _ h
      · refine x_iconst C0 (v := 0) dL_isForetold_141 ki_0 ?_
        obtain rfl := x_inj h
        exact x_zret (v := 0) C0 rfl dL_isForetold_142
set_option maxRecDepth 4000 in
set_option maxHeartbeats 2000000 in
theorem c_L_isForetold {l : Launch} {D : va_G} {cs : Nat → ClassId} {ad : Nat → Nat} (n : Nat) {σ : xM} {x1 : Int32}  {res : Int32 × xM} (h : F_L_isForetold n σ x1 = some res) : x_Met l yL_isForetold [Cond.code yL_isForetold cL_isForetold 13 (some FieldType.boolean)] ({ frames := 8, cells := 0, slots := 0, locals := 195 } : Room) D vwCl (xtys cs) 333 ad (wfT cs ad) [.ref (ad 0), .int x1] σ (some (.int res.1)) res.2 := by
  refine x_Met_of (L0 := [(0, .ref (ad 0)), (1, .int x1)]) (own := RL) (by decide) rfl rfl wfT_loc (Nat.le_of_ble_eq_true rfl) rfl ?_
  intro p e s m args below meth c A C0
  refine x_aload_n C0 dL_isForetold_0 rfl 0 rfl ?_
  obtain ⟨q1, eq1, h⟩ := x_bind h
  refine x_callS11 C0 (c_L_all n eq1) (x_cwS C0 mw_517 mw_518 mw_43 mw_519 hd_yL_all ⟨rfl, rfl, Nat.le_of_ble_eq_true rfl, Nat.le_of_ble_eq_true rfl⟩) ⟨Nat.zero_le _, Nat.zero_le _⟩ (Nat.le_of_ble_eq_true rfl) dL_isForetold_1 ?_
  refine x_lstore_n C0 dL_isForetold_4 rfl (L' := [(2, _), (0, _), (1, _)]) (by decide) rfl ?_
  refine x_iload_n C0 dL_isForetold_5 rfl 2 rfl ?_
  refine x_iconst C0 (v := 3) dL_isForetold_6 ki_3 ?_
  obtain ⟨q2, eq2, h⟩ := x_bind h
  refine x_callS21 C0 (c_L_low n eq2) (x_cwS C0 mw_513 mw_514 mw_43 mw_515 hd_yL_low ⟨rfl, rfl, Nat.le_of_ble_eq_true rfl, Nat.le_of_ble_eq_true rfl⟩) ⟨Nat.zero_le _, Nat.zero_le _⟩ (Nat.le_of_ble_eq_true rfl) dL_isForetold_7 ?_
  refine x_istore C0 dL_isForetold_10 (L' := [(4, _), (2, _), (0, _), (1, _)]) (by decide) rfl ?_
  refine x_pc (pc' := 12) rfl ?_
  refine x_bipush C0 (v := 60) dL_isForetold_12 kb_60 ?_
  refine x_iload_n C0 dL_isForetold_14 rfl 3 rfl ?_
  refine x_iconst C0 (v := 3) dL_isForetold_15 ki_3 ?_
  refine x_ishr C0 dL_isForetold_16 ?_
  refine x_bipush C0 (v := 40) dL_isForetold_17 kb_40 ?_
  obtain ⟨q3, eq3, h⟩ := x_bind h
  refine x_callS21 C0 (c_L_low n eq3) (x_cwS C0 mw_513 mw_514 mw_43 mw_515 hd_yL_low ⟨rfl, rfl, Nat.le_of_ble_eq_true rfl, Nat.le_of_ble_eq_true rfl⟩) ⟨Nat.zero_le _, Nat.zero_le _⟩ (Nat.le_of_ble_eq_true rfl) dL_isForetold_19 ?_
  refine x_iadd C0 dL_isForetold_22 ?_
  refine x_istore C0 dL_isForetold_23 (L' := [(5, _), (4, _), (2, _), (0, _), (1, _)]) (by decide) rfl ?_
  refine x_pc (pc' := 25) rfl ?_
  refine x_iload_n C0 dL_isForetold_25 rfl 4 rfl ?_
  refine x_bipush C0 (v := 9) dL_isForetold_26 kb_9 ?_
  refine x_ishr C0 dL_isForetold_28 ?_
  refine x_bipush C0 (v := 11) dL_isForetold_29 kb_11 ?_
  obtain ⟨q4, eq4, h⟩ := x_bind h
  refine x_callS21 C0 (c_L_low n eq4) (x_cwS C0 mw_513 mw_514 mw_43 mw_515 hd_yL_low ⟨rfl, rfl, Nat.le_of_ble_eq_true rfl, Nat.le_of_ble_eq_true rfl⟩) ⟨Nat.zero_le _, Nat.zero_le _⟩ (Nat.le_of_ble_eq_true rfl) dL_isForetold_31 ?_
  refine x_iconst C0 (v := 5) dL_isForetold_34 ki_5 ?_
  refine x_isub C0 dL_isForetold_35 ?_
  refine x_istore C0 dL_isForetold_36 (L' := [(6, _), (5, _), (4, _), (2, _), (0, _), (1, _)]) (by decide) rfl ?_
  refine x_pc (pc' := 38) rfl ?_
  refine x_iconst C0 (v := 1) dL_isForetold_38 ki_1 ?_
  refine x_iload_n C0 dL_isForetold_39 rfl 5 rfl ?_
  refine x_bipush C0 (v := 13) dL_isForetold_40 kb_13 ?_
  refine x_ishr C0 dL_isForetold_42 ?_
  refine x_bipush C0 (v := 9) dL_isForetold_43 kb_9 ?_
  obtain ⟨q5, eq5, h⟩ := x_bind h
  refine x_callS21 C0 (c_L_low n eq5) (x_cwS C0 mw_513 mw_514 mw_43 mw_515 hd_yL_low ⟨rfl, rfl, Nat.le_of_ble_eq_true rfl, Nat.le_of_ble_eq_true rfl⟩) ⟨Nat.zero_le _, Nat.zero_le _⟩ (Nat.le_of_ble_eq_true rfl) dL_isForetold_45 ?_
  refine x_iadd C0 dL_isForetold_48 ?_
  refine x_istore C0 dL_isForetold_49 (L' := [(7, _), (6, _), (5, _), (4, _), (2, _), (0, _), (1, _)]) (by decide) rfl ?_
  refine x_pc (pc' := 51) rfl ?_
  refine x_aload_n C0 dL_isForetold_51 rfl 5 rfl ?_
  refine x_iload C0 dL_isForetold_52 3 rfl ?_
  refine x_iload C0 dL_isForetold_54 2 rfl ?_
  refine x_iload C0 dL_isForetold_56 1 rfl ?_
  refine x_iload C0 dL_isForetold_58 0 rfl ?_
  obtain ⟨q6, eq6, h⟩ := x_bind h
  refine x_callV41 C0 (c_X4_wouldHit n eq6) (x_cwV C0 mw_471 mw_472 mw_473 mw_44 mw_474 hd_yX4_wouldHit ⟨rfl, rfl, Nat.le_of_ble_eq_true rfl, Nat.le_of_ble_eq_true rfl⟩) (by decide) rfl wfT_r0 rfl ⟨Nat.zero_le _, Nat.zero_le _⟩ (Nat.le_of_ble_eq_true rfl) dL_isForetold_60 ?_
  refine x_istore C0 dL_isForetold_63 (L' := [(8, _), (7, _), (6, _), (5, _), (4, _), (2, _), (0, _), (1, _)]) (by decide) rfl ?_
  refine x_iconst C0 (v := 0) dL_isForetold_65 ki_0 ?_
  refine x_pc (pc' := 66) rfl ?_
  refine x_istore C0 dL_isForetold_66 (L' := [(9, _), (8, _), (7, _), (6, _), (5, _), (4, _), (2, _), (0, _), (1, _)]) (by decide) rfl ?_
  refine x_iconst C0 (v := 0) dL_isForetold_68 ki_0 ?_
  refine x_istore C0 dL_isForetold_69 (L' := [(10, _), (9, _), (8, _), (7, _), (6, _), (5, _), (4, _), (2, _), (0, _), (1, _)]) (by decide) rfl ?_
  refine x_sub [8, 7, 6, 5, 4, 3, 2, 1, 0] (L' := [(0, _), (2, _), (4, _), (5, _), (6, _), (7, _), (8, _), (9, _), (10, _)]) rfl ?_
  refine x_pc (pc' := 71) rfl ?_
  exact b_L_isForetold_71 C0 n n _ _ _ _ _ _ _ _ _ h
set_option maxRecDepth 4000 in
set_option maxHeartbeats 2000000 in
theorem b_L_law_212 {p : Program} {l : Launch} {e : Env} {s : State} {m : MethodId} {args : Array Value} {below : List Frame} {meth : Method} {c : Code} {D : va_G} {cs : Nat → ClassId} {ad : Nat → Nat} {A : Nat → Prop} {H0 : Heap} {Q : State → Prop} {b Ln : Nat} {xs : Nat → Int32} {cf : Int32 → Int32} {ret : Option FieldType} (C0 : x_C p s m args meth c D vwCl (xtys cs) A H0 333 ad (wfT cs ad) cL_law 8 RL ret) (hX : va_X b Ln xs s H0) (hbl : b < H0.size) (hbA : ¬ A b) (hcf : cf = cfun Ln xs ∧ Ln < 2 ^ 31) {res : Int32 × xM} (hE : ∀ (σ : xM) (pc : Nat) (L : List (Nat × Value)), decode cL_law pc = .ok (.ireturn, 1) → x_W p l e room_1 s m args below meth c D vwCl A H0 333 ad (wfT cs ad) 8 333 3446 Q σ pc L [.int 1]) (hr : res.1 = 1) (n : Nat) {K103 : xM → Int32 → Option (Int32 × xM)} (hK103 : ∀ (σ : xM) (l3 : Int32) , K103 σ l3 = some res → x_W p l e room_1 s m args below meth c D vwCl A H0 333 ad (wfT cs ad) 8 333 3446 Q σ 103 [(0, .ref b), (1, .ref (ad 0)), (3, .int l3)] []) : ∀ (σ : xM) (l3 : Int32), B_L_law_212 n cf K103 σ l3 = some res → x_W p l e room_1 s m args below meth c D vwCl A H0 333 ad (wfT cs ad) 8 333 3446 Q σ 212 [(0, .ref b), (1, .ref (ad 0)), (3, .int l3)] [] := by
  intro σ l3 h
  refine x_iinc C0 (v := 1) (L' := [(3, _), (0, _), (1, _)]) dL_law_212 2 rfl ki_1 (by decide) rfl ?_
  refine x_goto C0 (tgt := 103) dL_law_215 rfl ?_
  refine x_sub [1, 2, 0] (L' := [(0, _), (1, _), (3, _)]) rfl ?_
  refine x_pc (pc' := 103) rfl ?_
  exact hK103 _ _ h
set_option maxRecDepth 4000 in
set_option maxHeartbeats 2000000 in
theorem b_L_law_183 {p : Program} {l : Launch} {e : Env} {s : State} {m : MethodId} {args : Array Value} {below : List Frame} {meth : Method} {c : Code} {D : va_G} {cs : Nat → ClassId} {ad : Nat → Nat} {A : Nat → Prop} {H0 : Heap} {Q : State → Prop} {b Ln : Nat} {xs : Nat → Int32} {cf : Int32 → Int32} {ret : Option FieldType} (C0 : x_C p s m args meth c D vwCl (xtys cs) A H0 333 ad (wfT cs ad) cL_law 8 RL ret) (hX : va_X b Ln xs s H0) (hbl : b < H0.size) (hbA : ¬ A b) (hcf : cf = cfun Ln xs ∧ Ln < 2 ^ 31) {res : Int32 × xM} (hE : ∀ (σ : xM) (pc : Nat) (L : List (Nat × Value)), decode cL_law pc = .ok (.ireturn, 1) → x_W p l e room_1 s m args below meth c D vwCl A H0 333 ad (wfT cs ad) 8 333 3446 Q σ pc L [.int 1]) (hr : res.1 = 1) (n : Nat) {K103 : xM → Int32 → Option (Int32 × xM)} (hK103 : ∀ (σ : xM) (l3 : Int32) , K103 σ l3 = some res → x_W p l e room_1 s m args below meth c D vwCl A H0 333 ad (wfT cs ad) 8 333 3446 Q σ 103 [(0, .ref b), (1, .ref (ad 0)), (3, .int l3)] []) : ∀ (σ : xM) (l3 : Int32) (l4 : Int32), B_L_law_183 n cf K103 σ l3 l4 = some res → x_W p l e room_1 s m args below meth c D vwCl A H0 333 ad (wfT cs ad) 8 333 3446 Q σ 183 [(0, .ref b), (1, .ref (ad 0)), (3, .int l3), (4, .int l4)] [] := by
  intro σ l3 l4 h
  refine x_aload_n C0 dL_law_183 rfl 1 rfl ?_
  obtain ⟨q35, eq35, h⟩ := x_bind h
  refine x_callS11 C0 (c_L_isSound n eq35) (x_cwS C0 mw_538 mw_539 mw_43 mw_540 hd_yL_isSound ⟨rfl, rfl, Nat.le_of_ble_eq_true rfl, Nat.le_of_ble_eq_true rfl⟩) ⟨Nat.le_of_ble_eq_true rfl, Nat.le_of_ble_eq_true rfl⟩ (Nat.le_of_ble_eq_true rfl) dL_law_184 ?_
  refine x_if_eq C0 (tgt := 210) dL_law_187 rfl h (fun _ h => ?_) (fun _ h => ?_)
  · refine x_iconst C0 (v := 0) dL_law_210 ki_0 ?_
    obtain rfl := x_inj h
    exact absurd (show (0 : Int32) = 1 from hr) (by decide)
  · refine x_iload_n C0 dL_law_190 rfl 2 rfl ?_
    refine x_bipush C0 (v := 8) dL_law_191 kb_8 ?_
    refine x_irem C0 dL_law_193 h (fun _ h => ?_)
    refine x_iconst C0 (v := 3) dL_law_194 ki_3 ?_
    refine x_icmp_ne C0 (tgt := 212) dL_law_195 rfl h (fun _ h => ?_) (fun _ h => ?_)
    · refine x_aload_n C0 dL_law_198 rfl 1 rfl ?_
      refine x_iload C0 dL_law_199 3 rfl ?_
      refine x_bipush C0 (v := 7) dL_law_201 kb_7 ?_
      refine x_ishr C0 dL_law_203 ?_
      obtain ⟨q36, eq36, h⟩ := x_bind h
      refine x_callS21 C0 (c_L_isForetold n eq36) (x_cwS C0 mw_583 mw_584 mw_43 mw_585 hd_yL_isForetold ⟨rfl, rfl, Nat.le_of_ble_eq_true rfl, Nat.le_of_ble_eq_true rfl⟩) ⟨Nat.le_of_ble_eq_true rfl, Nat.le_of_ble_eq_true rfl⟩ (Nat.le_of_ble_eq_true rfl) dL_law_204 ?_
      refine x_if_ne C0 (tgt := 212) dL_law_207 rfl h (fun _ h => ?_) (fun _ h => ?_)
      · refine x_iconst C0 (v := 0) dL_law_210 ki_0 ?_
        obtain rfl := x_inj h
        exact absurd (show (0 : Int32) = 1 from hr) (by decide)
      · refine x_sub [0, 1, 2] (L' := [(0, _), (1, _), (3, _)]) rfl ?_
        refine x_pc (pc' := 212) rfl ?_
        exact b_L_law_212 C0 hX hbl hbA hcf hE hr n hK103 _ _ h
    · refine x_sub [0, 1, 2] (L' := [(0, _), (1, _), (3, _)]) rfl ?_
      refine x_pc (pc' := 212) rfl ?_
      exact b_L_law_212 C0 hX hbl hbA hcf hE hr n hK103 _ _ h
set_option maxRecDepth 4000 in
set_option maxHeartbeats 2000000 in
theorem b_L_law_149 {p : Program} {l : Launch} {e : Env} {s : State} {m : MethodId} {args : Array Value} {below : List Frame} {meth : Method} {c : Code} {D : va_G} {cs : Nat → ClassId} {ad : Nat → Nat} {A : Nat → Prop} {H0 : Heap} {Q : State → Prop} {b Ln : Nat} {xs : Nat → Int32} {cf : Int32 → Int32} {ret : Option FieldType} (C0 : x_C p s m args meth c D vwCl (xtys cs) A H0 333 ad (wfT cs ad) cL_law 8 RL ret) (hX : va_X b Ln xs s H0) (hbl : b < H0.size) (hbA : ¬ A b) (hcf : cf = cfun Ln xs ∧ Ln < 2 ^ 31) {res : Int32 × xM} (hE : ∀ (σ : xM) (pc : Nat) (L : List (Nat × Value)), decode cL_law pc = .ok (.ireturn, 1) → x_W p l e room_1 s m args below meth c D vwCl A H0 333 ad (wfT cs ad) 8 333 3446 Q σ pc L [.int 1]) (hr : res.1 = 1) (n : Nat) {K103 : xM → Int32 → Option (Int32 × xM)} (hK103 : ∀ (σ : xM) (l3 : Int32) , K103 σ l3 = some res → x_W p l e room_1 s m args below meth c D vwCl A H0 333 ad (wfT cs ad) 8 333 3446 Q σ 103 [(0, .ref b), (1, .ref (ad 0)), (3, .int l3)] []) : ∀ (σ : xM) (l3 : Int32) (l4 : Int32) (l5 : Int64) (l7 : Int32), B_L_law_149 n cf K103 σ l3 l4 l5 l7 = some res → x_W p l e room_1 s m args below meth c D vwCl A H0 333 ad (wfT cs ad) 8 333 3446 Q σ 149 [(0, .ref b), (1, .ref (ad 0)), (3, .int l3), (4, .int l4), (5, .long l5), (7, .int l7)] [] := by
  intro σ l3 l4 l5 l7 h
  refine x_iload C0 dL_law_149 5 rfl ?_
  refine x_if_lt C0 (tgt := 183) dL_law_151 rfl h (fun _ h => ?_) (fun _ h => ?_)
  · refine x_sub [0, 1, 2, 3] (L' := [(0, _), (1, _), (3, _), (4, _)]) rfl ?_
    refine x_pc (pc' := 183) rfl ?_
    exact b_L_law_183 C0 hX hbl hbA hcf hE hr n hK103 _ _ _ h
  · refine x_iload C0 dL_law_154 3 rfl ?_
    refine x_bipush C0 (v := 28) dL_law_156 kb_28 ?_
    refine x_ishr C0 dL_law_158 ?_
    refine x_iconst C0 (v := 3) dL_law_159 ki_3 ?_
    refine x_iand C0 dL_law_160 ?_
    refine x_if_ne C0 (tgt := 183) dL_law_161 rfl h (fun _ h => ?_) (fun _ h => ?_)
    · refine x_aload_n C0 dL_law_164 rfl 1 rfl ?_
      obtain ⟨q33, eq33, h⟩ := x_bind h
      refine x_callV01 C0 (c_X4_undo n eq33) (x_cwV C0 mw_448 mw_449 mw_450 mw_44 mw_451 hd_yX4_undo ⟨rfl, rfl, Nat.le_of_ble_eq_true rfl, Nat.le_of_ble_eq_true rfl⟩) (by decide) rfl wfT_r0 rfl ⟨Nat.le_of_ble_eq_true rfl, Nat.le_of_ble_eq_true rfl⟩ (Nat.le_of_ble_eq_true rfl) dL_law_165 ?_
      refine x_if_lt C0 (tgt := 181) dL_law_168 rfl h (fun _ h => ?_) (fun _ h => ?_)
      · refine x_iconst C0 (v := 0) dL_law_181 ki_0 ?_
        obtain rfl := x_inj h
        exact absurd (show (0 : Int32) = 1 from hr) (by decide)
      · refine x_aload_n C0 dL_law_171 rfl 1 rfl ?_
        obtain ⟨q34, eq34, h⟩ := x_bind h
        refine x_callS11 C0 (c_L_all n eq34) (x_cwS C0 mw_517 mw_518 mw_43 mw_519 hd_yL_all ⟨rfl, rfl, Nat.le_of_ble_eq_true rfl, Nat.le_of_ble_eq_true rfl⟩) ⟨Nat.le_of_ble_eq_true rfl, Nat.le_of_ble_eq_true rfl⟩ (Nat.le_of_ble_eq_true rfl) dL_law_172 ?_
        refine x_lload C0 dL_law_175 4 rfl ?_
        refine x_lcmp C0 dL_law_177 ?_
        refine x_if_eq C0 (tgt := 183) dL_law_178 rfl h (fun _ h => ?_) (fun _ h => ?_)
        · refine x_sub [0, 1, 2, 3] (L' := [(0, _), (1, _), (3, _), (4, _)]) rfl ?_
          refine x_pc (pc' := 183) rfl ?_
          exact b_L_law_183 C0 hX hbl hbA hcf hE hr n hK103 _ _ _ h
        · refine x_iconst C0 (v := 0) dL_law_181 ki_0 ?_
          obtain rfl := x_inj h
          exact absurd (show (0 : Int32) = 1 from hr) (by decide)
    · refine x_sub [0, 1, 2, 3] (L' := [(0, _), (1, _), (3, _), (4, _)]) rfl ?_
      refine x_pc (pc' := 183) rfl ?_
      exact b_L_law_183 C0 hX hbl hbA hcf hE hr n hK103 _ _ _ h
set_option maxRecDepth 4000 in
set_option maxHeartbeats 2000000 in
theorem b_L_law_103 {p : Program} {l : Launch} {e : Env} {s : State} {m : MethodId} {args : Array Value} {below : List Frame} {meth : Method} {c : Code} {D : va_G} {cs : Nat → ClassId} {ad : Nat → Nat} {A : Nat → Prop} {H0 : Heap} {Q : State → Prop} {b Ln : Nat} {xs : Nat → Int32} {cf : Int32 → Int32} {ret : Option FieldType} (C0 : x_C p s m args meth c D vwCl (xtys cs) A H0 333 ad (wfT cs ad) cL_law 8 RL ret) (hX : va_X b Ln xs s H0) (hbl : b < H0.size) (hbA : ¬ A b) (hcf : cf = cfun Ln xs ∧ Ln < 2 ^ 31) {res : Int32 × xM} (hE : ∀ (σ : xM) (pc : Nat) (L : List (Nat × Value)), decode cL_law pc = .ok (.ireturn, 1) → x_W p l e room_1 s m args below meth c D vwCl A H0 333 ad (wfT cs ad) 8 333 3446 Q σ pc L [.int 1]) (hr : res.1 = 1) (n : Nat) : ∀ (f : Nat) (σ : xM) (l3 : Int32), B_L_law_103 n cf f σ l3 = some res → x_W p l e room_1 s m args below meth c D vwCl A H0 333 ad (wfT cs ad) 8 333 3446 Q σ 103 [(0, .ref b), (1, .ref (ad 0)), (3, .int l3)] [] := by
  intro f
  induction f with
  | zero =>
    intro σ l3 h
    cases h
  | succ f ih =>
    intro σ l3 h
    refine x_iload_n C0 dL_law_103 rfl 2 rfl ?_
    refine x_bipush C0 (v := 24) dL_law_104 kb_24 ?_
    refine x_icmp_ge C0 (tgt := 218) dL_law_106 rfl h (fun _ h => ?_) (fun _ h => ?_)
    · refine x_aload_n C0 dL_law_109 rfl 0 rfl ?_
      refine x_iconst C0 (v := 1) dL_law_110 ki_1 ?_
      refine x_iload_n C0 dL_law_111 rfl 2 rfl ?_
      refine x_iadd C0 dL_law_112 ?_
      refine x_cell C0 hX hbl hbA hcf (x_cwS C0 mw_510 mw_511 mw_43 mw_512 hd_yL_cell ⟨rfl, rfl, Nat.le_of_ble_eq_true rfl, Nat.le_of_ble_eq_true rfl⟩) ⟨Nat.le_of_ble_eq_true rfl, Nat.le_of_ble_eq_true rfl⟩ (Nat.le_of_ble_eq_true rfl) dL_law_113 h (fun _ h => ?_)
      refine x_istore C0 dL_law_116 (L' := [(4, _), (0, _), (1, _), (3, _)]) (by decide) rfl ?_
      refine x_aload_n C0 dL_law_118 rfl 2 rfl ?_
      refine x_pc (pc' := 119) rfl ?_
      obtain ⟨q12, eq12, h⟩ := x_bind h
      refine x_callS11 C0 (c_L_all n eq12) (x_cwS C0 mw_517 mw_518 mw_43 mw_519 hd_yL_all ⟨rfl, rfl, Nat.le_of_ble_eq_true rfl, Nat.le_of_ble_eq_true rfl⟩) ⟨Nat.le_of_ble_eq_true rfl, Nat.le_of_ble_eq_true rfl⟩ (Nat.le_of_ble_eq_true rfl) dL_law_119 ?_
      refine x_lstore C0 dL_law_122 (L' := [(5, _), (4, _), (0, _), (1, _), (3, _)]) (by decide) rfl ?_
      refine x_aload_n C0 dL_law_124 rfl 3 rfl ?_
      refine x_iload C0 dL_law_125 1 rfl ?_
      obtain ⟨q13, eq13, h⟩ := x_bind h
      refine x_callS21 C0 (c_L_acts n eq13) (x_cwS C0 mw_551 mw_552 mw_43 mw_553 hd_yL_acts ⟨rfl, rfl, Nat.le_of_ble_eq_true rfl, Nat.le_of_ble_eq_true rfl⟩) ⟨Nat.le_of_ble_eq_true rfl, Nat.le_of_ble_eq_true rfl⟩ (Nat.le_of_ble_eq_true rfl) dL_law_127 ?_
      refine x_istore C0 dL_law_130 (L' := [(7, _), (5, _), (4, _), (0, _), (1, _), (3, _)]) (by decide) rfl ?_
      refine x_iload C0 dL_law_132 0 rfl ?_
      refine x_if_ge C0 (tgt := 149) dL_law_134 rfl h (fun _ h => ?_) (fun _ h => ?_)
      · refine x_aload_n C0 dL_law_137 rfl 4 rfl ?_
        obtain ⟨q14, eq14, h⟩ := x_bind h
        refine x_callS11 C0 (c_L_all n eq14) (x_cwS C0 mw_517 mw_518 mw_43 mw_519 hd_yL_all ⟨rfl, rfl, Nat.le_of_ble_eq_true rfl, Nat.le_of_ble_eq_true rfl⟩) ⟨Nat.le_of_ble_eq_true rfl, Nat.le_of_ble_eq_true rfl⟩ (Nat.le_of_ble_eq_true rfl) dL_law_138 ?_
        refine x_lload C0 dL_law_141 1 rfl ?_
        refine x_lcmp C0 dL_law_143 ?_
        refine x_if_eq C0 (tgt := 149) dL_law_144 rfl h (fun _ h => ?_) (fun _ h => ?_)
        · refine x_sub [3, 4, 5, 2, 1, 0] (L' := [(0, _), (1, _), (3, _), (4, _), (5, _), (7, _)]) rfl ?_
          refine x_pc (pc' := 149) rfl ?_
          exact b_L_law_149 C0 hX hbl hbA hcf hE hr n (fun σ l3 h => ih σ l3 h) _ _ _ _ _ h
        · refine x_iconst C0 (v := 0) dL_law_147 ki_0 ?_
          obtain rfl := x_inj h
          exact absurd (show (0 : Int32) = 1 from hr) (by decide)
      · refine x_sub [3, 4, 5, 2, 1, 0] (L' := [(0, _), (1, _), (3, _), (4, _), (5, _), (7, _)]) rfl ?_
        refine x_pc (pc' := 149) rfl ?_
        exact b_L_law_149 C0 hX hbl hbA hcf hE hr n (fun σ l3 h => ih σ l3 h) _ _ _ _ _ h
    · refine x_aload_n C0 dL_law_218 rfl 1 rfl ?_
      obtain ⟨q15, eq15, h⟩ := x_bind h
      refine x_callS11 C0 (c_L_all n eq15) (x_cwS C0 mw_517 mw_518 mw_43 mw_519 hd_yL_all ⟨rfl, rfl, Nat.le_of_ble_eq_true rfl, Nat.le_of_ble_eq_true rfl⟩) ⟨Nat.le_of_ble_eq_true rfl, Nat.le_of_ble_eq_true rfl⟩ (Nat.le_of_ble_eq_true rfl) dL_law_219 ?_
      refine x_lstore_n C0 dL_law_222 rfl (L' := [(3, _), (0, _), (1, _)]) (by decide) rfl ?_
      refine x_aload_n C0 dL_law_223 rfl 2 rfl ?_
      obtain ⟨q16, eq16, h⟩ := x_bind h
      refine x_callV01 C0 (c_X4_keep n eq16) (x_cwV C0 mw_452 mw_453 mw_454 mw_44 mw_455 hd_yX4_keep ⟨rfl, rfl, Nat.le_of_ble_eq_true rfl, Nat.le_of_ble_eq_true rfl⟩) (by decide) rfl wfT_r0 rfl ⟨Nat.le_of_ble_eq_true rfl, Nat.le_of_ble_eq_true rfl⟩ (Nat.le_of_ble_eq_true rfl) dL_law_224 ?_
      refine x_aload_n C0 dL_law_227 rfl 2 rfl ?_
      refine x_iconst C0 (v := 0) dL_law_228 ki_0 ?_
      refine x_pc (pc' := 229) rfl ?_
      obtain ⟨q17, eq17, h⟩ := x_bind h
      refine x_callV11 C0 (c_X4_count n eq17) (x_cwV C0 mw_480 mw_481 mw_482 mw_44 mw_483 hd_yX4_count ⟨rfl, rfl, Nat.le_of_ble_eq_true rfl, Nat.le_of_ble_eq_true rfl⟩) (by decide) rfl wfT_r0 rfl ⟨Nat.le_of_ble_eq_true rfl, Nat.le_of_ble_eq_true rfl⟩ (Nat.le_of_ble_eq_true rfl) dL_law_229 ?_
      refine x_icmp_eq C0 (tgt := 237) dL_law_232 rfl h (fun _ h => ?_) (fun _ h => ?_)
      · refine x_aload_n C0 dL_law_237 rfl 2 rfl ?_
        refine x_iconst C0 (v := 4) dL_law_238 ki_4 ?_
        refine x_iconst C0 (v := 0) dL_law_239 ki_0 ?_
        refine x_iconst C0 (v := 3) dL_law_240 ki_3 ?_
        refine x_bipush C0 (v := 9) dL_law_241 kb_9 ?_
        obtain ⟨q18, eq18, h⟩ := x_bind h
        refine x_callV41 C0 (c_X4_walk n eq18) (x_cwV C0 mw_348 mw_349 mw_350 mw_44 mw_351 hd_yX4_walk ⟨rfl, rfl, Nat.le_of_ble_eq_true rfl, Nat.le_of_ble_eq_true rfl⟩) (by decide) rfl wfT_r0 rfl ⟨Nat.le_of_ble_eq_true rfl, Nat.le_of_ble_eq_true rfl⟩ (Nat.le_of_ble_eq_true rfl) dL_law_243 ?_
        refine x_pop C0 dL_law_246 rfl ?_
        refine x_pc (pc' := 247) rfl ?_
        refine x_aload_n C0 dL_law_247 rfl 2 rfl ?_
        obtain ⟨q19, eq19, h⟩ := x_bind h
        refine x_callS11 C0 (c_L_all n eq19) (x_cwS C0 mw_517 mw_518 mw_43 mw_519 hd_yL_all ⟨rfl, rfl, Nat.le_of_ble_eq_true rfl, Nat.le_of_ble_eq_true rfl⟩) ⟨Nat.le_of_ble_eq_true rfl, Nat.le_of_ble_eq_true rfl⟩ (Nat.le_of_ble_eq_true rfl) dL_law_248 ?_
        refine x_lstore C0 dL_law_251 (L' := [(5, _), (3, _), (0, _), (1, _)]) (by decide) rfl ?_
        refine x_aload_n C0 dL_law_253 rfl 3 rfl ?_
        obtain ⟨q20, eq20, h⟩ := x_bind h
        refine x_callV01 C0 (c_X4_restore n eq20) (x_cwV C0 mw_456 mw_457 mw_458 mw_44 mw_459 hd_yX4_restore ⟨rfl, rfl, Nat.le_of_ble_eq_true rfl, Nat.le_of_ble_eq_true rfl⟩) (by decide) rfl wfT_r0 rfl ⟨Nat.le_of_ble_eq_true rfl, Nat.le_of_ble_eq_true rfl⟩ (Nat.le_of_ble_eq_true rfl) dL_law_254 ?_
        refine x_aload_n C0 dL_law_257 rfl 3 rfl ?_
        refine x_iconst C0 (v := 0) dL_law_258 ki_0 ?_
        obtain ⟨q21, eq21, h⟩ := x_bind h
        refine x_callV11 C0 (c_X4_count n eq21) (x_cwV C0 mw_480 mw_481 mw_482 mw_44 mw_483 hd_yX4_count ⟨rfl, rfl, Nat.le_of_ble_eq_true rfl, Nat.le_of_ble_eq_true rfl⟩) (by decide) rfl wfT_r0 rfl ⟨Nat.le_of_ble_eq_true rfl, Nat.le_of_ble_eq_true rfl⟩ (Nat.le_of_ble_eq_true rfl) dL_law_259 ?_
        refine x_pc (pc' := 262) rfl ?_
        refine x_icmp_ne C0 (tgt := 387) dL_law_262 rfl h (fun _ h => ?_) (fun _ h => ?_)
        · refine x_aload_n C0 dL_law_265 rfl 3 rfl ?_
          obtain ⟨q22, eq22, h⟩ := x_bind h
          refine x_callS11 C0 (c_L_all n eq22) (x_cwS C0 mw_517 mw_518 mw_43 mw_519 hd_yL_all ⟨rfl, rfl, Nat.le_of_ble_eq_true rfl, Nat.le_of_ble_eq_true rfl⟩) ⟨Nat.le_of_ble_eq_true rfl, Nat.le_of_ble_eq_true rfl⟩ (Nat.le_of_ble_eq_true rfl) dL_law_266 ?_
          refine x_lload_n C0 dL_law_269 rfl 1 rfl ?_
          refine x_lcmp C0 dL_law_270 ?_
          refine x_if_ne C0 (tgt := 387) dL_law_271 rfl h (fun _ h => ?_) (fun _ h => ?_)
          · refine x_aload_n C0 dL_law_274 rfl 3 rfl ?_
            obtain ⟨q23, eq23, h⟩ := x_bind h
            refine x_callV01 C0 (c_X4_undo n eq23) (x_cwV C0 mw_448 mw_449 mw_450 mw_44 mw_451 hd_yX4_undo ⟨rfl, rfl, Nat.le_of_ble_eq_true rfl, Nat.le_of_ble_eq_true rfl⟩) (by decide) rfl wfT_r0 rfl ⟨Nat.le_of_ble_eq_true rfl, Nat.le_of_ble_eq_true rfl⟩ (Nat.le_of_ble_eq_true rfl) dL_law_275 ?_
            refine x_if_lt C0 (tgt := 387) dL_law_278 rfl h (fun _ h => ?_) (fun _ h => ?_)
            · refine x_iconst C0 (v := 0) dL_law_387 ki_0 ?_
              obtain rfl := x_inj h
              exact absurd (show (0 : Int32) = 1 from hr) (by decide)
            · refine x_aload_n C0 dL_law_281 rfl 3 rfl ?_
              obtain ⟨q24, eq24, h⟩ := x_bind h
              refine x_callS11 C0 (c_L_all n eq24) (x_cwS C0 mw_517 mw_518 mw_43 mw_519 hd_yL_all ⟨rfl, rfl, Nat.le_of_ble_eq_true rfl, Nat.le_of_ble_eq_true rfl⟩) ⟨Nat.le_of_ble_eq_true rfl, Nat.le_of_ble_eq_true rfl⟩ (Nat.le_of_ble_eq_true rfl) dL_law_282 ?_
              refine x_lload C0 dL_law_285 0 rfl ?_
              refine x_lcmp C0 dL_law_287 ?_
              refine x_if_ne C0 (tgt := 387) dL_law_288 rfl h (fun _ h => ?_) (fun _ h => ?_)
              · refine x_aload_n C0 dL_law_291 rfl 3 rfl ?_
                obtain ⟨q25, eq25, h⟩ := x_bind h
                refine x_callV01 C0 (c_X4_restore n eq25) (x_cwV C0 mw_456 mw_457 mw_458 mw_44 mw_459 hd_yX4_restore ⟨rfl, rfl, Nat.le_of_ble_eq_true rfl, Nat.le_of_ble_eq_true rfl⟩) (by decide) rfl wfT_r0 rfl ⟨Nat.le_of_ble_eq_true rfl, Nat.le_of_ble_eq_true rfl⟩ (Nat.le_of_ble_eq_true rfl) dL_law_292 ?_
                refine x_if_lt C0 (tgt := 387) dL_law_295 rfl h (fun _ h => ?_) (fun _ h => ?_)
                · refine x_iconst C0 (v := 0) dL_law_387 ki_0 ?_
                  obtain rfl := x_inj h
                  exact absurd (show (0 : Int32) = 1 from hr) (by decide)
                · refine x_aload_n C0 dL_law_298 rfl 3 rfl ?_
                  obtain ⟨q26, eq26, h⟩ := x_bind h
                  refine x_callS11 C0 (c_L_all n eq26) (x_cwS C0 mw_517 mw_518 mw_43 mw_519 hd_yL_all ⟨rfl, rfl, Nat.le_of_ble_eq_true rfl, Nat.le_of_ble_eq_true rfl⟩) ⟨Nat.le_of_ble_eq_true rfl, Nat.le_of_ble_eq_true rfl⟩ (Nat.le_of_ble_eq_true rfl) dL_law_299 ?_
                  refine x_lload_n C0 dL_law_302 rfl 1 rfl ?_
                  refine x_lcmp C0 dL_law_303 ?_
                  refine x_if_ne C0 (tgt := 387) dL_law_304 rfl h (fun _ h => ?_) (fun _ h => ?_)
                  · refine x_aload_n C0 dL_law_307 rfl 3 rfl ?_
                    refine x_iconst C0 (v := 0) dL_law_308 ki_0 ?_
                    refine x_iconst C0 (v := 0) dL_law_309 ki_0 ?_
                    refine x_iconst C0 (v := (-1)) dL_law_310 ki_m1 ?_
                    refine x_iconst C0 (v := 2) dL_law_311 ki_2 ?_
                    obtain ⟨q27, eq27, h⟩ := x_bind h
                    refine x_callV41 C0 (c_X4_walk n eq27) (x_cwV C0 mw_348 mw_349 mw_350 mw_44 mw_351 hd_yX4_walk ⟨rfl, rfl, Nat.le_of_ble_eq_true rfl, Nat.le_of_ble_eq_true rfl⟩) (by decide) rfl wfT_r0 rfl ⟨Nat.le_of_ble_eq_true rfl, Nat.le_of_ble_eq_true rfl⟩ (Nat.le_of_ble_eq_true rfl) dL_law_312 ?_
                    refine x_ldc C0 mw_586 dL_law_315 ?_
                    refine x_pc (pc' := 317) rfl ?_
                    refine x_icmp_ne C0 (tgt := 387) dL_law_317 rfl h (fun _ h => ?_) (fun _ h => ?_)
                    · refine x_aload_n C0 dL_law_320 rfl 3 rfl ?_
                      refine x_iconst C0 (v := 0) dL_law_321 ki_0 ?_
                      refine x_sipush C0 (v := 9999) dL_law_322 ks_9999 ?_
                      refine x_iconst C0 (v := 1) dL_law_325 ki_1 ?_
                      refine x_iconst C0 (v := 2) dL_law_326 ki_2 ?_
                      obtain ⟨q28, eq28, h⟩ := x_bind h
                      refine x_callV41 C0 (c_X4_wouldHit n eq28) (x_cwV C0 mw_471 mw_472 mw_473 mw_44 mw_474 hd_yX4_wouldHit ⟨rfl, rfl, Nat.le_of_ble_eq_true rfl, Nat.le_of_ble_eq_true rfl⟩) (by decide) rfl wfT_r0 rfl ⟨Nat.le_of_ble_eq_true rfl, Nat.le_of_ble_eq_true rfl⟩ (Nat.le_of_ble_eq_true rfl) dL_law_327 ?_
                      refine x_ldc C0 mw_586 dL_law_330 ?_
                      refine x_pc (pc' := 332) rfl ?_
                      refine x_icmp_ne C0 (tgt := 387) dL_law_332 rfl h (fun _ h => ?_) (fun _ h => ?_)
                      · refine x_aload_n C0 dL_law_335 rfl 3 rfl ?_
                        refine x_bipush C0 (v := 6) dL_law_336 kb_6 ?_
                        refine x_iconst C0 (v := 0) dL_law_338 ki_0 ?_
                        refine x_iconst C0 (v := 0) dL_law_339 ki_0 ?_
                        refine x_iconst C0 (v := 0) dL_law_340 ki_0 ?_
                        obtain ⟨q29, eq29, h⟩ := x_bind h
                        refine x_callV41 C0 (c_X4_wouldAsk n eq29) (x_cwV C0 mw_460 mw_461 mw_462 mw_44 mw_463 hd_yX4_wouldAsk ⟨rfl, rfl, Nat.le_of_ble_eq_true rfl, Nat.le_of_ble_eq_true rfl⟩) (by decide) rfl wfT_r0 rfl ⟨Nat.le_of_ble_eq_true rfl, Nat.le_of_ble_eq_true rfl⟩ (Nat.le_of_ble_eq_true rfl) dL_law_341 ?_
                        refine x_ldc C0 mw_587 dL_law_344 ?_
                        refine x_pc (pc' := 346) rfl ?_
                        refine x_icmp_ne C0 (tgt := 387) dL_law_346 rfl h (fun _ h => ?_) (fun _ h => ?_)
                        · refine x_aload_n C0 dL_law_349 rfl 3 rfl ?_
                          refine x_bipush C0 (v := 17) dL_law_350 kb_17 ?_
                          obtain ⟨q30, eq30, h⟩ := x_bind h
                          refine x_callV11 C0 (c_X4_count n eq30) (x_cwV C0 mw_480 mw_481 mw_482 mw_44 mw_483 hd_yX4_count ⟨rfl, rfl, Nat.le_of_ble_eq_true rfl, Nat.le_of_ble_eq_true rfl⟩) (by decide) rfl wfT_r0 rfl ⟨Nat.le_of_ble_eq_true rfl, Nat.le_of_ble_eq_true rfl⟩ (Nat.le_of_ble_eq_true rfl) dL_law_352 ?_
                          refine x_ldc C0 mw_586 dL_law_355 ?_
                          refine x_icmp_ne C0 (tgt := 387) dL_law_357 rfl h (fun _ h => ?_) (fun _ h => ?_)
                          · refine x_aload_n C0 dL_law_360 rfl 3 rfl ?_
                            refine x_bipush C0 (v := 12) dL_law_361 kb_12 ?_
                            refine x_iconst C0 (v := 0) dL_law_363 ki_0 ?_
                            obtain ⟨q31, eq31, h⟩ := x_bind h
                            refine x_callV21 C0 (c_X4_logged n eq31) (x_cwV C0 mw_475 mw_476 mw_477 mw_44 mw_478 hd_yX4_logged ⟨rfl, rfl, Nat.le_of_ble_eq_true rfl, Nat.le_of_ble_eq_true rfl⟩) (by decide) rfl wfT_r0 rfl ⟨Nat.le_of_ble_eq_true rfl, Nat.le_of_ble_eq_true rfl⟩ (Nat.le_of_ble_eq_true rfl) dL_law_364 ?_
                            refine x_ldc C0 mw_546 dL_law_367 ?_
                            refine x_icmp_ne C0 (tgt := 387) dL_law_369 rfl h (fun _ h => ?_) (fun _ h => ?_)
                            · refine x_aload_n C0 dL_law_372 rfl 3 rfl ?_
                              refine x_iconst C0 (v := (-1)) dL_law_373 ki_m1 ?_
                              refine x_iconst C0 (v := 0) dL_law_374 ki_0 ?_
                              obtain ⟨q32, eq32, h⟩ := x_bind h
                              refine x_callV21 C0 (c_X4_logged n eq32) (x_cwV C0 mw_475 mw_476 mw_477 mw_44 mw_478 hd_yX4_logged ⟨rfl, rfl, Nat.le_of_ble_eq_true rfl, Nat.le_of_ble_eq_true rfl⟩) (by decide) rfl wfT_r0 rfl ⟨Nat.le_of_ble_eq_true rfl, Nat.le_of_ble_eq_true rfl⟩ (Nat.le_of_ble_eq_true rfl) dL_law_375 ?_
                              refine x_ldc C0 mw_586 dL_law_378 ?_
                              refine x_icmp_ne C0 (tgt := 387) dL_law_380 rfl h (fun _ h => ?_) (fun _ h => ?_)
                              · refine x_iconst C0 (v := 1) dL_law_383 ki_1 ?_
                                refine x_goto C0 (tgt := 388) dL_law_384 rfl ?_
                                obtain rfl := x_inj h
                                exact hE _ _ _ dL_law_388
                              · refine x_iconst C0 (v := 0) dL_law_387 ki_0 ?_
                                obtain rfl := x_inj h
                                exact absurd (show (0 : Int32) = 1 from hr) (by decide)
                            · refine x_iconst C0 (v := 0) dL_law_387 ki_0 ?_
                              obtain rfl := x_inj h
                              exact absurd (show (0 : Int32) = 1 from hr) (by decide)
                          · refine x_iconst C0 (v := 0) dL_law_387 ki_0 ?_
                            obtain rfl := x_inj h
                            exact absurd (show (0 : Int32) = 1 from hr) (by decide)
                        · refine x_iconst C0 (v := 0) dL_law_387 ki_0 ?_
                          obtain rfl := x_inj h
                          exact absurd (show (0 : Int32) = 1 from hr) (by decide)
                      · refine x_iconst C0 (v := 0) dL_law_387 ki_0 ?_
                        obtain rfl := x_inj h
                        exact absurd (show (0 : Int32) = 1 from hr) (by decide)
                    · refine x_iconst C0 (v := 0) dL_law_387 ki_0 ?_
                      obtain rfl := x_inj h
                      exact absurd (show (0 : Int32) = 1 from hr) (by decide)
                  · refine x_iconst C0 (v := 0) dL_law_387 ki_0 ?_
                    obtain rfl := x_inj h
                    exact absurd (show (0 : Int32) = 1 from hr) (by decide)
              · refine x_iconst C0 (v := 0) dL_law_387 ki_0 ?_
                obtain rfl := x_inj h
                exact absurd (show (0 : Int32) = 1 from hr) (by decide)
          · refine x_iconst C0 (v := 0) dL_law_387 ki_0 ?_
            obtain rfl := x_inj h
            exact absurd (show (0 : Int32) = 1 from hr) (by decide)
        · refine x_iconst C0 (v := 0) dL_law_387 ki_0 ?_
          obtain rfl := x_inj h
          exact absurd (show (0 : Int32) = 1 from hr) (by decide)
      · refine x_iconst C0 (v := 0) dL_law_235 ki_0 ?_
        obtain rfl := x_inj h
        exact absurd (show (0 : Int32) = 1 from hr) (by decide)
set_option maxRecDepth 4000 in
set_option maxHeartbeats 2000000 in
theorem w_L_law {p : Program} {l : Launch} {e : Env} {s : State} {m : MethodId} {args : Array Value} {below : List Frame} {meth : Method} {c : Code} {D : va_G} {cs : Nat → ClassId} {ad : Nat → Nat} {A : Nat → Prop} {H0 : Heap} {Q : State → Prop} {b Ln : Nat} {xs : Nat → Int32} {cf : Int32 → Int32} {ret : Option FieldType} (C0 : x_C p s m args meth c D vwCl (xtys cs) A H0 333 ad (wfT cs ad) cL_law 8 RL ret) (hX : va_X b Ln xs s H0) (hbl : b < H0.size) (hbA : ¬ A b) (hcf : cf = cfun Ln xs ∧ Ln < 2 ^ 31) {res : Int32 × xM} (hE : ∀ (σ : xM) (pc : Nat) (L : List (Nat × Value)), decode cL_law pc = .ok (.ireturn, 1) → x_W p l e room_1 s m args below meth c D vwCl A H0 333 ad (wfT cs ad) 8 333 3446 Q σ pc L [.int 1]) (hr : res.1 = 1) (n : Nat) {σ : xM} (h : F_L_law n cf σ = some res) : x_W p l e room_1 s m args below meth c D vwCl A H0 333 ad (wfT cs ad) 8 333 3446 Q σ 8 [(1, .ref (ad 0)), (0, .ref b)] [] := by
  refine x_aload_n C0 dL_law_8 rfl 1 rfl ?_
  refine x_iconst C0 (v := 0) dL_law_9 ki_0 ?_
  refine x_cell C0 hX hbl hbA hcf (x_cwS C0 mw_510 mw_511 mw_43 mw_512 hd_yL_cell ⟨rfl, rfl, Nat.le_of_ble_eq_true rfl, Nat.le_of_ble_eq_true rfl⟩) ⟨Nat.le_of_ble_eq_true rfl, Nat.le_of_ble_eq_true rfl⟩ (Nat.le_of_ble_eq_true rfl) dL_law_10 h (fun _ h => ?_)
  refine x_istore_n C0 dL_law_13 rfl (L' := [(2, _), (1, _), (0, _)]) (by decide) rfl ?_
  refine x_aload_n C0 dL_law_14 rfl 1 rfl ?_
  refine x_iconst C0 (v := 1) dL_law_15 ki_1 ?_
  refine x_iload_n C0 dL_law_16 rfl 0 rfl ?_
  refine x_pc (pc' := 17) rfl ?_
  refine x_iconst C0 (v := 4) dL_law_17 ki_4 ?_
  obtain ⟨q1, eq1, h⟩ := x_bind h
  refine x_callS21 C0 (c_L_low n eq1) (x_cwS C0 mw_513 mw_514 mw_43 mw_515 hd_yL_low ⟨rfl, rfl, Nat.le_of_ble_eq_true rfl, Nat.le_of_ble_eq_true rfl⟩) ⟨Nat.le_of_ble_eq_true rfl, Nat.le_of_ble_eq_true rfl⟩ (Nat.le_of_ble_eq_true rfl) dL_law_18 ?_
  refine x_iadd C0 dL_law_21 ?_
  refine x_iconst C0 (v := 1) dL_law_22 ki_1 ?_
  refine x_iload_n C0 dL_law_23 rfl 0 rfl ?_
  refine x_iconst C0 (v := 4) dL_law_24 ki_4 ?_
  refine x_ishr C0 dL_law_25 ?_
  refine x_iconst C0 (v := 2) dL_law_26 ki_2 ?_
  refine x_pc (pc' := 27) rfl ?_
  obtain ⟨q2, eq2, h⟩ := x_bind h
  refine x_callS21 C0 (c_L_low n eq2) (x_cwS C0 mw_513 mw_514 mw_43 mw_515 hd_yL_low ⟨rfl, rfl, Nat.le_of_ble_eq_true rfl, Nat.le_of_ble_eq_true rfl⟩) ⟨Nat.le_of_ble_eq_true rfl, Nat.le_of_ble_eq_true rfl⟩ (Nat.le_of_ble_eq_true rfl) dL_law_27 ?_
  refine x_iadd C0 dL_law_30 ?_
  obtain ⟨q3, eq3, h⟩ := x_bind h
  refine x_callV21 C0 (c_X4_shape n eq3) (x_cwV C0 mw_264 mw_265 mw_266 mw_44 mw_267 hd_yX4_shape ⟨rfl, rfl, Nat.le_of_ble_eq_true rfl, Nat.le_of_ble_eq_true rfl⟩) (by decide) rfl wfT_r0 rfl ⟨Nat.le_of_ble_eq_true rfl, Nat.le_of_ble_eq_true rfl⟩ (Nat.le_of_ble_eq_true rfl) dL_law_31 ?_
  refine x_pop C0 dL_law_34 rfl ?_
  refine x_aload_n C0 dL_law_35 rfl 1 rfl ?_
  refine x_iload_n C0 dL_law_36 rfl 0 rfl ?_
  refine x_bipush C0 (v := 7) dL_law_37 kb_7 ?_
  refine x_ishr C0 dL_law_39 ?_
  refine x_pc (pc' := 40) rfl ?_
  refine x_iconst C0 (v := 3) dL_law_40 ki_3 ?_
  obtain ⟨q4, eq4, h⟩ := x_bind h
  refine x_callS21 C0 (c_L_low n eq4) (x_cwS C0 mw_513 mw_514 mw_43 mw_515 hd_yL_low ⟨rfl, rfl, Nat.le_of_ble_eq_true rfl, Nat.le_of_ble_eq_true rfl⟩) ⟨Nat.le_of_ble_eq_true rfl, Nat.le_of_ble_eq_true rfl⟩ (Nat.le_of_ble_eq_true rfl) dL_law_41 ?_
  refine x_iconst C0 (v := 1) dL_law_44 ki_1 ?_
  refine x_iload_n C0 dL_law_45 rfl 0 rfl ?_
  refine x_bipush C0 (v := 9) dL_law_46 kb_9 ?_
  refine x_ishr C0 dL_law_48 ?_
  refine x_iconst C0 (v := 4) dL_law_49 ki_4 ?_
  obtain ⟨q5, eq5, h⟩ := x_bind h
  refine x_callS21 C0 (c_L_low n eq5) (x_cwS C0 mw_513 mw_514 mw_43 mw_515 hd_yL_low ⟨rfl, rfl, Nat.le_of_ble_eq_true rfl, Nat.le_of_ble_eq_true rfl⟩) ⟨Nat.le_of_ble_eq_true rfl, Nat.le_of_ble_eq_true rfl⟩ (Nat.le_of_ble_eq_true rfl) dL_law_50 ?_
  refine x_pc (pc' := 53) rfl ?_
  refine x_iadd C0 dL_law_53 ?_
  refine x_iconst C0 (v := 1) dL_law_54 ki_1 ?_
  refine x_iload_n C0 dL_law_55 rfl 0 rfl ?_
  refine x_bipush C0 (v := 12) dL_law_56 kb_12 ?_
  refine x_ishr C0 dL_law_58 ?_
  refine x_iconst C0 (v := 3) dL_law_59 ki_3 ?_
  obtain ⟨q6, eq6, h⟩ := x_bind h
  refine x_callS21 C0 (c_L_low n eq6) (x_cwS C0 mw_513 mw_514 mw_43 mw_515 hd_yL_low ⟨rfl, rfl, Nat.le_of_ble_eq_true rfl, Nat.le_of_ble_eq_true rfl⟩) ⟨Nat.le_of_ble_eq_true rfl, Nat.le_of_ble_eq_true rfl⟩ (Nat.le_of_ble_eq_true rfl) dL_law_60 ?_
  refine x_iadd C0 dL_law_63 ?_
  refine x_pc (pc' := 64) rfl ?_
  obtain ⟨q7, eq7, h⟩ := x_bind h
  refine x_callV31 C0 (c_X4_addHelper n eq7) (x_cwV C0 mw_337 mw_338 mw_339 mw_44 mw_340 hd_yX4_addHelper ⟨rfl, rfl, Nat.le_of_ble_eq_true rfl, Nat.le_of_ble_eq_true rfl⟩) (by decide) rfl wfT_r0 rfl ⟨Nat.le_of_ble_eq_true rfl, Nat.le_of_ble_eq_true rfl⟩ (Nat.le_of_ble_eq_true rfl) dL_law_64 ?_
  refine x_pop C0 dL_law_67 rfl ?_
  refine x_aload_n C0 dL_law_68 rfl 1 rfl ?_
  refine x_iload_n C0 dL_law_69 rfl 0 rfl ?_
  refine x_bipush C0 (v := 15) dL_law_70 kb_15 ?_
  refine x_ishr C0 dL_law_72 ?_
  refine x_iconst C0 (v := 3) dL_law_73 ki_3 ?_
  obtain ⟨q8, eq8, h⟩ := x_bind h
  refine x_callS21 C0 (c_L_low n eq8) (x_cwS C0 mw_513 mw_514 mw_43 mw_515 hd_yL_low ⟨rfl, rfl, Nat.le_of_ble_eq_true rfl, Nat.le_of_ble_eq_true rfl⟩) ⟨Nat.le_of_ble_eq_true rfl, Nat.le_of_ble_eq_true rfl⟩ (Nat.le_of_ble_eq_true rfl) dL_law_74 ?_
  refine x_pc (pc' := 77) rfl ?_
  refine x_iconst C0 (v := 1) dL_law_77 ki_1 ?_
  refine x_iload_n C0 dL_law_78 rfl 0 rfl ?_
  refine x_bipush C0 (v := 17) dL_law_79 kb_17 ?_
  refine x_ishr C0 dL_law_81 ?_
  refine x_iconst C0 (v := 4) dL_law_82 ki_4 ?_
  obtain ⟨q9, eq9, h⟩ := x_bind h
  refine x_callS21 C0 (c_L_low n eq9) (x_cwS C0 mw_513 mw_514 mw_43 mw_515 hd_yL_low ⟨rfl, rfl, Nat.le_of_ble_eq_true rfl, Nat.le_of_ble_eq_true rfl⟩) ⟨Nat.le_of_ble_eq_true rfl, Nat.le_of_ble_eq_true rfl⟩ (Nat.le_of_ble_eq_true rfl) dL_law_83 ?_
  refine x_iadd C0 dL_law_86 ?_
  refine x_iconst C0 (v := 1) dL_law_87 ki_1 ?_
  refine x_pc (pc' := 88) rfl ?_
  refine x_iload_n C0 dL_law_88 rfl 0 rfl ?_
  refine x_bipush C0 (v := 20) dL_law_89 kb_20 ?_
  refine x_ishr C0 dL_law_91 ?_
  refine x_iconst C0 (v := 3) dL_law_92 ki_3 ?_
  obtain ⟨q10, eq10, h⟩ := x_bind h
  refine x_callS21 C0 (c_L_low n eq10) (x_cwS C0 mw_513 mw_514 mw_43 mw_515 hd_yL_low ⟨rfl, rfl, Nat.le_of_ble_eq_true rfl, Nat.le_of_ble_eq_true rfl⟩) ⟨Nat.le_of_ble_eq_true rfl, Nat.le_of_ble_eq_true rfl⟩ (Nat.le_of_ble_eq_true rfl) dL_law_93 ?_
  refine x_iadd C0 dL_law_96 ?_
  obtain ⟨q11, eq11, h⟩ := x_bind h
  refine x_callV31 C0 (c_X4_addHelper n eq11) (x_cwV C0 mw_337 mw_338 mw_339 mw_44 mw_340 hd_yX4_addHelper ⟨rfl, rfl, Nat.le_of_ble_eq_true rfl, Nat.le_of_ble_eq_true rfl⟩) (by decide) rfl wfT_r0 rfl ⟨Nat.le_of_ble_eq_true rfl, Nat.le_of_ble_eq_true rfl⟩ (Nat.le_of_ble_eq_true rfl) dL_law_97 ?_
  refine x_pop C0 dL_law_100 rfl ?_
  refine x_pc (pc' := 101) rfl ?_
  refine x_iconst C0 (v := 0) dL_law_101 ki_0 ?_
  refine x_istore_n C0 dL_law_102 rfl (L' := [(3, _), (2, _), (1, _), (0, _)]) (by decide) rfl ?_
  refine x_sub [3, 2, 0] (L' := [(0, _), (1, _), (3, _)]) rfl ?_
  refine x_pc (pc' := 103) rfl ?_
  exact b_L_law_103 C0 hX hbl hbA hcf hE hr n n _ _ h
