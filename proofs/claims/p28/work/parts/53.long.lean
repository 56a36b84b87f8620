/-! rules of the walk for longs, and for the law's own constants *)  -/
section XR
variable {p : Program} {l : Launch} {e : Env} {R : Room} {s : State} {m : MethodId} {args : Array Value} {below : List Frame} {meth : Method} {c : Code} {D : va_G} {cl : List vw_C} {tys : List (ClassId × FieldType)} {A : Nat → Prop} {H0 : Heap} {n : Nat} {ad : Nat → Nat} {wf : xM → Nat → va_E} {cc : ByteArray} {nL kc ks : Nat} {own : String} {ret : Option FieldType} {Q : State → Prop} {σ : xM} {pc : Nat} {L : List (Nat × Value)} {st : List Value}
theorem x_lload (C0 : x_C p s m args meth c D cl tys A H0 n ad wf cc nL own ret) {i : Nat} {x : Int64} (d : decode cc pc = .ok (.lload i, 2)) (k : Nat) (h : L[k]? = some (i, .long x)) (K : x_W p l e R s m args below meth c D cl A H0 n ad wf nL kc ks Q σ (pc + 2) L (.long x :: st)) : x_W p l e R s m args below meth c D cl A H0 n ad wf nL kc ks Q σ pc L st :=
  fun H locs ls hl hP hS => lv_lload C0.1.1 C0.1.2.1 d (lv_at hl k h) (K H locs ls hl hP hS)
theorem x_lload_n (C0 : x_C p s m args meth c D cl tys A H0 n ad wf cc nL own ret) {f : Fin 4} {i : Nat} {x : Int64} (d : decode cc pc = .ok (.lload_n f, 1)) (hi : (f : Nat) = i) (k : Nat) (h : L[k]? = some (i, .long x)) (K : x_W p l e R s m args below meth c D cl A H0 n ad wf nL kc ks Q σ (pc + 1) L (.long x :: st)) : x_W p l e R s m args below meth c D cl A H0 n ad wf nL kc ks Q σ pc L st :=
  fun H locs ls hl hP hS => lv_lload_n C0.1.1 C0.1.2.1 d hi (lv_at hl k h) (K H locs ls hl hP hS)
theorem x_lstore (C0 : x_C p s m args meth c D cl tys A H0 n ad wf cc nL own ret) {i : Nat} {x : Int64} (d : decode cc pc = .ok (.lstore i, 2)) {L' : List (Nat × Value)} (hn : i + 1 < nL) (hL : (i, Value.long x) :: L.filter (fun q => !(q.1 == i) && (!(q.1 == i + 1) && !(q.1 + 1 == i && q.2.category == 2))) = L') (K : x_W p l e R s m args below meth c D cl A H0 n ad wf nL kc ks Q σ (pc + 2) L' st) : x_W p l e R s m args below meth c D cl A H0 n ad wf nL kc ks Q σ pc L (Value.long x :: st) :=
  fun H locs ls hl hP hS => lv_lstore C0.1.1 C0.1.2.1 d hl hn hL (fun ls' hl' => K H locs ls' hl' hP hS)
theorem x_lstore_n (C0 : x_C p s m args meth c D cl tys A H0 n ad wf cc nL own ret) {f : Fin 4} {i : Nat} {x : Int64} (d : decode cc pc = .ok (.lstore_n f, 1)) (hi : (f : Nat) = i) {L' : List (Nat × Value)} (hn : i + 1 < nL) (hL : (i, Value.long x) :: L.filter (fun q => !(q.1 == i) && (!(q.1 == i + 1) && !(q.1 + 1 == i && q.2.category == 2))) = L') (K : x_W p l e R s m args below meth c D cl A H0 n ad wf nL kc ks Q σ (pc + 1) L' st) : x_W p l e R s m args below meth c D cl A H0 n ad wf nL kc ks Q σ pc L (Value.long x :: st) :=
  fun H locs ls hl hP hS => lv_lstore_n C0.1.1 C0.1.2.1 d hi hl hn hL (fun ls' hl' => K H locs ls' hl' hP hS)
theorem x_ldc2 (C0 : x_C p s m args meth c D cl tys A H0 n ad wf cc nL own ret) {i : Nat} {v : Int64} (hw : Cond.constantLong own i v ∈ lw_use) (d : decode cc pc = .ok (.ldc2_w i, 3)) (K : x_W p l e R s m args below meth c D cl A H0 n ad wf nL kc ks Q σ (pc + 3) L (.long v :: st)) : x_W p l e R s m args below meth c D cl A H0 n ad wf nL kc ks Q σ pc L st :=
  fun H locs ls hl hP hS => lv_ldc2 C0.1.1 C0.1.2.1 C0.1.2.2.2.1 (C0.1.2.2.2.2 _ hw) d (K H locs ls hl hP hS)
theorem x_ladd (C0 : x_C p s m args meth c D cl tys A H0 n ad wf cc nL own ret) {x y : Int64} (d : decode cc pc = .ok (.ladd, 1)) (K : x_W p l e R s m args below meth c D cl A H0 n ad wf nL kc ks Q σ (pc + 1) L (.long (x + y) :: st)) : x_W p l e R s m args below meth c D cl A H0 n ad wf nL kc ks Q σ pc L (.long y :: .long x :: st) :=
  fun H locs ls hl hP hS => lv_ladd C0.1.1 C0.1.2.1 d (K H locs ls hl hP hS)
theorem x_lmul (C0 : x_C p s m args meth c D cl tys A H0 n ad wf cc nL own ret) {x y : Int64} (d : decode cc pc = .ok (.lmul, 1)) (K : x_W p l e R s m args below meth c D cl A H0 n ad wf nL kc ks Q σ (pc + 1) L (.long (x * y) :: st)) : x_W p l e R s m args below meth c D cl A H0 n ad wf nL kc ks Q σ pc L (.long y :: .long x :: st) :=
  fun H locs ls hl hP hS => lv_lmul C0.1.1 C0.1.2.1 d (K H locs ls hl hP hS)
theorem x_lcmp (C0 : x_C p s m args meth c D cl tys A H0 n ad wf cc nL own ret) {x y : Int64} (d : decode cc pc = .ok (.lcmp, 1)) (K : x_W p l e R s m args below meth c D cl A H0 n ad wf nL kc ks Q σ (pc + 1) L (.int (lg_cmp x y) :: st)) : x_W p l e R s m args below meth c D cl A H0 n ad wf nL kc ks Q σ pc L (.long y :: .long x :: st) :=
  fun H locs ls hl hP hS => W.lcmp C0.1.1 C0.1.2.1 d (K H locs ls hl hP hS)
theorem x_i2l (C0 : x_C p s m args meth c D cl tys A H0 n ad wf cc nL own ret) {x : Int32} (d : decode cc pc = .ok (.i2l, 1)) (K : x_W p l e R s m args below meth c D cl A H0 n ad wf nL kc ks Q σ (pc + 1) L (.long x.toInt64 :: st)) : x_W p l e R s m args below meth c D cl A H0 n ad wf nL kc ks Q σ pc L (.int x :: st) :=
  fun H locs ls hl hP hS => lv_i2l C0.1.1 C0.1.2.1 d rfl (K H locs ls hl hP hS)
theorem x_idiv (C0 : x_C p s m args meth c D cl tys A H0 n ad wf cc nL own ret) {ρ : Type} {x y : Int32} (d : decode cc pc = .ok (.idiv, 1)) {b : Option ρ} {res : ρ} (h : (if y = 0 then none else b) = some res) (K : ¬ y = 0 → b = some res → x_W p l e R s m args below meth c D cl A H0 n ad wf nL kc ks Q σ (pc + 1) L (.int (x / y) :: st)) : x_W p l e R s m args below meth c D cl A H0 n ad wf nL kc ks Q σ pc L (.int y :: .int x :: st) :=
  by
  by_cases hy : y = 0
  · rw [if_pos hy] at h; cases h
  · rw [if_neg hy] at h
    exact fun H locs ls hl hP hS => lv_idiv C0.1.1 C0.1.2.1 d hy (K hy h H locs ls hl hP hS)
theorem x_lret {v : Int64} (C0 : x_C p s m args meth c D cl tys A s.heap n ad wf cc nL own (some .long)) (d : decode cc pc = .ok (.lreturn, 1)) : x_W p l e R s m args below meth c D cl A s.heap n ad wf nL 0 0 (x_E below args s D cl n ad wf A (some (.long v)) σ) σ pc L [.long v] :=
  fun H locs ls hl hP hS => W.lret C0.1.1 C0.1.2.1 C0.2.2.2.2.2.2.1 (fun t ht hW => ⟨⟨rfl, by subst ht; exact hP⟩, hS.F ht⟩) hS.2.2 d C0.2.2.2.2.2.1
end XR
theorem x_swo_9 {x : Int32} (h0 : ¬ x = (0 : Int32)) (h1 : ¬ x = (1 : Int32)) (h2 : ¬ x = (2 : Int32)) (h3 : ¬ x = (3 : Int32)) (h4 : ¬ x = (4 : Int32)) (h5 : ¬ x = (5 : Int32)) (h6 : ¬ x = (6 : Int32)) (h7 : ¬ x = (7 : Int32)) (h8 : ¬ x = (8 : Int32)) (h9 : ¬ x = (9 : Int32)) : x.toInt < 0 ∨ 9 < x.toInt := by
  have e0 : ¬ x.toInt = 0 := x_tI h0
  have e1 : ¬ x.toInt = 1 := x_tI h1
  have e2 : ¬ x.toInt = 2 := x_tI h2
  have e3 : ¬ x.toInt = 3 := x_tI h3
  have e4 : ¬ x.toInt = 4 := x_tI h4
  have e5 : ¬ x.toInt = 5 := x_tI h5
  have e6 : ¬ x.toInt = 6 := x_tI h6
  have e7 : ¬ x.toInt = 7 := x_tI h7
  have e8 : ¬ x.toInt = 8 := x_tI h8
  have e9 : ¬ x.toInt = 9 := x_tI h9
  omega
