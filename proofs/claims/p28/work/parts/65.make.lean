/-! worlds that grow: rules for constructors *)  -/
abbrev y_k (w : Nat → va_E) : xM → Nat → va_E := fun _ r => w r
theorem y_loc (w : Nat → va_E) : x_loc (y_k w) := fun _ _ _ _ => rfl
def y_O (U : State) : Prop := va_AO RX0 U ∧ va_AO RX1 U ∧ va_AO RX2 U
theorem y_O.moved {u U : State} (h : u.vm.Alike U.vm) (o : y_O u) : y_O U := ⟨va_AO.moved h o.1, va_AO.moved h o.2.1, va_AO.moved h o.2.2⟩
def x_z : xM := fun _ _ => 0
theorem y_push {n : Nat} {ad : Nat → Nat} {w : Nat → va_E} {σ : xM} {q : Nat} {e : va_E} : x_bl n ad (y_k w) σ ++ [(q, e)] = x_bl (n + 1) (va_up ad n q) (y_k (va_up w n e)) σ := by
  apply List.ext_getElem?
  intro i
  by_cases h : i < n
  · rw [List.getElem?_append_left (by rw [x_bl_len]; exact h), x_bl_get h, x_bl_get (by omega)]
    simp only [y_k]
    rw [va_up_off (by omega), va_up_off (by omega)]
  · rw [List.getElem?_append_right (by rw [x_bl_len]; omega), x_bl_len]
    by_cases h2 : i = n
    · subst h2
      rw [Nat.sub_self, x_bl_get (by omega)]
      simp only [y_k]
      rw [va_up_eq, va_up_eq]
      rfl
    · rw [List.getElem?_eq_none (by simp; omega), List.getElem?_eq_none (by rw [x_bl_len]; omega)]
theorem y_set {n : Nat} {ad : Nat → Nat} {w : Nat → va_E} {σ : xM} {r : Nat} {e : va_E} (h : r < n) : (x_bl n ad (y_k w) σ).set r (ad r, e) = x_bl n ad (y_k (va_up w r e)) σ := by
  apply List.ext_getElem?
  intro i
  rw [List.getElem?_set]
  by_cases hi : i < n
  · rw [x_bl_get hi, x_bl_get hi]
    simp only [y_k]
    by_cases hir : r = i
    · subst hir
      rw [if_pos rfl, if_pos (by rw [x_bl_len]; exact h), va_up_eq]
    · rw [if_neg hir, va_up_off (fun q => hir q.symm)]
  · rw [if_neg (fun (q : r = i) => hi (q ▸ h)), List.getElem?_eq_none (by rw [x_bl_len]; exact Nat.not_lt.mp hi), List.getElem?_eq_none (by rw [x_bl_len]; exact Nat.not_lt.mp hi)]
theorem x_bl_congr {n : Nat} {ad : Nat → Nat} {wf wf' : xM → Nat → va_E} {σ σ' : xM} (h : ∀ r, r < n → wf σ r = wf' σ' r) : x_bl n ad wf σ = x_bl n ad wf' σ' := by
  apply List.ext_getElem?
  intro i
  by_cases hi : i < n
  · rw [x_bl_get hi, x_bl_get hi, h i hi]
  · rw [List.getElem?_eq_none (by rw [x_bl_len]; exact Nat.not_lt.mp hi), List.getElem?_eq_none (by rw [x_bl_len]; exact Nat.not_lt.mp hi)]
section YR
variable {p : Program} {l : Launch} {e : Env} {R : Room} {s : State} {m : MethodId} {args : Array Value} {below : List Frame} {meth : Method} {c : Code} {D : va_G} {cl : List vw_C} {tys : List (ClassId × FieldType)} {A : Nat → Prop} {H0 : Heap} {n : Nat} {ad : Nat → Nat} {wf wf' : xM → Nat → va_E} {w : Nat → va_E} {cc : ByteArray} {nL kc ks : Nat} {own : String} {ret : Option FieldType} {Q : State → Prop} {σ σ' : xM} {pc : Nat} {L : List (Nat × Value)} {st : List Value}
theorem x_C.of (C0 : x_C p s m args meth c D cl tys A H0 n ad wf cc nL own ret) {n' : Nat} {ad' : Nat → Nat} {w' : xM → Nat → va_E} (hl : x_loc w') (hD : ∀ σ, va_D A (x_bl n' ad' w' σ)) : x_C p s m args meth c D cl tys A H0 n' ad' w' cc nL own ret :=
  ⟨C0.1, C0.2.1, hD, C0.2.2.2.1, hl, C0.2.2.2.2.2.1, C0.2.2.2.2.2.2.1, C0.2.2.2.2.2.2.2⟩
theorem x_C.re (C0 : x_C p s m args meth c D cl tys A H0 n ad wf cc nL own ret) (hl : x_loc wf') : x_C p s m args meth c D cl tys A H0 n ad wf' cc nL own ret :=
  C0.of hl (fun σ => x_bl_D (C0.2.2.1 σ))
theorem x_congr (h : ∀ r, r < n → wf σ r = wf' σ' r) (K : x_W p l e R s m args below meth c D cl A H0 n ad wf' nL kc ks Q σ' pc L st) : x_W p l e R s m args below meth c D cl A H0 n ad wf nL kc ks Q σ pc L st :=
  fun H locs ls hl hP hS => K H locs ls hl (by rw [← x_bl_congr h]; exact hP) hS
theorem y_new (C0 : x_C p s m args meth c D cl tys A H0 n ad (y_k w) cc nL own ret) {Cn : String} {T : u_T} {N ci index : Nat} (hin : ∀ w ∈ u_ws Cn T N, w ∈ lw_use) (ty0 : Nat → FieldType) (hty : ∀ k, k < N → parseFieldDescriptor (T k).2.2.1 = some (ty0 k)) (hcl : Cond.classLink own index Cn ∈ lw_use) (hinst : Cond.instantiable Cn N ∈ lw_use) (hini : Cond.initialized Cn ∈ lw_use) (hc : cl[ci]? = some (Cn, T, N)) {fs : List Value} (hfs : ∀ j, j < N → defaultValue (ty0 j) = vp_V fs j) (hr : kc + 1 ≤ R.cells ∧ ks + N ≤ R.slots) (d : decode cc pc = .ok (.new index, 3))
    (K : ∀ ad', (∀ r, r < n → ad' r = ad r) → x_C p s m args meth c D cl tys A H0 (n + 1) ad' (y_k (va_up w n (.inr (ci, fs)))) cc nL own ret → x_W p l e R s m args below meth c D cl A H0 (n + 1) ad' (y_k (va_up w n (.inr (ci, fs)))) nL (kc + 1) (ks + N) Q σ (pc + 3) L (.ref (ad' n) :: st)) : x_W p l e R s m args below meth c D cl A H0 n ad (y_k w) nL kc ks Q σ pc L st := by
  intro H locs ls hl hP hS
  refine va_new C0.1.1 C0.1.2.1 C0.1.2.2.2.2 hin ty0 hty C0.1.2.2.2.1 (C0.1.2.2.2.2 _ hcl) (C0.1.2.2.2.2 _ hinst) (C0.1.2.2.2.2 _ hini) C0.2.1 hP (C0.2.2.1 σ) hS C0.2.2.2.1 hc hfs hr.1 hr.2 d (fun q H1 hP1 hD1 hS1 => ?_)
  rw [y_push] at hP1 hD1
  have k := K (va_up ad n q) (fun r hr => va_up_off (by omega)) (C0.of (y_loc _) (fun σ1 => x_bl_D hD1)) H1 locs ls hl hP1 hS1
  rw [va_up_eq] at k
  exact k
theorem y_findI {U : State} {cA cB : ClassId} {t : FieldType} (h : ∀ C, t ≠ .object C) (h1 : va_RA U cA t) (h2 : va_RA U cB t) : cA = cB := by
  unfold va_RA at h1 h2
  cases t with
  | object C => exact absurd rfl (h C)
  | _ => exact Option.some.inj (h1.symm.trans h2)
theorem y_findO {U : State} {cA cB : ClassId} {C : String} (h1 : va_RA U cA (.object C)) (h2 : va_RA U cB (.object C)) : cA = cB := by
  obtain ⟨-, -, -, -, -, e1⟩ := h1
  obtain ⟨-, -, -, -, -, e2⟩ := h2
  exact Option.some.inj (e1.symm.trans e2)
theorem y_newa (C0 : x_C p s m args meth c D cl tys A H0 n ad (y_k w) cc nL own ret) {atype : ArrayType} {ty : FieldType} (hno : ∀ C, ty ≠ .object C) (hty : newarray.typeOf atype = ty) (harr : Cond.arrayClass ty ∈ lw_use) {cA : ClassId} (t0 : Nat) (ht : tys[t0]? = some (cA, ty)) {N' : Nat} {i : Int32} {a0 : vp_A} (ha : ∀ cA : ClassId, vp_cell cA a0 = arrV cA N' (fun _ => defaultValue ty)) (hn : ¬ i < 0) (hN : i.toNatClampNeg = N') (hbytes : N' * componentBytes ty ≤ 536870912) (hr : kc + 1 ≤ R.cells ∧ ks + N' ≤ R.slots) (d : decode cc pc = .ok (.newarray atype, 2))
    (K : ∀ ad', (∀ r, r < n → ad' r = ad r) → x_C p s m args meth c D cl tys A H0 (n + 1) ad' (y_k (va_up w n (.inl (cA, a0)))) cc nL own ret → x_W p l e R s m args below meth c D cl A H0 (n + 1) ad' (y_k (va_up w n (.inl (cA, a0)))) nL (kc + 1) (ks + N') Q σ (pc + 2) L (.ref (ad' n) :: st)) : x_W p l e R s m args below meth c D cl A H0 n ad (y_k w) nL kc ks Q σ pc L (.int i :: st) := by
  intro H locs ls hl hP hS
  refine va_newa C0.1.1 C0.1.2.1 (by rw [hty]; exact C0.1.2.2.2.2 _ harr) hty C0.2.1 hP (C0.2.2.1 σ) hS C0.2.2.2.1 ha hn hN hbytes hr.1 hr.2 d (fun q cB H1 hK1 hP1 hD1 hS1 => ?_)
  have e : cB = cA := by
    have h2 := hK1.2 tys.length (cB, ty) (by simp)
    exact y_findI hno h2.2 (C0.2.1.2 t0 _ ht).2
  subst e
  rw [y_push] at hP1 hD1
  have k := K (va_up ad n q) (fun r hr => va_up_off (by omega)) (C0.of (y_loc _) (fun σ1 => x_bl_D hD1)) H1 locs ls hl hP1 hS1
  rw [va_up_eq] at k
  exact k
theorem y_newq (C0 : x_C p s m args meth c D cl tys A H0 n ad (y_k w) cc nL own ret) {Cn : String} {index : Nat} (hcl : Cond.classLink own index Cn ∈ lw_use) (hover : va_AO Cn s) {cA : ClassId} (t0 : Nat) (ht : tys[t0]? = some (cA, .object Cn)) {N' : Nat} {i : Int32} (hn : ¬ i < 0) (hN : i.toNatClampNeg = N') (hbytes : N' * 4 ≤ 536870912) (hr : kc + 1 ≤ R.cells ∧ ks + N' ≤ R.slots) (d : decode cc pc = .ok (.anewarray index, 3))
    (K : ∀ ad', (∀ r, r < n → ad' r = ad r) → x_C p s m args meth c D cl tys A H0 (n + 1) ad' (y_k (va_up w n (.inl (cA, N', .inr (.inr (.inr (.inr (fun _ => none)))))))) cc nL own ret → x_W p l e R s m args below meth c D cl A H0 (n + 1) ad' (y_k (va_up w n (.inl (cA, N', .inr (.inr (.inr (.inr (fun _ => none)))))))) nL (kc + 1) (ks + N') Q σ (pc + 3) L (.ref (ad' n) :: st)) : x_W p l e R s m args below meth c D cl A H0 n ad (y_k w) nL kc ks Q σ pc L (.int i :: st) := by
  intro H locs ls hl hP hS
  refine va_newq C0.1.1 C0.1.2.1 C0.1.2.2.2.1 (C0.1.2.2.2.2 _ hcl) hover C0.2.1 hP (C0.2.2.1 σ) hS C0.2.2.2.1 hn hN hbytes hr.1 hr.2 d (fun q cB H1 hK1 hP1 hD1 hS1 => ?_)
  have e : cB = cA := by
    have h2 := hK1.2 tys.length (cB, .object Cn) (by simp)
    exact y_findO h2.2 (C0.2.1.2 t0 _ ht).2
  subst e
  rw [y_push] at hP1 hD1
  have k := K (va_up ad n q) (fun r hr => va_up_off (by omega)) (C0.of (y_loc _) (fun σ1 => x_bl_D hD1)) H1 locs ls hl hP1 hS1
  rw [va_up_eq] at k
  exact k
theorem y_get (C0 : x_C p s m args meth c D cl tys A H0 n ad (y_k w) cc nL own ret) {Cn : String} {T : u_T} {N ci index b : Nat} (hin : ∀ w ∈ u_ws Cn T N, w ∈ lw_use) (hc : cl[ci]? = some (Cn, T, N)) (k : Nat) (hk : k < N) (hlink : Cond.fieldLink own index (T k).1 (T k).2.1 (T k).2.2.1 ∈ lw_use) {r : Nat} {fs : List Value} {v : Value} (hr : r < n) (hb : ad r = b) (hw : w r = .inr (ci, fs)) (hv : fs[k]? = some v) (d : decode cc pc = .ok (.getfield index, 3)) (K : x_W p l e R s m args below meth c D cl A H0 n ad (y_k w) nL kc ks Q σ (pc + 3) L (v :: st)) : x_W p l e R s m args below meth c D cl A H0 n ad (y_k w) nL kc ks Q σ pc L (.ref b :: st) := by
  subst hb
  exact x_get C0 hin hc k hk hlink hr hw hv d K
theorem y_put (C0 : x_C p s m args meth c D cl tys A H0 n ad (y_k w) cc nL own ret) {Cn : String} {T : u_T} {N ci index b : Nat} (hin : ∀ w ∈ u_ws Cn T N, w ∈ lw_use) (ty0 : Nat → FieldType) (hty : ∀ k, k < N → parseFieldDescriptor (T k).2.2.1 = some (ty0 k)) (hnm : ∀ a, a < N → ∀ b, b < N → a ≠ b → (T a).2.1 ≠ (T b).2.1) (hc : cl[ci]? = some (Cn, T, N)) (k : Nat) (hk : k < N) (hlink : Cond.fieldLink own index (T k).1 (T k).2.1 (T k).2.2.1 ∈ lw_use) (hfin : (T k).2.2.2 = false) {v : Value} (hn : narrow (ty0 k) v = v) (hfit : fits (ty0 k) v = true) {r : Nat} {fs : List Value} (hr : r < n) (hb : ad r = b) (hw : w r = .inr (ci, fs)) (hl9 : k < fs.length) (d : decode cc pc = .ok (.putfield index, 3))
    (K : x_C p s m args meth c D cl tys A H0 n ad (y_k (va_up w r (.inr (ci, fs.set k v)))) cc nL own ret → x_W p l e R s m args below meth c D cl A H0 n ad (y_k (va_up w r (.inr (ci, fs.set k v)))) nL kc ks Q σ (pc + 3) L st) : x_W p l e R s m args below meth c D cl A H0 n ad (y_k w) nL kc ks Q σ pc L (v :: .ref b :: st) := by
  subst hb
  exact fun H locs ls hl hP hS => va_put C0.1.1 C0.1.2.1 C0.1.2.2.2.2 hin ty0 hty hnm C0.1.2.2.2.1 C0.2.1 hP (C0.2.2.1 σ) hS r (by rw [x_bl_get hr]; simp only [y_k]; rw [hw]) hc k hk (C0.1.2.2.2.2 _ hlink) (fun _ q => q) hfin (hty k hk) hn hfit hl9 d (fun H1 locs1 hP1 hD1 hS1 => K (C0.re (y_loc _)) H1 locs1 ls hl (by rw [y_set hr] at hP1; exact hP1) hS1)
theorem y_putF (C0 : x_C p s m args meth c D cl tys A H0 n ad (y_k w) cc nL own ret) (hinit : meth.name = "<init>") {Cn : String} {T : u_T} {N ci index b : Nat} (hin : ∀ w ∈ u_ws Cn T N, w ∈ lw_use) (ty0 : Nat → FieldType) (hty : ∀ k, k < N → parseFieldDescriptor (T k).2.2.1 = some (ty0 k)) (hnm : ∀ a, a < N → ∀ b, b < N → a ≠ b → (T a).2.1 ≠ (T b).2.1) (hc : cl[ci]? = some (Cn, T, N)) (k : Nat) (hk : k < N) (hlink : Cond.fieldLink own index (T k).1 (T k).2.1 (T k).2.2.1 ∈ lw_use) (hfin : (T k).2.2.2 = true) (hdecl : (T k).1 = own) {v : Value} (hn : narrow (ty0 k) v = v) (hfit : fits (ty0 k) v = true) {r : Nat} {fs : List Value} (hr : r < n) (hb : ad r = b) (hw : w r = .inr (ci, fs)) (hl9 : k < fs.length) (d : decode cc pc = .ok (.putfield index, 3))
    (K : x_C p s m args meth c D cl tys A H0 n ad (y_k (va_up w r (.inr (ci, fs.set k v)))) cc nL own ret → x_W p l e R s m args below meth c D cl A H0 n ad (y_k (va_up w r (.inr (ci, fs.set k v)))) nL kc ks Q σ (pc + 3) L st) : x_W p l e R s m args below meth c D cl A H0 n ad (y_k w) nL kc ks Q σ pc L (v :: .ref b :: st) := by
  subst hb
  exact fun H locs ls hl hP hS => va_putF C0.1.1 C0.1.2.1 C0.1.2.2.2.2 hin ty0 hty hnm C0.1.2.2.2.1 C0.2.1 hP (C0.2.2.1 σ) hS r (by rw [x_bl_get hr]; simp only [y_k]; rw [hw]) hc k hk (C0.1.2.2.2.2 _ hlink) (fun _ q => q) hfin hinit hdecl (hty k hk) hn hfit hl9 d (fun H1 locs1 hP1 hD1 hS1 => K (C0.re (y_loc _)) H1 locs1 ls hl (by rw [y_set hr] at hP1; exact hP1) hS1)
theorem y_aast (C0 : x_C p s m args meth c D cl tys A H0 n ad (y_k w) cc nL own ret) {cA : ClassId} {rc : vw_C} {nn ci a b : Nat} {vs : List Value} {f : Nat → Option Nat} (t0 : Nat) (ht : tys[t0]? = some (cA, .object rc.1)) {r rv : Nat} (hr : r < n) (hrv : rv < n) (ha : ad r = a) (hb : ad rv = b) (hw : w r = .inl (cA, nn, .inr (.inr (.inr (.inr f))))) (hwv : w rv = .inr (ci, vs)) (hc : cl[ci]? = some rc) {i : Int32} (hi : ¬ (i < 0 ∨ nn ≤ i.toNatClampNeg)) (d : decode cc pc = .ok (.aastore, 1))
    (K : x_C p s m args meth c D cl tys A H0 n ad (y_k (va_up w r (.inl (cA, nn, .inr (.inr (.inr (.inr (va_up f i.toNatClampNeg (some b))))))))) cc nL own ret → x_W p l e R s m args below meth c D cl A H0 n ad (y_k (va_up w r (.inl (cA, nn, .inr (.inr (.inr (.inr (va_up f i.toNatClampNeg (some b))))))))) nL kc ks Q σ (pc + 1) L st) : x_W p l e R s m args below meth c D cl A H0 n ad (y_k w) nL kc ks Q σ pc L (.ref b :: .int i :: .ref a :: st) := by
  subst ha
  subst hb
  exact fun H locs ls hl hP hS => va_astq C0.1.1 C0.1.2.1 C0.2.1 hP (C0.2.2.1 σ) hS r t0 rv ci (by rw [x_bl_get hr]; simp only [y_k]; rw [hw]) ht (by rw [x_bl_get hrv]; simp only [y_k]; rw [hwv]) hc hi d (fun H1 locs1 hP1 hD1 hS1 => K (C0.re (y_loc _)) H1 locs1 ls hl (by rw [y_set hr] at hP1; exact hP1) hS1)
theorem y_iast (C0 : x_C p s m args meth c D cl tys A H0 n ad (y_k w) cc nL own ret) {cA : ClassId} {nn a : Nat} {f : Nat → Int32} (t0 : Nat) (ht : tys[t0]? = some (cA, .int)) {r : Nat} (hr : r < n) (ha : ad r = a) (hw : w r = .inl (cA, nn, .inl f)) {i x : Int32} (hi : ¬ (i < 0 ∨ nn ≤ i.toNatClampNeg)) (d : decode cc pc = .ok (.iastore, 1))
    (K : x_C p s m args meth c D cl tys A H0 n ad (y_k (va_up w r (.inl (cA, nn, .inl (upd f i.toNatClampNeg x))))) cc nL own ret → x_W p l e R s m args below meth c D cl A H0 n ad (y_k (va_up w r (.inl (cA, nn, .inl (upd f i.toNatClampNeg x))))) nL kc ks Q σ (pc + 1) L st) : x_W p l e R s m args below meth c D cl A H0 n ad (y_k w) nL kc ks Q σ pc L (.int x :: .int i :: .ref a :: st) := by
  subst ha
  exact fun H locs ls hl hP hS => va_iast C0.1.1 C0.1.2.1 C0.2.1 hP (C0.2.2.1 σ) hS r t0 (by rw [x_bl_get hr]; simp only [y_k]; rw [hw]) ht hi d (fun H1 locs1 hP1 hD1 hS1 => K (C0.re (y_loc _)) H1 locs1 ls hl (by rw [y_set hr] at hP1; exact hP1) hS1)
theorem y_obj (C0 : x_C p s m args meth c D cl tys A H0 n ad wf cc nL own ret) {index b : Nat} (h1 : Cond.methodLink own index objectInit ∈ lw_use) (hR : 1 ≤ R.frames ∧ (st.map fun v => v.category).sum + 12 ≤ R.locals) (d : decode cc pc = .ok (.invokespecial index, 3)) (K : x_W p l e R s m args below meth c D cl A H0 n ad wf nL kc ks Q σ (pc + 3) L st) : x_W p l e R s m args below meth c D cl A H0 n ad wf nL kc ks Q σ pc L (.ref b :: st) :=
  fun H locs ls hl hP hS => W.objInit C0.1.1 C0.1.2.1 C0.1.2.2.2.1 (C0.1.2.2.2.2 _ h1) (C0.1.2.2.2.2 _ mw_57) (C0.1.2.2.2.2 _ mw_58) rfl (hl.1.trans C0.1.2.2.1.symm) rfl d hR.1 (show 2 * 0 + (st.map fun v => v.category).sum + 12 ≤ R.locals by have := hR.2; omega) (W.eq (g2 := F0 m (pc + 3) ls st) rfl (K H locs ls hl hP hS))
end YR
