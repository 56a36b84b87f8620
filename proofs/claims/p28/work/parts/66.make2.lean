/-! contracts of constructors *)  -/
/-- a constructor's end: a block of m cells, the object's first *)  -/
def y_Q (D : va_G) (cl : List vw_C) (m : Nat) (h0 : Nat) (sh : (Nat → Nat) → Nat → va_E) (A : Nat → Prop) : Array Value → State → Outcome → State → Prop := fun _ st oc t => (oc = .returned none ∧ ∃ ad : Nat → Nat, ad 0 = h0 ∧ va_P D cl (x_bl m ad (y_k (sh ad)) x_z) t.heap ∧ va_D A (x_bl m ad (y_k (sh ad)) x_z)) ∧ va_F A st t
def y_Met (l : Launch) (y : MethodName) (ws : List Cond) (rm : Room) (D : va_G) (cl : List vw_C) (tys : List (ClassId × FieldType)) (h0 : Nat) (e0 : va_E) (m : Nat) (sh : (Nat → Nat) → Nat → va_E) (As : List Value) (mc ms : Nat) : Prop :=
  ∀ sz : Nat, Met l y ws rm (va_Pc (.ref h0 :: As) (fun U => U.heap.size = sz ∧ va_P D cl (x_bl 1 (fun _ => h0) (y_k (fun _ => e0)) x_z) U.heap ∧ va_K D cl tys U ∧ x_N U ∧ y_O U)) (y_Q D cl m h0 sh (va_A (x_bl 1 (fun _ => h0) (y_k (fun _ => e0)) x_z) sz)) mc ms (va_A (x_bl 1 (fun _ => h0) (y_k (fun _ => e0)) x_z) sz)
def y_E (below : List Frame) (args : Array Value) (s : State) (D : va_G) (cl : List vw_C) (m : Nat) (h0 : Nat) (sh : (Nat → Nat) → Nat → va_E) (A : Nat → Prop) (mc ms : Nat) : State → Prop := MQ below (y_Q D cl m h0 sh A) args s mc ms A
theorem y_Met_of {l : Launch} {y : MethodName} {ws ws' : List Cond} {rm : Room} {D : va_G} {cl : List vw_C} {tys : List (ClassId × FieldType)} {h0 : Nat} {e0 : va_E} {m0 : Nat} {sh : (Nat → Nat) → Nat → va_E} {As : List Value} {mc ms : Nat} {cc : ByteArray} {nL : Nat} {L0 : List (Nat × Value)} {own : String}
    (hy : plainName y.cls = true) (hyn : y.name = "<init>") (hyo : y.cls = own) (hw : ws = Cond.code y cc nL none :: ws') (hn : (lg_sl (.ref h0 :: As)).length ≤ nL) (hL0 : lv_args 0 (.ref h0 :: As) = L0)
    (body : ∀ (p : Program) (e : Env) (s : State) (m : MethodId) (args : Array Value) (below : List Frame) (meth : Method) (c : Code) (A : Nat → Prop), x_C p s m args meth c D cl tys A s.heap 1 (fun _ => h0) (y_k (fun _ => e0)) cc nL own none → meth.name = "<init>" → y_O s → x_W p l e rm s m args below meth c D cl A s.heap 1 (fun _ => h0) (y_k (fun _ => e0)) nL 0 0 (y_E below args s D cl m0 h0 sh A mc ms) x_z 0 L0 []) :
    y_Met l y ws rm D cl tys h0 e0 m0 sh As mc ms := by
  intro sz
  refine Met.ofW (cc := cc) (maxL := nL) (ret := none) (ws' := ws') hy hw ?_
  intro p e s m args below meth c s₁ B hml hv
  obtain ⟨rfl, hsz, hP, hK, hN, hO⟩ := hv
  have hx := B.exec
  have hb := B.bytes
  have hr := B.returns
  have hown : s.vm.findClass own = some m.cls := by rw [← hyo]; exact findClass_of_methodNamed B.named
  have hlocks := B.notSynchronized
  have hin : meth.name = "<init>" := ((name_of_methodNamed B.named B.method).1).trans hyn
  subst hsz
  have hD : va_D (va_A (x_bl 1 (fun _ => h0) (y_k (fun _ => e0)) x_z) s.heap.size) (x_bl 1 (fun _ => h0) (y_k (fun _ => e0)) x_z) := by
    refine ⟨fun i j a b hi hj _ => ?_, fun k q hk => va_A.in hk⟩
    obtain ⟨h1, -⟩ := x_bl_mem hi
    obtain ⟨h2, -⟩ := x_bl_mem hj
    omega
  have hl := lv_entry (.ref h0 :: As) (n := nL) hn
  rw [lg_entry_eq]
  rw [hL0] at hl
  exact body p e s m _ below meth c (va_A (x_bl 1 (fun _ => h0) (y_k (fun _ => e0)) x_z) s.heap.size) ⟨⟨hx, hb, hml, hown, fun w hw => hN _ w hw⟩, hK, fun σ1 => x_bl_D hD, fun q h => Or.inr h, y_loc _, hlocks, hr, hN⟩ hin hO s.heap [] _ hl hP va_S.rf
section YR
variable {p : Program} {l : Launch} {e : Env} {R : Room} {s : State} {m : MethodId} {args : Array Value} {below : List Frame} {meth : Method} {c : Code} {D : va_G} {cl : List vw_C} {tys : List (ClassId × FieldType)} {A : Nat → Prop} {H0 : Heap} {n : Nat} {ad : Nat → Nat} {wf : xM → Nat → va_E} {w : Nat → va_E} {cc : ByteArray} {nL kc ks : Nat} {own : String} {ret : Option FieldType} {Q : State → Prop} {σ : xM} {pc : Nat} {L : List (Nat × Value)} {st : List Value}
theorem y_vret {h0 : Nat} {sh : (Nat → Nat) → Nat → va_E} {mc ms : Nat} (C0 : x_C p s m args meth c D cl tys A s.heap n ad wf cc nL own none) (ha : ad 0 = h0) (hw : ∀ r, r < n → wf σ r = sh ad r) (d : decode cc pc = .ok (.return_, 1)) : x_W p l e R s m args below meth c D cl A s.heap n ad wf nL mc ms (y_E below args s D cl n h0 sh A mc ms) σ pc L [] := by
  intro H locs ls hl hP hS
  have e9 : x_bl n ad wf σ = x_bl n ad (y_k (sh ad)) x_z := x_bl_congr hw
  have hD := C0.2.2.1 σ
  rw [e9] at hP hD
  exact W.vret C0.1.1 C0.1.2.1 C0.2.2.2.2.2.2.1 (fun t ht hW => ⟨⟨rfl, ad, ha, by subst ht; exact hP, hD⟩, hS.F ht⟩) hS.2.2 d C0.2.2.2.2.2.1
theorem y_callK {m' b mc ms : Nat} {e0 : va_E} {sh : (Nat → Nat) → Nat → va_E} {a : Array Value} {st0 : List Value} (C0 : x_C p s m args meth c D cl tys A H0 (n + 1) ad (y_k w) cc nL own ret) (hb : ad n = b) (hw : w n = e0) (hm : 1 ≤ m')
    (hrun : ∀ (H : Heap) (locs : List Loc) (ls : Array Slot), lv_has ls nL L → va_P D cl (x_bl 1 (fun _ => b) (y_k (fun _ => e0)) x_z) H → va_Run p l e R s m args below meth c H locs kc ks mc ms (F0 m pc ls st0) st (y_Q D cl m' b sh (va_A (x_bl 1 (fun _ => b) (y_k (fun _ => e0)) x_z) H.size) a) (va_A (x_bl 1 (fun _ => b) (y_k (fun _ => e0)) x_z) H.size))
    (K : ∀ ad', (∀ r, r < n → ad' r = ad r) → ad' n = b → x_C p s m args meth c D cl tys A H0 (n + m') ad' (y_k (fun r => if r < n then w r else sh (fun a => ad' (n + a)) (r - n))) cc nL own ret → x_W p l e R s m args below meth c D cl A H0 (n + m') ad' (y_k (fun r => if r < n then w r else sh (fun a => ad' (n + a)) (r - n))) nL (kc + mc) (ks + ms) Q σ (pc + 3) L st) : x_W p l e R s m args below meth c D cl A H0 (n + 1) ad (y_k w) nL kc ks Q σ pc L st0 := by
  intro H locs ls hl hP hS
  have hD := C0.2.2.1 σ
  have one : ∀ {k : Nat} {q : Nat × va_E}, (x_bl 1 (fun _ => b) (y_k (fun _ => e0)) x_z)[k]? = some q → q = (b, e0) := fun h => (x_bl_mem h).2
  have hPb := hP n _ (x_bl_get (by omega))
  have hPc : va_P D cl (x_bl 1 (fun _ => b) (y_k (fun _ => e0)) x_z) H := fun k q hq => by
    rw [one hq]
    simp only [y_k] at hPb
    rw [hb, hw] at hPb
    exact hPb
  have hbl : b < H.size := by
    have := hPb.lt
    simp only at this
    rw [hb] at this
    exact this
  have hAb : A b := by
    have := hD.2 n _ (x_bl_get (by omega))
    simp only at this
    rw [hb] at this
    exact this
  have hF : ∀ q, va_A (x_bl 1 (fun _ => b) (y_k (fun _ => e0)) x_z) H.size q → A q := fun q hq => by
    rcases hq with ⟨k, e9, hq⟩ | hq
    · have := (Prod.mk.inj (one hq)).1
      rw [this]
      exact hAb
    · exact C0.2.2.2.1 q (Nat.le_trans hS.1 hq)
  intro T hT X
  obtain ⟨v, st₀, t, T', L', h0, X', hL, e1, e2, ⟨⟨hv, ad1, a0, hb1, hd1⟩, hz, hk⟩, go⟩ := hrun H locs ls hl hPc T hT X
  cases hv
  rw [h0] at hz hk
  have new : ∀ r, 1 ≤ r → r < m' → H.size ≤ ad1 r := fun r h1 h2 => by
    rcases hd1.2 r _ (x_bl_get h2) with ⟨k, e9, hq⟩ | hq
    · have h3 := (Prod.mk.inj (one hq)).1
      have := hd1.1 r 0 _ _ (x_bl_get h2) (x_bl_get (by omega)) ((show ad1 r = b from h3).trans a0.symm)
      omega
    · exact hq
  have hS1 : va_S A H0 T'.heap (locs ++ L') := ⟨Nat.le_trans hS.1 (by rw [e1]; exact hz), fun q h1 h2 => by rw [e1, hk q (Nat.lt_of_lt_of_le h1 hS.1) (fun z => h2 (hF q z))]; exact hS.2.1 q h1 h2, fun q hq => by
      rcases List.mem_append.mp hq with h | h
      · exact hS.2.2 q h
      · exact hF _ (hL q h)⟩
  have lo : ∀ r, r < n → ad r < H.size ∧ ad r ≠ b := fun r hr => by
    have h1 := (hP r _ (x_bl_get (by omega))).lt
    refine ⟨h1, fun q => ?_⟩
    have := hD.1 r n _ _ (x_bl_get (by omega)) (x_bl_get (by omega)) (by simp only; rw [q, hb])
    omega
  obtain ⟨ad', hlo, hhi⟩ : ∃ ad' : Nat → Nat, (∀ r, r < n → ad' r = ad r) ∧ ∀ r, ad' (n + r) = ad1 r := ⟨fun r => if r < n then ad r else ad1 (r - n), fun r hr => if_pos hr, fun r => by
    simp only
    rw [if_neg (by omega), Nat.add_sub_cancel_left]⟩
  have es : (fun a => ad' (n + a)) = ad1 := funext hhi
  have cell : ∀ r, r < m' → (if n + r < n then w (n + r) else sh (fun a => ad' (n + a)) (n + r - n)) = sh ad1 r := fun r hr => by
    rw [if_neg (by omega), es, Nat.add_sub_cancel_left]
  have hP1 : va_P D cl (x_bl (n + m') ad' (y_k (fun r => if r < n then w r else sh (fun a => ad' (n + a)) (r - n))) σ) T'.heap := by
    intro k q hq
    obtain ⟨hkn, rfl⟩ := x_bl_mem hq
    by_cases c9 : k < n
    · have h1 := hP k _ (x_bl_get (by omega))
      simp only [y_k] at h1 ⊢
      rw [if_pos c9, hlo k c9]
      obtain ⟨g1, g2⟩ := lo k c9
      refine h1.kept ?_
      simp only
      rw [e1]
      refine hk _ g1 (fun z => ?_)
      rcases z with ⟨i, e9, z⟩ | z
      · exact g2 (Prod.mk.inj (one z)).1
      · exact Nat.lt_irrefl _ (Nat.lt_of_lt_of_le g1 z)
    · obtain ⟨r, rfl⟩ : ∃ r, k = n + r := ⟨k - n, by omega⟩
      have h := hb1 r _ (x_bl_get (by omega))
      simp only [y_k] at h ⊢
      rw [cell r (by omega), hhi, e1]
      exact h
  have hD1 : va_D A (x_bl (n + m') ad' (y_k (fun r => if r < n then w r else sh (fun a => ad' (n + a)) (r - n))) σ) := by
    have big : ∀ r, r < m' → ad' (n + r) = b ∧ r = 0 ∨ H.size ≤ ad' (n + r) := fun r hr => by
      by_cases c9 : r = 0
      · subst c9
        exact Or.inl ⟨by rw [hhi, a0], rfl⟩
      · exact Or.inr (by rw [hhi]; exact new r (by omega) hr)
    refine ⟨fun i j x y hi hj hxy => ?_, fun k q hq => ?_⟩
    · obtain ⟨hi, rfl⟩ := x_bl_mem hi
      obtain ⟨hj, rfl⟩ := x_bl_mem hj
      simp only at hxy
      by_cases c1 : i < n
      · have g1 := lo i c1
        rw [hlo i c1] at hxy
        by_cases c2 : j < n
        · rw [hlo j c2] at hxy
          exact hD.1 i j _ _ (x_bl_get (by omega)) (x_bl_get (by omega)) hxy
        · have g2 := big (j - n) (by omega)
          rw [show n + (j - n) = j by omega, ← hxy] at g2
          rcases g2 with g2 | g2
          · exact absurd g2.1 g1.2
          · omega
      · by_cases c2 : j < n
        · have g1 := lo j c2
          rw [hlo j c2] at hxy
          have g2 := big (i - n) (by omega)
          rw [show n + (i - n) = i by omega, hxy] at g2
          rcases g2 with g2 | g2
          · exact absurd g2.1 g1.2
          · omega
        · have := hd1.1 (i - n) (j - n) _ _ (x_bl_get (by omega)) (x_bl_get (by omega)) (by
            simp only
            rw [← hhi, ← hhi, show n + (i - n) = i by omega, show n + (j - n) = j by omega]
            exact hxy)
          omega
    · obtain ⟨hkn, rfl⟩ := x_bl_mem hq
      simp only
      by_cases c9 : k < n
      · rw [hlo k c9]
        exact hD.2 k _ (x_bl_get (by omega))
      · obtain ⟨r, rfl⟩ : ∃ r, k = n + r := ⟨k - n, by omega⟩
        rw [hhi]
        exact hF _ (hd1.2 r _ (x_bl_get (by omega)))
  obtain ⟨t2, a1, b1⟩ := K ad' hlo (by have := hhi 0; rw [Nat.add_zero] at this; rw [this, a0]) (C0.of (y_loc _) (fun σ1 => x_bl_D hD1)) T'.heap (locs ++ L') ls hl hP1 hS1 T' rfl X'
  exact ⟨t2, go t2 a1, b1⟩
theorem y_blind {av : List Value} {sz : Nat} {w : va_W} : FrameBlind (va_Pc av (fun U => U.heap.size = sz ∧ va_P D cl w U.heap ∧ va_K D cl tys U ∧ x_N U ∧ y_O U)) :=
  fun a U g mk q => by obtain ⟨q0, q1, qP, qK, qN, qO⟩ := q; exact ⟨q0, q1, qP, va_K.moved (u := U) (U := U.calling g mk a) (Vm.Alike.refl U.vm) qK, x_N_same (s := U) (U := U.calling g mk a) rfl qN, y_O.moved (u := U) (U := U.calling g mk a) (Vm.Alike.refl U.vm) qO⟩
theorem y_callN {m' b mc ms : Nat} {e0 : va_E} {sh : (Nat → Nat) → Nat → va_E} {As : List Value} {y : MethodName} {host : String} {bytes : ByteArray} {mxl index k9 : Nat} {rm : Room} (C0 : x_C p s m args meth c D cl tys A H0 (n + 1) ad (y_k w) cc nL own ret) (hO : y_O s) (hM : y_Met l y [Cond.code y bytes mxl none] rm D cl tys b e0 m' sh As mc ms) (m1 : Cond.methodLinkNest own index y host ∈ lw_use) (m2 : Cond.instanceMethod y ∈ lw_use) (m4 : Cond.initialized y.cls ∈ lw_use) (m5 : Cond.code y bytes mxl none ∈ lw_use) (hy : y.name = "<init>") (hd : y.cls ≠ "java/lang/invoke/MethodHandle" ∧ y.cls ≠ "java/lang/invoke/VarHandle" ∧ (parseMethodDescriptor y.desc).map (fun d => d.parameters.length) = some k9) (hR : rm.cells = mc ∧ rm.slots = ms ∧ rm.frames + 1 ≤ R.frames ∧ 8 + (mxl + 11) + rm.locals ≤ R.locals) (hn : As.length = k9) (hkk : kc + mc ≤ R.cells ∧ ks + ms ≤ R.slots) (hW : (st.map fun v => v.category).sum ≤ 8) (hb : ad n = b) (hw : w n = e0) (hm : 1 ≤ m') (d : decode cc pc = .ok (.invokespecial index, 3))
    (K : ∀ ad', (∀ r, r < n → ad' r = ad r) → ad' n = b → x_C p s m args meth c D cl tys A H0 (n + m') ad' (y_k (fun r => if r < n then w r else sh (fun a => ad' (n + a)) (r - n))) cc nL own ret → x_W p l e R s m args below meth c D cl A H0 (n + m') ad' (y_k (fun r => if r < n then w r else sh (fun a => ad' (n + a)) (r - n))) nL (kc + mc) (ks + ms) Q σ (pc + 3) L st) : x_W p l e R s m args below meth c D cl A H0 (n + 1) ad (y_k w) nL kc ks Q σ pc L (As.reverse ++ .ref b :: st) :=
  y_callK C0 hb hw hm (fun H locs ls hl hPc => va_runIN C0.1 (hM H.size) ⟨va_cnB k9 C0.1.2.2.2.2 (x_gi1 m5) rfl hR.1 hR.2.1 (C0.2.2.2.2.2.2.2 #[] _ m1) (C0.1.2.2.2.2 _ m4) hd hR.2.2, hy, C0.1.2.2.2.2 _ m2⟩ ⟨y_blind, fun U hU hW => ⟨rfl, by rw [hU], by rw [hU]; exact hPc, va_K.moved hW.alike C0.2.1, x_N_warm hW C0.2.2.2.2.2.2.2, y_O.moved hW.alike hO⟩⟩ rfl hn hl.1 rfl (lv_room hW) d hkk) K
theorem y_callI {m' b mc ms : Nat} {e0 : va_E} {sh : (Nat → Nat) → Nat → va_E} {As : List Value} {y : MethodName} {bytes : ByteArray} {mxl index k9 : Nat} {rm : Room} (C0 : x_C p s m args meth c D cl tys A H0 (n + 1) ad (y_k w) cc nL own ret) (hO : y_O s) (hM : y_Met l y [Cond.code y bytes mxl none] rm D cl tys b e0 m' sh As mc ms) (m1 : Cond.methodLink own index y ∈ lw_use) (m2 : Cond.instanceMethod y ∈ lw_use) (m4 : Cond.initialized y.cls ∈ lw_use) (m5 : Cond.code y bytes mxl none ∈ lw_use) (hy : y.name = "<init>") (hd : y.cls ≠ "java/lang/invoke/MethodHandle" ∧ y.cls ≠ "java/lang/invoke/VarHandle" ∧ (parseMethodDescriptor y.desc).map (fun d => d.parameters.length) = some k9) (hR : rm.cells = mc ∧ rm.slots = ms ∧ rm.frames + 1 ≤ R.frames ∧ 8 + (mxl + 11) + rm.locals ≤ R.locals) (hn : As.length = k9) (hkk : kc + mc ≤ R.cells ∧ ks + ms ≤ R.slots) (hW : (st.map fun v => v.category).sum ≤ 8) (hb : ad n = b) (hw : w n = e0) (hm : 1 ≤ m') (d : decode cc pc = .ok (.invokespecial index, 3))
    (K : ∀ ad', (∀ r, r < n → ad' r = ad r) → ad' n = b → x_C p s m args meth c D cl tys A H0 (n + m') ad' (y_k (fun r => if r < n then w r else sh (fun a => ad' (n + a)) (r - n))) cc nL own ret → x_W p l e R s m args below meth c D cl A H0 (n + m') ad' (y_k (fun r => if r < n then w r else sh (fun a => ad' (n + a)) (r - n))) nL (kc + mc) (ks + ms) Q σ (pc + 3) L st) : x_W p l e R s m args below meth c D cl A H0 (n + 1) ad (y_k w) nL kc ks Q σ pc L (As.reverse ++ .ref b :: st) :=
  y_callK C0 hb hw hm (fun H locs ls hl hPc => va_runI C0.1 (hM H.size) ⟨callB_of k9 C0.1.2.2.2.2 (x_gi1 m5) rfl hR.1 hR.2.1 (C0.1.2.2.2.2 _ m4) (C0.1.2.2.2.2 _ m1) hd hR.2.2, hy, C0.1.2.2.2.2 _ m2⟩ ⟨y_blind, fun U hU hW => ⟨rfl, by rw [hU], by rw [hU]; exact hPc, va_K.moved hW.alike C0.2.1, x_N_warm hW C0.2.2.2.2.2.2.2, y_O.moved hW.alike hO⟩⟩ rfl hn hl.1 rfl (lv_room hW) d hkk) K
end YR
