/-! learning, fetching ahead, an access over the lists -/
theorem C_near {τ : xM} {a : xA} (h : CRep τ a) {h0 : Nat} (hh : h0 < 6) (n : Nat) (x : Int32) : ∀ (f i : Nat), i ≤ (aG a h0).length → i < f → B_X0_streamNear_10 n τ (21 + 4 * h0) f x (nI i - 1) = some (match lastK x (aG a h0) i with | none => -100005 | some w => nI w) := by
  obtain ⟨g1, g2, g3⟩ := gr_G h0 hh
  have hs := SF_G h0 hh
  have hc := h.2.2.2.2.1 h0 hh
  have hl4 : (aG a h0).length ≤ 4 := hc.2.2.2.1
  intro f
  induction f with
  | zero => intro i _ h1; omega
  | succ f ih =>
    intro i hi hf
    show (if nI i - 1 < 0 then _ else _) = _
    cases i with
    | zero =>
      rw [if_pos (by decide)]
      rfl
    | succ i =>
      obtain ⟨r, hr⟩ : ∃ r, (aG a h0)[i]? = some r := ⟨_, List.getElem?_eq_getElem hi⟩
      have e1 : F_X1_get n τ (22 + 4 * h0) (nI i) 1 = some (r 1) := C_get (j := 1) hc hs n hr (by decide)
      rw [nI_pred, if_neg (nI_pos (by omega)), g1, Option.bind_some, e1, Option.bind_some]
      have en : nI i + -1 = nI i - 1 := by
        cases i with
        | zero => rfl
        | succ j => rw [nI_pred, pk_m1]
      have key : B_X0_streamNear_41 n τ (21 + 4 * h0) (fun l1 l2 => B_X0_streamNear_10 n τ (21 + 4 * h0) f l1 l2) x (nI i) = some (match lastK x (aG a h0) i with | none => -100005 | some w => nI w) := by
        unfold B_X0_streamNear_41
        rw [en]
        exact ih i (by omega) (by omega)
      have el : lastK x (aG a h0) (i + 1) = if nearB x r then some i else lastK x (aG a h0) i := by
        show (match (aG a h0)[i]? with | some r => if nearB x r then some i else lastK x (aG a h0) i | none => lastK x (aG a h0) i) = _
        rw [hr]
      by_cases q : ¬ x - r 1 = 0 ∧ -4 ≤ x - r 1 ∧ x - r 1 ≤ 4
      · have q2 := (near_abs _).mpr q
        have en2 : nearB x r = true := decide_eq_true q
        rw [if_neg q2.1, if_neg q2.2, el, en2, if_pos rfl]
      · have en2 : nearB x r = false := decide_eq_false q
        rw [el, en2, if_neg (show ¬ (false = true) by decide), ← key]
        by_cases c1 : jabs (x - r 1) < 1
        · rw [if_pos c1]
        · rw [if_neg c1]
          by_cases c2 : 4 < jabs (x - r 1)
          · rw [if_pos c2]
          · exact absurd ((near_abs _).mp ⟨c1, c2⟩) q
theorem lastK_lt {x : Int32} {G : List xR} : ∀ {k w : Nat}, lastK x G k = some w → w < k ∧ w < G.length := by
  intro k
  induction k with
  | zero => intro w h; cases h
  | succ k ih =>
    intro w h
    unfold lastK at h
    cases hr : G[k]? with
    | none =>
      rw [hr] at h
      obtain ⟨h1, h2⟩ := ih h
      exact ⟨by omega, h2⟩
    | some r =>
      rw [hr] at h
      have h' : (if nearB x r then some k else lastK x G k) = some w := h
      by_cases q : nearB x r = true
      · rw [if_pos q] at h'
        cases h'
        exact ⟨Nat.lt_succ_self _, lt_of_get hr⟩
      · rw [if_neg q] at h'
        obtain ⟨h1, h2⟩ := ih h'
        exact ⟨by omega, h2⟩
/-- what an update of a row asks for -/
theorem C_asks {τ : xM} {a : xA} {B : Nat} (h : CRep τ a) (I : Inv B a) {h0 : Nat} (hh : h0 < aC a 2) {n : Nat} (hn : 20 < n) (l : Nat) (st : Int32) {t : Nat} (ht : t ≤ 9) (hst : 1 < t → st ≠ 0) (hw : WR τ h0 []) : ∃ τ', (if nI t < 2 then some τ else F_X0_wish n τ (21 + 4 * h0) (nI l) st) = some τ' ∧ WR τ' h0 (if (if 1 < nI t then st else 0) = 0 then [] else asks l (if 1 < nI t then st else 0) (sReach a h0)) ∧ FW h0 τ τ' := by
  by_cases q : 1 < t
  · have q2 : (1 : Int32) < nI t := nI_lt (a := 1) q (by omega)
    rw [if_neg (show ¬ nI t < (2 : Int32) from nI_nlt (a := t) (b := 2) (by omega) (by omega)), if_pos q2, if_neg (hst q)]
    exact C_wish h I hh hn l st hw
  · have q2 : ¬ (1 : Int32) < nI t := nI_nlt (a := 1) (by omega) (by omega)
    rw [if_pos (show nI t < (2 : Int32) from nI_lt (b := 2) (by omega) (by omega)), if_neg q2, if_pos rfl]
    exact ⟨τ, rfl, hw, FW.rfl⟩
def FL (h : Nat) (τ τ' : xM) : Prop := ∀ b, b ≠ 21 + 4 * h → b ≠ 22 + 4 * h → b ≠ 23 + 4 * h → b ≠ 24 + 4 * h → τ' b = τ b
theorem C_learnStride {τ : xM} {a : xA} {B : Nat} (h : CRep τ a) (I : Inv B a) {h0 : Nat} (hh : h0 < aC a 2) {n : Nat} (hn : 20 < n) {p l o : Nat} (hk : aH a h0 0 = 0) (hp : p < 16) (hw : WR τ h0 []) : ∃ τ', F_X0_learnStride n τ (21 + 4 * h0) (nI p) (nI l) = some τ' ∧ CRep τ' (sLearn a h0 p l o).2 ∧ WR τ' h0 (sAsk a h0 p l o) ∧ FL h0 τ τ' := by
  have h6 := I.hn
  have hh6 : h0 < 6 := by omega
  obtain ⟨g1, g2, g3⟩ := gr_G h0 hh6
  have hs := SF_G h0 hh6
  have hc := h.2.2.2.2.1 h0 hh6
  obtain ⟨i1, i2, i3⟩ := (I.2.2.2.2.1 h0 hh).1 hk
  unfold F_X0_learnStride
  rw [g1, Option.bind_some, C_find hc hs hn, Option.bind_some]
  have I1 := Inv_learn (l := l) (o := o) I hh hp
  cases hr : (aG a h0)[kIdx (aG a h0) (nI p)]? with
  | none =>
    have q : ¬ kIdx (aG a h0) (nI p) < (aG a h0).length := fun q => by
      rw [List.getElem?_eq_getElem q] at hr
      cases hr
    have es : sLearn a h0 p l o = (0, sNew a h0 4 (nI p) (nI l)) := by
      unfold sLearn
      rw [if_pos hk, hr]
    obtain ⟨τ1, e1, c1, f1⟩ := C_addRow h h6 hh6 hn (m := 4) (by decide) (by decide) i1 (nI p) (nI l)
    rw [if_neg q, if_pos (by decide)]
    refine ⟨τ1, ?_, by rw [es]; exact c1, ?_, fun b b1 b2 b3 b4 => f1 b b2 (by omega)⟩
    · show ((F_X0_addRow n τ (21 + 4 * h0) (nI 4) (nI p) (nI l)).bind _) = _
      rw [e1, Option.bind_some]
    · unfold sAsk
      rw [es, if_pos rfl]
      exact f1.wr hw
  | some r =>
    have q := lt_of_get hr
    have hl4 : (aG a h0).length ≤ 4 := i1
    obtain ⟨m1, ⟨t, ht, et⟩, m3⟩ := i2 r (List.mem_of_getElem? hr)
    obtain ⟨⟨t', ht', et'⟩, s2⟩ := stride_ok (line := nI l) ⟨t, ht, et⟩ m3
    have es : sLearn a h0 p l o = (if 1 < (sStride (nI l) r).2 then (sStride (nI l) r).1 else 0, sMove a h0 (kIdx (aG a h0) (nI p)) r (nI l) (sStride (nI l) r).1 (sStride (nI l) r).2) := by
      unfold sLearn
      rw [if_pos hk, hr]
    have e1 : F_X1_get n τ (22 + 4 * h0) (nI (kIdx (aG a h0) (nI p))) 1 = some (r 1) := C_get (j := 1) hc hs n hr (by decide)
    have e2 : F_X1_get n τ (22 + 4 * h0) (nI (kIdx (aG a h0) (nI p))) 2 = some (r 2) := C_get (j := 2) hc hs n hr (by decide)
    have e3 : F_X1_get n τ (22 + 4 * h0) (nI (kIdx (aG a h0) (nI p))) 3 = some (r 3) := C_get (j := 3) hc hs n hr (by decide)
    obtain ⟨τ1, eu, c1, f1⟩ := C_updateRow h h6 hh6 hn hr (nI l) (sStride (nI l) r).1 (sStride (nI l) r).2
    rw [es] at I1
    obtain ⟨τ2, e9, w9, f9⟩ := C_asks c1 I1 (h0 := h0) hh hn l (sStride (nI l) r).1 (t := t') (by omega) (fun q => s2 (by
      rw [et']
      intro e
      rw [show (0 : Int32) = nI 0 from rfl, nI_eq (by omega) (by omega)] at e
      omega)) (f1.wr hw)
    have key : F_X0_updateRow n τ (21 + 4 * h0) (nI (kIdx (aG a h0) (nI p))) (nI l) (sStride (nI l) r).1 (sStride (nI l) r).2 = some τ2 := by
      rw [eu, et']
      exact e9
    rw [if_pos q, if_neg (nI_pos (by omega)), Option.bind_some, e1, Option.bind_some, Option.bind_some, e2, Option.bind_some, Option.bind_some, e3, Option.bind_some]
    refine ⟨τ2, ?_, by rw [es]; exact c1.FW h6 hh6 f9, ?_, fun b b1 b2 b3 b4 => (f9.1 b b1 b4).trans (f1 b b2 (by omega))⟩
    · have k105 : ∀ st tr, st = (sStride (nI l) r).1 → tr = (sStride (nI l) r).2 → B_X0_learnStride_105 n (21 + 4 * h0) τ (nI l) (nI (kIdx (aG a h0) (nI p))) st tr = some τ2 := fun st tr h1 h2 => by
        unfold B_X0_learnStride_105
        rw [h1, h2, key, Option.bind_some]
      have k81 : ¬ (nI l - r 1 = r 2 ∧ ¬ nI l - r 1 = 0) → B_X0_learnStride_81 n (21 + 4 * h0) τ (nI l) (nI (kIdx (aG a h0) (nI p))) (nI l - r 1) (r 2) (r 3) = some τ2 := fun hne => by
        have es1 : sStride (nI l) r = (if (if 0 < r 3 then r 3 - 1 else r 3) = 0 then nI l - r 1 else r 2, if 0 < r 3 then r 3 - 1 else r 3) := by
          unfold sStride
          simp only [if_neg hne]
        have ej : jmax (0 : Int32) (r 3 - 1) = if 0 < r 3 then r 3 - 1 else r 3 := by
          rw [et]
          exact jmax0 t (by omega)
        unfold B_X0_learnStride_81 B_X0_learnStride_103
        rw [ej]
        by_cases c : (if 0 < r 3 then r 3 - 1 else r 3) = 0
        · rw [if_pos c]
          exact k105 _ _ (by rw [es1]; exact (if_pos c).symm) (by rw [es1])
        · rw [if_neg c]
          exact k105 _ _ (by rw [es1]; exact (if_neg c).symm) (by rw [es1])
      by_cases c1 : nI l - r 1 = r 2
      · rw [if_pos c1]
        by_cases c2 : nI l - r 1 = 0
        · rw [if_pos c2]
          exact k81 (fun e => e.2 c2)
        · rw [if_neg c2]
          have es1 : sStride (nI l) r = (r 2, if r 3 < 3 then r 3 + 1 else r 3) := by
            unfold sStride
            simp only [if_pos (show nI l - r 1 = r 2 ∧ ¬ nI l - r 1 = 0 from ⟨c1, c2⟩)]
          exact k105 _ _ (by rw [es1]) (by rw [es1, et]; exact jmin3 t (by omega))
      · rw [if_neg c1]
        exact k81 (fun e => c1 e.1)
    · unfold sAsk
      rw [es]
      show WR τ2 h0 (if (if 1 < (sStride (nI l) r).2 then (sStride (nI l) r).1 else 0) = 0 then [] else asks l (if 1 < (sStride (nI l) r).2 then (sStride (nI l) r).1 else 0) _)
      rw [et']
      rw [et'] at w9
      exact w9
theorem C_learnStream {τ : xM} {a : xA} {B : Nat} (h : CRep τ a) (I : Inv B a) {h0 : Nat} (hh : h0 < aC a 2) {n : Nat} (hn : 20 < n) {p l o : Nat} (hk : aH a h0 0 = 1) (hp : p < 16) (ho : o ≠ 1) (hw : WR τ h0 []) : ∃ τ', F_X0_learnStream n τ (21 + 4 * h0) (nI l) = some τ' ∧ CRep τ' (sLearn a h0 p l o).2 ∧ WR τ' h0 (sAsk a h0 p l o) ∧ FL h0 τ τ' := by
  have h6 := I.hn
  have hh6 : h0 < 6 := by omega
  obtain ⟨g1, g2, g3⟩ := gr_G h0 hh6
  have hs := SF_G h0 hh6
  have hc := h.2.2.2.2.1 h0 hh6
  have hl4 : (aG a h0).length ≤ 4 := hc.2.2.2.1
  obtain ⟨i1, i2⟩ := (I.2.2.2.2.1 h0 hh).2.1 hk
  have hk0 : ¬ aH a h0 0 = 0 := by omega
  have I1 := Inv_learn (l := l) (o := o) I hh hp
  have en : F_X0_streamNear n τ (21 + 4 * h0) (nI l) = some (match lastN (nI l) (aG a h0) with | none => -100005 | some w => nI w) := by
    unfold F_X0_streamNear
    rw [g1, Option.bind_some, hc.2.2.1]
    exact C_near h hh6 n (nI l) n (aG a h0).length (Nat.le_refl _) (by omega)
  unfold F_X0_learnStream
  rw [en, Option.bind_some]
  cases hq : lastN (nI l) (aG a h0) with
  | none =>
    have es : sLearn a h0 p l o = (0, sNew a h0 3 (-100005) (nI l)) := by
      unfold sLearn
      rw [if_neg hk0, if_pos hk, if_neg ho, hq]
    obtain ⟨τ1, e1, c1, f1⟩ := C_addRow h h6 hh6 hn (m := 3) (by decide) (by decide) i1 (-100005) (nI l)
    show ∃ τ', (if (-100005 : Int32) < 0 then _ else _) = some τ' ∧ _
    rw [if_pos (by decide)]
    refine ⟨τ1, ?_, by rw [es]; exact c1, ?_, fun b b1 b2 b3 b4 => f1 b b2 (by omega)⟩
    · show ((F_X0_addRow n τ (21 + 4 * h0) (nI 3) (-100005) (nI l)).bind _) = _
      rw [e1, Option.bind_some]
    · unfold sAsk
      rw [es, if_pos rfl]
      exact f1.wr hw
  | some w =>
    have hwl := (lastK_lt hq).2
    obtain ⟨r, hr⟩ : ∃ r, (aG a h0)[w]? = some r := ⟨_, List.getElem?_eq_getElem hwl⟩
    obtain ⟨m1, ⟨t, ht, et⟩⟩ := i2 r (List.mem_of_getElem? hr)
    obtain ⟨⟨t', ht', et'⟩, s2⟩ := stream_ok (line := nI l) ⟨t, ht, et⟩
    have es : sLearn a h0 p l o = (if 1 < (sStream (nI l) r).2 then (sStream (nI l) r).1 else 0, sMove a h0 w r (nI l) (sStream (nI l) r).1 (sStream (nI l) r).2) := by
      unfold sLearn
      rw [if_neg hk0, if_pos hk, if_neg ho, hq]
      show (match (aG a h0)[w]? with | none => _ | some r => _ : Int32 × xA) = _
      rw [hr]
    have e1 : F_X1_get n τ (22 + 4 * h0) (nI w) 1 = some (r 1) := C_get (j := 1) hc hs n hr (by decide)
    have e2 : F_X1_get n τ (22 + 4 * h0) (nI w) 2 = some (r 2) := C_get (j := 2) hc hs n hr (by decide)
    have e3 : F_X1_get n τ (22 + 4 * h0) (nI w) 3 = some (r 3) := C_get (j := 3) hc hs n hr (by decide)
    obtain ⟨τ1, eu, c1, f1⟩ := C_updateRow h h6 hh6 hn hr (nI l) (sStream (nI l) r).1 (sStream (nI l) r).2
    rw [es] at I1
    obtain ⟨τ2, e9, w9, f9⟩ := C_asks c1 I1 (h0 := h0) hh hn l (sStream (nI l) r).1 (t := t') ht' (fun _ => s2) (f1.wr hw)
    have key : F_X0_updateRow n τ (21 + 4 * h0) (nI w) (nI l) (sStream (nI l) r).1 (sStream (nI l) r).2 = some τ2 := by
      rw [eu, et']
      exact e9
    show ∃ τ', (if nI w < 0 then _ else _) = some τ' ∧ _
    rw [if_neg (nI_pos (by omega)), g1, Option.bind_some, e1, Option.bind_some]
    refine ⟨τ2, ?_, by rw [es]; exact c1.FW h6 hh6 f9, ?_, fun b b1 b2 b3 b4 => (f9.1 b b1 b4).trans (f1 b b2 (by omega))⟩
    · have k37 : ∀ way, way = (sStream (nI l) r).1 → B_X0_learnStream_37 n (21 + 4 * h0) τ (nI l) (nI w) way = some τ2 := fun way hway => by
        have es2 : (sStream (nI l) r).2 = if way = r 2 then (if r 3 < 9 then r 3 + 1 else 9) else 1 := by
          rw [hway]
          rfl
        unfold B_X0_learnStream_37 B_X0_learnStream_72
        rw [g1, Option.bind_some, e2, Option.bind_some]
        by_cases c : way = r 2
        · rw [if_pos c, Option.bind_some, e3, Option.bind_some]
          have ej : jmin (9 : Int32) (r 3 + 1) = (sStream (nI l) r).2 := by
            rw [es2, if_pos c, et]
            exact jmin9 t (by omega)
          rw [ej, hway, key, Option.bind_some]
        · rw [if_neg c]
          have ej : (1 : Int32) = (sStream (nI l) r).2 := by rw [es2, if_neg c]
          rw [ej, hway, key, Option.bind_some]
      by_cases c : r 1 < nI l
      · rw [if_pos c]
        exact k37 1 (by
          show (1 : Int32) = if r 1 < nI l then 1 else -1
          rw [if_pos c])
      · rw [if_neg c]
        exact k37 (-1) (by
          show (-1 : Int32) = if r 1 < nI l then 1 else -1
          rw [if_neg c])
    · unfold sAsk
      rw [es]
      show WR τ2 h0 (if (if 1 < (sStream (nI l) r).2 then (sStream (nI l) r).1 else 0) = 0 then [] else asks l (if 1 < (sStream (nI l) r).2 then (sStream (nI l) r).1 else 0) _)
      rw [et']
      rw [et'] at w9
      exact w9
theorem C_learn {τ : xM} {a : xA} {B : Nat} (h : CRep τ a) (I : Inv B a) {h0 : Nat} (hh : h0 < aC a 2) {n : Nat} (hn : 20 < n) {p l o : Nat} (hp : p < 16) (ho : o < 3) : ∃ τ', F_X0_learn n τ (21 + 4 * h0) (nI p) (nI l) (nI o) = some τ' ∧ CRep τ' (sLearn a h0 p l o).2 ∧ WR τ' h0 (sAsk a h0 p l o) ∧ FL h0 τ τ' := by
  have h6 := I.hn
  have hh6 : h0 < 6 := by omega
  have f0 : FW h0 τ (x_up τ (21 + 4 * h0) 2 0) := ⟨fun b b1 _ => x_up_row' b1, fun j hj => x_up_off hj⟩
  have c0 := h.FW h6 hh6 f0
  have w0 : WR (x_up τ (21 + 4 * h0) 2 0) h0 [] := ⟨x_up_at, by decide, fun i w hi => by simp at hi⟩
  have e3 : x_up τ (21 + 4 * h0) 2 0 (21 + 4 * h0) 3 = nI (aH a h0 0) := c0.f hh 0 (by decide)
  have hk2 := (I.2.2.2.1 h0 hh).1
  have fl0 : ∀ {τ'}, FL h0 (x_up τ (21 + 4 * h0) 2 0) τ' → FL h0 τ τ' := fun f b b1 b2 b3 b4 => (f b b1 b2 b3 b4).trans (x_up_row' b1)
  unfold F_X0_learn
  show ∃ τ', (if x_up τ (21 + 4 * h0) 2 0 (21 + 4 * h0) 3 = 0 then ((F_X0_learnStride n (x_up τ (21 + 4 * h0) 2 0) (21 + 4 * h0) (nI p) (nI l)).bind fun q2 => some q2) else if x_up τ (21 + 4 * h0) 2 0 (21 + 4 * h0) 3 = 1 then (if nI o = 1 then some (x_up τ (21 + 4 * h0) 2 0) else ((F_X0_learnStream n (x_up τ (21 + 4 * h0) 2 0) (21 + 4 * h0) (nI l)).bind fun q3 => some q3)) else (if nI o = 0 then ((F_X0_wish n (x_up τ (21 + 4 * h0) 2 0) (21 + 4 * h0) (nI l) 1).bind fun q4 => some q4) else some (x_up τ (21 + 4 * h0) 2 0))) = some τ' ∧ _
  rw [e3]
  by_cases q : aH a h0 0 = 0
  · obtain ⟨τ', e, c, w, f⟩ := C_learnStride (o := o) (l := l) c0 I hh hn q hp w0
    rw [if_pos (by rw [q]; rfl), e, Option.bind_some]
    exact ⟨τ', rfl, c, w, fl0 f⟩
  · rw [if_neg (show ¬ nI (aH a h0 0) = (0 : Int32) from fun e => q ((nI_eq (b := 0) (by omega) (by omega)).mp e))]
    by_cases q1 : aH a h0 0 = 1
    · rw [if_pos (by rw [q1]; rfl)]
      by_cases q2 : o = 1
      · rw [if_pos (by rw [q2]; rfl)]
        have es : sLearn a h0 p l o = (0, a) := by
          unfold sLearn
          rw [if_neg q, if_pos q1, if_pos q2]
        refine ⟨_, rfl, by rw [es]; exact c0, ?_, fl0 (fun _ _ _ _ _ => rfl)⟩
        unfold sAsk
        rw [es, if_pos rfl]
        exact w0
      · rw [if_neg (show ¬ nI o = (1 : Int32) from fun e => q2 ((nI_eq (b := 1) (by omega) (by omega)).mp e))]
        obtain ⟨τ', e, c, w, f⟩ := C_learnStream (p := p) (l := l) c0 I hh hn q1 hp q2 w0
        rw [e, Option.bind_some]
        exact ⟨τ', rfl, c, w, fl0 f⟩
    · rw [if_neg (show ¬ nI (aH a h0 0) = (1 : Int32) from fun e => q1 ((nI_eq (b := 1) (by omega) (by omega)).mp e))]
      have es : sLearn a h0 p l o = (if o = 0 then 1 else 0, a) := by
        unfold sLearn
        rw [if_neg q, if_neg q1]
      by_cases q2 : o = 0
      · rw [if_pos (by rw [q2]; rfl)]
        obtain ⟨τ', e, w, f⟩ := C_wish c0 I hh hn l 1 w0
        rw [e, Option.bind_some]
        refine ⟨τ', rfl, by rw [es]; exact c0.FW h6 hh6 f, ?_, fl0 (fun b b1 _ _ b4 => f.1 b b1 b4)⟩
        unfold sAsk
        rw [es, if_pos q2]
        show WR τ' h0 (if (1 : Int32) = 0 then [] else asks l 1 (sReach a h0))
        rw [if_neg (by decide)]
        exact w
      · rw [if_neg (show ¬ nI o = (0 : Int32) from fun e => q2 ((nI_eq (b := 0) (by omega) (by omega)).mp e))]
        refine ⟨_, rfl, by rw [es]; exact c0, ?_, fl0 (fun _ _ _ _ _ => rfl)⟩
        unfold sAsk
        rw [es, if_neg q2]
        show WR _ h0 (if (0 : Int32) = 0 then [] else _)
        rw [if_pos rfl]
        exact w0
