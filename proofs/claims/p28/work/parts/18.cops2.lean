/-! State's methods over the lists: throwing out, fetching, serving -/
theorem C_out1 {τ : xM} {a : xA} (h : CRep τ a) {s : Nat} (hs : s < 8) {r : xR} {l : List xR} (hS : aS a s = r :: l) (hT : (aT a).length ≤ 8) {n : Nat} (hn : 20 < n) (x by_ : Int32) : ∃ τ', (∀ (K : xM → Option xM), ((F_X1_remove n τ (2 + 2 * s) (0 : Int32)).bind fun q0 => (F_X1_open n q0 18 (8 : Int32)).bind fun q1 => (F_X1_put n q1.2 18 q1.1 (0 : Int32) x).bind fun q2 => (F_X1_put n q2 18 q1.1 (1 : Int32) by_).bind K) = K τ') ∧ CRep τ' (wT (wS a (va_up (aS a) s l)) (pushL 8 (aT a) ++ [row2 x by_])) ∧ WF τ τ' := by
  have hc := h.2.1 s hs
  rw [hS] at hc
  obtain ⟨τ1, e1, f1, c1⟩ := C_remove (w := 0) hc (SF_S s hs) hn (Nat.succ_pos _)
  have h1 : CRep τ1 (wS a (va_up (aS a) s l)) := h.setS hs f1 c1
  obtain ⟨τ2, e2, f2, c2⟩ := C_push2 h1.2.2.1 SF_T hn (m := 8) (by decide) (by decide) hT x by_
  refine ⟨τ2, fun K => ?_, h1.setT f2 c2, (WF.fr f1 (by omega)).trans (WF.fr f2 (by omega))⟩
  show ((F_X1_remove n τ (2 + 2 * s) (nI 0)).bind _) = _
  rw [e1, Option.bind_some]
  exact e2 K
theorem C_outs {τ : xM} {a : xA} (h : CRep τ a) : x_up τ 0 12 (τ 0 12 + 1) = x_up τ 0 (4 + 8) (nI (aC a 8 + 1)) := by
  have e : τ 0 12 = nI (aC a 8) := h.c 8 (by decide)
  rw [e, nI_1]
theorem WF.c {τ : xM} {k : Nat} {v : Int32} : WF τ (x_up τ 0 k v) := fun h hh => ⟨x_up_row' (by omega), by rw [x_up_row' (by omega)]⟩
theorem C_throw {τ : xM} {a : xA} (h : CRep τ a) (I : InvC a) {s : Nat} (hs : s < 8) {r : xR} {l : List xR} (hS : aS a s = r :: l) (hr : okBy (aC a 2) (r 1)) (hT : (aT a).length ≤ 8) {n : Nat} (hn : 20 < n) (by_ : Int32) : ∃ τ', F_X2_throwOldest n τ (2 + 2 * s) by_ = some τ' ∧ CRep τ' (sOut a s by_) ∧ WF τ τ' := by
  have hc := h.2.1 s hs
  rw [hS] at hc
  have h6 := I.2.2.2.2.1
  have e0 : F_X1_get n τ (2 + 2 * s) 0 0 = some (r 0) := C_get (w := 0) (j := 0) hc (SF_S s hs) n rfl (by decide)
  have e1 : F_X1_get n τ (2 + 2 * s) 0 1 = some (r 1) := C_get (w := 0) (j := 1) hc (SF_S s hs) n rfl (by decide)
  have e2 : F_X1_get n τ (2 + 2 * s) 0 2 = some (r 2) := C_get (w := 0) (j := 2) hc (SF_S s hs) n rfl (by decide)
  obtain ⟨eb, pb⟩ := C_by h I n hr
  obtain ⟨τ1, eK, c1, w1⟩ := C_out1 h hs hS hT hn (r 0) by_
  have c2 : CRep (x_up τ1 0 12 (τ1 0 12 + 1)) (sOut1 a s r l by_) := by
    rw [C_outs c1]
    exact c1.setC (by decide)
  have w2 := w1.trans (WF.c (τ := τ1) (k := 12) (v := τ1 0 12 + 1))
  unfold F_X2_throwOldest
  rw [e0, Option.bind_some, e1, Option.bind_some, eb, Option.bind_some]
  cases hb : bid (r 1) with
  | none =>
    have key : ∀ s0, B_X2_throwOldest_34n4 n τ (2 + 2 * s) by_ (r 0) s0 = some (x_up τ1 0 12 (τ1 0 12 + 1)) := fun s0 => by
      unfold B_X2_throwOldest_34n4
      refine (eK _).trans ?_
      by_cases q : s0 = 0
      · exact if_pos q
      · exact if_neg q
    have es : sOut a s by_ = sOut1 a s r l by_ := by
      unfold sOut
      rw [hS]
      show (if r 2 = 1 then _ else _) = _
      rw [hb]
      by_cases q : r 2 = 1
      · exact if_pos q
      · exact if_neg q
    rw [es]
    refine ⟨_, ?_, c2, w2⟩
    show ((F_X1_get n τ (2 + 2 * s) 0 2).bind _) = _
    rw [e2, Option.bind_some, key, key]
    by_cases q : r 2 = 1
    · exact if_pos q
    · exact if_neg q
  | some h0 =>
    obtain ⟨hh, -⟩ := pb h0 hb
    show ∃ τ', ((F_X1_get n τ (2 + 2 * s) 0 2).bind _) = some τ' ∧ _
    rw [e2, Option.bind_some]
    by_cases q : r 2 = 1
    · rw [if_pos q]
      have es : sOut a s by_ = sVain (sOut1 a s r l by_) h0 := by
        unfold sOut
        rw [hS]
        show (if r 2 = 1 then _ else _) = _
        rw [if_pos q, hb]
      rw [es]
      have ev : x_up τ1 0 12 (τ1 0 12 + 1) (21 + 4 * h0) 11 = nI (aH (sOut1 a s r l by_) h0 8) := c2.f hh 8 (by decide)
      have c3 := c2.setH (k := 8) (v := aH (sOut1 a s r l by_) h0 8 + 1) h6 hh (by decide)
      have ep : x_up (x_up τ1 0 12 (τ1 0 12 + 1)) (21 + 4 * h0) (3 + 8) (nI (aH (sOut1 a s r l by_) h0 8 + 1)) (21 + 4 * h0) 5 = nI (aH (sOut1 a s r l by_) h0 2) := by
        rw [x_up_off (by decide)]
        exact c2.f hh 2 (by decide)
      obtain ⟨τ', e9, c9, w9⟩ := C_sentence c3 h6 hh n (aH (sOut1 a s r l by_) h0 2)
      refine ⟨τ', ?_, c9, w2.trans ((WF.up (by decide)).trans w9)⟩
      unfold B_X2_throwOldest_34
      refine (eK _).trans ?_
      show (if (1 : Int32) = 0 then _ else _) = _
      rw [if_neg (by decide), ev, nI_1]
      show ((F_X0_sentence n (x_up (x_up τ1 0 12 (τ1 0 12 + 1)) (21 + 4 * h0) (3 + 8) (nI (aH (sOut1 a s r l by_) h0 8 + 1))) (21 + 4 * h0) (x_up (x_up τ1 0 12 (τ1 0 12 + 1)) (21 + 4 * h0) (3 + 8) (nI (aH (sOut1 a s r l by_) h0 8 + 1)) (21 + 4 * h0) 5)).bind _) = _
      rw [ep, e9, Option.bind_some]
    · rw [if_neg q]
      have es : sOut a s by_ = sOut1 a s r l by_ := by
        unfold sOut
        rw [hS]
        exact if_neg q
      rw [es]
      refine ⟨_, ?_, c2, w2⟩
      unfold B_X2_throwOldest_34
      refine (eK _).trans ?_
      exact if_pos rfl
theorem C_push3 {τ : xM} {a cap : Nat} {l : List xR} (h : CR τ a cap 3 l) (hs : SF a cap 3) {n : Nat} (hn : 20 < n) {m : Nat} (hm : 1 ≤ m) (hmc : m ≤ cap) (hlm : l.length ≤ m) (x y z : Int32) : ∃ τ1 τ', F_X1_open n τ a (nI m) = some (nI (pushL m l).length, τ1) ∧ (∀ (K : xM → Option xM), ((F_X1_put n τ1 a (nI (pushL m l).length) (0 : Int32) x).bind fun q2 => (F_X1_put n q2 a (nI (pushL m l).length) (1 : Int32) y).bind fun q3 => (F_X1_put n q3 a (nI (pushL m l).length) (2 : Int32) z).bind K) = K τ') ∧ (∀ b, b ≠ a → b ≠ a + 1 → τ' b = τ b) ∧ CR τ' a cap 3 (pushL m l ++ [row3 x y z]) := by
  obtain ⟨τ1, g, e, p1, p2⟩ := C_open h hs hn hm hmc hlm
  obtain ⟨e1, c1⟩ := C_putlast p2 hs n (j := 0) (by decide) x
  obtain ⟨e2, c2⟩ := C_putlast c1 hs n (j := 1) (by decide) y
  obtain ⟨e3, c3⟩ := C_putlast c2 hs n (j := 2) (by decide) z
  refine ⟨τ1, _, e, fun K => ?_, fun b h0 h1 => ?_, c3.last (g' := row3 x y z) (fun j hj => ?_)⟩
  · show ((F_X1_put n τ1 a (nI (pushL m l).length) (nI 0) x).bind _) = _
    rw [e1, Option.bind_some]
    show ((F_X1_put n _ a (nI (pushL m l).length) (nI 1) y).bind _) = _
    rw [e2, Option.bind_some]
    show ((F_X1_put n _ a (nI (pushL m l).length) (nI 2) z).bind _) = _
    rw [e3, Option.bind_some]
  · rw [x_up_row' h1, x_up_row' h1, x_up_row' h1, p1 b h0 h1]
  · rcases (show j = 0 ∨ j = 1 ∨ j = 2 by omega) with rfl | rfl | rfl <;> simp [upd, row3]
theorem kNone {x : Int32} (n : Nat) : ((-100005 : Int32) < 0 ∨ ¬ (-100005 : Int32) < nI n) := Or.inl (by decide)
theorem C_erase {τ : xM} {a : xA} (h : CRep τ a) {n : Nat} (hn : 20 < n) (l : Nat) : ∃ τ', (∀ (K : xM → Option xM), ((F_X1_find n τ 18 (nI l)).bind fun q1 => (F_X1_remove n τ 18 q1).bind K) = K τ') ∧ CRep τ' (sErase a l) ∧ WF τ τ' := by
  by_cases q : kIdx (aT a) (nI l) < (aT a).length
  · obtain ⟨τ1, e1, f1, c1⟩ := C_remove h.2.2.1 SF_T hn q
    refine ⟨τ1, fun K => ?_, h.setT f1 c1, WF.fr f1 (by omega)⟩
    rw [C_find h.2.2.1 SF_T hn, if_pos q, Option.bind_some, e1, Option.bind_some]
  · refine ⟨τ, fun K => ?_, ?_, WF.rfl⟩
    · rw [C_find h.2.2.1 SF_T hn, if_neg q, Option.bind_some, C_remove_no h.2.2.1 n (Or.inl (by decide)), Option.bind_some]
    · have e : (aT a).eraseIdx (kIdx (aT a) (nI l)) = aT a := List.eraseIdx_of_length_le (Nat.not_lt.mp q)
      unfold sErase
      rw [e]
      exact h
theorem sErase_C (a : xA) (l : Nat) : aC (sErase a l) = aC a := rfl
theorem sErase_S (a : xA) (l : Nat) : aS (sErase a l) = aS a := rfl
theorem sOut_C0 (a : xA) (s : Nat) (b : Int32) (i : Nat) (hi : i ≠ 8) : aC (sOut a s b) i = aC a i := by
  unfold sOut
  cases aS a s with
  | nil => rfl
  | cons r l =>
    have e : aC (sOut1 a s r l b) i = aC a i := va_up_off hi
    show aC (if r 2 = 1 then _ else _) i = _
    by_cases q : r 2 = 1
    · rw [if_pos q]
      cases bid (r 1) with
      | none => exact e
      | some h => exact e
    · rw [if_neg q]
      exact e
theorem sOut_S {a : xA} {s : Nat} {b : Int32} {r : xR} {l : List xR} (hS : aS a s = r :: l) : aS (sOut a s b) = va_up (aS a) s l := by
  unfold sOut
  rw [hS]
  show aS (if r 2 = 1 then _ else _) = _
  by_cases q : r 2 = 1
  · rw [if_pos q]
    cases bid (r 1) with
    | none => rfl
    | some h => rfl
  · rw [if_neg q]
    rfl
theorem C_fetch_38 {τ : xM} {a : xA} (h : CRep τ a) (I : InvC a) {s l : Nat} (hs : s < 8) (hlen : (aS a s).length < aC a 1) {n : Nat} (hn : 20 < n) (by_ : Int32) : ∃ τ', B_X2_fetch_38 n τ (nI l) by_ (2 + 2 * s) = some τ' ∧ CRep τ' (sPut a s l by_) ∧ WF τ τ' := by
  have h4 := I.2.2.2.1
  have ew : τ 0 5 = nI (aC a 1) := h.c 1 (by decide)
  have ep : pushL (aC a 1) (aS a s) = aS a s := if_pos hlen
  obtain ⟨τ1, τ2, e, eK, f, c⟩ := C_push3 (h.2.1 s hs) (SF_S s hs) hn (m := aC a 1) (by omega) h4 (by omega) (nI l) by_ (if by_ = -100005 then 0 else 1)
  rw [ep] at e eK c
  refine ⟨τ2, ?_, h.setS hs f c, WF.fr f (by omega)⟩
  unfold B_X2_fetch_38
  rw [ew, e, Option.bind_some]
  have e2 := eK some
  by_cases q : by_ = -100005
  · rw [if_pos q] at e2
    first
      | (simp only [q] at e2 ⊢; exact e2)
      | exact e2
  · rw [if_neg q] at e2
    simp only [if_neg q]
    exact e2
theorem C_fetch {τ : xM} {a : xA} (h : CRep τ a) (I : InvC a) (IS : InvS a) (hT : (aT a).length ≤ 8) {l : Nat} (hl : l < 10000) {n : Nat} (hn : 20 < n) (by_ : Int32) : ∃ τ', F_X2_fetch n τ (nI l) by_ = some τ' ∧ CRep τ' (sFetch a l by_) ∧ WF τ τ' := by
  have h4 := I.2.2.2.1
  have h3 := I.2.2.1
  have hs : l % aC a 0 < 8 := Nat.lt_of_lt_of_le (Nat.mod_lt _ I.1) I.2.1
  obtain ⟨τ1, eK, c1, w1⟩ := C_erase h hn l
  have hlen := (IS (l % aC a 0)).2.1
  have esz : τ1 (2 + 2 * (l % aC a 0)) 3 = nI (aS a (l % aC a 0)).length := (c1.2.1 _ hs).2.2.1
  have ew : τ1 0 5 = nI (aC a 1) := c1.c 1 (by decide)
  unfold F_X2_fetch sFetch
  rw [eK, C_setOf c1 I n hl, Option.bind_some, Option.bind_some, sErase_C, esz]
  show ∃ τ', (if nI (aS a (l % aC a 0)).length < τ1 0 5 then _ else _) = some τ' ∧ _
  rw [ew]
  by_cases q : (aS a (l % aC a 0)).length < aC a 1
  · rw [if_pos (nI_lt q (by omega)), if_pos q]
    obtain ⟨τ2, e2, c2, w2⟩ := C_fetch_38 (l := l) c1 I hs q hn by_
    exact ⟨τ2, e2, c2, w1.trans w2⟩
  · rw [if_neg (nI_nlt (by omega) (by omega)), if_neg q]
    cases hS : aS a (l % aC a 0) with
    | nil =>
      rw [hS] at q
      exact absurd h3 q
    | cons r l9 =>
      have hr : okBy (aC a 2) (r 1) := ((IS (l % aC a 0)).2.2.1 r (by rw [hS]; exact List.mem_cons_self)).2.1
      have hT1 : (aT (sErase a l)).length ≤ 8 := by
        show ((aT a).eraseIdx _).length ≤ 8
        exact Nat.le_trans (List.length_eraseIdx_le _ _) hT
      obtain ⟨τ2, e2, c2, w2⟩ := C_throw c1 I hs hS hr hT1 hn by_
      have e8 : ∀ i, i ≠ 8 → aC (sOut (sErase a l) (l % aC a 0) by_) i = aC a i := fun i hi => sOut_C0 _ _ _ _ hi
      have I2 : InvC (sOut (sErase a l) (l % aC a 0) by_) := by
        unfold InvC
        rw [e8 0 (by decide), e8 1 (by decide), e8 2 (by decide), e8 3 (by decide)]
        exact I
      have hl2 : (aS (sOut (sErase a l) (l % aC a 0) by_) (l % aC a 0)).length < aC (sOut (sErase a l) (l % aC a 0) by_) 1 := by
        rw [sOut_S (show aS (sErase a l) (l % aC a 0) = r :: l9 from hS), va_up_eq, e8 1 (by decide)]
        rw [hS] at hlen
        exact hlen
      obtain ⟨τ3, e3, c3, w3⟩ := C_fetch_38 (l := l) c2 I2 hs hl2 hn by_
      refine ⟨τ3, ?_, c3, w1.trans (w2.trans w3)⟩
      rw [e2, Option.bind_some]
      exact e3
theorem C_punish {τ : xM} {a : xA} (h : CRep τ a) (I : InvC a) (hT : ∀ r, r ∈ aT a → okBy (aC a 2) (r 1)) (l : Nat) {n : Nat} (hn : 20 < n) : ∃ τ', F_X2_punishThrower n τ (nI l) = some τ' ∧ CRep τ' (sPunish a l) ∧ WF τ τ' := by
  have h6 := I.2.2.2.2.1
  unfold F_X2_punishThrower sPunish
  rw [C_find h.2.2.1 SF_T hn, Option.bind_some]
  by_cases q : kIdx (aT a) (nI l) < (aT a).length
  · obtain ⟨r, hr⟩ : ∃ r, (aT a)[kIdx (aT a) (nI l)]? = some r := ⟨_, List.getElem?_eq_getElem q⟩
    have eg : F_X1_get n τ 18 (nI (kIdx (aT a) (nI l))) 1 = some (r 1) := C_get (j := 1) h.2.2.1 SF_T n hr (by decide)
    obtain ⟨eb, pb⟩ := C_by h I n (hT r (List.mem_of_getElem? hr))
    rw [if_pos q, eg, Option.bind_some, eb, Option.bind_some, hr]
    cases hb : bid (r 1) with
    | none =>
      refine ⟨τ, rfl, ?_, WF.rfl⟩
      show CRep τ (match bid (r 1) with | none => a | some h => sHarm a h)
      rw [hb]
      exact h
    | some h0 =>
      obtain ⟨hh, -⟩ := pb h0 hb
      have ev : τ (21 + 4 * h0) 12 = nI (aH a h0 9) := h.f hh 9 (by decide)
      have c3 := h.setH (k := 9) (v := aH a h0 9 + 1) h6 hh (by decide)
      obtain ⟨τ', e9, c9, w9⟩ := C_sentence c3 h6 hh n 2
      refine ⟨τ', ?_, ?_, (WF.up (by decide)).trans w9⟩
      · show ((F_X0_sentence n (x_up τ (21 + 4 * h0) 12 (τ (21 + 4 * h0) 12 + 1)) (21 + 4 * h0) (2 : Int32)).bind _) = _
        rw [ev, nI_1]
        show ((F_X0_sentence n (x_up τ (21 + 4 * h0) (3 + 9) (nI (aH a h0 9 + 1))) (21 + 4 * h0) (nI 2)).bind _) = _
        rw [e9, Option.bind_some]
      · show CRep τ' (match bid (r 1) with | none => a | some h => sHarm a h)
        rw [hb]
        exact c9
  · have hr : (aT a)[kIdx (aT a) (nI l)]? = none := List.getElem?_eq_none (Nat.not_lt.mp q)
    rw [if_neg q, C_get_no h.2.2.1 n (Or.inl (by decide)), Option.bind_some, hr]
    have eb := (C_by h I n (x := -100005) (Or.inl rfl)).1
    rw [eb, Option.bind_some]
    exact ⟨τ, rfl, h, WF.rfl⟩
theorem C_used {τ : xM} {a : xA} (h : CRep τ a) (h6 : aC a 2 ≤ 6) {h0 : Nat} (hh : h0 < aC a 2) (hb : aH a h0 3 ≤ 2) (h5 : aH a h0 3 = 1 → 1 ≤ aH a h0 5) (h9 : aH a h0 5 ≤ 9) (n : Nat) : ∃ τ', F_X0_lineWasUsed n τ (21 + 4 * h0) = some τ' ∧ CRep τ' (sUse a h0) ∧ WF τ τ' := by
  have e10 : τ (21 + 4 * h0) 10 = nI (aH a h0 7) := h.f hh 7 (by decide)
  have e6 : τ (21 + 4 * h0) 6 = nI (aH a h0 3) := h.f hh 3 (by decide)
  have e8 : τ (21 + 4 * h0) 8 = nI (aH a h0 5) := h.f hh 5 (by decide)
  have c1 := h.setH (k := 7) (v := aH a h0 7 + 1) h6 hh (by decide)
  unfold F_X0_lineWasUsed sUse
  show ∃ τ', (if x_up τ (21 + 4 * h0) 10 (τ (21 + 4 * h0) 10 + 1) (21 + 4 * h0) 6 = 1 then _ else _) = some τ' ∧ _
  rw [x_up_off (by decide), e6, e10, nI_1]
  by_cases q : aH a h0 3 = 1
  · have q1 := h5 q
    rw [if_pos (by rw [q]; rfl), if_pos q]
    show ∃ τ', (if x_up (x_up τ (21 + 4 * h0) 10 (nI (aH a h0 7 + 1))) (21 + 4 * h0) 8 (x_up τ (21 + 4 * h0) 10 (nI (aH a h0 7 + 1)) (21 + 4 * h0) 8 - 1) (21 + 4 * h0) 8 < 1 then _ else _) = some τ' ∧ _
    obtain ⟨m, hm⟩ : ∃ m, aH a h0 5 = m + 1 := ⟨aH a h0 5 - 1, by omega⟩
    rw [x_up_at, x_up_off (by decide), e8, hm, nI_pred]
    by_cases q2 : m + 1 < 2
    · have hm0 : m = 0 := by omega
      subst hm0
      rw [if_pos (by decide), if_pos (by decide)]
      refine ⟨_, rfl, ?_, ?_⟩
      · have c4 := ((c1.setH (k := 5) (v := 0) h6 hh (by decide)).setH (k := 5) (v := 0) h6 hh (by decide)).setH (k := 3) (v := 0) h6 hh (by decide)
        have e : hu (hu (hu (hu (aH a) h0 7 (aH a h0 7 + 1)) h0 5 0) h0 5 0) h0 3 0 = hu (hu (hu (aH a) h0 7 (aH a h0 7 + 1)) h0 5 0) h0 3 0 := by
          funext x y
          simp only [hu]
          repeat' split
          all_goals first | rfl | omega
        have e2 : CRep _ (wH a (hu (hu (hu (hu (aH a) h0 7 (aH a h0 7 + 1)) h0 5 0) h0 5 0) h0 3 0)) := c4
        rw [e] at e2
        exact e2
      · exact (WF.up (by decide)).trans ((WF.up (by decide)).trans ((WF.up (by decide)).trans (WF.up (by decide))))
    · rw [if_neg (show ¬ nI m < (1 : Int32) from nI_nlt (a := m) (b := 1) (by omega) (by omega)), if_neg q2]
      refine ⟨_, rfl, ?_, (WF.up (by decide)).trans (WF.up (by decide))⟩
      have e5 : m + 1 - 1 = m := rfl
      rw [e5]
      exact c1.setH (k := 5) (v := m) h6 hh (by decide)
  · rw [if_neg (show ¬ nI (aH a h0 3) = (1 : Int32) from fun e => q ((nI_eq (b := 1) (by omega) (by omega)).mp e)), if_neg q]
    exact ⟨_, rfl, c1, WF.up (by decide)⟩
