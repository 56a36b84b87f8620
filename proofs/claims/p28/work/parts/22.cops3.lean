/-! State's methods over the lists: serving, working, asking -/
theorem erase_set {L : List xR} {w : Nat} {r : xR} : (L.set w r).eraseIdx w = L.eraseIdx w := by
  apply List.ext_getElem?
  intro i
  rw [List.getElem?_eraseIdx, List.getElem?_eraseIdx, List.getElem?_set, List.getElem?_set]
  by_cases q : i < w
  · rw [if_pos q, if_pos q, if_neg (by omega)]
  · rw [if_neg q, if_neg q, if_neg (by omega)]
theorem C_hit {τ : xM} {a : xA} (h : CRep τ a) {s w : Nat} (hs : s < 8) {r : xR} (hw : (aS a s)[w]? = some r) {n : Nat} (hn : 20 < n) : ∃ τ', (∀ (β : Type) (K : xM → Option β), ((F_X1_put n τ (2 + 2 * s) (nI w) (2 : Int32) (0 : Int32)).bind fun q1 => (F_X1_touch n q1 (2 + 2 * s) (nI w)).bind K) = K τ') ∧ CRep τ' (sHit a s w r) ∧ WF τ τ' := by
  have hc := h.2.1 s hs
  have e1 := C_put (j := 2) (v := 0) hc (SF_S s hs) n (lt_of_get hw) (by decide)
  have c1 := hc.up (j := 2) (v := 0) hw (by decide)
  have hw1 : ((aS a s).set w (upd r 2 0))[w]? = some (upd r 2 0) := by
    rw [List.getElem?_set, if_pos rfl, if_pos (lt_of_get hw)]
  obtain ⟨τ2, e2, f2, c2⟩ := C_touch c1 (SF_S s hs) hn hw1
  rw [erase_set] at c2
  have c3 := c2.last (g' := row3 (r 0) (r 1) 0) (fun j hj => by
    rcases (show j = 0 ∨ j = 1 ∨ j = 2 by omega) with rfl | rfl | rfl <;> simp [upd, row3])
  have fr : ∀ b, b ≠ 2 + 2 * s → b ≠ 2 + 2 * s + 1 → τ2 b = τ b := fun b h0 h1 => by rw [f2 b h1, x_up_row' h1]
  refine ⟨τ2, fun β K => ?_, h.setS hs fr c3, WF.fr fr (by omega)⟩
  show ((F_X1_put n τ (2 + 2 * s) (nI w) (nI 2) (0 : Int32)).bind _) = _
  rw [e1, Option.bind_some, e2, Option.bind_some]
theorem C_serve {τ : xM} {a : xA} {B : Nat} (h : CRep τ a) (I : Inv B a) {l : Nat} (hl : l < 10000) {n : Nat} (hn : 20 < n) : ∃ τ', F_X2_serve n τ (nI l) = some (nI (sServe a l).1, τ') ∧ CRep τ' (sServe a l).2 ∧ WF τ τ' := by
  obtain ⟨IC, IS, IT, IH, IG, IL, hB⟩ := I
  have hs : l % aC a 0 < 8 := Nat.lt_of_lt_of_le (Nat.mod_lt _ IC.1) IC.2.1
  have hlen := (IS (l % aC a 0)).2.1
  have h4 := IC.2.2.2.1
  unfold F_X2_serve
  rw [C_setOf h IC n hl, Option.bind_some, Option.bind_some, C_find (h.2.1 _ hs) (SF_S _ hs) hn, Option.bind_some]
  cases hr : (aS a (l % aC a 0))[kIdx (aS a (l % aC a 0)) (nI l)]? with
  | none =>
    have q : ¬ kIdx (aS a (l % aC a 0)) (nI l) < (aS a (l % aC a 0)).length := fun q => by
      rw [List.getElem?_eq_getElem q] at hr
      cases hr
    have es : sServe a l = (0, sFetch (sPunish a l) l (-100005)) := by
      unfold sServe
      rw [hr]
    rw [if_neg q, if_pos (by decide), es]
    obtain ⟨τ1, e1, c1, w1⟩ := C_punish h IC (fun r hr => (IT.2.1 r hr).2) l hn
    obtain ⟨p1, p2, p3⟩ := sPunish_S a l
    obtain ⟨τ2, e2, c2, w2⟩ := C_fetch (l := l) c1 (by unfold InvC; rw [p2]; exact IC) (by unfold InvS; rw [p1, p2]; exact IS) (by rw [p3]; exact IT.1) hl hn (-100005)
    refine ⟨τ2, ?_, c2, w1.trans w2⟩
    rw [e1, Option.bind_some, e2, Option.bind_some]
    rfl
  | some r =>
    have q := lt_of_get hr
    have hr' := List.mem_of_getElem? hr
    have e2 : F_X1_get n τ (2 + 2 * (l % aC a 0)) (nI (kIdx (aS a (l % aC a 0)) (nI l))) 2 = some (r 2) := C_get (j := 2) (h.2.1 _ hs) (SF_S _ hs) n hr (by decide)
    have e1 : F_X1_get n τ (2 + 2 * (l % aC a 0)) (nI (kIdx (aS a (l % aC a 0)) (nI l))) 1 = some (r 1) := C_get (j := 1) (h.2.1 _ hs) (SF_S _ hs) n hr (by decide)
    have hb := ((IS _).2.2.1 r hr').2.1
    obtain ⟨eb, pb⟩ := C_by h IC n hb
    obtain ⟨τ1, eK, c1, w1⟩ := C_hit h hs hr hn
    rw [if_pos q, if_neg (nI_pos (by omega)), e2, Option.bind_some]
    by_cases q2 : r 2 = 1
    · rw [if_pos q2]
      unfold B_X2_serve_45
      rw [e1, Option.bind_some, eb, Option.bind_some]
      cases hd : bid (r 1) with
      | none =>
        have es : sServe a l = (2, sHit a (l % aC a 0) (kIdx (aS a (l % aC a 0)) (nI l)) r) := by
          unfold sServe
          rw [hr]
          show (if r 2 = 1 then _ else _) = _
          rw [if_pos q2, hd]
        rw [es]
        refine ⟨τ1, ?_, c1, w1⟩
        refine (eK _ _).trans ?_
        rfl
      | some h0 =>
        have es : sServe a l = (2, sUse (sHit a (l % aC a 0) (kIdx (aS a (l % aC a 0)) (nI l)) r) h0) := by
          unfold sServe
          rw [hr]
          show (if r 2 = 1 then _ else _) = _
          rw [if_pos q2, hd]
        rw [es]
        have hh := (pb h0 hd).1
        have h9 := IH h0 hh
        obtain ⟨τ2, e3, c3, w3⟩ := C_used c1 IC.2.2.2.2.1 hh h9.2.2.2.2.2.1 h9.2.2.2.2.2.2.2.2.1 h9.2.2.2.2.2.2.2.2.2 n
        refine ⟨τ2, ?_, c3, w1.trans w3⟩
        refine (eK _ _).trans ?_
        show (if (1 : Int32) = 0 then _ else _) = _
        rw [if_neg (by decide), e3, Option.bind_some]
        rfl
    · rw [if_neg q2]
      have es : sServe a l = (1, sHit a (l % aC a 0) (kIdx (aS a (l % aC a 0)) (nI l)) r) := by
        unfold sServe
        rw [hr]
        exact if_neg q2
      unfold B_X2_serve_45
      rw [e1, Option.bind_some, eb, Option.bind_some, es]
      cases hd : bid (r 1) with
      | none =>
        refine ⟨τ1, ?_, c1, w1⟩
        refine (eK _ _).trans ?_
        rfl
      | some h0 =>
        refine ⟨τ1, ?_, c1, w1⟩
        refine (eK _ _).trans ?_
        rfl
theorem C_work1 {τ : xM} {a : xA} {B : Nat} (h : CRep τ a) (I : Inv B a) {h0 : Nat} (hh : h0 < aC a 2) (n : Nat) : ∃ τ', F_X0_workOneHour n τ (21 + 4 * h0) (τ 0 7) = some τ' ∧ CRep τ' (sWork1 a h0) := by
  have h6 := I.hn
  have hB := I.b
  have h9 := I.2.2.2.1 h0 hh
  have e7 : τ 0 7 = nI (aC a 3) := h.c 3 (by decide)
  have e6 : τ (21 + 4 * h0) 6 = nI (aH a h0 3) := h.f hh 3 (by decide)
  have eh : τ (21 + 4 * h0) 7 = nI (aH a h0 4) := h.f hh 4 (by decide)
  have ew : τ (21 + 4 * h0) 13 = nI (aH a h0 10) := h.f hh 10 (by decide)
  have ec : τ (21 + 4 * h0) 15 = nI (aH a h0 12) := h.f hh 12 (by decide)
  unfold F_X0_workOneHour sWork1
  rw [e7, e6]
  by_cases q : aH a h0 3 = 2
  · rw [if_pos (by rw [q]; rfl), if_pos q]
    have hp := h9.2.2.2.2.2.2.2.1 q
    have hx := h9.2.2.2.2.2.2.1
    obtain ⟨m, hm⟩ : ∃ m, aH a h0 4 = m + 1 := ⟨aH a h0 4 - 1, by omega⟩
    have c2 := (h.setH (k := 4) (v := m) h6 hh (by decide)).setH (k := 10) (v := aH a h0 10 + 1) h6 hh (by decide)
    have ex : x_up (x_up τ (21 + 4 * h0) 7 (τ (21 + 4 * h0) 7 - 1)) (21 + 4 * h0) 13 (x_up τ (21 + 4 * h0) 7 (τ (21 + 4 * h0) 7 - 1) (21 + 4 * h0) 13 + 1) = x_up (x_up τ (21 + 4 * h0) (3 + 4) (nI m)) (21 + 4 * h0) (3 + 10) (nI (aH a h0 10 + 1)) := by
      rw [x_up_off (by decide), ew, eh, hm, nI_pred, nI_1]
    show ∃ τ', (if x_up (x_up τ (21 + 4 * h0) 7 (τ (21 + 4 * h0) 7 - 1)) (21 + 4 * h0) 13 (x_up τ (21 + 4 * h0) 7 (τ (21 + 4 * h0) 7 - 1) (21 + 4 * h0) 13 + 1) (21 + 4 * h0) 7 < 1 then some (x_up (x_up (x_up (x_up (x_up τ (21 + 4 * h0) 7 (τ (21 + 4 * h0) 7 - 1)) (21 + 4 * h0) 13 (x_up τ (21 + 4 * h0) 7 (τ (21 + 4 * h0) 7 - 1) (21 + 4 * h0) 13 + 1)) (21 + 4 * h0) 6 1) (21 + 4 * h0) 8 (nI (aC a 3))) (21 + 4 * h0) 15 (x_up (x_up (x_up (x_up τ (21 + 4 * h0) 7 (τ (21 + 4 * h0) 7 - 1)) (21 + 4 * h0) 13 (x_up τ (21 + 4 * h0) 7 (τ (21 + 4 * h0) 7 - 1) (21 + 4 * h0) 13 + 1)) (21 + 4 * h0) 6 1) (21 + 4 * h0) 8 (nI (aC a 3)) (21 + 4 * h0) 15 + 1)) else some (x_up (x_up τ (21 + 4 * h0) 7 (τ (21 + 4 * h0) 7 - 1)) (21 + 4 * h0) 13 (x_up τ (21 + 4 * h0) 7 (τ (21 + 4 * h0) 7 - 1) (21 + 4 * h0) 13 + 1))) = some τ' ∧ _
    rw [ex, x_up_off (by decide), x_up_at]
    by_cases q2 : m + 1 < 2
    · have hm0 : m = 0 := by omega
      subst hm0
      rw [if_pos (by decide), hm, if_pos (by decide)]
      refine ⟨_, rfl, ?_⟩
      have ec2 : x_up (x_up (x_up (x_up τ (21 + 4 * h0) (3 + 4) (nI 0)) (21 + 4 * h0) (3 + 10) (nI (aH a h0 10 + 1))) (21 + 4 * h0) 6 1) (21 + 4 * h0) 8 (nI (aC a 3)) (21 + 4 * h0) 15 = nI (aH a h0 12) := by
        rw [x_up_off (by decide), x_up_off (by decide), x_up_off (by decide), x_up_off (by decide), ec]
      rw [ec2, nI_1]
      exact ((c2.setH (k := 3) (v := 1) h6 hh (by decide)).setH (k := 5) (v := aC a 3) h6 hh (by decide)).setH (k := 12) (v := aH a h0 12 + 1) h6 hh (by decide)
    · rw [if_neg (show ¬ nI m < (1 : Int32) from nI_nlt (a := m) (b := 1) (by omega) (by omega)), hm, if_neg q2]
      exact ⟨_, rfl, c2⟩
  · rw [if_neg (show ¬ nI (aH a h0 3) = (2 : Int32) from fun e => q ((nI_eq (b := 2) (by omega) (by omega)).mp e)), if_neg q]
    exact ⟨τ, rfl, h⟩
