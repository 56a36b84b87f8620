/-! a helper asks and learns -/
def WR (τ : xM) (h : Nat) (ws : List Nat) : Prop := τ (21 + 4 * h) 2 = nI ws.length ∧ ws.length ≤ 4 ∧ ∀ i w, ws[i]? = some w → τ (24 + 4 * h) i = nI w
/-- only the wishes of one helper are changed -/
def FW (h : Nat) (τ τ' : xM) : Prop := (∀ b, b ≠ 21 + 4 * h → b ≠ 24 + 4 * h → τ' b = τ b) ∧ ∀ j, j ≠ 2 → τ' (21 + 4 * h) j = τ (21 + 4 * h) j
theorem FW.rfl {h : Nat} {τ : xM} : FW h τ τ := ⟨fun _ _ _ => Eq.refl _, fun _ _ => Eq.refl _⟩
theorem FW.trans {h : Nat} {τ1 τ2 τ3 : xM} (h1 : FW h τ1 τ2) (h2 : FW h τ2 τ3) : FW h τ1 τ3 := ⟨fun b p q => (h2.1 b p q).trans (h1.1 b p q), fun j p => (h2.2 j p).trans (h1.2 j p)⟩
theorem CRep.FW {τ τ' : xM} {a : xA} {h : Nat} (c : CRep τ a) (h6 : aC a 2 ≤ 6) (hh : h < 6) (f : FW h τ τ') : CRep τ' a := by
  refine c.wish (f.1 0 (by omega) (by omega)) (fun s hs => ⟨f.1 _ (by omega) (by omega), f.1 _ (by omega) (by omega)⟩) ⟨f.1 _ (by omega) (by omega), f.1 _ (by omega) (by omega)⟩ (fun h9 hh9 k hk => ?_) (fun h9 hh9 => ⟨f.1 _ (by omega) (by omega), f.1 _ (by omega) (by omega)⟩) ⟨f.1 _ (by omega) (by omega), f.1 _ (by omega) (by omega)⟩
  by_cases q : h9 = h
  · subst q
    exact f.2 _ (by omega)
  · rw [f.1 _ (by omega) (by omega)]
theorem WR.keep {τ τ' : xM} {h : Nat} {ws : List Nat} (w : WR τ h ws) (h1 : τ' (21 + 4 * h) 2 = τ (21 + 4 * h) 2) (h2 : τ' (24 + 4 * h) = τ (24 + 4 * h)) : WR τ' h ws := ⟨h1.trans w.1, w.2.1, fun i x hx => by rw [h2]; exact w.2.2 i x hx⟩
theorem C_reach {τ : xM} {a : xA} {B : Nat} (h : CRep τ a) (I : Inv B a) {h0 : Nat} (hh : h0 < aC a 2) (n : Nat) : F_X0_reach n τ (21 + 4 * h0) = some (nI (sReach a h0)) := by
  have e6 : τ (21 + 4 * h0) 6 = nI (aH a h0 3) := h.f hh 3 (by decide)
  have e4 : τ (21 + 4 * h0) 4 = nI (aH a h0 1) := h.f hh 1 (by decide)
  have h9 := I.2.2.2.1 h0 hh
  unfold F_X0_reach sReach
  rw [e6, e4]
  by_cases q : aH a h0 3 = 0
  · rw [if_pos (by rw [q]; rfl), if_pos q]
  · rw [if_neg (show ¬ nI (aH a h0 3) = (0 : Int32) from fun e => q ((nI_eq (b := 0) (by omega) (by omega)).mp e)), if_neg q]
    by_cases q1 : aH a h0 3 = 1
    · rw [if_pos (by rw [q1]; rfl), if_pos q1]
      rfl
    · rw [if_neg (show ¬ nI (aH a h0 3) = (1 : Int32) from fun e => q1 ((nI_eq (b := 1) (by omega) (by omega)).mp e)), if_neg q1]
      rfl
theorem out_okL {x : Int32} : (F_X4_isOutside x (0 : Int32) (9999 : Int32) = 0 ∧ ∃ l, okL x = some l) ∨ (F_X4_isOutside x (0 : Int32) (9999 : Int32) = 1 ∧ okL x = none) := by
  unfold F_X4_isOutside okL
  by_cases q : x < 0
  · rw [if_pos q, if_pos (Or.inl q)]
    exact Or.inr ⟨rfl, rfl⟩
  · rw [if_neg q]
    by_cases q2 : 9999 < x
    · rw [if_pos q2, if_pos (Or.inr q2)]
      exact Or.inr ⟨rfl, rfl⟩
    · rw [if_neg q2, if_neg (fun e => e.elim q q2)]
      exact Or.inl ⟨rfl, _, rfl⟩
theorem C_wish_loop {h0 l far : Nat} {st : Int32} (hh : h0 < 6) (hf : far ≤ 4) (n : Nat) : ∀ (f m : Nat) (σ : xM), m ≤ far → far - m < f → WR σ h0 (asks l st m) → ∃ σ', B_X0_wish_8 n (21 + 4 * h0) f σ (nI l) st (nI far) (nI (m + 1)) = some σ' ∧ WR σ' h0 (asks l st far) ∧ FW h0 σ σ' := by
  intro f
  induction f with
  | zero => intro m σ h1 h2; omega
  | succ f ih =>
    intro m σ hm hf1 hw
    obtain ⟨g1, g2, g3⟩ := gr_G h0 hh
    show ∃ σ', (if nI far < nI (m + 1) then _ else _) = _ ∧ _
    by_cases q : far < m + 1
    · have e : m = far := by omega
      subst e
      rw [if_pos (nI_lt q (by omega))]
      exact ⟨σ, rfl, hw, FW.rfl⟩
    · have hlen := (asks_ok l st m).1
      rw [if_neg (nI_nlt (by omega) (by omega)), g2, Option.bind_some, hw.1, g3, show Int32.ofNat 4 = nI 4 from rfl, if_pos (nI_lt (by omega) (by omega))]
      rcases out_okL (x := nI l + nI (m + 1) * st) with ⟨e1, y, e2⟩ | ⟨e1, e2⟩
      · have hy := okL_some e2
        rw [e1, if_pos rfl, Option.bind_some, g3, ite_ok (by omega) (by omega), nI_clamp (by omega)]
        have ea : asks l st (m + 1) = asks l st m ++ [y] := by
          show asks l st m ++ (askAt l st m).toList = _
          unfold askAt
          rw [e2]
          rfl
        have hne : 21 + 4 * h0 ≠ 24 + 4 * h0 := by omega
        have hw2 : WR (x_up (x_up σ (24 + 4 * h0) (asks l st m).length (nI l + nI (m + 1) * st)) (21 + 4 * h0) 2 (x_up σ (24 + 4 * h0) (asks l st m).length (nI l + nI (m + 1) * st) (21 + 4 * h0) 2 + 1)) h0 (asks l st (m + 1)) := by
          rw [ea]
          refine ⟨?_, by simp; omega, fun i w hi => ?_⟩
          · rw [x_up_at, x_up_row' hne, hw.1, nI_1]
            simp
          · rw [x_up_row' (Ne.symm hne)]
            rw [List.getElem?_append] at hi
            by_cases c : i < (asks l st m).length
            · rw [if_pos c] at hi
              rw [x_up_off (by omega)]
              exact hw.2.2 i w hi
            · rw [if_neg c] at hi
              have hi0 : i = (asks l st m).length := by
                have := lt_of_get hi
                simp at this
                omega
              subst hi0
              rw [Nat.sub_self] at hi
              cases hi
              rw [x_up_at, hy.2]
        obtain ⟨σ', e9, w9, f9⟩ := ih (m + 1) _ (by omega) (by omega) hw2
        refine ⟨σ', ?_, w9, FW.trans ⟨fun b p1 p2 => by rw [x_up_row' p1, x_up_row' p2], fun j hj => by rw [x_up_off hj, x_up_row' hne]⟩ f9⟩
        rw [← e9, ← nI_1 (m + 1)]
        rfl
      · rw [e1, if_neg (by decide)]
        have ea : asks l st (m + 1) = asks l st m := by
          show asks l st m ++ (askAt l st m).toList = _
          unfold askAt
          rw [e2]
          exact List.append_nil _
        obtain ⟨σ', e9, w9, f9⟩ := ih (m + 1) σ (by omega) (by omega) (by rw [ea]; exact hw)
        refine ⟨σ', ?_, w9, f9⟩
        rw [← e9, ← nI_1 (m + 1)]
        rfl
theorem C_wish {τ : xM} {a : xA} {B : Nat} (h : CRep τ a) (I : Inv B a) {h0 : Nat} (hh : h0 < aC a 2) {n : Nat} (hn : 20 < n) (l : Nat) (st : Int32) (hw : WR τ h0 []) : ∃ τ', F_X0_wish n τ (21 + 4 * h0) (nI l) st = some τ' ∧ WR τ' h0 (asks l st (sReach a h0)) ∧ FW h0 τ τ' := by
  have hr := reach_le I hh
  have h6 := I.hn
  unfold F_X0_wish
  rw [C_reach h I hh, Option.bind_some]
  exact C_wish_loop (by omega) hr n n 0 τ (Nat.zero_le _) (by omega) hw
/-- the table of one helper alone is changed -/
def FG (h : Nat) (τ τ' : xM) : Prop := ∀ b, b ≠ 22 + 4 * h → b ≠ 22 + 4 * h + 1 → τ' b = τ b
theorem FG.wr {h h' : Nat} {τ τ' : xM} {ws : List Nat} (f : FG h τ τ') (w : WR τ h' ws) : WR τ' h' ws := w.keep (by rw [f _ (by omega) (by omega)]) (f _ (by omega) (by omega))
theorem C_addRow {τ : xM} {a : xA} (h : CRep τ a) (h6 : aC a 2 ≤ 6) {h0 : Nat} (hh : h0 < 6) {n : Nat} (hn : 20 < n) {m : Nat} (hm : 1 ≤ m) (hm4 : m ≤ 4) (hlen : (aG a h0).length ≤ m) (p line : Int32) : ∃ τ', F_X0_addRow n τ (21 + 4 * h0) (nI m) p line = some τ' ∧ CRep τ' (sNew a h0 m p line) ∧ FG h0 τ τ' := by
  obtain ⟨g1, g2, g3⟩ := gr_G h0 hh
  have hs := SF_G h0 hh
  obtain ⟨τ1, g, e, p1, p2⟩ := C_open (h.2.2.2.2.1 h0 hh) hs hn hm hm4 hlen
  obtain ⟨e1, c1⟩ := C_putlast p2 hs n (j := 0) (by decide) p
  obtain ⟨e2, c2⟩ := C_putlast c1 hs n (j := 1) (by decide) line
  obtain ⟨e3, c3⟩ := C_putlast c2 hs n (j := 2) (by decide) 0
  obtain ⟨e4, c4⟩ := C_putlast c3 hs n (j := 3) (by decide) 0
  have c5 := c4.last (g' := row4 p line 0 0) (fun j hj => by
    rcases (show j = 0 ∨ j = 1 ∨ j = 2 ∨ j = 3 by omega) with rfl | rfl | rfl | rfl <;> simp [upd, row4])
  have fr : FG h0 τ (x_up (x_up (x_up (x_up τ1 (22 + 4 * h0 + 1) ((pushL m (aG a h0)).length * 4 + 0) p) (22 + 4 * h0 + 1) ((pushL m (aG a h0)).length * 4 + 1) line) (22 + 4 * h0 + 1) ((pushL m (aG a h0)).length * 4 + 2) 0) (22 + 4 * h0 + 1) ((pushL m (aG a h0)).length * 4 + 3) 0) := fun b b0 b1 => by rw [x_up_row' b1, x_up_row' b1, x_up_row' b1, x_up_row' b1, p1 b b0 b1]
  refine ⟨_, ?_, h.setG h6 hh fr c5, fr⟩
  unfold F_X0_addRow
  rw [g1, Option.bind_some, e, Option.bind_some, Option.bind_some]
  show ((F_X1_put n τ1 (22 + 4 * h0) (nI (pushL m (aG a h0)).length) (nI 0) p).bind _) = _
  rw [e1, Option.bind_some, Option.bind_some]
  show ((F_X1_put n _ (22 + 4 * h0) (nI (pushL m (aG a h0)).length) (nI 1) line).bind _) = _
  rw [e2, Option.bind_some, Option.bind_some]
  show ((F_X1_put n _ (22 + 4 * h0) (nI (pushL m (aG a h0)).length) (nI 2) 0).bind _) = _
  rw [e3, Option.bind_some, Option.bind_some]
  show ((F_X1_put n _ (22 + 4 * h0) (nI (pushL m (aG a h0)).length) (nI 3) 0).bind _) = _
  rw [e4, Option.bind_some]
theorem C_updateRow {τ : xM} {a : xA} (h : CRep τ a) (h6 : aC a 2 ≤ 6) {h0 : Nat} (hh : h0 < 6) {n : Nat} (hn : 20 < n) {w : Nat} {r : xR} (hw : (aG a h0)[w]? = some r) (line st tr : Int32) : ∃ τ1, F_X0_updateRow n τ (21 + 4 * h0) (nI w) line st tr = (if tr < 2 then some τ1 else F_X0_wish n τ1 (21 + 4 * h0) line st) ∧ CRep τ1 (sMove a h0 w r line st tr) ∧ FG h0 τ τ1 := by
  obtain ⟨g1, g2, g3⟩ := gr_G h0 hh
  have hs := SF_G h0 hh
  have hc := h.2.2.2.2.1 h0 hh
  have hl := lt_of_get hw
  have e1 := C_put (j := 1) (v := line) hc hs n hl (by decide)
  have c1 := hc.up (j := 1) (v := line) hw (by decide)
  have w1 : ((aG a h0).set w (upd r 1 line))[w]? = some (upd r 1 line) := by rw [List.getElem?_set, if_pos rfl, if_pos hl]
  have e2 := C_put (j := 2) (v := st) c1 hs n (lt_of_get w1) (by decide)
  have c2 := c1.up (j := 2) (v := st) w1 (by decide)
  have w2 : (((aG a h0).set w (upd r 1 line)).set w (upd (upd r 1 line) 2 st))[w]? = some (upd (upd r 1 line) 2 st) := by rw [List.getElem?_set, if_pos rfl, if_pos (lt_of_get w1)]
  have e3 := C_put (j := 3) (v := tr) c2 hs n (lt_of_get w2) (by decide)
  have c3 := c2.up (j := 3) (v := tr) w2 (by decide)
  have w3 : ((((aG a h0).set w (upd r 1 line)).set w (upd (upd r 1 line) 2 st)).set w (upd (upd (upd r 1 line) 2 st) 3 tr))[w]? = some (upd (upd (upd r 1 line) 2 st) 3 tr) := by rw [List.getElem?_set, if_pos rfl, if_pos (lt_of_get w2)]
  obtain ⟨τ2, e4, f4, c4⟩ := C_touch c3 hs hn w3
  rw [erase_set, erase_set, erase_set] at c4
  have c5 := c4.last (g' := row4 (r 0) line st tr) (fun j hj => by
    rcases (show j = 0 ∨ j = 1 ∨ j = 2 ∨ j = 3 by omega) with rfl | rfl | rfl | rfl <;> simp [upd, row4])
  have fr : FG h0 τ τ2 := fun b b0 b1 => by rw [f4 b b1, x_up_row' b1, x_up_row' b1, x_up_row' b1]
  refine ⟨τ2, ?_, h.setG h6 hh fr c5, fr⟩
  unfold F_X0_updateRow
  rw [g1, Option.bind_some]
  show ((F_X1_put n τ (22 + 4 * h0) (nI w) (nI 1) line).bind _) = _
  rw [e1, Option.bind_some, Option.bind_some]
  show ((F_X1_put n _ (22 + 4 * h0) (nI w) (nI 2) st).bind _) = _
  rw [e2, Option.bind_some, Option.bind_some]
  show ((F_X1_put n _ (22 + 4 * h0) (nI w) (nI 3) tr).bind _) = _
  rw [e3, Option.bind_some, Option.bind_some, e4, Option.bind_some]
  by_cases q : tr < 2
  · rw [if_pos q, if_pos q]
  · rw [if_neg q, if_neg q]
    cases F_X0_wish n τ2 (21 + 4 * h0) line st with
    | none => rfl
    | some x => rfl
theorem jmin3 : ∀ t, t < 4 → jmin (3 : Int32) (nI t + 1) = if nI t < 3 then nI t + 1 else nI t := by decide
theorem jmax0 : ∀ t, t < 4 → jmax (0 : Int32) (nI t - 1) = if 0 < nI t then nI t - 1 else nI t := by decide
theorem jmin9 : ∀ t, t < 10 → jmin (9 : Int32) (nI t + 1) = if nI t < 9 then nI t + 1 else 9 := by decide
theorem near_abs (d : Int32) : (¬ jabs d < 1 ∧ ¬ 4 < jabs d) ↔ (¬ d = 0 ∧ -4 ≤ d ∧ d ≤ 4) := by
  have hd := Int32.le_toInt d
  have hd2 := Int32.toInt_lt d
  have e0 : d = 0 ↔ d.toInt = 0 := by
    constructor
    · intro e
      rw [e]
      rfl
    · intro e
      exact Int32.toInt_inj.mp e
  unfold jabs
  rw [e0]
  by_cases q : (0 : Int32) ≤ d
  · rw [if_pos q, Int32.le_iff_toInt_le, Int32.le_iff_toInt_le, Int32.lt_iff_toInt_lt, Int32.lt_iff_toInt_lt]
    rw [Int32.le_iff_toInt_le] at q
    simp only [show (0 : Int32).toInt = 0 by decide, show (1 : Int32).toInt = 1 by decide, show (4 : Int32).toInt = 4 by decide, show (-4 : Int32).toInt = -4 by decide] at q ⊢
    omega
  · rw [if_neg q, Int32.le_iff_toInt_le, Int32.le_iff_toInt_le, Int32.lt_iff_toInt_lt, Int32.lt_iff_toInt_lt, Int32.toInt_sub]
    rw [Int32.le_iff_toInt_le] at q
    simp only [show (0 : Int32).toInt = 0 by decide, show (1 : Int32).toInt = 1 by decide, show (4 : Int32).toInt = 4 by decide, show (-4 : Int32).toInt = -4 by decide, Int.bmod] at q ⊢
    split <;> omega
