/-! fetching ahead, the log, an access, a walk -/
theorem WR.wf {τ τ' : xM} {h : Nat} {ws : List Nat} (w : WR τ h ws) (hh : h < 6) (f : WF τ τ') : WR τ' h ws := w.keep (f h hh).2 (f h hh).1
theorem C_fetches_loop {h0 : Nat} {ws : List Nat} {n : Nat} (hn : 20 < n) : ∀ (rest pre : List Nat) (σ : xM) (B c f : Nat) (a : xA), ws = pre ++ rest → CRep σ a → WR σ h0 ws → Inv B a → B + 9 * rest.length < 2 ^ 30 → rest.length < f → h0 < aC a 2 → (∀ x, x ∈ rest → x < 10000) → ∃ σ', B_X2_fetchWishes_12 n f σ (nI h0) (21 + 4 * h0) (nI c) (nI pre.length) = some (nI (rest.foldl (sFetch1 h0) (c, a)).1, σ') ∧ CRep σ' (wH (rest.foldl (sFetch1 h0) (c, a)).2 (hu (aH (rest.foldl (sFetch1 h0) (c, a)).2) h0 6 (aH (rest.foldl (sFetch1 h0) (c, a)).2 h0 6 + (rest.foldl (sFetch1 h0) (c, a)).1))) ∧ WF σ σ' := by
  intro rest
  induction rest with
  | nil =>
    intro pre σ B c f a e h w I hB hf hh _
    have h6 := I.hn
    obtain ⟨g1, g2, g3⟩ := gr_G h0 (by omega)
    rw [List.append_nil] at e
    subst e
    cases f with
    | zero => exact absurd hf (Nat.not_lt_zero _)
    | succ f =>
      have e9 : σ (21 + 4 * h0) 9 = nI (aH a h0 6) := h.f hh 6 (by decide)
      have w4 := w.2.1
      show ∃ σ', (if nI ws.length < σ (21 + 4 * h0) 2 then _ else _) = _ ∧ _
      rw [w.1, if_neg (nI_nlt (Nat.le_refl _) (by omega)), e9, nI_add]
      exact ⟨_, rfl, h.setH (k := 6) h6 hh (by decide), WF.up (by decide)⟩
  | cons x rest ih =>
    intro pre σ B c f a e h w I hB hf hh hx
    have h6 := I.hn
    have hs : x % aC a 0 < 8 := Nat.lt_of_lt_of_le (Nat.mod_lt _ I.1.1) I.1.2.1
    obtain ⟨g1, g2, g3⟩ := gr_G h0 (by omega)
    have w4 := w.2.1
    have hl : ws.length = pre.length + (rest.length + 1) := by rw [e]; simp
    cases f with
    | zero => exact absurd hf (Nat.not_lt_zero _)
    | succ f =>
      have hx1 := hx x List.mem_cons_self
      have ex : σ (24 + 4 * h0) pre.length = nI x := w.2.2 pre.length x (by rw [e, List.getElem?_append, if_neg (Nat.lt_irrefl _), Nat.sub_self]; rfl)
      have hlen4 := ((I.2.1 (x % aC a 0)).2.1)
      have hw4 := I.1.2.2.2.1
      have epre : nI pre.length + 1 = nI (pre ++ [x]).length := by rw [nI_1]; simp
      show ∃ σ', (if nI pre.length < σ (21 + 4 * h0) 2 then _ else _) = _ ∧ _
      rw [w.1, if_pos (nI_lt (by omega) (by omega)), g2, Option.bind_some, g3, ite_ok (by omega) (by omega), nI_clamp (by omega), ex, C_setOf h I.1 n hx1, Option.bind_some, Option.bind_some, C_find (h.2.1 _ hs) (SF_S _ hs) hn, Option.bind_some, List.foldl_cons]
      by_cases q : kIdx (aS a (x % aC a 0)) (nI x) < (aS a (x % aC a 0)).length
      · have e1 : sFetch1 h0 (c, a) x = (c, a) := if_pos q
        rw [if_pos q, if_neg (nI_pos (by omega)), e1]
        obtain ⟨σ', e9, c9, f9⟩ := ih (pre ++ [x]) σ B c f a (by rw [e]; simp) h w I (by rw [List.length_cons] at hB; omega) (by rw [List.length_cons] at hf; omega) hh (fun y hy => hx y (List.mem_cons_of_mem _ hy))
        refine ⟨σ', ?_, c9, f9⟩
        unfold B_X2_fetchWishes_54
        rw [epre]
        exact e9
      · have e1 : sFetch1 h0 (c, a) x = (c + 1, sFetch a x (nI h0)) := if_neg q
        rw [if_neg q, if_pos (by decide), e1]
        obtain ⟨τ1, e2, c2, w2⟩ := C_fetch (l := x) h I.1 I.2.1 I.2.2.1.1 hx1 hn (nI h0)
        have I2 : Inv (B + 9) (sFetch a x (nI h0)) := Inv_fetch I hx1 (fun e => q (kIdx_in.mpr e)) (Or.inr ⟨h0, hh, rfl⟩) (by rw [List.length_cons] at hB; omega)
        obtain ⟨σ', e9, c9, f9⟩ := ih (pre ++ [x]) τ1 (B + 9) (c + 1) f (sFetch a x (nI h0)) (by rw [e]; simp) c2 (w.wf (by omega) w2) I2 (by rw [List.length_cons] at hB; omega) (by rw [List.length_cons] at hf; omega) (by rw [sFetch_C _ _ _ _ (by decide)]; exact hh) (fun y hy => hx y (List.mem_cons_of_mem _ hy))
        refine ⟨σ', ?_, c9, w2.trans f9⟩
        rw [e2, Option.bind_some]
        unfold B_X2_fetchWishes_54
        rw [epre, nI_1]
        exact e9
theorem C_help {τ : xM} {a : xA} {B : Nat} (h : CRep τ a) (I : Inv B a) {h0 : Nat} (hh : h0 < aC a 2) {n : Nat} (hn : 20 < n) {p l o : Nat} (hp : p < 16) (ho : o < 3) (hB : B + 36 < 2 ^ 30) : ∃ τ1 τ', F_X0_learn n τ (21 + 4 * h0) (nI p) (nI l) (nI o) = some τ1 ∧ F_X2_fetchWishes n τ1 (nI h0) = some (nI (sHelp a h0 p l o).1, τ') ∧ CRep τ' (sHelp a h0 p l o).2 ∧ WR τ' h0 (sAsk a h0 p l o) ∧ ∀ h', h' < 6 → h' ≠ h0 → ∀ ws, WR τ h' ws → WR τ' h' ws := by
  have h6 := I.hn
  obtain ⟨τ1, e1, c1, w1, f1⟩ := C_learn (o := o) (l := l) h I hh hn hp ho
  have I1 := Inv_learn (l := l) (o := o) I hh hp
  obtain ⟨k1, k2⟩ := sAsk_ok (l := l) (o := o) I hh hp
  have hh1 : h0 < aC (sLearn a h0 p l o).2 2 := by rw [(sLearn_r a h0 p l o).2.2.2.2]; exact hh
  obtain ⟨τ', e2, c2, w2⟩ := C_fetches_loop (ws := sAsk a h0 p l o) hn (sAsk a h0 p l o) [] τ1 B 0 n (sLearn a h0 p l o).2 rfl c1 w1 I1 (by omega) (by omega) hh1 k2
  refine ⟨τ1, τ', e1, ?_, c2, w1.wf (by omega) w2, fun h' hh' hne ws hw => ?_⟩
  · unfold F_X2_fetchWishes
    rw [ite_ok (by omega) (by omega), nI_clamp (by omega), gr_H h0 (by omega), Option.bind_some]
    exact e2
  · have hw1 : WR τ1 h' ws := hw.keep (by rw [f1 _ (by omega) (by omega) (by omega) (by omega)]) (f1 _ (by omega) (by omega) (by omega) (by omega))
    exact hw1.wf hh' w2
theorem C_push5 {τ : xM} {a : xA} (h : CRep τ a) (hlen : (aL a).length ≤ 12) (h6 : aC a 2 ≤ 6) {n : Nat} (hn : 20 < n) (x0 x1 x2 x3 : Int32) : ∃ τ', F_X2_writeLog n τ x0 x1 x2 x3 = some τ' ∧ CRep τ' (wL a (pushL 12 (aL a) ++ [row5 x0 x1 x2 x3 (nI (aC a 4))])) ∧ WF τ τ' := by
  have hs := SF_L
  obtain ⟨τ1, g, e, p1, p2⟩ := C_open h.2.2.2.2.2 hs hn (m := 12) (by decide) (by decide) hlen
  obtain ⟨e1, c1⟩ := C_putlast p2 hs n (j := 0) (by decide) x0
  obtain ⟨e2, c2⟩ := C_putlast c1 hs n (j := 1) (by decide) x1
  obtain ⟨e3, c3⟩ := C_putlast c2 hs n (j := 2) (by decide) x2
  obtain ⟨e4, c4⟩ := C_putlast c3 hs n (j := 3) (by decide) x3
  obtain ⟨e5, c5⟩ := C_putlast c4 hs n (j := 4) (by decide) (nI (aC a 4))
  have c6 := c5.last (g' := row5 x0 x1 x2 x3 (nI (aC a 4))) (fun j hj => by
    rcases (show j = 0 ∨ j = 1 ∨ j = 2 ∨ j = 3 ∨ j = 4 by omega) with rfl | rfl | rfl | rfl | rfl <;> simp [upd, row5])
  generalize hL : (pushL 12 (aL a)).length = L at *
  have fr : ∀ b, b ≠ 45 → b ≠ 45 + 1 → x_up (x_up (x_up (x_up (x_up τ1 (45 + 1) (L * 5 + 0) x0) (45 + 1) (L * 5 + 1) x1) (45 + 1) (L * 5 + 2) x2) (45 + 1) (L * 5 + 3) x3) (45 + 1) (L * 5 + 4) (nI (aC a 4)) b = τ b := fun b b0 b1 => by
    rw [x_up_row' b1, x_up_row' b1, x_up_row' b1, x_up_row' b1, x_up_row' b1, p1 b b0 b1]
  refine ⟨_, ?_, h.setL h6 fr c6, WF.fr fr (by omega)⟩
  have e08 : x_up (x_up (x_up (x_up τ1 (45 + 1) (L * 5 + 0) x0) (45 + 1) (L * 5 + 1) x1) (45 + 1) (L * 5 + 2) x2) (45 + 1) (L * 5 + 3) x3 0 8 = nI (aC a 4) := by
    rw [x_up_row' (by decide), x_up_row' (by decide), x_up_row' (by decide), x_up_row' (by decide), p1 0 (by decide) (by decide)]
    exact h.c 4 (by decide)
  unfold F_X2_writeLog
  show ((F_X1_open n τ 45 (nI 12)).bind _) = _
  rw [e, Option.bind_some]
  show ((F_X1_put n τ1 45 (nI L) (nI 0) x0).bind _) = _
  rw [e1, Option.bind_some]
  show ((F_X1_put n _ 45 (nI L) (nI 1) x1).bind _) = _
  rw [e2, Option.bind_some]
  show ((F_X1_put n _ 45 (nI L) (nI 2) x2).bind _) = _
  rw [e3, Option.bind_some]
  show ((F_X1_put n _ 45 (nI L) (nI 3) x3).bind _) = _
  rw [e4, Option.bind_some, e08]
  show ((F_X1_put n _ 45 (nI L) (nI 4) (nI (aC a 4))).bind _) = _
  rw [e5, Option.bind_some]
theorem CRep.eqC {τ : xM} {a : xA} {C C' : Nat → Nat} (h : CRep τ (wC a C)) (e : ∀ i, C i = C' i) : CRep τ (wC a C') := by
  have : C = C' := funext e
  rw [← this]
  exact h
theorem C_log {τ : xM} {a : xA} {B : Nat} (h : CRep τ a) (I : Inv B a) {n : Nat} (hn : 20 < n) {p l o : Nat} (ho : o < 3) (k : Nat) : ∃ τ', ((F_X2_writeLog n τ (nI p) (nI l) (nI o) (nI k)).bind fun q7 => let m8 := x_up q7 0 8 ((q7 0 8) + (1 : Int32)); let m9 := x_up m8 0 11 ((m8 0 11) + nI k); if nI o = (0 : Int32) then (B_X2_perform_124 n m9 (nI o)) else (let m10 := x_up m9 0 9 ((m9 0 9) + (1 : Int32)); B_X2_perform_124 n m10 (nI o))) = some (nI o, τ') ∧ CRep τ' (sLog a p l o k) ∧ WF τ τ' := by
  have hlen : (aL a).length ≤ 12 := by
    have := I.2.2.2.2.2.1.2.1
    omega
  obtain ⟨τ1, e1, c1, w1⟩ := C_push5 h hlen I.hn hn (nI p) (nI l) (nI o) (nI k)
  have x8 : τ1 0 8 = nI (aC a 4) := c1.c 4 (by decide)
  have x11 : τ1 0 11 = nI (aC a 7) := c1.c 7 (by decide)
  have x9 : τ1 0 9 = nI (aC a 5) := c1.c 5 (by decide)
  have x10 : τ1 0 10 = nI (aC a 6) := c1.c 6 (by decide)
  have c3 := (c1.setC (i := 4) (v := aC a 4 + 1) (by decide)).setC (i := 7) (v := aC a 7 + k) (by decide)
  have w3 : WF τ (x_up (x_up τ1 0 (4 + 4) (nI (aC a 4 + 1))) 0 (4 + 7) (nI (aC a 7 + k))) := w1.trans (WF.c.trans WF.c)
  have em : x_up (x_up τ1 0 8 (τ1 0 8 + 1)) 0 11 (x_up τ1 0 8 (τ1 0 8 + 1) 0 11 + nI k) = x_up (x_up τ1 0 (4 + 4) (nI (aC a 4 + 1))) 0 (4 + 7) (nI (aC a 7 + k)) := by
    rw [x_up_off (by decide), x8, x11, nI_1, nI_add]
  rw [e1, Option.bind_some]
  show ∃ τ', (if nI o = (0 : Int32) then (B_X2_perform_124 n (x_up (x_up τ1 0 8 (τ1 0 8 + 1)) 0 11 (x_up τ1 0 8 (τ1 0 8 + 1) 0 11 + nI k)) (nI o)) else (B_X2_perform_124 n (x_up (x_up (x_up τ1 0 8 (τ1 0 8 + 1)) 0 11 (x_up τ1 0 8 (τ1 0 8 + 1) 0 11 + nI k)) 0 9 ((x_up (x_up τ1 0 8 (τ1 0 8 + 1)) 0 11 (x_up τ1 0 8 (τ1 0 8 + 1) 0 11 + nI k)) 0 9 + 1)) (nI o))) = _ ∧ _
  rw [em]
  unfold B_X2_perform_124
  rcases (show o = 0 ∨ o = 1 ∨ o = 2 by omega) with rfl | rfl | rfl
  · rw [if_pos (show nI 0 = (0 : Int32) from rfl), if_neg (by decide)]
    refine ⟨_, rfl, c3.eqC (fun i => ?_), w3⟩
    show va_up (va_up (aC a) 4 (aC a 4 + 1)) 7 (aC a 7 + k) i = if i = 4 then aC a 4 + 1 else if i = 5 then aC a 5 else if i = 6 then aC a 6 else if i = 7 then aC a 7 + k else aC a i
    simp only [va_up]
    repeat' split
    all_goals first | rfl | omega | (subst_vars; first | rfl | omega)
  · rw [if_neg (by decide), if_neg (by decide), x_up_off (by decide), x_up_off (by decide), x9, nI_1]
    refine ⟨_, rfl, (c3.setC (i := 5) (v := aC a 5 + 1) (by decide)).eqC (fun i => ?_), w3.trans WF.c⟩
    show va_up (va_up (va_up (aC a) 4 (aC a 4 + 1)) 7 (aC a 7 + k)) 5 (aC a 5 + 1) i = if i = 4 then aC a 4 + 1 else if i = 5 then aC a 5 + 1 else if i = 6 then aC a 6 else if i = 7 then aC a 7 + k else aC a i
    simp only [va_up]
    repeat' split
    all_goals first | rfl | omega | (subst_vars; first | rfl | omega)
  · rw [if_neg (by decide), if_pos (by decide), x_up_off (by decide), x_up_off (by decide), x9, nI_1]
    show ∃ τ', some ((2 : Int32), x_up (x_up (x_up (x_up τ1 0 (4 + 4) (nI (aC a 4 + 1))) 0 (4 + 7) (nI (aC a 7 + k))) 0 9 (nI (aC a 5 + 1))) 0 10 (x_up (x_up (x_up τ1 0 (4 + 4) (nI (aC a 4 + 1))) 0 (4 + 7) (nI (aC a 7 + k))) 0 9 (nI (aC a 5 + 1)) 0 10 + 1)) = _ ∧ _
    rw [x_up_off (by decide), x_up_off (by decide), x_up_off (by decide), x10, nI_1]
    refine ⟨_, rfl, ((c3.setC (i := 5) (v := aC a 5 + 1) (by decide)).setC (i := 6) (v := aC a 6 + 1) (by decide)).eqC (fun i => ?_), w3.trans (WF.c.trans WF.c)⟩
    show va_up (va_up (va_up (va_up (aC a) 4 (aC a 4 + 1)) 7 (aC a 7 + k)) 5 (aC a 5 + 1)) 6 (aC a 6 + 1) i = if i = 4 then aC a 4 + 1 else if i = 5 then aC a 5 + 1 else if i = 6 then aC a 6 + 1 else if i = 7 then aC a 7 + k else aC a i
    simp only [va_up]
    repeat' split
    all_goals first | rfl | omega | (subst_vars; first | rfl | omega)
/-- what a helper asks for in an access -/
def goAsk (a : xA) (p l h : Nat) : List Nat := sAsk (sHelps p l (sServe (sWork (aC a 2) a) l).1 h (sServe (sWork (aC a 2) a) l).2).2 h p l (sServe (sWork (aC a 2) a) l).1
theorem C_helps {B : Nat} {a : xA} (I : Inv B a) {n : Nat} (hn : 20 < n) {p l o : Nat} (hp : p < 16) (ho : o < 3) (hB : B + 300 < 2 ^ 30) : ∀ (f i : Nat) (σ : xM), i ≤ aC a 2 → aC a 2 - i < f → CRep σ (sHelps p l o i a).2 → (∀ h, h < i → WR σ h (sAsk (sHelps p l o h a).2 h p l o)) → ∃ σ', B_X2_perform_41 n f σ (nI p) (nI l) (nI o) (nI (sHelps p l o i a).1) (nI i) = some (nI o, σ') ∧ CRep σ' (sLog (sHelps p l o (aC a 2) a).2 p l o (sHelps p l o (aC a 2) a).1) ∧ (∀ h, h < aC a 2 → WR σ' h (sAsk (sHelps p l o h a).2 h p l o)) := by
  intro f
  induction f with
  | zero => intro i σ _ h1; omega
  | succ f ih =>
    intro i σ hi hf hc hw
    have h6 := I.hn
    have e6 : σ 0 6 = nI (aC a 2) := (hc.c 2 (by decide)).trans (by rw [sHelps_C p l o 2 (by decide)])
    have Ii := Inv_helps (l := l) (o := o) I hp i hi (by omega)
    show ∃ σ', (if nI i < σ 0 6 then _ else _) = _ ∧ _
    rw [e6]
    by_cases q : i < aC a 2
    · have hhi : i < aC (sHelps p l o i a).2 2 := by rw [sHelps_C p l o 2 (by decide)]; exact q
      obtain ⟨τ1, τ2, e1, e2, c2, w2, w3⟩ := C_help hc Ii hhi hn (l := l) hp ho (by omega)
      rw [if_pos (nI_lt q (by omega)), ite_ok (by omega) (by omega), nI_clamp (by omega), gr_H i (by omega), Option.bind_some, e1, Option.bind_some, e2, Option.bind_some]
      obtain ⟨σ', e9, c9, w9⟩ := ih (i + 1) τ2 q (by omega) c2 (fun h hh => by
        by_cases q9 : h = i
        · subst q9
          exact w2
        · exact w3 h (by omega) q9 _ (hw h (by omega)))
      refine ⟨σ', ?_, c9, w9⟩
      rw [nI_1]
      show B_X2_perform_41 n f τ2 (nI p) (nI l) (nI o) (nI (sHelps p l o i a).1 + nI (sHelp (sHelps p l o i a).2 i p l o).1) (nI (i + 1)) = _
      rw [nI_add]
      exact e9
    · have ei : i = aC a 2 := by omega
      subst ei
      rw [if_neg (nI_nlt (Nat.le_refl _) (by omega))]
      obtain ⟨σ', e9, c9, w9⟩ := C_log hc Ii hn (p := p) (l := l) ho (sHelps p l o (aC a 2) a).1
      exact ⟨σ', e9, c9, fun h hh => (hw h hh).wf (by omega) w9⟩
theorem sServe_lt (a : xA) (l : Nat) : (sServe a l).1 < 3 := by
  unfold sServe
  cases (aS a (l % aC a 0))[kIdx (aS a (l % aC a 0)) (nI l)]? with
  | none => exact (by decide : 0 < 3)
  | some r =>
    show (if r 2 = 1 then _ else _ : Nat × xA).1 < 3
    by_cases q : r 2 = 1
    · rw [if_pos q]
      cases bid (r 1) with
      | none => exact (by decide : 2 < 3)
      | some h0 => exact (by decide : 2 < 3)
    · rw [if_neg q]
      exact (by decide : 1 < 3)
theorem C_works {B : Nat} {a : xA} (I : Inv B a) {n : Nat} (hn : 20 < n) {p l : Nat} (hp : p < 16) (hl : l < 10000) (hB : B + 400 < 2 ^ 30) : ∀ (f i : Nat) (σ : xM), i ≤ aC a 2 → aC a 2 - i < f → CRep σ (sWork i a) → ∃ σ', B_X2_perform_2 n f σ (nI p) (nI l) (nI i) = some (nI (sGo a p l).1, σ') ∧ CRep σ' (sGo a p l).2 ∧ (∀ h, h < aC a 2 → WR σ' h (goAsk a p l h)) := by
  intro f
  induction f with
  | zero => intro i σ _ h1; omega
  | succ f ih =>
    intro i σ hi hf hc
    have h6 := I.hn
    have eC := (sWork_r a i).2.2.2.2
    have e6 : σ 0 6 = nI (aC a 2) := (hc.c 2 (by decide)).trans (by rw [eC])
    have Ii := Inv_work I i
    show ∃ σ', (if nI i < σ 0 6 then _ else _) = _ ∧ _
    rw [e6]
    by_cases q : i < aC a 2
    · obtain ⟨τ1, e1, c1⟩ := C_work1 hc Ii (h0 := i) (by rw [eC]; exact q) n
      rw [if_pos (nI_lt q (by omega)), ite_ok (by omega) (by omega), nI_clamp (by omega), gr_H i (by omega), Option.bind_some, e1, Option.bind_some, nI_1]
      exact ih (i + 1) τ1 q (by omega) c1
    · have ei : i = aC a 2 := by omega
      rw [ei] at hc Ii eC hf
      rw [if_neg (nI_nlt (by omega) (by omega))]
      obtain ⟨τ1, e1, c1, w1⟩ := C_serve hc Ii hl hn
      have I2 := Inv_serve (l := l) Ii hl (by omega)
      have h2 : aC (sServe (sWork (aC a 2) a) l).2 2 = aC a 2 := (sServe_C _ l 2 (by decide)).trans (congrFun eC 2)
      rw [e1, Option.bind_some]
      obtain ⟨σ', e9, c9, w9⟩ := C_helps I2 hn (l := l) hp (sServe_lt (sWork (aC a 2) a) l) (by omega) n 0 τ1 (Nat.zero_le _) (by omega) c1 (fun h hh => absurd hh (Nat.not_lt_zero _))
      rw [h2] at c9 w9
      exact ⟨σ', e9, c9, w9⟩
theorem C_perform {B : Nat} {a : xA} {τ : xM} (h : CRep τ a) (I : Inv B a) {n : Nat} (hn : 20 < n) {p l : Nat} (hp : p < 16) (hl : l < 10000) (hB : B + 400 < 2 ^ 30) : ∃ τ', F_X2_perform n τ (nI p) (nI l) = some (nI (sGo a p l).1, τ') ∧ CRep τ' (sGo a p l).2 ∧ (∀ h, h < aC a 2 → WR τ' h (goAsk a p l h)) := by
  have h6 := I.hn
  exact C_works I hn hp hl hB n 0 τ (Nat.zero_le _) (by omega) h
