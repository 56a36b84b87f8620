/-! the invariant; State's small methods over the lists -/
def okBy (hn : Nat) (x : Int32) : Prop := x = -100005 ∨ ∃ h, h < hn ∧ x = nI h
def InvC (a : xA) : Prop := 1 ≤ aC a 0 ∧ aC a 0 ≤ 8 ∧ 1 ≤ aC a 1 ∧ aC a 1 ≤ 4 ∧ aC a 2 ≤ 6 ∧ 1 ≤ aC a 3 ∧ aC a 3 ≤ 9
def InvS (a : xA) : Prop := ∀ s, (aC a 0 ≤ s → aS a s = []) ∧ (aS a s).length ≤ aC a 1 ∧ (∀ r, r ∈ aS a s → (∃ l, l < 10000 ∧ r 0 = nI l ∧ l % aC a 0 = s) ∧ okBy (aC a 2) (r 1) ∧ (r 2 = 0 ∨ r 2 = 1 ∧ r 1 ≠ -100005)) ∧ ((aS a s).map (fun r => r 0)).Nodup
def InvT (a : xA) : Prop := (aT a).length ≤ 8 ∧ (∀ r, r ∈ aT a → (∃ l, l < 10000 ∧ r 0 = nI l) ∧ okBy (aC a 2) (r 1)) ∧ ((aT a).map (fun r => r 0)).Nodup ∧ ∀ s r q, r ∈ aS a s → q ∈ aT a → r 0 ≠ q 0
def InvH (B : Nat) (a : xA) : Prop := ∀ h, h < aC a 2 → aH a h 0 ≤ 2 ∧ 1 ≤ aH a h 1 ∧ aH a h 1 ≤ 4 ∧ 1 ≤ aH a h 2 ∧ aH a h 2 ≤ 9 ∧ aH a h 3 ≤ 2 ∧ aH a h 4 ≤ B ∧ (aH a h 3 = 2 → 1 ≤ aH a h 4) ∧ (aH a h 3 = 1 → 1 ≤ aH a h 5) ∧ aH a h 5 ≤ 9
def InvG (a : xA) : Prop := ∀ h, h < aC a 2 → (aH a h 0 = 0 → (aG a h).length ≤ 4 ∧ (∀ r, r ∈ aG a h → (∃ p, p < 16 ∧ r 0 = nI p) ∧ (∃ t, t ≤ 3 ∧ r 3 = nI t) ∧ (r 3 ≠ 0 → r 2 ≠ 0)) ∧ ((aG a h).map (fun r => r 0)).Nodup) ∧ (aH a h 0 = 1 → (aG a h).length ≤ 3 ∧ ∀ r, r ∈ aG a h → r 0 = -100005 ∧ (∃ t, t ≤ 9 ∧ r 3 = nI t)) ∧ (aH a h 0 = 2 → aG a h = [])
def InvL (B : Nat) (a : xA) : Prop := aC a 4 ≤ B ∧ (aL a).length = min (aC a 4) 12 ∧ ∀ k r, (aL a)[k]? = some r → r 4 = nI (aC a 4 - (aL a).length + k) ∧ ∃ p, p < 16 ∧ r 0 = nI p
def Inv (B : Nat) (a : xA) : Prop := InvC a ∧ InvS a ∧ InvT a ∧ InvH B a ∧ InvG a ∧ InvL B a ∧ B < 2 ^ 30
theorem CRep.f {τ : xM} {a : xA} (h : CRep τ a) {h0 : Nat} (hh : h0 < aC a 2) (k : Nat) (hk : k < 13) : τ (21 + 4 * h0) (3 + k) = nI (aH a h0 k) := h.2.2.2.1 h0 hh k hk
theorem CRep.c {τ : xM} {a : xA} (h : CRep τ a) (i : Nat) (hi : i < 9) : τ 0 (4 + i) = nI (aC a i) := h.1 i hi
theorem C_outside {k lo hi : Nat} (h1 : lo ≤ k) (h2 : k ≤ hi) (h3 : hi < 2 ^ 31) : F_X4_isOutside (nI k) (nI lo) (nI hi) = 0 := by
  unfold F_X4_isOutside
  rw [if_neg (nI_nlt h1 (by omega)), if_neg (nI_nlt h2 (by omega))]
theorem gr_S : ∀ s, s < 8 → gr 1 s = some (2 + 2 * s) := by decide
theorem gr_H : ∀ h, h < 6 → gr 20 h = some (21 + 4 * h) := by decide
theorem gr_G : ∀ h, h < 6 → gr (21 + 4 * h) 0 = some (22 + 4 * h) ∧ gr (21 + 4 * h) 1 = some (24 + 4 * h) ∧ ln (24 + 4 * h) = 4 := by decide
theorem C_setAt (n : Nat) {τ : xM} {k : Nat} (hk : k < 8) : F_X2_setAt n τ (nI k) = some (some (2 + 2 * k)) := by
  unfold F_X2_setAt
  rw [show (0 : Int32) = nI 0 from rfl, show (7 : Int32) = nI 7 from rfl, C_outside (Nat.zero_le _) (by omega) (by omega), if_pos (show (0 : Int32) = nI 0 from rfl)]
  unfold B_X2_setAt_19
  rw [ite_ok hk (by omega), nI_clamp (by omega), gr_S k hk]
theorem C_setOf {τ : xM} {a : xA} (h : CRep τ a) (I : InvC a) (n : Nat) {l : Nat} (hl : l < 10000) : F_X2_setOf n τ (nI l) = some (some (2 + 2 * (l % aC a 0))) := by
  have e : τ 0 4 = nI (aC a 0) := h.c 0 (by decide)
  have h1 := I.1
  have h8 := I.2.1
  unfold F_X2_setOf
  rw [e, show (0 : Int32) = nI 0 from rfl, if_pos (nI_lt h1 (by omega)), if_neg (fun q => by rw [nI_eq (by omega) (by omega)] at q; omega)]
  unfold B_X2_setOf_18 x_rem
  rw [pk_rem (by omega) h1 (by omega), C_setAt n (Nat.lt_of_lt_of_le (Nat.mod_lt _ h1) h8), Option.bind_some]
theorem C_helperAt {τ : xM} {a : xA} (h : CRep τ a) (I : InvC a) (n : Nat) {h0 : Nat} (hh : h0 < aC a 2) : F_X2_helperAt n τ (nI h0) = some (some (21 + 4 * h0)) := by
  have e : τ 0 6 = nI (aC a 2) := h.c 2 (by decide)
  have h6 := I.2.2.2.2.1
  unfold F_X2_helperAt jmin
  rw [e, show (6 : Int32) = nI 6 from rfl, if_neg (nI_nlt h6 (by omega))]
  obtain ⟨m, hm⟩ : ∃ m, aC a 2 = m + 1 := ⟨aC a 2 - 1, by omega⟩
  rw [hm, nI_pred, show (0 : Int32) = nI 0 from rfl, C_outside (Nat.zero_le _) (by omega) (by omega), if_pos (show (0 : Int32) = nI 0 from rfl)]
  rw [show nI 0 = (0 : Int32) from rfl, ite_ok (by omega) (by omega), nI_clamp (by omega), gr_H h0 (by omega)]
theorem C_helperAt_no {τ : xM} {a : xA} (h : CRep τ a) (I : InvC a) (n : Nat) {x : Int32} (hx : ∀ h0, h0 < aC a 2 → x ≠ nI h0) : F_X2_helperAt n τ x = some none := by
  have e : τ 0 6 = nI (aC a 2) := h.c 2 (by decide)
  have h6 := I.2.2.2.2.1
  unfold F_X2_helperAt jmin
  rw [e, show (6 : Int32) = nI 6 from rfl, if_neg (nI_nlt h6 (by omega))]
  refine if_neg (fun q => ?_)
  unfold F_X4_isOutside at q
  by_cases q1 : x < 0
  · rw [if_pos q1] at q
    exact absurd q (by decide)
  · rw [if_neg q1] at q
    by_cases q2 : nI (aC a 2) - 1 < x
    · rw [if_pos q2] at q
      exact absurd q (by decide)
    · obtain ⟨j, hj, rfl⟩ := nI_of q1
      cases hm : aC a 2 with
      | zero =>
        rw [hm] at q2
        refine q2 ?_
        rw [Int32.lt_iff_toInt_lt, nI_toInt hj, show (nI 0 - 1).toInt = -1 by decide]
        omega
      | succ m =>
        rw [hm, nI_pred, nI_ltI (by omega) hj] at q2
        exact hx j (by omega) rfl
theorem C_by {τ : xM} {a : xA} (h : CRep τ a) (I : InvC a) (n : Nat) {x : Int32} (hx : okBy (aC a 2) x) : F_X2_helperAt n τ x = some ((bid x).map (fun h0 => 21 + 4 * h0)) ∧ ∀ h0, bid x = some h0 → h0 < aC a 2 ∧ x = nI h0 := by
  have h6 := I.2.2.2.2.1
  rcases hx with rfl | ⟨h0, hh, rfl⟩
  · have e : bid (-100005) = none := rfl
    rw [e]
    refine ⟨C_helperAt_no h I n (fun h0 hh q => ?_), fun h0 q => by cases q⟩
    have : (-100005 : Int32).toInt = (nI h0).toInt := by rw [q]
    rw [nI_toInt (by omega), show (-100005 : Int32).toInt = -100005 by decide] at this
    omega
  · have e : bid (nI h0) = some h0 := by
      unfold bid
      rw [if_neg (fun q => ?_), nI_clamp (by omega)]
      have : (nI h0).toInt = (-100005 : Int32).toInt := by rw [q]
      rw [nI_toInt (by omega), show (-100005 : Int32).toInt = -100005 by decide] at this
      omega
    rw [e]
    exact ⟨C_helperAt h I n hh, fun h1 q => by cases q; exact ⟨hh, rfl⟩⟩
theorem WF.up {τ : xM} {h0 k : Nat} {v : Int32} (hk : k ≠ 2) : WF τ (x_up τ (21 + 4 * h0) k v) := fun h hh => by
  refine ⟨x_up_row' (by omega), ?_⟩
  have q : ¬ (21 + 4 * h = 21 + 4 * h0 ∧ 2 = k) := fun e => hk e.2.symm
  simp only [x_up, if_neg q]
theorem WF.fr {τ τ' : xM} {x y : Nat} (fr : ∀ b, b ≠ x → b ≠ y → τ' b = τ b) (hx : ∀ h, h < 6 → 24 + 4 * h ≠ x ∧ 24 + 4 * h ≠ y ∧ 21 + 4 * h ≠ x ∧ 21 + 4 * h ≠ y) : WF τ τ' := fun h hh => by
  obtain ⟨h1, h2, h3, h4⟩ := hx h hh
  exact ⟨fr _ h1 h2, by rw [fr _ h3 h4]⟩
theorem C_sentence {τ : xM} {a : xA} (h : CRep τ a) (h6 : aC a 2 ≤ 6) {h0 : Nat} (hh : h0 < aC a 2) (n m : Nat) : ∃ τ', F_X0_sentence n τ (21 + 4 * h0) (nI m) = some τ' ∧ CRep τ' (sHours a h0 m) ∧ WF τ τ' := by
  have e : τ (21 + 4 * h0) 7 = nI (aH a h0 4) := h.f hh 4 (by decide)
  unfold F_X0_sentence
  rw [e, nI_add]
  refine ⟨_, rfl, ?_, ?_⟩
  · exact ((h.setH (k := 4) h6 hh (by decide)).setH (k := 3) (v := 2) h6 hh (by decide)).setH (k := 5) (v := 0) h6 hh (by decide)
  · exact (WF.up (by decide)).trans ((WF.up (by decide)).trans (WF.up (by decide)))
theorem set_last {α : Type} {L : List α} {g v : α} : (L ++ [g]).set L.length v = L ++ [v] := by
  rw [List.set_append, if_neg (Nat.lt_irrefl _), Nat.sub_self]
  rfl
theorem C_putlast {τ : xM} {a cap c : Nat} {L : List xR} {g : xR} (h : CR τ a cap c (L ++ [g])) (hs : SF a cap c) (n : Nat) {j : Nat} (hj : j < c) (v : Int32) : F_X1_put n τ a (nI L.length) (nI j) v = some (x_up τ (a + 1) (L.length * c + j) v) ∧ CR (x_up τ (a + 1) (L.length * c + j) v) a cap c (L ++ [upd g j v]) := by
  refine ⟨C_put h hs n (by simp) hj, ?_⟩
  have e : (L ++ [g])[L.length]? = some g := by simp
  have h1 := h.up (v := v) e hj
  rw [set_last] at h1
  exact h1
theorem CR.last {τ : xM} {a cap c : Nat} {L : List xR} {g g' : xR} (h : CR τ a cap c (L ++ [g])) (hg : ∀ j, j < c → g j = g' j) : CR τ a cap c (L ++ [g']) := by
  refine h.congr (by simp) (fun w r r' hr hr' j hj => ?_)
  rw [List.getElem?_append] at hr hr'
  by_cases q : w < L.length
  · rw [if_pos q] at hr hr'
    rw [hr] at hr'
    cases hr'
    rfl
  · rw [if_neg q] at hr hr'
    have q2 : w = L.length := by
      have := lt_of_get hr
      simp at this
      omega
    subst q2
    rw [Nat.sub_self] at hr hr'
    cases hr
    cases hr'
    exact hg j hj
theorem C_push2 {τ : xM} {a cap : Nat} {l : List xR} (h : CR τ a cap 2 l) (hs : SF a cap 2) {n : Nat} (hn : 20 < n) {m : Nat} (hm : 1 ≤ m) (hmc : m ≤ cap) (hlm : l.length ≤ m) (x y : Int32) : ∃ τ', (∀ (K : xM → Option xM), ((F_X1_open n τ a (nI m)).bind fun q1 => (F_X1_put n q1.2 a q1.1 (0 : Int32) x).bind fun q2 => (F_X1_put n q2 a q1.1 (1 : Int32) y).bind K) = K τ') ∧ (∀ b, b ≠ a → b ≠ a + 1 → τ' b = τ b) ∧ CR τ' a cap 2 (pushL m l ++ [row2 x y]) := by
  obtain ⟨τ1, g, e, p1, p2⟩ := C_open h hs hn hm hmc hlm
  obtain ⟨e1, c1⟩ := C_putlast p2 hs n (j := 0) (by decide) x
  obtain ⟨e2, c2⟩ := C_putlast c1 hs n (j := 1) (by decide) y
  refine ⟨_, fun K => ?_, fun b h0 h1 => ?_, c2.last (g' := row2 x y) (fun j hj => ?_)⟩
  · rw [e, Option.bind_some]
    show ((F_X1_put n τ1 a (nI (pushL m l).length) (nI 0) x).bind _) = _
    rw [e1, Option.bind_some]
    show ((F_X1_put n _ a (nI (pushL m l).length) (nI 1) y).bind _) = _
    rw [e2, Option.bind_some]
  · rw [x_up_row' h1, x_up_row' h1, p1 b h0 h1]
  · rcases (show j = 0 ∨ j = 1 by omega) with rfl | rfl <;> simp [upd, row2]
