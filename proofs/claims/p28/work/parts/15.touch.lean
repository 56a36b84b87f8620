/-! touch, remove, open over lists of rows -/
theorem x_up_at {σ : xM} {r k : Nat} {v : Int32} : x_up σ r k v r k = v := by simp [x_up]
theorem x_up_off {σ : xM} {r k k' : Nat} {v : Int32} (h : k' ≠ k) : x_up σ r k v r k' = σ r k' := by simp [x_up, h]
theorem x_up_row' {σ : xM} {r r' k : Nat} {v : Int32} (h : r' ≠ r) : x_up σ r k v r' = σ r' := by
  funext j
  simp [x_up, h]
theorem C_touch_in {a cap c len : Nat} (hs : SF a cap c) (n : Nat) (K : xM → Int32 → Int32 → Option xM) (w j : Nat) (mv : Int32) (hj : j < c) (hl : len ≤ cap) : ∀ (f i : Nat) (σ : xM), i < len → len - i ≤ f → σ a 1 = nI c → σ a 3 = nI len → ∃ σ', B_X1_touch_40 n a K f σ (nI w) (nI j) mv (nI i) = K σ' (nI w) (nI (j + 1)) ∧ (∀ b, b ≠ a + 1 → σ' b = σ b) ∧ (∀ k j', k < len → j' < c → σ' (a + 1) (k * c + j') = if j' = j ∧ i ≤ k then (if k + 1 = len then mv else σ (a + 1) ((k + 1) * c + j')) else σ (a + 1) (k * c + j')) := by
  intro f
  induction f with
  | zero => intro i σ h1 h2; omega
  | succ f ih =>
    intro i σ hi hf h1 h3
    have hcap := hs.2.2.2.2.1
    have hcc := hs.2.2.2.1
    have hsz := hs.sz
    have haa : a ≠ a + 1 := by omega
    show ∃ σ', (if nI i + 1 < σ a 3 then _ else _) = _ ∧ _
    by_cases q : i + 1 < len
    · have b1 := hs.in q hl hj
      have b0 := hs.in hi hl hj
      rw [nI_1, h3, if_pos (nI_lt q (by omega)), hs.1, Option.bind_some, Option.bind_some, h1, pk_mul, nI_add, pk_mul, nI_add, hs.2.1, ite_ok b1 (by omega), ite_ok b0 (by omega), nI_clamp (by omega), nI_clamp (by omega)]
      obtain ⟨σ', e, p1, p2⟩ := ih (i + 1) (x_up σ (a + 1) (i * c + j) (σ (a + 1) ((i + 1) * c + j))) q (by omega) (by rw [x_up_row' haa]; exact h1) (by rw [x_up_row' haa]; exact h3)
      refine ⟨σ', e, fun b hb => by rw [p1 b hb, x_up_row' hb], fun k j' hk hj' => ?_⟩
      rw [p2 k j' hk hj']
      by_cases c1 : j' = j ∧ i + 1 ≤ k
      · rw [if_pos c1, if_pos (show j' = j ∧ i ≤ k from ⟨c1.1, by omega⟩)]
        by_cases c2 : k + 1 = len
        · rw [if_pos c2, if_pos c2]
        · rw [if_neg c2, if_neg c2, x_up_off (fun e => by have := (ix_inj hj' hj e).1; omega)]
      · rw [if_neg c1]
        by_cases c3 : j' = j ∧ i ≤ k
        · have hki : k = i := by omega
          subst hki
          rw [if_pos c3, if_neg (by omega), c3.1, x_up_at]
        · rw [if_neg c3, x_up_off (fun e => by have := ix_inj hj' hj e; omega)]
    · have q2 : len = i + 1 := by omega
      subst q2
      have b0 := hs.in hi hl hj
      rw [nI_1, h3, if_neg (nI_nlt (Nat.le_refl _) (by omega)), hs.1, Option.bind_some, h1, nI_pred, pk_mul, nI_add, hs.2.1, ite_ok b0 (by omega), nI_clamp (by omega), nI_1]
      refine ⟨_, rfl, fun b hb => x_up_row' hb, fun k j' hk hj' => ?_⟩
      by_cases c3 : j' = j ∧ i ≤ k
      · have hki : k = i := by omega
        subst hki
        rw [if_pos c3, if_pos rfl, c3.1, x_up_at]
      · rw [if_neg c3, x_up_off (fun e => by have := ix_inj hj' hj e; omega)]
theorem C_touch_out {a cap c len : Nat} (hs : SF a cap c) (n : Nat) (w : Nat) (hw : w < len) (hl : len ≤ cap) (hn : 20 < n) : ∀ (f j : Nat) (σ : xM), j ≤ c → c - j < f → σ a 1 = nI c → σ a 3 = nI len → ∃ σ', B_X1_touch_15 n a f σ (nI w) (nI j) = some σ' ∧ (∀ b, b ≠ a + 1 → σ' b = σ b) ∧ (∀ k j', k < len → j' < c → σ' (a + 1) (k * c + j') = if j ≤ j' ∧ w ≤ k then (if k + 1 = len then σ (a + 1) (w * c + j') else σ (a + 1) ((k + 1) * c + j')) else σ (a + 1) (k * c + j')) := by
  intro f
  induction f with
  | zero => intro j σ h1 h2; omega
  | succ f ih =>
    intro j σ hj hf h1 h3
    have hcap := hs.2.2.2.2.1
    have hcc := hs.2.2.2.1
    have hsz := hs.sz
    have haa : a ≠ a + 1 := by omega
    show ∃ σ', (if nI j < σ a 1 then _ else _) = _ ∧ _
    by_cases q : j < c
    · have b0 := hs.in hw hl q
      rw [h1, if_pos (nI_lt q (by omega)), hs.1, Option.bind_some, pk_mul, nI_add, hs.2.1, ite_ok b0 (by omega), nI_clamp (by omega)]
      obtain ⟨σ1, e1, p1, p2⟩ := C_touch_in hs n (fun σ l1 l2 => B_X1_touch_15 n a f σ l1 l2) w j (σ (a + 1) (w * c + j)) q hl n w σ hw (by omega) h1 h3
      rw [e1]
      obtain ⟨σ', e, r1, r2⟩ := ih (j + 1) σ1 q (by omega) (by rw [p1 a haa]; exact h1) (by rw [p1 a haa]; exact h3)
      refine ⟨σ', e, fun b hb => by rw [r1 b hb, p1 b hb], fun k j' hk hj' => ?_⟩
      rw [r2 k j' hk hj']
      by_cases c1 : j + 1 ≤ j' ∧ w ≤ k
      · rw [if_pos c1, if_pos (show j ≤ j' ∧ w ≤ k from ⟨by omega, c1.2⟩)]
        by_cases c2 : k + 1 = len
        · rw [if_pos c2, if_pos c2, p2 w j' hw hj', if_neg (by omega)]
        · rw [if_neg c2, if_neg c2, p2 (k + 1) j' (by omega) hj', if_neg (by omega)]
      · rw [if_neg c1, p2 k j' hk hj']
        by_cases c3 : j ≤ j' ∧ w ≤ k
        · have hjj : j' = j := by omega
          subst hjj
          rw [if_pos c3, if_pos ⟨rfl, c3.2⟩]
        · rw [if_neg c3, if_neg (fun q => c3 ⟨by omega, q.2⟩)]
    · rw [h1, if_neg (nI_nlt (by omega) (by omega))]
      refine ⟨σ, rfl, fun _ _ => rfl, fun k j' hk hj' => ?_⟩
      rw [if_neg (by omega)]
theorem get_touch {l : List xR} {w : Nat} {r : xR} (hw : l[w]? = some r) (k : Nat) : (l.eraseIdx w ++ [r])[k]? = if k < w then l[k]? else if k + 1 < l.length then l[k + 1]? else if k + 1 = l.length then some r else none := by
  have hl := lt_of_get hw
  have e1 : (l.eraseIdx w).length = l.length - 1 := by rw [List.length_eraseIdx, if_pos hl]
  rw [List.getElem?_append, e1, List.getElem?_eraseIdx]
  by_cases c1 : k < w
  · rw [if_pos c1, if_pos c1, if_pos (by omega)]
  · rw [if_neg c1, if_neg c1]
    by_cases c2 : k + 1 < l.length
    · rw [if_pos c2, if_pos (by omega)]
    · rw [if_neg c2, if_neg (by omega)]
      by_cases c3 : k + 1 = l.length
      · rw [if_pos c3, show k - (l.length - 1) = 0 by omega]
        rfl
      · rw [if_neg c3, List.getElem?_eq_none (by simp; omega)]
theorem len_touch {l : List xR} {w : Nat} {r : xR} (hw : l[w]? = some r) : (l.eraseIdx w ++ [r]).length = l.length := by
  have hl := lt_of_get hw
  rw [List.length_append, List.length_eraseIdx, if_pos hl]
  simp
  omega
theorem C_touch {τ : xM} {a cap c : Nat} {l : List xR} (h : CR τ a cap c l) (hs : SF a cap c) {n : Nat} (hn : 20 < n) {w : Nat} {r : xR} (hw : l[w]? = some r) : ∃ τ', F_X1_touch n τ a (nI w) = some τ' ∧ (∀ b, b ≠ a + 1 → τ' b = τ b) ∧ CR τ' a cap c (l.eraseIdx w ++ [r]) := by
  have hl := lt_of_get hw
  have hcap := hs.2.2.2.2.1
  have hlen := h.2.2.2.1
  have haa : a ≠ a + 1 := by omega
  unfold F_X1_touch
  rw [if_neg (nI_pos (by omega)), h.2.2.1, if_pos (nI_lt hl (by omega))]
  obtain ⟨τ', e, p1, p2⟩ := C_touch_out hs n w hl hlen hn n 0 τ (Nat.zero_le _) (by have := hs.2.2.2.1; omega) h.2.1 h.2.2.1
  refine ⟨τ', e, p1, ?_⟩
  refine ⟨by rw [p1 a haa]; exact h.1, by rw [p1 a haa]; exact h.2.1, by rw [p1 a haa, len_touch hw]; exact h.2.2.1, by rw [len_touch hw]; exact hlen, fun k r' hk j hj => ?_⟩
  have hk' : k < l.length := by have := lt_of_get hk; rw [len_touch hw] at this; exact this
  rw [Nat.zero_add, p2 k j hk' hj]
  rw [get_touch hw] at hk
  by_cases c1 : k < w
  · rw [if_pos c1] at hk
    rw [if_neg (by omega)]
    exact h.cell hk hj
  · rw [if_neg c1] at hk
    rw [if_pos ⟨Nat.zero_le _, by omega⟩]
    by_cases c2 : k + 1 < l.length
    · rw [if_pos c2] at hk
      rw [if_neg (by omega)]
      exact h.cell hk hj
    · rw [if_neg c2, if_pos (by omega)] at hk
      cases hk
      rw [if_pos (by omega)]
      exact h.cell hw hj
theorem C_touch_no {τ : xM} {a cap c : Nat} {l : List xR} (h : CR τ a cap c l) (n : Nat) {x : Int32} (hx : x < 0 ∨ ¬ x < nI l.length) : F_X1_touch n τ a x = some τ := by
  unfold F_X1_touch
  by_cases q : x < 0
  · rw [if_pos q]
  · rw [if_neg q, h.2.2.1, if_neg (hx.resolve_left q)]
theorem C_remove_no {τ : xM} {a cap c : Nat} {l : List xR} (h : CR τ a cap c l) (n : Nat) {x : Int32} (hx : x < 0 ∨ ¬ x < nI l.length) : F_X1_remove n τ a x = some τ := by
  unfold F_X1_remove
  by_cases q : x < 0
  · rw [if_pos q]
  · rw [if_neg q, h.2.2.1, if_neg (hx.resolve_left q)]
theorem C_remove {τ : xM} {a cap c : Nat} {l : List xR} (h : CR τ a cap c l) (hs : SF a cap c) {n : Nat} (hn : 20 < n) {w : Nat} (hl : w < l.length) : ∃ τ', F_X1_remove n τ a (nI w) = some τ' ∧ (∀ b, b ≠ a → b ≠ a + 1 → τ' b = τ b) ∧ CR τ' a cap c (l.eraseIdx w) := by
  have hcap := hs.2.2.2.2.1
  have hlen := h.2.2.2.1
  obtain ⟨r, hw⟩ : ∃ r, l[w]? = some r := ⟨l[w], List.getElem?_eq_getElem hl⟩
  obtain ⟨τ1, e, p1, p2⟩ := C_touch h hs hn hw
  unfold F_X1_remove
  rw [if_neg (nI_pos (by omega)), h.2.2.1, if_pos (nI_lt hl (by omega)), e, Option.bind_some]
  have e1 : (l.eraseIdx w).length = l.length - 1 := by rw [List.length_eraseIdx, if_pos hl]
  refine ⟨_, rfl, fun b h0 h1 => by rw [x_up_row' h0, p1 b h1], ?_⟩
  have haa : a + 1 ≠ a := by omega
  refine ⟨by rw [x_up_off (by decide)]; exact p2.1, by rw [x_up_off (by decide)]; exact p2.2.1, ?_, by rw [e1]; omega, fun k r' hk j hj => ?_⟩
  · rw [x_up_at, p2.2.2.1, len_touch hw, e1]
    obtain ⟨m, hm⟩ : ∃ m, l.length = m + 1 := ⟨l.length - 1, by omega⟩
    rw [hm, nI_pred]
    rfl
  · rw [x_up_row' haa]
    refine p2.2.2.2.2 k r' ?_ j hj
    rw [List.getElem?_append, if_pos (lt_of_get hk)]
    exact hk
/-- the list with room for one more row at its end -/
def pushL (m : Nat) (l : List xR) : List xR := if l.length < m then l else l.tail
theorem pushL_len {m : Nat} {l : List xR} (h : l.length ≤ m) (h0 : 1 ≤ m) : (pushL m l).length + 1 ≤ m := by
  unfold pushL
  by_cases q : l.length < m
  · rw [if_pos q]
    exact q
  · rw [if_neg q, List.length_tail]
    omega
theorem C_open {τ : xM} {a cap c : Nat} {l : List xR} (h : CR τ a cap c l) (hs : SF a cap c) {n : Nat} (hn : 20 < n) {m : Nat} (hm : 1 ≤ m) (hmc : m ≤ cap) (hlm : l.length ≤ m) : ∃ τ' g, F_X1_open n τ a (nI m) = some (nI (pushL m l).length, τ') ∧ (∀ b, b ≠ a → b ≠ a + 1 → τ' b = τ b) ∧ CR τ' a cap c (pushL m l ++ [g]) := by
  have hcap := hs.2.2.2.2.1
  have hlen := h.2.2.2.1
  unfold F_X1_open
  by_cases q : l.length < m
  · rw [h.2.2.1, if_pos (nI_lt q (by omega)), h.1, if_pos (nI_lt (by omega) (by omega))]
    have e0 : pushL m l = l := if_pos q
    rw [e0]
    have e9 : x_up τ a 3 (nI l.length + 1) a 3 - 1 = nI l.length := by rw [x_up_at, nI_1, nI_pred]
    refine ⟨x_up τ a 3 (nI l.length + 1), fun j => x_up τ a 3 (nI l.length + 1) (a + 1) (l.length * c + j), by
      show some (x_up τ a 3 (nI l.length + 1) a 3 - 1, x_up τ a 3 (nI l.length + 1)) = _
      rw [e9], fun b h0 _ => x_up_row' h0, ?_⟩
    have haa : a + 1 ≠ a := by omega
    refine ⟨by rw [x_up_off (by decide)]; exact h.1, by rw [x_up_off (by decide)]; exact h.2.1, by rw [x_up_at, nI_1]; simp, by simp; omega, fun k r' hk j hj => ?_⟩
    rw [x_up_row' haa, Nat.zero_add]
    rw [List.getElem?_append] at hk
    by_cases c1 : k < l.length
    · rw [if_pos c1] at hk
      exact h.cell hk hj
    · rw [if_neg c1] at hk
      have hk0 : k = l.length := by
        have := lt_of_get hk
        simp at this
        omega
      subst hk0
      rw [Nat.sub_self] at hk
      cases hk
      rw [x_up_row' haa]
      rfl
  · have hlm' : l.length = m := by omega
    rw [h.2.2.1, if_neg (nI_nlt (by omega) (by omega))]
    obtain ⟨r0, l1, rfl⟩ : ∃ r0 l1, l = r0 :: l1 := by
      cases l with
      | nil => simp at hlm'; omega
      | cons r0 l1 => exact ⟨r0, l1, rfl⟩
    have e0 : pushL m (r0 :: l1) = l1 := if_neg q
    rw [e0]
    obtain ⟨τ1, e, p1, p2⟩ := C_touch (w := 0) h hs hn rfl
    unfold B_X1_open_32
    rw [show (0 : Int32) = nI 0 from rfl, e, Option.bind_some]
    refine ⟨τ1, r0, ?_, fun b _ h1 => p1 b h1, p2⟩
    rw [p2.2.2.1]
    simp only [List.eraseIdx_zero, List.tail_cons, List.length_append, List.length_cons, List.length_nil, Nat.zero_add]
    rw [nI_pred]
