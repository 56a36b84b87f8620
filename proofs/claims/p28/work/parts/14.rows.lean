/-! rows of numbers in a memory, as lists; the methods of Rows over them -/
abbrev xR : Type := Nat → Int32
theorem ix_lt {w m c j : Nat} (hw : w < m) (hj : j < c) : w * c + j < m * c := by
  have h1 : (w + 1) * c ≤ m * c := Nat.mul_le_mul_right c hw
  rw [Nat.succ_mul] at h1
  omega
theorem ix_inj {w w' c j j' : Nat} (hj : j < c) (hj' : j' < c) (h : w * c + j = w' * c + j') : w = w' ∧ j = j' := by
  rcases Nat.lt_trichotomy w w' with q | q | q
  · have h1 : (w + 1) * c ≤ w' * c := Nat.mul_le_mul_right c q
    rw [Nat.succ_mul] at h1
    omega
  · subst q
    exact ⟨rfl, Nat.add_left_cancel h⟩
  · have h1 : (w' + 1) * c ≤ w * c := Nat.mul_le_mul_right c q
    rw [Nat.succ_mul] at h1
    omega
theorem oob {k N : Nat} (hk : k < 2 ^ 31) : (nI k < 0 ∨ N ≤ (nI k).toNatClampNeg) ↔ N ≤ k := by
  rw [nI_clamp hk]
  constructor
  · rintro (h | h)
    · exact absurd h (nI_pos hk)
    · exact h
  · exact Or.inr
theorem ite_ok {α : Type} {k N : Nat} {a b : α} (hk : k < N) (hN : N < 2 ^ 31) : (if nI k < 0 ∨ N ≤ (nI k).toNatClampNeg then a else b) = b := if_neg (by rw [oob (by omega)]; omega)
def rp (f : Nat → Int32) (b c : Nat) (t : Nat → Int32 → Int32) (l : List xR) : Prop := ∀ (w : Nat) (r : xR), l[w]? = some r → ∀ j, j < c → f (b + w * c + j) = t j (r j)
def tid : Nat → Int32 → Int32 := fun _ x => x
def CR (τ : xM) (a cap c : Nat) (l : List xR) : Prop := τ a 0 = nI cap ∧ τ a 1 = nI c ∧ τ a 3 = nI l.length ∧ l.length ≤ cap ∧ rp (τ (a + 1)) 0 c tid l
def SF (a cap c : Nat) : Prop := gr a 2 = some (a + 1) ∧ ln (a + 1) = cap * c ∧ 1 ≤ c ∧ c ≤ 5 ∧ cap ≤ 12 ∧ 1 ≤ cap
theorem SF.sz {a cap c : Nat} (h : SF a cap c) : cap * c ≤ 60 := Nat.mul_le_mul h.2.2.2.2.1 h.2.2.2.1
theorem SF.in {a cap c w j len : Nat} (h : SF a cap c) (hw : w < len) (hl : len ≤ cap) (hj : j < c) : w * c + j < cap * c := ix_lt (Nat.lt_of_lt_of_le hw hl) hj
theorem CR.cell {τ : xM} {a cap c : Nat} {l : List xR} (h : CR τ a cap c l) {w j : Nat} {r : xR} (hw : l[w]? = some r) (hj : j < c) : τ (a + 1) (w * c + j) = r j := by
  have h1 := h.2.2.2.2 w r hw j hj
  rw [Nat.zero_add] at h1
  exact h1
theorem lt_of_get {α : Type} {l : List α} {w : Nat} {r : α} (h : l[w]? = some r) : w < l.length := by
  rcases Nat.lt_or_ge w l.length with q | q
  · exact q
  · rw [List.getElem?_eq_none q] at h
    cases h
theorem C_holds_in {τ : xM} {a cap c : Nat} {l : List xR} (h : CR τ a cap c l) (hs : SF a cap c) (n : Nat) {w j : Nat} (hw : w < l.length) (hj : j < c) : F_X1_holds n τ a (nI w) (nI j) = some 1 := by
  have h1 := h.2.2.2.1
  have h2 := hs.2.2.2.1
  have h3 := hs.2.2.2.2.1
  unfold F_X1_holds
  rw [if_neg (nI_pos (by omega)), h.2.2.1, if_pos (nI_lt hw (by omega)), if_neg (nI_pos (by omega)), h.2.1, if_pos (nI_lt hj (by omega))]
theorem C_holds_no {τ : xM} {a cap c : Nat} {l : List xR} (h : CR τ a cap c l) (n : Nat) {x y : Int32} (hx : x < 0 ∨ ¬ x < nI l.length) : F_X1_holds n τ a x y = some 0 := by
  unfold F_X1_holds
  by_cases q : x < 0
  · rw [if_pos q]
  · rw [if_neg q, h.2.2.1, if_neg (hx.resolve_left q)]
theorem C_get {τ : xM} {a cap c : Nat} {l : List xR} (h : CR τ a cap c l) (hs : SF a cap c) (n : Nat) {w j : Nat} {r : xR} (hw : l[w]? = some r) (hj : j < c) : F_X1_get n τ a (nI w) (nI j) = some (r j) := by
  have hl := lt_of_get hw
  have h4 := hs.in hl h.2.2.2.1 hj
  have h5 := hs.sz
  unfold F_X1_get
  rw [C_holds_in h hs n hl hj, Option.bind_some, if_neg (by decide), hs.1, Option.bind_some, h.2.1, pk_mul, nI_add, hs.2.1, ite_ok h4 (by omega), nI_clamp (by omega), h.cell hw hj]
theorem C_get_no {τ : xM} {a cap c : Nat} {l : List xR} (h : CR τ a cap c l) (n : Nat) {x y : Int32} (hx : x < 0 ∨ ¬ x < nI l.length) : F_X1_get n τ a x y = some (-100005) := by
  unfold F_X1_get
  rw [C_holds_no h n hx, Option.bind_some, if_pos rfl]
theorem C_put {τ : xM} {a cap c : Nat} {l : List xR} (h : CR τ a cap c l) (hs : SF a cap c) (n : Nat) {w j : Nat} {v : Int32} (hl : w < l.length) (hj : j < c) : F_X1_put n τ a (nI w) (nI j) v = some (x_up τ (a + 1) (w * c + j) v) := by
  have h4 := hs.in hl h.2.2.2.1 hj
  have h5 := hs.sz
  unfold F_X1_put
  rw [C_holds_in h hs n hl hj, Option.bind_some, if_neg (by decide), hs.1, Option.bind_some, h.2.1, pk_mul, nI_add, hs.2.1, ite_ok h4 (by omega), nI_clamp (by omega)]
theorem C_put_no {τ : xM} {a cap c : Nat} {l : List xR} (h : CR τ a cap c l) (n : Nat) {x y v : Int32} (hx : x < 0 ∨ ¬ x < nI l.length) : F_X1_put n τ a x y v = some τ := by
  unfold F_X1_put
  rw [C_holds_no h n hx, Option.bind_some, if_pos rfl]
/-- another list of the same rows, as far as the columns go -/
theorem CR.congr {τ : xM} {a cap c : Nat} {l l' : List xR} (h : CR τ a cap c l) (hl : l.length = l'.length) (hr : ∀ (w : Nat) (r r' : xR), l[w]? = some r → l'[w]? = some r' → ∀ j, j < c → r j = r' j) : CR τ a cap c l' := by
  refine ⟨h.1, h.2.1, hl ▸ h.2.2.1, hl ▸ h.2.2.2.1, fun w r' hw j hj => ?_⟩
  have q : w < l.length := by rw [hl]; exact lt_of_get hw
  have e : l[w]? = some l[w] := List.getElem?_eq_getElem q
  rw [h.2.2.2.2 w l[w] e j hj]
  exact hr w _ _ e hw j hj
theorem CR.up {τ : xM} {a cap c : Nat} {l : List xR} (h : CR τ a cap c l) {w j : Nat} {r : xR} {v : Int32} (hw : l[w]? = some r) (hj : j < c) : CR (x_up τ (a + 1) (w * c + j) v) a cap c (l.set w (upd r j v)) := by
  have ha : a ≠ a + 1 := by omega
  refine ⟨?_, ?_, ?_, ?_, fun w' r' hw' j' hj' => ?_⟩
  · simp [x_up, h.1]
  · simp [x_up, h.2.1]
  · simp [x_up, h.2.2.1]
  · simpa using h.2.2.2.1
  · rw [Nat.zero_add, x_up_row]
    rw [List.getElem?_set] at hw'
    by_cases q : w = w'
    · subst q
      rw [if_pos rfl, if_pos (lt_of_get hw)] at hw'
      cases hw'
      by_cases q2 : j' = j
      · subst q2
        simp [upd, tid]
      · have q3 : ¬ w * c + j' = w * c + j := by omega
        simp only [upd, if_neg q3, if_neg q2, tid]
        exact h.cell hw hj'
    · rw [if_neg q] at hw'
      have q3 : ¬ w' * c + j' = w * c + j := fun e => q (ix_inj hj' hj e).1.symm
      simp only [upd, if_neg q3, tid]
      exact h.cell hw' hj'
theorem CR.other {τ τ' : xM} {a cap c : Nat} {l : List xR} (h : CR τ a cap c l) (h0 : ∀ k, k < 4 → τ' a k = τ a k) (h1 : τ' (a + 1) = τ (a + 1)) : CR τ' a cap c l :=
  ⟨(h0 0 (by decide)).trans h.1, (h0 1 (by decide)).trans h.2.1, (h0 3 (by decide)).trans h.2.2.1, h.2.2.2.1, by rw [h1]; exact h.2.2.2.2⟩
/-- the first row of a key: its place; the list's length if there is none -/
def kIdx (l : List xR) (x : Int32) : Nat := l.findIdx (fun r => decide (r 0 = x))
theorem kIdx_le (l : List xR) (x : Int32) : kIdx l x ≤ l.length := List.findIdx_le_length
theorem C_find_loop {τ : xM} {a cap c : Nat} {l : List xR} (h : CR τ a cap c l) (hs : SF a cap c) (n : Nat) (x : Int32) : ∀ (f i : Nat), i ≤ l.length → l.length - i < f → (∀ (w : Nat) (r : xR), w < i → l[w]? = some r → ¬ r 0 = x) → B_X1_find_2 n τ a f x (nI i) = some (if kIdx l x < l.length then nI (kIdx l x) else -100005) := by
  intro f
  induction f with
  | zero => intro i _ h1; omega
  | succ f ih =>
    intro i hi hf hno
    have h1 := h.2.2.2.1
    have h2 := hs.2.2.2.1
    have h3 := hs.2.2.2.2.1
    have hc := hs.2.2.1
    have h5 := hs.sz
    show (if nI i < τ a 3 then _ else _) = _
    by_cases q : i < l.length
    · obtain ⟨r, hr⟩ : ∃ r, l[i]? = some r := ⟨l[i], List.getElem?_eq_getElem q⟩
      have h4 : i * c + 0 < cap * c := hs.in q h1 hc
      rw [h.2.2.1, if_pos (nI_lt q (by omega)), hs.1, Option.bind_some, h.2.1, pk_mul, hs.2.1, ite_ok (by omega) (by omega), nI_clamp (by omega)]
      have e0 : τ (a + 1) (i * c) = r 0 := h.cell (j := 0) hr hc
      rw [e0]
      by_cases q2 : r 0 = x
      · have e : kIdx l x = i := by
          rw [kIdx, List.findIdx_eq q]
          have hr' : l[i] = r := by rw [List.getElem?_eq_getElem q] at hr; exact Option.some.inj hr
          refine ⟨by rw [hr']; exact decide_eq_true q2, fun j hj => decide_eq_false (hno j _ hj (List.getElem?_eq_getElem (Nat.lt_trans hj q)))⟩
        rw [if_pos q2, e, if_pos q]
      · rw [if_neg q2, nI_1]
        refine ih (i + 1) q (by omega) (fun w r' hw hr' => ?_)
        rcases Nat.lt_or_ge w i with q3 | q3
        · exact hno w r' q3 hr'
        · have : w = i := by omega
          subst this
          rw [hr] at hr'
          cases hr'
          exact q2
    · have e : i = l.length := by omega
      subst e
      have e : kIdx l x = l.length := List.findIdx_eq_length.mpr (fun r hr => by
        obtain ⟨w, hw⟩ := List.getElem?_of_mem hr
        exact decide_eq_false (hno w r (lt_of_get hw) hw))
      rw [h.2.2.1, if_neg (nI_nlt (Nat.le_refl _) (by omega)), e, if_neg (Nat.lt_irrefl _)]
theorem C_find {τ : xM} {a cap c : Nat} {l : List xR} (h : CR τ a cap c l) (hs : SF a cap c) {n : Nat} (hn : 20 < n) (x : Int32) : F_X1_find n τ a x = some (if kIdx l x < l.length then nI (kIdx l x) else -100005) := by
  have h1 := h.2.2.2.1
  have h3 := hs.2.2.2.2.1
  exact C_find_loop h hs n x n 0 (Nat.zero_le _) (by omega) (fun w _ hw => absurd hw (Nat.not_lt_zero _))
