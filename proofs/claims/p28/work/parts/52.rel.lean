/-! the object and the check side by side *)  -/
def CR6 (τ : xM) (a : xA) : Prop := CRep τ a ∧ aC a 2 ≤ 6
theorem CR6.low {τ τ' : xM} {a : xA} (h : CR6 τ a) (e : ∀ r, r < 47 → τ' r = τ r) : CR6 τ' a := ⟨h.1.low h.2 e, h.2⟩
theorem hsO_ge {v : Int32} {o : Nat} (h : hsO v = some o) : 145 ≤ o ∧ o ≤ 286 ∧ (o = 145 ∨ o = 192 ∨ o = 239 ∨ o = 286) := by
  unfold hsO at h
  split at h
  · cases h; decide
  · split at h
    · cases h; decide
    · split at h
      · cases h; decide
      · split at h
        · cases h; decide
        · cases h
/-- the past: four states by their places, the first m of them recorded -/
def PO (σ : xM) (hs : Nat → xA) (oo : Nat → Nat) : Prop := (∀ k, k < 4 → hsO (σ 1 k) = some (oo k) ∧ CR6 (x_sh (oo k) σ) (hs k)) ∧ ∀ k j, k < 4 → j < 4 → oo k = oo j → k = j
theorem apart {σ : xM} {hs : Nat → xA} {oo : Nat → Nat} (h : PO σ hs oo) {k j : Nat} (hk : k < 4) (hj : j < 4) (q : k ≠ j) : oo k + 47 ≤ oo j ∨ oo j + 47 ≤ oo k := by
  have h1 := hsO_ge (h.1 k hk).1
  have h2 := hsO_ge (h.1 j hj).1
  have h3 : oo k ≠ oo j := fun e => q (h.2 k j hk hj e)
  omega
theorem T_rem56 {σ : xM} {hs : Nat → xA} {oo : Nat → Nat} {a : xA} {m n : Nat} (hn : 400 < n) (hm : m < 4) (h6 : σ 0 6 = nI m) (hP : PO σ hs oo) (hc : CR6 (x_sh 4 σ) a) : ∃ σ', B_X4_remember_56 n σ = some σ' ∧ σ' 0 6 = nI (m + 1) ∧ (∀ k, k ≠ 6 → σ' 0 k = σ 0 k) ∧ (∀ r, r ≠ 0 → r < 145 → σ' r = σ r) ∧ PO σ' (fun k => if k = m then a else hs k) oo := by
  obtain ⟨e1, c1⟩ := hP.1 m hm
  have g1 := hsO_ge e1
  obtain ⟨σ2, e2, c2, f2⟩ := C_copy2 (n := n) (o := oo m) (o2 := 4) (by omega) (Or.inr (by omega)) hc.1 hc.2 c1.1
  have e0 : σ2 0 = σ 0 := f2 0 (Or.inl (by omega))
  refine ⟨x_up σ2 0 6 (nI (m + 1)), ?_, x_up_at, fun k hk => ?_, fun r hr hr2 => ?_, fun k hk => ?_, hP.2⟩
  · unfold B_X4_remember_56
    rw [h6, ite_ok hm (by omega), nI_clamp (by omega), e1, Option.bind_some, e2, Option.bind_some]
    show some (x_up σ2 0 6 (σ2 0 6 + 1)) = _
    rw [e0, h6, nI_1]
  · rw [x_up_off hk, e0]
  · rw [x_up_row' hr, f2 r (Or.inl (by omega))]
  · obtain ⟨e3, c3⟩ := hP.1 k hk
    have g3 := hsO_ge e3
    refine ⟨by rw [x_up_row' (show 1 ≠ 0 by decide), f2 1 (Or.inl (by omega))]; exact e3, ?_⟩
    show CR6 _ (if k = m then a else hs k)
    by_cases q : k = m
    · subst q
      rw [if_pos rfl]
      exact CR6.low ⟨c2, hc.2⟩ (fun r hr => x_up_row' (by omega))
    · rw [if_neg q]
      have ap := apart hP hk hm q
      refine c3.low (fun r hr => ?_)
      show x_up σ2 0 6 (nI (m + 1)) (oo k + r) = σ (oo k + r)
      rw [x_up_row' (by omega)]
      exact f2 _ (by omega)
def rot (σ : xM) (k : Nat) : xM := fun r j => if r = 1 ∧ j < k then σ 1 (j + 1) else σ r j
theorem rot_0 (σ : xM) : rot σ 0 = σ := by
  funext r j
  simp only [rot]
  rw [if_neg (by omega)]
theorem rot_s (σ : xM) (k : Nat) : x_up (rot σ k) 1 k (rot σ k 1 (k + 1)) = rot σ (k + 1) := by
  funext r j
  simp only [x_up, rot]
  rw [if_neg (show ¬ (True ∧ k + 1 < k) from fun e => by have := e.2; omega)]
  by_cases c : r = 1 ∧ j = k
  · rw [if_pos c, if_pos (by omega), c.2]
  · rw [if_neg c]
    by_cases c2 : r = 1 ∧ j < k
    · rw [if_pos c2, if_pos (by omega)]
    · rw [if_neg c2, if_neg (by omega)]
theorem rot_row (σ : xM) (k : Nat) {r : Nat} (h : r ≠ 1) : rot σ k r = σ r := by
  funext j
  simp only [rot]
  rw [if_neg (by omega)]
theorem T_remember {σ : xM} {hs : Nat → xA} {oo : Nat → Nat} {a : xA} {m n : Nat} (hn : 400 < n) (hm : m ≤ 4) (h6 : σ 0 6 = nI m) (hP : PO σ hs oo) (hc : CR6 (x_sh 4 σ) a) : ∃ σ' hs' oo', F_X4_remember n σ = some σ' ∧ σ' 0 6 = nI (min m 3 + 1) ∧ (∀ k, k ≠ 6 → σ' 0 k = σ 0 k) ∧ (∀ r, r ≠ 0 → r ≠ 1 → r < 145 → σ' r = σ r) ∧ PO σ' hs' oo' ∧ ∀ k, hs' k = if k = min m 3 then a else if m = 4 then hs (k + 1) else hs k := by
  unfold F_X4_remember
  rw [h6]
  by_cases q : m < 4
  · obtain ⟨σ', e, x1, x2, x3, x4⟩ := T_rem56 hn q h6 hP hc
    refine ⟨σ', _, oo, ?_, ?_, x2, fun r h1 _ h2 => x3 r h1 h2, x4, fun k => ?_⟩
    · rw [if_pos (show nI m < (4 : Int32) from nI_lt (b := 4) q (by omega))]
      exact e
    · rw [x1, show min m 3 = m by omega]
    · rw [show min m 3 = m by omega, if_neg (show ¬ m = 4 by omega)]
  · have em : m = 4 := by omega
    subst em
    obtain ⟨e0, c0⟩ := hP.1 0 (by decide)
    have step : ∀ (f k : Nat), k < 3 → B_X4_remember_17 n (f + 1) (rot σ k) (σ 1 0) (oo 0) (nI k) = B_X4_remember_17 n f (rot σ (k + 1)) (σ 1 0) (oo 0) (nI (k + 1)) := by
      intro f k hk
      show (if nI k + 1 < (4 : Int32) then _ else _) = _
      have e1 : rot σ k 1 (k + 1) = σ 1 (k + 1) := by
        simp only [rot]
        rw [if_neg (by omega)]
      rw [nI_1, if_pos (show nI (k + 1) < (4 : Int32) from nI_lt (b := 4) (by omega) (by omega)), ite_ok (by omega) (by omega), nI_clamp (by omega), e1, (hP.1 (k + 1) (by omega)).1, Option.bind_some, ite_ok (by omega) (by omega), nI_clamp (by omega), ← e1, rot_s]
    have fin : ∀ f, B_X4_remember_17 n (f + 1) (rot σ 3) (σ 1 0) (oo 0) (nI 3) = B_X4_remember_56 n (x_up (x_up (rot σ 3) 1 3 (σ 1 0)) 0 6 3) := by
      intro f
      show (if nI 3 + 1 < (4 : Int32) then _ else _) = _
      rw [if_neg (show ¬ nI 3 + 1 < (4 : Int32) by decide), if_neg (show ¬ ((3 : Int32) < 0 ∨ 4 ≤ (3 : Int32).toNatClampNeg) by decide)]
      rfl
    have hP4 : PO (x_up (x_up (rot σ 3) 1 3 (σ 1 0)) 0 6 3) (fun k => if k = 3 then hs 0 else hs (k + 1)) (fun k => if k = 3 then oo 0 else oo (k + 1)) := by
      have sh : ∀ o, 145 ≤ o → x_sh o (x_up (x_up (rot σ 3) 1 3 (σ 1 0)) 0 6 3) = x_sh o σ := fun o ho => by
        funext r
        show x_up (x_up (rot σ 3) 1 3 (σ 1 0)) 0 6 3 (o + r) = σ (o + r)
        rw [x_up_row' (by omega), x_up_row' (by omega), rot_row _ _ (by omega)]
      refine ⟨fun k hk => ?_, fun k j hk hj e => ?_⟩
      · rw [x_up_row' (show 1 ≠ 0 by decide)]
        by_cases q3 : k = 3
        · rw [q3, x_up_at]
          refine ⟨e0, ?_⟩
          show CR6 (x_sh (oo 0) _) (hs 0)
          rw [sh _ (hsO_ge e0).1]
          exact c0
        · obtain ⟨e1, c1⟩ := hP.1 (k + 1) (by omega)
          have er : rot σ 3 1 k = σ 1 (k + 1) := by
            simp only [rot]
            rw [if_pos ⟨trivial, by omega⟩]
          rw [x_up_off q3, er]
          simp only [if_neg q3]
          rw [sh _ (hsO_ge e1).1]
          exact ⟨e1, c1⟩
      · simp only at e
        by_cases q1 : k = 3
        · by_cases q2 : j = 3
          · omega
          · rw [if_pos q1, if_neg q2] at e
            have := hP.2 0 (j + 1) (by omega) (by omega) e
            omega
        · by_cases q2 : j = 3
          · rw [if_neg q1, if_pos q2] at e
            have := hP.2 (k + 1) 0 (by omega) (by omega) e
            omega
          · rw [if_neg q1, if_neg q2] at e
            have := hP.2 (k + 1) (j + 1) (by omega) (by omega) e
            omega
    have hc4 : CR6 (x_sh 4 (x_up (x_up (rot σ 3) 1 3 (σ 1 0)) 0 6 3)) a := hc.low (fun r hr => by
      show x_up (x_up (rot σ 3) 1 3 (σ 1 0)) 0 6 3 (4 + r) = σ (4 + r)
      rw [x_up_row' (by omega), x_up_row' (by omega), rot_row _ _ (by omega)])
    obtain ⟨σ', e, x1, x2, x3, x4⟩ := T_rem56 (m := 3) hn (by decide) (by rw [x_up_at]; rfl) hP4 hc4
    refine ⟨σ', _, _, ?_, x1, fun k hk => ?_, fun r h1 h2 h3 => ?_, x4, fun k => ?_⟩
    · obtain ⟨f, rfl⟩ : ∃ f, n = f + 4 := ⟨n - 4, by omega⟩
      rw [if_neg (show ¬ nI 4 < (4 : Int32) by decide), if_neg (show ¬ ((0 : Int32) < 0 ∨ 4 ≤ (0 : Int32).toNatClampNeg) by decide), show ((0 : Int32).toNatClampNeg) = 0 from rfl, e0, Option.bind_some]
      have s0 := step (f + 3) 0 (by decide)
      rw [rot_0] at s0
      exact s0.trans ((step (f + 2) 1 (by decide)).trans ((step (f + 1) 2 (by decide)).trans ((fin f).trans e)))
    · rw [x2 k hk, x_up_off hk, x_up_row' (by decide), rot_row _ _ (by decide)]
    · rw [x3 r h1 h3, x_up_row' h1, x_up_row' h2, rot_row _ _ h2]
    · show (if k = 3 then a else if k = 3 then hs 0 else hs (k + 1)) = if k = 3 then a else if 4 = 4 then hs (k + 1) else hs k
      by_cases q3 : k = 3
      · rw [if_pos q3, if_pos q3]
      · rw [if_neg q3, if_neg q3, if_neg q3, if_pos rfl]
