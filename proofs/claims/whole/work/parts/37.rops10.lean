/-! the check: throwing all out, sums over the lists *)  -/
theorem R_lines {a : xA} {ρ : Nat → Int32} (h : RRep ρ a) {n : Nat} (hn : 20 < n) (μ : xM) : F_X5_linesIn n (xr μ ρ) = some (nI (sLines a 8)) := by
  have loop : ∀ (f s : Nat), s ≤ 8 → 8 - s < f → B_X5_linesIn_4 n (xr μ ρ) f (nI (sLines a s)) (nI s) = some (nI (sLines a 8)) := by
    intro f
    induction f with
    | zero => intro s _ h1; omega
    | succ f ih =>
      intro s hs hf
      show (if nI s < (8 : Int32) then _ else _) = _
      by_cases q : s < 8
      · rw [if_pos (show nI s < (8 : Int32) from nI_lt (b := 8) q (by omega)), Int32.zero_add, gd (by omega), cl (by omega), xr_1, (h.2.1 s q).1, nI_add, nI_1]
        exact ih (s + 1) q (by omega)
      · have es : s = 8 := by omega
        subst es
        rw [if_neg (show ¬ nI 8 < (8 : Int32) by decide)]
  exact loop n 0 (Nat.zero_le _) (by omega)
theorem sEmpty_end {a : xA} {m : Nat} (h : ∀ s, m ≤ s → aS a s = []) : ∀ k, sEmpty (m + k) a = sEmpty m a := by
  intro k
  induction k with
  | zero => rfl
  | succ k ih =>
    show sOuts (m + k) (aS (sEmpty (m + k) a) (m + k)).length (sEmpty (m + k) a) = _
    rw [(sEmpty_r a (m + k)).1 _ (Nat.le_refl _), h _ (by omega)]
    exact ih
theorem R_empty {B : Nat} {a : xA} {ρ : Nat → Int32} (h : RRep ρ a) (I : Inv B a) {n : Nat} (hn : 20 < n) (μ : xM) (hB : B + 400 < 2 ^ 30) : ∃ ρ', F_X5_empty n (xr μ ρ) = some (nI (sLines a 8), xr μ ρ') ∧ RRep ρ' (sEmpty 8 a) := by
  have inner : ∀ (K : xM → Int32 → Int32 → Option (Int32 × xM)) (s : Nat) (c : Int32) (b : xA) (B' : Nat), s < 8 → Inv B' b → B' + 50 < 2 ^ 30 → ∀ (f k : Nat) (ρ : Nat → Int32), k ≤ (aS b s).length → (aS b s).length - k < f → RRep ρ (sOuts s k b) → ∃ ρ', B_X5_empty_19 n K f (xr μ ρ) c (nI s) = K (xr μ ρ') c (nI (s + 1)) ∧ RRep ρ' (sOuts s (aS b s).length b) := by
    intro K s c b B' hs Ib hB' f
    have hl : (aS b s).length ≤ 4 := Nat.le_trans (Ib.2.1 s).2.1 Ib.1.2.2.2.1
    induction f with
    | zero => intro k ρ _ h1; omega
    | succ f ih =>
      intro k ρ hk hf hr
      obtain ⟨g1, g2, g3⟩ := sOuts_r b s k hk
      have e0 : ρ s = nI ((aS b s).length - k) := (hr.2.1 s hs).1.trans (by rw [g1, List.length_drop])
      show ∃ ρ', (if (0 : Int32) + nI s < 0 ∨ 2506 ≤ ((0 : Int32) + nI s).toNatClampNeg then _ else _) = _ ∧ _
      rw [Int32.zero_add, gd (by omega), cl (by omega), xr_1, e0]
      by_cases q : k < (aS b s).length
      · have Ik := Inv_outs Ib s k (by omega)
        obtain ⟨r, l, hrl⟩ : ∃ r l, (aS b s).drop k = r :: l := by
          cases hd : (aS b s).drop k with
          | nil =>
            rw [List.drop_eq_nil_iff] at hd
            omega
          | cons r l => exact ⟨r, l, rfl⟩
        have hS := g1.trans hrl
        have hb := ((Ik.2.1 s).2.2.1 r (by rw [hS]; exact List.mem_cons_self)).2.1
        obtain ⟨ρ1, e1, c1⟩ := R_throw hr Ik hn μ hs hS (-100005)
        obtain ⟨ρ', e9, c9⟩ := ih (k + 1) ρ1 q (by omega) c1
        rw [if_pos (show (0 : Int32) < nI ((aS b s).length - k) from nI_lt (a := 0) (by omega) (by omega)), show (-1 : Int32) = uc (-100005) from rfl, e1, Option.bind_some]
        exact ⟨ρ', e9, c9⟩
      · have ek : k = (aS b s).length := by omega
        subst ek
        rw [if_neg (show ¬ (0 : Int32) < nI ((aS b s).length - (aS b s).length) from nI_nlt (a := 0) (by omega) (by omega)), nI_1]
        exact ⟨ρ, rfl, hr⟩
  have h8 := I.1.2.1
  have outer : ∀ (c : Int32) (f s : Nat) (ρ : Nat → Int32), s ≤ aC a 0 → aC a 0 - s < f → RRep ρ (sEmpty s a) → ∃ ρ', B_X5_empty_7 n f (xr μ ρ) c (nI s) = some (c, xr μ ρ') ∧ RRep ρ' (sEmpty (aC a 0) a) := by
    intro c f
    induction f with
    | zero => intro s ρ _ h1; omega
    | succ f ih =>
      intro s ρ hs hf hr
      have e0 : ρ 349 = nI (aC a 0) := (hr.c 0 (by decide)).trans (by rw [(sEmpty_r a s).2.2 0 (by decide)])
      show ∃ ρ', (if (349 : Int32) < 0 ∨ 2506 ≤ (349 : Int32).toNatClampNeg then _ else _) = some (c, xr μ ρ') ∧ _
      rw [show (349 : Int32) = nI 349 from rfl, gd (by decide), cl (by decide), xr_1, e0]
      by_cases q : s < aC a 0
      · have Is := Inv_empty I (by omega) s (by omega)
        have hl : (aS (sEmpty s a) s).length ≤ 4 := Nat.le_trans (Is.2.1 s).2.1 Is.1.2.2.2.1
        obtain ⟨ρ1, e1, c1⟩ := inner (fun σ l1 l2 => B_X5_empty_7 n f σ l1 l2) s c (sEmpty s a) _ (by omega) Is (by omega) n 0 ρ (Nat.zero_le _) (by omega) hr
        obtain ⟨ρ', e9, c9⟩ := ih (s + 1) ρ1 q (by omega) c1
        rw [if_pos (nI_lt q (by omega))]
        exact ⟨ρ', e1.trans e9, c9⟩
      · have es : s = aC a 0 := by omega
        subst es
        rw [if_neg (nI_nlt (Nat.le_refl _) (by omega))]
        exact ⟨ρ, rfl, hr⟩
  obtain ⟨ρ', e, c⟩ := outer (nI (sLines a 8)) n 0 ρ (Nat.zero_le _) (by omega) h
  refine ⟨ρ', ?_, ?_⟩
  · unfold F_X5_empty
    rw [R_lines h hn, Option.bind_some]
    exact e
  · have e8 := sEmpty_end (a := a) (m := aC a 0) (fun s hs => (I.2.1 s).1 hs) (8 - aC a 0)
    rw [show aC a 0 + (8 - aC a 0) = 8 by omega] at e8
    rw [e8]
    exact c
theorem R_hoursAll {a : xA} {ρ : Nat → Int32} (h : RRep ρ a) (h6 : aC a 2 ≤ 6) {n : Nat} (hn : 20 < n) (μ : xM) : F_X5_hoursOfAll n (xr μ ρ) = some (nI (sHrs a (aC a 2))) := by
  have e6 : ρ 351 = nI (aC a 2) := h.c 2 (by decide)
  have loop : ∀ (f s : Nat), s ≤ aC a 2 → aC a 2 - s < f → B_X5_hoursOfAll_4 n (xr μ ρ) f (nI (sHrs a s)) (nI s) = some (nI (sHrs a (aC a 2))) := by
    intro f
    induction f with
    | zero => intro s _ h1; omega
    | succ f ih =>
      intro s hs hf
      show (if (351 : Int32) < 0 ∨ 2506 ≤ (351 : Int32).toNatClampNeg then _ else _) = _
      rw [show (351 : Int32) = nI 351 from rfl, gd (by decide), cl (by decide), xr_1, e6]
      by_cases q : s < aC a 2
      · have e7 : ρ (120 + 14 * s + 4) = nI (aH a s 4) := h.f q 4 (by decide)
        rw [if_pos (nI_lt q (by omega)), show F_X5_of (nI s) (4 : Int32) = nI (120 + 14 * s + 4) from R_of s 4, gd (by omega), cl (by omega), xr_1, e7, nI_add, nI_1]
        exact ih (s + 1) q (by omega)
      · have es : s = aC a 2 := by omega
        subst es
        rw [if_neg (nI_nlt (Nat.le_refl _) (by omega))]
  exact loop n 0 (Nat.zero_le _) (by omega)
/-- a new line that a helper fetched; below 0: any -/
def newQ (x : Int32) (r : xR) : Bool := decide (r 2 = 1 ∧ (x < 0 ∨ uc (r 1) = x))
theorem R_newOf {a : xA} {ρ : Nat → Int32} (h : RRep ρ a) (z : Sz a) (h8 : aC a 0 ≤ 8) {n : Nat} (hn : 20 < n) (μ : xM) (x : Int32) : F_X5_newOf n (xr μ ρ) x = some (nI (cntP (newQ x) a (aC a 0))) := by
  have inner : ∀ (K : Int32 → Int32 → Int32 → Option Int32) (s c : Nat), s < 8 → ∀ (f k : Nat), k ≤ (aS a s).length → (aS a s).length - k < f → B_X5_newOf_19 n (xr μ ρ) K f x (nI (c + ((aS a s).take k).countP (newQ x))) (nI s) (nI k) = K x (nI (c + (aS a s).countP (newQ x))) (nI (s + 1)) := by
    intro K s c hs f
    obtain ⟨g1, g2⟩ := h.2.1 s hs
    have hl := z.1 s hs
    induction f with
    | zero => intro k _ h1; omega
    | succ f ih =>
      intro k hk hf
      show (if (0 : Int32) + nI s < 0 ∨ 2506 ≤ ((0 : Int32) + nI s).toNatClampNeg then _ else _) = _
      rw [Int32.zero_add, gd (by omega), cl (by omega), xr_1, g1]
      by_cases q : k < (aS a s).length
      · obtain ⟨r, hr⟩ : ∃ r, (aS a s)[k]? = some r := ⟨_, List.getElem?_eq_getElem q⟩
        have e2 : ρ (8 + 12 * s + k * 3 + 2) = r 2 := g2 k r hr 2 (by decide)
        have e1 : ρ (8 + 12 * s + k * 3 + 1) = uc (r 1) := g2 k r hr 1 (by decide)
        have hi := ih (k + 1) q (by omega)
        rw [cnt_take hr] at hi
        rw [if_pos (nI_lt q (by omega)), R_cell, show nI (8 + 12 * s + k * 3) + 2 = nI (8 + 12 * s + k * 3 + 2) from nI_add _ 2, show nI (8 + 12 * s + k * 3) + 1 = nI (8 + 12 * s + k * 3 + 1) from nI_add _ 1]
        simp (disch := omega) only [gd, gd2, cl, xr_1, e1, e2]
        unfold B_X5_newOf_71 B_X5_newOf_75 B_X5_newOf_76
        rw [nI_1, nI_1, Int32.add_zero]
        by_cases q2 : r 2 = 1
        · rw [if_pos q2]
          by_cases q0 : x < 0
          · have en : newQ x r = true := decide_eq_true ⟨q2, Or.inl q0⟩
            rw [en, if_pos rfl, ← Nat.add_assoc] at hi
            rw [if_pos q0]
            exact hi
          · rw [if_neg q0]
            by_cases q1 : uc (r 1) = x
            · have en : newQ x r = true := decide_eq_true ⟨q2, Or.inr q1⟩
              rw [en, if_pos rfl, ← Nat.add_assoc] at hi
              rw [if_pos q1]
              exact hi
            · have en : newQ x r = false := decide_eq_false (fun e => e.2.elim q0 q1)
              rw [en, if_neg (by decide), Nat.add_zero] at hi
              rw [if_neg q1]
              exact hi
        · have en : newQ x r = false := decide_eq_false (fun e => q2 e.1)
          rw [en, if_neg (by decide), Nat.add_zero] at hi
          rw [if_neg q2]
          exact hi
      · have ek : k = (aS a s).length := by omega
        subst ek
        rw [if_neg (nI_nlt (Nat.le_refl _) (by omega)), List.take_length, nI_1]
  have e0 : ρ 349 = nI (aC a 0) := h.c 0 (by decide)
  have outer : ∀ (f s : Nat), s ≤ aC a 0 → aC a 0 - s < f → B_X5_newOf_4 n (xr μ ρ) f x (nI (cntP (newQ x) a s)) (nI s) = some (nI (cntP (newQ x) a (aC a 0))) := by
    intro f
    induction f with
    | zero => intro s _ h1; omega
    | succ f ih =>
      intro s hs hf
      show (if (349 : Int32) < 0 ∨ 2506 ≤ (349 : Int32).toNatClampNeg then _ else _) = _
      rw [show (349 : Int32) = nI 349 from rfl, gd (by decide), cl (by decide), xr_1, e0]
      by_cases q : s < aC a 0
      · have hl := z.1 s (by omega)
        rw [if_pos (nI_lt q (by omega))]
        have e := inner (fun l1 l2 l3 => B_X5_newOf_4 n (xr μ ρ) f l1 l2 l3) s (cntP (newQ x) a s) (by omega) n 0 (Nat.zero_le _) (by omega)
        rw [List.take_zero] at e
        exact e.trans (ih (s + 1) q (by omega))
      · have es : s = aC a 0 := by omega
        subst es
        rw [if_neg (nI_nlt (Nat.le_refl _) (by omega))]
  exact outer n 0 (Nat.zero_le _) (by omega)
