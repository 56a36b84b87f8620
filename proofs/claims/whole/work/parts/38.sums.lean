/-! both sides' sums of new lines are one *)  -/
theorem cntP_end {P : xR → Bool} {a : xA} {m : Nat} (h : ∀ s, m ≤ s → aS a s = []) : ∀ k, cntP P a (m + k) = cntP P a m := by
  intro k
  induction k with
  | zero => rfl
  | succ k ih =>
    show cntP P a (m + k) + (aS a (m + k)).countP P = _
    rw [h _ (by omega), ih]
    rfl
theorem cntP_8 {B : Nat} {a : xA} (I : Inv B a) (P : xR → Bool) : cntP P a 8 = cntP P a (aC a 0) := by
  have e := cntP_end (P := P) (a := a) (m := aC a 0) (fun s hs => (I.2.1 s).1 hs) (8 - aC a 0)
  rw [show aC a 0 + (8 - aC a 0) = 8 by have := I.1.2.1; omega] at e
  exact e
theorem cntP_congr {P Q : xR → Bool} {a : xA} (h : ∀ s r, r ∈ aS a s → P r = Q r) : ∀ m, cntP P a m = cntP Q a m := by
  intro m
  induction m with
  | zero => rfl
  | succ m ih =>
    show cntP P a m + (aS a m).countP P = cntP Q a m + (aS a m).countP Q
    rw [ih, List.countP_congr (fun r hr => by rw [h m r hr])]
theorem uc_h {x : Int32} {m h : Nat} (hm : m ≤ 6) (hb : okBy m x) (hh : h < 2 ^ 30) : uc x = nI h ↔ x = nI h := by
  rcases hb with q | ⟨k, hk, q⟩
  · rw [q]
    constructor
    · intro e
      exact absurd e.symm (nI_m1 (by omega))
    · intro e
      have : nI h < 0 := by rw [← e]; decide
      exact absurd this (nI_pos (by omega))
  · rw [q, uc_nI (by omega)]
theorem new_same {B : Nat} {a : xA} (I : Inv B a) {h : Nat} (hh : h < 2 ^ 30) : cntP (newBy (nI h)) a 8 = cntP (newQ (nI h)) a (aC a 0) := by
  rw [cntP_8 I]
  refine cntP_congr (fun s r hr => ?_) _
  have hb := ((I.2.1 s).2.2.1 r hr).2.1
  unfold newBy newQ
  refine decide_eq_decide.mpr ⟨fun e => ⟨e.1, Or.inr ((uc_h I.hn hb hh).mpr e.2)⟩, fun e => ⟨e.1, ?_⟩⟩
  exact (uc_h I.hn hb hh).mp (e.2.resolve_left (nI_pos (by omega)))
def sumN (g : Nat → Nat) : Nat → Nat
  | 0 => 0
  | h + 1 => sumN g h + g h
theorem sumN_add (g k : Nat → Nat) : ∀ m, sumN (fun h => g h + k h) m = sumN g m + sumN k m := by
  intro m
  induction m with
  | zero => rfl
  | succ m ih =>
    show sumN (fun h => g h + k h) m + (g m + k m) = sumN g m + g m + (sumN k m + k m)
    rw [ih]
    omega
theorem sumN_zero {g : Nat → Nat} : ∀ m, (∀ h, h < m → g h = 0) → sumN g m = 0 := by
  intro m
  induction m with
  | zero => intro _; rfl
  | succ m ih =>
    intro hg
    show sumN g m + g m = 0
    rw [ih (fun h hh => hg h (by omega)), hg m (Nat.lt_succ_self _)]
theorem sumN_one {g : Nat → Nat} {k : Nat} : ∀ m, k < m → (∀ h, h < m → g h = if h = k then 1 else 0) → sumN g m = 1 := by
  intro m
  induction m with
  | zero => intro h _; omega
  | succ m ih =>
    intro hk hg
    show sumN g m + g m = 1
    rw [hg m (Nat.lt_succ_self _)]
    by_cases q : m = k
    · rw [if_pos q, sumN_zero m (fun h hh => by rw [hg h (by omega), if_neg (by omega)])]
    · rw [if_neg q, ih (by omega) (fun h hh => hg h (by omega))]
theorem new_list {m : Nat} (hm : m ≤ 6) : ∀ L : List xR, (∀ r, r ∈ L → okBy m (r 1) ∧ (r 2 = 0 ∨ r 2 = 1 ∧ r 1 ≠ -100005)) → sumN (fun h => L.countP (newBy (nI h))) m = L.countP (newQ (-1)) := by
  intro L
  induction L with
  | nil => intro _; exact sumN_zero m (fun _ _ => rfl)
  | cons r L ih =>
    intro hr
    have e : (fun h => (r :: L).countP (newBy (nI h))) = fun h => L.countP (newBy (nI h)) + (if newBy (nI h) r then 1 else 0) := by
      funext h
      exact List.countP_cons
    rw [e, sumN_add, ih (fun r' h' => hr r' (List.mem_cons_of_mem _ h')), List.countP_cons]
    congr 1
    obtain ⟨hb, hn⟩ := hr r List.mem_cons_self
    rcases hn with q | ⟨q, q2⟩
    · have e1 : newQ (-1) r = false := decide_eq_false (fun e => by rw [q] at e; exact absurd e.1 (by decide))
      rw [e1, sumN_zero m (fun h _ => by
        have e2 : newBy (nI h) r = false := decide_eq_false (fun e => by rw [q] at e; exact absurd e.1 (by decide))
        rw [e2]
        rfl)]
      rfl
    · obtain ⟨k, hk, ek⟩ := hb.resolve_left q2
      have e1 : newQ (-1) r = true := decide_eq_true ⟨q, Or.inl (by decide)⟩
      rw [e1, sumN_one m hk (fun h hh => by
        by_cases c : h = k
        · have e2 : newBy (nI h) r = true := decide_eq_true ⟨q, by rw [ek, c]⟩
          rw [e2, if_pos c]
          rfl
        · have e2 : newBy (nI h) r = false := decide_eq_false (fun e => by
            rw [ek, nI_eq (by omega) (by omega)] at e
            exact c e.2.symm)
          rw [e2, if_neg c]
          rfl)]
      rfl
theorem sNewAll_eq {B : Nat} {a : xA} (I : Inv B a) : sNewAll a (aC a 2) = cntP (newQ (-1)) a (aC a 0) := by
  rw [← cntP_8 I]
  have e1 : ∀ m, sNewAll a m = sumN (fun h => cntP (newBy (nI h)) a 8) m := by
    intro m
    induction m with
    | zero => rfl
    | succ m ih =>
      show sNewAll a m + _ = sumN _ m + _
      rw [ih]
  have e2 : ∀ s, sumN (fun h => cntP (newBy (nI h)) a s) (aC a 2) = cntP (newQ (-1)) a s := by
    intro s
    induction s with
    | zero => exact sumN_zero _ (fun _ _ => rfl)
    | succ s ih =>
      have e : (fun h => cntP (newBy (nI h)) a (s + 1)) = fun h => cntP (newBy (nI h)) a s + (aS a s).countP (newBy (nI h)) := rfl
      rw [e, sumN_add, ih, new_list I.hn (aS a s) (fun r hr => ((I.2.1 s).2.2.1 r hr).2)]
      rfl
  rw [e1, e2]
