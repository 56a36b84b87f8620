/-! the numbers that fit: what a helper fetched, used, fetched in vain and still has; its hours *)  -/
def sumH (H : Nat → Nat → Nat) (k : Nat) : Nat → Nat
  | 0 => 0
  | m + 1 => sumH H k m + H m k
theorem sumH_congr {H H' : Nat → Nat → Nat} {k : Nat} : ∀ m, (∀ h, h < m → H' h k = H h k) → sumH H' k m = sumH H k m := by
  intro m
  induction m with
  | zero => intro _; rfl
  | succ m ih =>
    intro h
    show sumH H' k m + H' m k = sumH H k m + H m k
    rw [ih (fun h' q => h h' (by omega)), h m (by omega)]
theorem sumH_at {H H' : Nat → Nat → Nat} {k h0 : Nat} (o : ∀ h, h ≠ h0 → H' h k = H h k) : ∀ m, h0 < m → sumH H' k m + H h0 k = sumH H k m + H' h0 k := by
  intro m
  induction m with
  | zero => intro h; omega
  | succ m ih =>
    intro h
    show sumH H' k m + H' m k + H h0 k = sumH H k m + H m k + H' h0 k
    by_cases q : h0 = m
    · subst q
      rw [sumH_congr h0 (fun h' q => o h' (by omega))]
      omega
    · have := ih (by omega)
      rw [o m (fun e => q e.symm)]
      omega
theorem cntP_S {P : xR → Bool} {a a' : xA} (e : aS a' = aS a) : ∀ m, cntP P a' m = cntP P a m := by
  intro m
  induction m with
  | zero => rfl
  | succ m ih =>
    show cntP P a' m + _ = cntP P a m + _
    rw [ih, e]
theorem cntP_up (P : xR → Bool) {a a' : xA} {s : Nat} {l : List xR} (e : aS a' = va_up (aS a) s l) : ∀ m, cntP P a' m + (if s < m then (aS a s).countP P else 0) = cntP P a m + (if s < m then l.countP P else 0) := by
  intro m
  induction m with
  | zero => simp [cntP]
  | succ m ih =>
    show cntP P a' m + (aS a' m).countP P + _ = cntP P a m + (aS a m).countP P + _
    rw [e]
    by_cases q : m = s
    · subst q
      rw [va_up_eq, if_pos (by omega), if_pos (by omega)]
      rw [if_neg (by omega), if_neg (by omega)] at ih
      omega
    · rw [va_up_off q]
      by_cases q2 : s < m
      · rw [if_pos (by omega), if_pos (by omega)]
        rw [if_pos q2, if_pos q2] at ih
        omega
      · rw [if_neg (by omega), if_neg (by omega)]
        rw [if_neg q2, if_neg q2] at ih
        omega
theorem cntP_set (P : xR → Bool) {a a' : xA} {s : Nat} {l : List xR} (hs : s < 8) (e : aS a' = va_up (aS a) s l) : cntP P a' 8 + (aS a s).countP P = cntP P a 8 + l.countP P := by
  have := cntP_up P e 8
  rw [if_pos hs, if_pos hs] at this
  exact this
def nN (a : xA) (h : Nat) : Nat := cntP (newBy (nI h)) a 8
def nA (a : xA) : Nat := cntP (fun _ => true) a 8
theorem sLines_nA (a : xA) : sLines a 8 = nA a := by
  have : ∀ m, sLines a m = cntP (fun _ => true) a m := by
    intro m
    induction m with
    | zero => rfl
    | succ m ih =>
      show sLines a m + (aS a m).length = cntP (fun _ => true) a m + _
      rw [ih, List.countP_true]
  exact this 8
def Jh (H : Nat → Nat → Nat) (h : Nat) : Prop := H h 10 + H h 11 + H h 4 = H h 2 * H h 8 + 2 * H h 9 ∧ (H h 3 = 2 ↔ 0 < H h 4) ∧ (H h 3 = 1 ↔ 0 < H h 5)
/-- g: fetched, not yet booked; d: used or in vain, not yet booked; t, u, x: what the totals lack -/
def Jx (a : xA) (g d : Nat → Nat) (t u x : Nat) : Prop := (∀ h, h < aC a 2 → Jh (aH a) h ∧ aH a h 6 + g h = aH a h 7 + aH a h 8 + nN a h + d h) ∧ sumH (aH a) 6 (aC a 2) = aC a 7 + t ∧ sumH (aH a) 7 (aC a 2) = aC a 6 + u ∧ aC a 4 + aC a 7 + x = nA a + aC a 8 + aC a 5
theorem Jx.ext {a : xA} {g g' d d' : Nat → Nat} {t t' u u' x x' : Nat} (J : Jx a g d t u x) (h : ∀ h, h < aC a 2 → g' h = g h ∧ d' h = d h) (ht : t' = t) (hu : u' = u) (hx : x' = x) : Jx a g' d' t' u' x' := by
  subst ht hu hx
  refine ⟨fun h0 hh => ?_, J.2⟩
  rw [(h h0 hh).1, (h h0 hh).2]
  exact J.1 h0 hh
theorem Jx.setH {a : xA} {g g' d d' : Nat → Nat} {t t' u u' x h0 : Nat} {H' : Nat → Nat → Nat} (J : Jx a g d t u x) (hh : h0 < aC a 2) (o : ∀ h, h ≠ h0 → (∀ k, H' h k = aH a h k) ∧ g' h = g h ∧ d' h = d h) (jh : Jh H' h0) (fl : aH a h0 6 + g h0 = aH a h0 7 + aH a h0 8 + nN a h0 + d h0 → H' h0 6 + g' h0 = H' h0 7 + H' h0 8 + nN a h0 + d' h0) (s6 : H' h0 6 + t = aH a h0 6 + t') (s7 : H' h0 7 + u = aH a h0 7 + u') : Jx (wH a H') g' d' t' u' x := by
  obtain ⟨J1, J2, J3, J4⟩ := J
  have e6 := sumH_at (H := aH a) (H' := H') (k := 6) (fun h q => (o h q).1 6) (aC a 2) hh
  have e7 := sumH_at (H := aH a) (H' := H') (k := 7) (fun h q => (o h q).1 7) (aC a 2) hh
  refine ⟨fun h hl => ?_, ?_, ?_, J4⟩
  · show Jh H' h ∧ H' h 6 + g' h = H' h 7 + H' h 8 + nN a h + d' h
    have hl : h < aC a 2 := hl
    by_cases q : h = h0
    · subst q
      exact ⟨jh, fl (J1 h hl).2⟩
    · obtain ⟨q1, q2, q3⟩ := o h q
      unfold Jh
      simp only [q1, q2, q3]
      exact J1 h hl
  · show sumH H' 6 (aC a 2) = aC a 7 + t'
    omega
  · show sumH H' 7 (aC a 2) = aC a 6 + u'
    omega
theorem Jx.rows {a a' : xA} {g g' d d' : Nat → Nat} {t u x x' : Nat} (J : Jx a g d t u x) (eH : aH a' = aH a) (eC : ∀ i, i ≠ 8 → aC a' i = aC a i) (n : ∀ h, h < aC a 2 → g' h + d h + nN a h = g h + d' h + nN a' h) (l : nA a' + aC a' 8 + x = nA a + aC a 8 + x') : Jx a' g' d' t u x' := by
  obtain ⟨J1, J2, J3, J4⟩ := J
  refine ⟨fun h hl => ?_, ?_, ?_, ?_⟩
  · rw [eC 2 (by decide)] at hl
    rw [eH]
    obtain ⟨j1, j2⟩ := J1 h hl
    have := n h hl
    exact ⟨j1, by omega⟩
  · rw [eH, eC 2 (by decide), eC 7 (by decide)]
    exact J2
  · rw [eH, eC 2 (by decide), eC 6 (by decide)]
    exact J3
  · rw [eC 4 (by decide), eC 7 (by decide), eC 5 (by decide)]
    omega
theorem Jx.same {a a' : xA} {g d : Nat → Nat} {t u x : Nat} (J : Jx a g d t u x) (eH : aH a' = aH a) (eC : aC a' = aC a) (eS : aS a' = aS a) : Jx a' g d t u x :=
  J.rows eH (fun i _ => by rw [eC]) (fun h _ => by unfold nN; rw [cntP_S eS]) (by unfold nA; rw [cntP_S eS, eC])
theorem newBy_iff {r : xR} {h : Nat} : newBy (nI h) r = true ↔ r 2 = 1 ∧ r 1 = nI h := by
  unfold newBy
  exact decide_eq_true_iff
theorem bid_nI {h : Nat} (hh : h < 6) : bid (nI h) = some h := by
  unfold bid
  rw [if_neg (show ¬ nI h = (-100005 : Int32) from fun e => by
    rcases (show h = 0 ∨ h = 1 ∨ h = 2 ∨ h = 3 ∨ h = 4 ∨ h = 5 by omega) with rfl | rfl | rfl | rfl | rfl | rfl <;> exact absurd e (by decide)), nI_clamp (by omega)]
/-- a row of the cache: new, and then whose; or not new -/
theorem row_io {B : Nat} {a : xA} (I : Inv B a) {s : Nat} {r : xR} (hr : r ∈ aS a s) : (r 2 = 1 ∧ ∃ h, h < aC a 2 ∧ r 1 = nI h ∧ bid (r 1) = some h ∧ ∀ h', h' < aC a 2 → newBy (nI h') r = decide (h' = h)) ∨ (¬ r 2 = 1 ∧ ∀ h, newBy (nI h) r = false) := by
  obtain ⟨-, o2, o3⟩ := (I.2.1 s).2.2.1 r hr
  have h6 := I.hn
  by_cases q : r 2 = 1
  · refine Or.inl ⟨q, ?_⟩
    rcases o2 with e | ⟨h, hh, e⟩
    · rcases o3 with e3 | ⟨-, e3⟩
      · rw [q] at e3
        exact absurd e3 (by decide)
      · exact absurd e e3
    · refine ⟨h, hh, e, by rw [e]; exact bid_nI (by omega), fun h' hh' => ?_⟩
      unfold newBy
      rw [e]
      by_cases c : h' = h
      · rw [decide_eq_true c, c]
        exact decide_eq_true ⟨q, rfl⟩
      · rw [decide_eq_false c]
        refine decide_eq_false (fun z => c ?_)
        exact ((nI_eq (by omega) (by omega)).mp z.2).symm
  · exact Or.inr ⟨q, fun h => by
      unfold newBy
      exact decide_eq_false (fun z => q z.1)⟩
