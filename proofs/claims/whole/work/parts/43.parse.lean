/-! a text of accesses: one automaton for both readings *)  -/
def cD (c : Int32) : Bool := !decide (c < 48) && !decide (57 < c)
def cA (c : Int32) : Bool := !decide (c < 97) && !decide (112 < c)
/-- 0: a program is due, 1: a digit, 2 3 4: one, two, three digits stand, 5 6: a comma is due -/
def stp (s : Nat) (a d z k : Bool) : Option Nat :=
  if s = 0 then (if a then some 1 else none)
  else if s = 1 then (if d then (if z then some 5 else some 2) else none)
  else if s = 4 ∧ d = true then some 6
  else if s < 4 ∧ d = true then some (s + 1)
  else if k then some 0 else none
def dueOf (s : Nat) : Int32 := if s = 0 then 0 else if s = 1 then 1 else if s < 5 then 2 else 3
def digOf (s : Nat) : Int32 := if s = 2 then 1 else if s = 3 then 2 else if s = 4 then 3 else if s = 5 then 1 else if s = 6 then 4 else 0
def r1Of (s : Nat) : Int32 := if s = 0 then -2 else if s = 1 then 0 else digOf s
def r2Of (s : Nat) : Int32 := if s = 5 then 1 else 0
def tdue (x0 x2 : Int32) (a d z k : Bool) : Int32 :=
  if x0 = 0 then (if a then 1 else 4) else if x0 = 1 then (if d then (if z then 3 else 2) else 4) else if x0 = 2 then (if d then (if x2 < 4 then 2 else 3) else (if k then 0 else 4)) else (if k then 0 else 4)
def rstp (l1 l2 : Int32) (a d z k : Bool) : Option (Int32 × Int32) :=
  if l1 = -2 then (if a then some (0, 0) else none)
  else if d = true ∧ l1 < 4 ∧ l2 = 0 then (if l1 = 0 then some (l1 + 1, if z then 1 else 0) else some (l1 + 1, 0))
  else if k = true ∧ 0 < l1 then some (-2, l2) else none
theorem T_digit (c : Int32) : F_X3_isDigit c = if cD c then 1 else 0 := by
  unfold F_X3_isDigit cD
  by_cases h1 : c < 48
  · simp [h1]
  · by_cases h2 : 57 < c
    · simp [h1, h2]
    · simp [h1, h2]
theorem R_digit (c : Int32) : F_X5_in c 48 57 = if cD c then 1 else 0 := by
  unfold F_X5_in cD
  by_cases h1 : c < 48
  · simp [h1]
  · by_cases h2 : 57 < c
    · simp [h1, h2]
    · simp [h1, h2]
theorem R_letter (c : Int32) : F_X5_in c 97 112 = if cA c then 1 else 0 := by
  unfold F_X5_in cA
  by_cases h1 : c < 97
  · simp [h1]
  · by_cases h2 : 112 < c
    · simp [h1, h2]
    · simp [h1, h2]
theorem T_letter (c : Int32) : F_X4_isOutside c 97 112 = if cA c then 0 else 1 := by
  unfold F_X4_isOutside cA
  by_cases h1 : c < 97
  · simp [h1]
  · by_cases h2 : 112 < c
    · simp [h1, h2]
    · simp [h1, h2]
theorem cA_D {c : Int32} : (cA c && cD c) = false := by
  unfold cA cD
  by_cases h1 : c < 97
  · simp [h1]
  · have : (57 : Int32) < c := Int32.lt_of_lt_of_le (by decide) (Int32.not_lt.mp h1)
    simp [this]
theorem c44_D {c : Int32} : (decide (c = 44) && cD c) = false := by
  by_cases h1 : c = 44
  · subst h1
    decide
  · simp [h1]
theorem T_due (x0 c x2 : Int32) : F_X3_dueBehind x0 c x2 = tdue x0 x2 (cA c) (cD c) (decide (c = 48)) (decide (c = 44)) := by
  unfold F_X3_dueBehind tdue
  rw [T_letter, T_digit]
  cases cA c <;> cases cD c <;> simp
theorem T_step : ∀ s, s < 7 → ∀ a d z k : Bool, (a && d) = false → (k && d) = false → match stp s a d z k with
  | none => tdue (dueOf s) (if d then digOf s + 1 else 0) a d z k = 4
  | some s' => s' < 7 ∧ tdue (dueOf s) (if d then digOf s + 1 else 0) a d z k = dueOf s' ∧ (if d then digOf s + 1 else 0) = digOf s' := by
  intro s hs a d z k
  rcases (show s = 0 ∨ s = 1 ∨ s = 2 ∨ s = 3 ∨ s = 4 ∨ s = 5 ∨ s = 6 by omega) with rfl | rfl | rfl | rfl | rfl | rfl | rfl <;> cases a <;> cases d <;> cases z <;> cases k <;> intro h1 h2 <;> first | (exact absurd h1 (by decide)) | (exact absurd h2 (by decide)) | rfl | exact ⟨by decide, rfl, rfl⟩
theorem R_step : ∀ s, s < 7 → ∀ (l2 : Int32) (a d z k : Bool), (s ≠ 0 → l2 = r2Of s) → (k && d) = false → match stp s a d z k with
  | none => rstp (r1Of s) l2 a d z k = none
  | some s' => ∃ y, rstp (r1Of s) l2 a d z k = some (r1Of s', y) ∧ (s' ≠ 0 → y = r2Of s') := by
  intro s hs l2 a d z k h h2
  by_cases q : s = 0
  · subst q
    cases a with
    | true => exact ⟨0, rfl, fun _ => rfl⟩
    | false => rfl
  · rw [h q]
    rcases (show s = 1 ∨ s = 2 ∨ s = 3 ∨ s = 4 ∨ s = 5 ∨ s = 6 by omega) with rfl | rfl | rfl | rfl | rfl | rfl <;> cases d <;> cases z <;> cases k <;> first | (exact absurd h2 (by decide)) | rfl | exact ⟨_, rfl, fun _ => rfl⟩ | exact ⟨_, rfl, fun e => absurd rfl e⟩
