/-! the machine's count of bits, below 65536, looked up by the kernel *)  -/
def bcN (m : Nat) : Nat :=
  let a := m - ((m >>> 1) &&& 1431655765)
  let b := (a &&& 858993459) + ((a >>> 2) &&& 858993459)
  let c := (b + (b >>> 4)) &&& 252645135
  let d := c + (c >>> 8)
  (d + (d >>> 16)) &&& 63
def pcN (m : Nat) : Nat := m % 2 + m / 2 % 2 + m / 4 % 2 + m / 8 % 2 + m / 16 % 2 + m / 32 % 2 + m / 64 % 2 + m / 128 % 2 + m / 256 % 2 + m / 512 % 2 + m / 1024 % 2 + m / 2048 % 2 + m / 4096 % 2 + m / 8192 % 2 + m / 16384 % 2 + m / 32768 % 2
def allB (f : Nat → Bool) : Nat → Bool
  | 0 => true
  | n + 1 => f n && allB f n
theorem allB_of {f : Nat → Bool} : ∀ {n : Nat}, allB f n = true → ∀ k, k < n → f k = true := by
  intro n
  induction n with
  | zero => intro _ k hk; exact absurd hk (Nat.not_lt_zero _)
  | succ n ih =>
    intro h k hk
    have h' : (f n && allB f n) = true := h
    rw [Bool.and_eq_true] at h'
    by_cases q : k = n
    · rw [q]
      exact h'.1
    · exact ih h'.2 k (by omega)
def bcQ (k : Nat) : Bool := allB (fun a => allB (fun b => Nat.beq (bcN (256 * (16 * k + a) + b)) (pcN (256 * (16 * k + a) + b))) 256) 16
theorem bcQ_0 : bcQ 0 = true := by decide +kernel
theorem bcQ_1 : bcQ 1 = true := by decide +kernel
theorem bcQ_2 : bcQ 2 = true := by decide +kernel
theorem bcQ_3 : bcQ 3 = true := by decide +kernel
theorem bcQ_4 : bcQ 4 = true := by decide +kernel
theorem bcQ_5 : bcQ 5 = true := by decide +kernel
theorem bcQ_6 : bcQ 6 = true := by decide +kernel
theorem bcQ_7 : bcQ 7 = true := by decide +kernel
theorem bcQ_8 : bcQ 8 = true := by decide +kernel
theorem bcQ_9 : bcQ 9 = true := by decide +kernel
theorem bcQ_10 : bcQ 10 = true := by decide +kernel
theorem bcQ_11 : bcQ 11 = true := by decide +kernel
theorem bcQ_12 : bcQ 12 = true := by decide +kernel
theorem bcQ_13 : bcQ 13 = true := by decide +kernel
theorem bcQ_14 : bcQ 14 = true := by decide +kernel
theorem bcQ_15 : bcQ 15 = true := by decide +kernel
theorem bcQ_all : ∀ k, k < 16 → bcQ k = true := by
  intro k hk
  rcases (show k = 0 ∨ k = 1 ∨ k = 2 ∨ k = 3 ∨ k = 4 ∨ k = 5 ∨ k = 6 ∨ k = 7 ∨ k = 8 ∨ k = 9 ∨ k = 10 ∨ k = 11 ∨ k = 12 ∨ k = 13 ∨ k = 14 ∨ k = 15 by omega) with rfl | rfl | rfl | rfl | rfl | rfl | rfl | rfl | rfl | rfl | rfl | rfl | rfl | rfl | rfl | rfl
  · exact bcQ_0
  · exact bcQ_1
  · exact bcQ_2
  · exact bcQ_3
  · exact bcQ_4
  · exact bcQ_5
  · exact bcQ_6
  · exact bcQ_7
  · exact bcQ_8
  · exact bcQ_9
  · exact bcQ_10
  · exact bcQ_11
  · exact bcQ_12
  · exact bcQ_13
  · exact bcQ_14
  · exact bcQ_15
theorem bc_pc {m : Nat} (h : m < 65536) : bcN m = pcN m := by
  have e := allB_of (allB_of (bcQ_all (m / 4096) (by omega)) (m / 256 % 16) (by omega)) (m % 256) (by omega)
  have e2 := Nat.eq_of_beq_eq_true e
  rw [show 256 * (16 * (m / 4096) + m / 256 % 16) + m % 256 = m by omega] at e2
  exact e2
