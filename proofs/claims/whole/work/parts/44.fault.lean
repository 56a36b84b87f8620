/-! both readings find the same fault *)  -/
def sAt (t : Nat → Int32) : Nat → Option Nat
  | 0 => some 0
  | k + 1 => (sAt t k).bind fun s => stp s (cA (t k)) (cD (t k)) (decide (t k = 48)) (decide (t k = 44))
theorem R_body (n : Nat) (σ : xM) (K : Int32 → Int32 → Int32 → Option Int32) (l1 l2 l3 c : Int32) : (if l1 = (-2 : Int32) then (if (F_X5_in c (97 : Int32) (112 : Int32)) = (0 : Int32) then (some l3) else (B_X5_faultOf_117 n σ K ((0 : Int32)) ((0 : Int32)) l3)) else (if (F_X5_in c (48 : Int32) (57 : Int32)) = (0 : Int32) then (B_X5_faultOf_98 n σ K l1 l2 l3 c) else (if l1 < (4 : Int32) then (if l2 = (0 : Int32) then (if l1 = (0 : Int32) then (if c = (48 : Int32) then (B_X5_faultOf_91 n σ K l1 l3 ((1 : Int32))) else (B_X5_faultOf_90 n σ K l1 l3)) else (B_X5_faultOf_90 n σ K l1 l3)) else (B_X5_faultOf_98 n σ K l1 l2 l3 c)) else (B_X5_faultOf_98 n σ K l1 l2 l3 c)))) = match rstp l1 l2 (cA c) (cD c) (decide (c = 48)) (decide (c = 44)) with
    | none => some l3
    | some q => K q.1 q.2 (l3 + 1) := by
  rw [R_letter, R_digit]
  unfold B_X5_faultOf_90 B_X5_faultOf_91 B_X5_faultOf_98 B_X5_faultOf_117 rstp
  by_cases h1 : l1 = -2
  · rw [if_pos h1, if_pos h1]
    cases cA c <;> rfl
  · rw [if_neg h1, if_neg h1]
    have k98 : (if c = 44 then (if 0 < l1 then K (-2) l2 (l3 + 1) else some l3) else some l3) = match (if decide (c = 44) = true ∧ 0 < l1 then some ((-2 : Int32), l2) else none) with
        | none => some l3
        | some q => K q.1 q.2 (l3 + 1) := by
      by_cases c4 : c = 44
      · by_cases l0 : 0 < l1
        · rw [if_pos c4, if_pos l0, if_pos ⟨decide_eq_true c4, l0⟩]
        · rw [if_pos c4, if_neg l0, if_neg (fun e => l0 e.2)]
      · rw [if_neg c4, if_neg (fun e => c4 (of_decide_eq_true e.1))]
    cases hd : cD c with
    | false =>
      rw [if_pos (show (if false = true then (1 : Int32) else 0) = 0 from rfl), if_neg (show ¬ (false = true ∧ l1 < 4 ∧ l2 = 0) from fun e => absurd e.1 (by decide))]
      exact k98
    | true =>
      rw [if_neg (show ¬ (if true = true then (1 : Int32) else 0) = 0 by decide)]
      by_cases h4 : l1 < 4
      · rw [if_pos h4]
        by_cases h2 : l2 = 0
        · rw [if_pos h2, if_pos (show true = true ∧ l1 < 4 ∧ l2 = 0 from ⟨rfl, h4, h2⟩)]
          by_cases h0 : l1 = 0
          · rw [if_pos h0, if_pos h0]
            by_cases c8 : c = 48
            · rw [if_pos c8, if_pos (decide_eq_true c8)]
            · rw [if_neg c8, if_neg (fun e => c8 (of_decide_eq_true e))]
          · rw [if_neg h0, if_neg h0]
        · rw [if_neg h2, if_neg (show ¬ (true = true ∧ l1 < 4 ∧ l2 = 0) from fun e => h2 e.2.2)]
          exact k98
      · rw [if_neg h4, if_neg (show ¬ (true = true ∧ l1 < 4 ∧ l2 = 0) from fun e => h4 e.2.1)]
        exact k98
theorem stp_lt {s : Nat} {a d z k : Bool} {s' : Nat} (hs : s < 7) (ad : (a && d) = false) (kd : (k && d) = false) (h : stp s a d z k = some s') : s' < 7 := by
  have := T_step s hs a d z k ad kd
  rw [h] at this
  exact this.1
theorem fault_loop {τ σ : xM} {t : Nat → Int32} {m n : Nat} (hm : m ≤ 80) (h1 : τ 2 1 = nI m) (h2 : ∀ k, k < m → τ 3 k = t k) (g1 : σ 0 4 = nI m) (g2 : ∀ k, k < m → σ 2 k = t k) : ∀ (f k s : Nat) (l2 : Int32), k ≤ m → m - k < f → s < 7 → sAt t k = some s → (s ≠ 0 → l2 = r2Of s) → (∃ j, j ≤ 80 ∧ B_X3_fault_6 n τ f (dueOf s) (digOf s) (nI k) = some (nI j) ∧ B_X5_faultOf_7 n σ f (r1Of s) l2 (nI k) = some (nI j)) ∨ (B_X3_fault_6 n τ f (dueOf s) (digOf s) (nI k) = some (-100005) ∧ B_X5_faultOf_7 n σ f (r1Of s) l2 (nI k) = some (-1) ∧ ∃ s', 2 ≤ s' ∧ sAt t m = some s') := by
  intro f
  induction f with
  | zero => intro k s l2 _ h; omega
  | succ f ih =>
    intro k s l2 hk hf hs hst hl2
    have eT : ∀ v, B_X3_fault_6 n τ (f + 1) (dueOf s) (digOf s) (nI k) = v ↔ (if nI k < τ 2 1 then _ else _) = v := fun v => Iff.rfl
    by_cases q : k < m
    · have ok : ∀ {α : Type} {u v : α}, (if nI k < 0 ∨ 80 ≤ (nI k).toNatClampNeg then u else v) = v := fun {α u v} => ite_ok (by omega) (by omega)
      have eR : B_X5_faultOf_7 n σ (f + 1) (r1Of s) l2 (nI k) = match rstp (r1Of s) l2 (cA (t k)) (cD (t k)) (decide (t k = 48)) (decide (t k = 44)) with
          | none => some (nI k)
          | some q => B_X5_faultOf_7 n σ f q.1 q.2 (nI k + 1) := by
        show (if nI k < σ 0 4 then _ else _) = _
        rw [g1, if_pos (nI_lt q (by omega)), ok, nI_clamp (by omega), g2 k q]
        exact R_body n σ (fun l1 l2 l3 => B_X5_faultOf_7 n σ f l1 l2 l3) (r1Of s) l2 (nI k) (t k)
      have eT : B_X3_fault_6 n τ (f + 1) (dueOf s) (digOf s) (nI k) = if tdue (dueOf s) (if cD (t k) then digOf s + 1 else 0) (cA (t k)) (cD (t k)) (decide (t k = 48)) (decide (t k = 44)) = 4 then some (nI k) else B_X3_fault_6 n τ f (tdue (dueOf s) (if cD (t k) then digOf s + 1 else 0) (cA (t k)) (cD (t k)) (decide (t k = 48)) (decide (t k = 44))) (if cD (t k) then digOf s + 1 else 0) (nI k + 1) := by
        show (if nI k < τ 2 1 then _ else _) = _
        unfold B_X3_fault_33
        rw [h1, if_pos (nI_lt q (by omega)), ok, ok, ok, nI_clamp (by omega), h2 k q, T_digit, T_due, T_due]
        cases cD (t k) <;> rfl
      have tS := T_step s hs (cA (t k)) (cD (t k)) (decide (t k = 48)) (decide (t k = 44)) cA_D c44_D
      have rS := R_step s hs l2 (cA (t k)) (cD (t k)) (decide (t k = 48)) (decide (t k = 44)) hl2 c44_D
      have sS : sAt t (k + 1) = stp s (cA (t k)) (cD (t k)) (decide (t k = 48)) (decide (t k = 44)) := by
        show (sAt t k).bind _ = _
        rw [hst]
        rfl
      rw [eT, eR]
      cases hq : stp s (cA (t k)) (cD (t k)) (decide (t k = 48)) (decide (t k = 44)) with
      | none =>
        rw [hq] at tS rS
        have tS' : tdue (dueOf s) (if cD (t k) then digOf s + 1 else 0) (cA (t k)) (cD (t k)) (decide (t k = 48)) (decide (t k = 44)) = 4 := tS
        have rS' : rstp (r1Of s) l2 (cA (t k)) (cD (t k)) (decide (t k = 48)) (decide (t k = 44)) = none := rS
        rw [if_pos tS', rS']
        exact Or.inl ⟨k, by omega, rfl, rfl⟩
      | some s' =>
        rw [hq] at tS rS sS
        obtain ⟨t1, t2, t3⟩ : s' < 7 ∧ tdue (dueOf s) (if cD (t k) then digOf s + 1 else 0) (cA (t k)) (cD (t k)) (decide (t k = 48)) (decide (t k = 44)) = dueOf s' ∧ (if cD (t k) then digOf s + 1 else 0) = digOf s' := tS
        obtain ⟨y, r1, r2⟩ : ∃ y, rstp (r1Of s) l2 (cA (t k)) (cD (t k)) (decide (t k = 48)) (decide (t k = 44)) = some (r1Of s', y) ∧ (s' ≠ 0 → y = r2Of s') := rS
        have d4 : ¬ dueOf s' = 4 := by
          rcases (show s' = 0 ∨ s' = 1 ∨ s' = 2 ∨ s' = 3 ∨ s' = 4 ∨ s' = 5 ∨ s' = 6 by omega) with rfl | rfl | rfl | rfl | rfl | rfl | rfl <;> decide
        have hi := ih (k + 1) s' y q (by omega) t1 sS r2
        rw [t2, if_neg d4, t3, r1, nI_1]
        exact hi
    · have ek : k = m := by omega
      subst ek
      have n1 : ¬ nI k < nI k := nI_nlt (Nat.le_refl _) (by omega)
      have eR : B_X5_faultOf_7 n σ (f + 1) (r1Of s) l2 (nI k) = if (0 : Int32) < r1Of s then some (-1) else some (nI k) := by
        show (if nI k < σ 0 4 then _ else _) = _
        rw [g1, if_neg n1]
      have eT : B_X3_fault_6 n τ (f + 1) (dueOf s) (digOf s) (nI k) = if dueOf s = 0 then some (nI k) else if dueOf s = 1 then some (nI k) else some (-100005) := by
        show (if nI k < τ 2 1 then _ else _) = _
        rw [h1, if_neg n1]
      rw [eT, eR]
      rcases (show s = 0 ∨ s = 1 ∨ s = 2 ∨ s = 3 ∨ s = 4 ∨ s = 5 ∨ s = 6 by omega) with rfl | rfl | rfl | rfl | rfl | rfl | rfl
      · exact Or.inl ⟨k, hm, rfl, rfl⟩
      · exact Or.inl ⟨k, hm, rfl, rfl⟩
      · exact Or.inr ⟨rfl, rfl, 2, by decide, hst⟩
      · exact Or.inr ⟨rfl, rfl, 3, by decide, hst⟩
      · exact Or.inr ⟨rfl, rfl, 4, by decide, hst⟩
      · exact Or.inr ⟨rfl, rfl, 5, by decide, hst⟩
      · exact Or.inr ⟨rfl, rfl, 6, by decide, hst⟩
theorem fault_same {τ σ : xM} {t : Nat → Int32} {m n : Nat} (hn : 100 < n) (hm : m ≤ 80) (h1 : τ 2 1 = nI m) (h2 : ∀ k, k < m → τ 3 k = t k) (g1 : σ 0 4 = nI m) (g2 : ∀ k, k < m → σ 2 k = t k) : (∃ j, j ≤ 80 ∧ F_X3_fault n τ = some (nI j) ∧ F_X5_faultOf n σ = some (nI j)) ∨ (F_X3_fault n τ = some (-100005) ∧ F_X5_faultOf n σ = some (-1) ∧ ∃ s', 2 ≤ s' ∧ sAt t m = some s') :=
  fault_loop hm h1 h2 g1 g2 n 0 0 0 (Nat.zero_le _) (by omega) (by decide) rfl (fun e => absurd rfl e)
