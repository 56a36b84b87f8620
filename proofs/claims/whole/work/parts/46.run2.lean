/-! both sides perform a text alike: the loops *)  -/
theorem T_sign {σ : xM} {q : xQ} {B n k : Nat} {c : Int32} (K : xM → Int32 → Int32 → Int32 → Int32 → Option (Int32 × xM)) (hc : CRep (x_sh 4 σ) q.2.2.2) (I : Inv B q.2.2.2) (hB : B + 400 < 2 ^ 30) (hp : q.2.1 < 16) (hl : q.2.2.1 < 10000) (hn : 20 < n) (cls : c = 44 ∨ cD c = true ∨ cA c = true) : ∃ σ', B_X3_performOn_40 n K σ (nI q.1) (nI q.2.1) (nI q.2.2.1) (nI k) c = K σ' (nI (rS c q).1) (nI (rS c q).2.1) (nI (rS c q).2.2.1) (nI (k + 1)) ∧ CRep (x_sh 4 σ') (rS c q).2.2.2 ∧ (∀ r, r < 4 ∨ 51 ≤ r → σ' r = σ r) := by
  unfold B_X3_performOn_40 B_X3_performOn_86 B_X3_performOn_98 rS
  rw [T_digit]
  by_cases c4 : c = 44
  · have hd : cD c = false := by rw [c4]; decide
    obtain ⟨τ', e, c1, -⟩ := C_perform hc I hn hp hl hB
    have lt := sGo_lt q.2.2.2 q.2.1 q.2.2.1
    have h6 := (Inv_go (p := q.2.1) (l := q.2.2.1) I hp hl (by omega)).hn
    rw [hd, if_pos c4, if_pos (show (if false = true then (1 : Int32) else 0) = 0 from rfl), if_pos c4, e, Option.bind_some, nI_1, nI_1]
    refine ⟨x_pt 4 τ' σ, ?_, c1.low h6 (fun r hr => x_sh_pt hr), fun r hr => ?_⟩
    · show (if nI (sGo q.2.2.2 q.2.1 q.2.2.1).1 = 0 then _ else _) = _
      by_cases q0 : (sGo q.2.2.2 q.2.1 q.2.2.1).1 = 0
      · rw [if_pos (by rw [q0]; rfl), if_pos q0]
        rfl
      · rw [if_neg (show ¬ nI _ = (0 : Int32) from fun e => q0 ((nI_eq (b := 0) (by omega) (by omega)).mp e)), if_neg q0]
        rfl
    · funext j
      simp only [x_pt]
      rw [if_neg (by omega)]
  · rw [if_neg c4, if_neg c4]
    by_cases hd : cD c = true
    · obtain ⟨d, h1, h2⟩ := cD_n hd
      have ev : c - 48 = nI d := by
        rw [h2, show (48 : Int32) = nI 48 from rfl, pk_sub (by omega)]
        congr 1
        omega
      rw [hd, if_neg (show ¬ (if true = true then (1 : Int32) else 0) = 0 by decide), if_pos rfl, ev, nI_clamp (by omega), nI_1]
      refine ⟨σ, ?_, hc, fun _ _ => rfl⟩
      show K σ (nI q.1) (nI q.2.1) (nI q.2.2.1 * nI 10 + nI d) (nI (k + 1)) = _
      rw [pk_mul, nI_add, Nat.mul_comm]
    · have hd' : cD c = false := by simpa using hd
      have ha := (cls.resolve_left c4).resolve_left hd
      obtain ⟨p, h1, h2⟩ := cA_n ha
      have ev : c - 97 = nI p := by
        rw [h2, show (97 : Int32) = nI 97 from rfl, pk_sub (by omega)]
        congr 1
        omega
      rw [hd', if_pos (show (if false = true then (1 : Int32) else 0) = 0 from rfl), if_neg (by decide), ev, nI_clamp (by omega), nI_1]
      exact ⟨σ, rfl, hc, fun _ _ => rfl⟩
theorem stp_cls {s s' : Nat} {c : Int32} (hs : s < 7) (h : stp s (cA c) (cD c) (decide (c = 48)) (decide (c = 44)) = some s') : c = 44 ∨ cD c = true ∨ cA c = true := by
  by_cases c4 : c = 44
  · exact Or.inl c4
  · by_cases cd : cD c = true
    · exact Or.inr (Or.inl cd)
    · by_cases ca : cA c = true
      · exact Or.inr (Or.inr ca)
      · have e1 : cD c = false := by simpa using cd
        have e2 : cA c = false := by simpa using ca
        rw [decide_eq_false c4, e1, e2] at h
        rcases (show s = 0 ∨ s = 1 ∨ s = 2 ∨ s = 3 ∨ s = 4 ∨ s = 5 ∨ s = 6 by omega) with rfl | rfl | rfl | rfl | rfl | rfl | rfl <;> cases h
theorem sAt_down {t : Nat → Int32} {k s' : Nat} (h : sAt t (k + 1) = some s') : ∃ s, sAt t k = some s ∧ stp s (cA (t k)) (cD (t k)) (decide (t k = 48)) (decide (t k = 44)) = some s' := by
  have h' : (sAt t k).bind (fun s => stp s (cA (t k)) (cD (t k)) (decide (t k = 48)) (decide (t k = 44))) = some s' := h
  cases hs : sAt t k with
  | none =>
    rw [hs] at h'
    cases h'
  | some s =>
    rw [hs, Option.bind_some] at h'
    exact ⟨s, rfl, h'⟩
theorem sAt_le {t : Nat → Int32} {m : Nat} (h : ∃ s, sAt t m = some s) : ∀ k, k ≤ m → ∃ s, sAt t k = some s := by
  intro k hk
  obtain ⟨j, rfl⟩ : ∃ j, m = k + j := ⟨m - k, by omega⟩
  clear hk
  induction j with
  | zero => exact h
  | succ j ih =>
    obtain ⟨s', hs'⟩ := h
    obtain ⟨s, hs, -⟩ := sAt_down hs'
    exact ih ⟨s, hs⟩
theorem T_run {σ : xM} {t : Nat → Int32} {a : xA} {B m n : Nat} (hn : 100 < n) (hm : m ≤ 80) (hc : CRep (x_sh 4 σ) a) (I : Inv B a) (hB : B + 300 * m + 400 < 2 ^ 30) (h1 : σ 2 1 = nI m) (h2 : ∀ k, k < m → σ 3 k = t k) (hs : ∃ s, sAt t m = some s) : ∃ σ', F_X3_performOn n σ = some (nI (rS 44 (rQ t a m)).1, σ') ∧ CRep (x_sh 4 σ') (rS 44 (rQ t a m)).2.2.2 ∧ (∀ r, r < 4 ∨ 51 ≤ r → σ' r = σ r) := by
  have loop : ∀ (f k : Nat) (σ1 : xM), k ≤ m → m + 1 - k < f → CRep (x_sh 4 σ1) (rQ t a k).2.2.2 → (∀ r, r < 4 ∨ 51 ≤ r → σ1 r = σ r) → ∃ σ', B_X3_performOn_10 n f σ1 (nI (rQ t a k).1) (nI (rQ t a k).2.1) (nI (rQ t a k).2.2.1) (nI k) = some (nI (rS 44 (rQ t a m)).1, σ') ∧ CRep (x_sh 4 σ') (rS 44 (rQ t a m)).2.2.2 ∧ (∀ r, r < 4 ∨ 51 ≤ r → σ' r = σ r) := by
    intro f
    induction f with
    | zero => intro k σ1 _ h; omega
    | succ f ih =>
      intro k σ1 hk hf hr fr
      obtain ⟨s, hst⟩ := sAt_le hs k hk
      have hb2 : B + 300 * k ≤ B + 300 * m := Nat.add_le_add_left (Nat.mul_le_mul_left _ hk) _
      obtain ⟨i1, i2, i3, i4, i5⟩ := rQ_inv I k s (Nat.lt_of_le_of_lt hb2 (Nat.lt_of_le_of_lt (Nat.le_add_right _ _) hB)) hst
      have hl : (rQ t a k).2.2.1 < 10000 := Nat.lt_of_lt_of_le i3 (by
        unfold pL
        split
        · decide
        · split
          · decide
          · split
            · decide
            · split <;> decide)
      have hb3 : (B + 300 * k) + 400 < 2 ^ 30 := Nat.lt_of_le_of_lt (Nat.add_le_add_right hb2 _) hB
      show ∃ σ', (if σ1 2 1 < nI k then _ else _) = _ ∧ _
      rw [fr 2 (Or.inl (by decide)), h1, if_neg (nI_nlt hk (by omega))]
      by_cases q : k < m
      · obtain ⟨s', hs'⟩ := sAt_le hs (k + 1) q
        obtain ⟨s9, hs9, hq⟩ := sAt_down hs'
        rw [hst] at hs9
        cases hs9
        obtain ⟨σ2, e2, c2, f2⟩ := T_sign (k := k) (fun σ l2 l3 l4 l5 => B_X3_performOn_10 n f σ l2 l3 l4 l5) hr i5 hb3 i2 hl (by omega : 20 < n) (stp_cls i1 hq)
        obtain ⟨σ', e9, c9, f9⟩ := ih (k + 1) σ2 q (by omega) c2 (fun r hr => (f2 r hr).trans (fr r hr))
        rw [if_pos (nI_lt q (by omega)), ite_ok (by omega) (by omega), nI_clamp (by omega), fr 3 (Or.inl (by decide)), h2 k q]
        exact ⟨σ', e2.trans e9, c9, f9⟩
      · have ek : k = m := by omega
        subst ek
        obtain ⟨σ2, e2, c2, f2⟩ := T_sign (k := k) (c := 44) (fun σ l2 l3 l4 l5 => B_X3_performOn_10 n f σ l2 l3 l4 l5) hr i5 hb3 i2 hl (by omega : 20 < n) (Or.inl rfl)
        rw [if_neg (nI_nlt (Nat.le_refl _) (by omega))]
        refine ⟨σ2, e2.trans ?_, c2, fun r hr => (f2 r hr).trans (fr r hr)⟩
        obtain ⟨g, rfl⟩ : ∃ g, f = g + 1 := ⟨f - 1, by omega⟩
        show (if σ2 2 1 < nI (k + 1) then _ else _) = _
        rw [f2 2 (Or.inl (by decide)), fr 2 (Or.inl (by decide)), h1, if_pos (nI_lt (Nat.lt_succ_self _) (by omega))]
  exact loop n 0 σ (Nat.zero_le _) (by omega) hc (fun _ _ => rfl)
