/-! the check performs a text alike *)  -/
theorem R_sign {μ : xM} {ρ : Nat → Int32} {q : xQ} {B n k : Nat} {c : Int32} (K : xM → Int32 → Int32 → Int32 → Int32 → Option (Int32 × xM)) (hc : RRep ρ q.2.2.2) (I : Inv B q.2.2.2) (hB : B + 500 < 2 ^ 30) (hp : q.2.1 < 16) (hl : q.2.2.1 < 10000) (hn : 20 < n) (hw : μ 0 6 = -1) (cls : c = 44 ∨ cD c = true ∨ cA c = true) : ∃ μ' ρ', B_X5_run_58 n K (xr μ ρ) (nI q.1) (nI q.2.1) (nI q.2.2.1) (nI k) c = K (xr μ' ρ') (nI (rS c q).1) (nI (rS c q).2.1) (nI (rS c q).2.2.1) (nI (k + 1)) ∧ RRep ρ' (rS c q).2.2.2 ∧ M5 μ μ' := by
  unfold B_X5_run_58 B_X5_run_83 B_X5_run_125 rS
  rw [R_digit]
  by_cases c4 : c = 44
  · obtain ⟨μ', ρ', e, c1, m1⟩ := R_go (μ := μ) hc I hn hp hl hB (fun h hh e => by
      rw [hw] at e
      exact absurd e.symm (nI_m1 (by omega)))
    have lt := sGo_lt q.2.2.2 q.2.1 q.2.2.1
    rw [if_pos c4, if_pos c4, e, Option.bind_some, nI_1, nI_1, Int32.add_zero]
    refine ⟨μ', ρ', ?_, c1, m1.m5 I.hn hw⟩
    show (if nI (sGo q.2.2.2 q.2.1 q.2.2.1).1 = 0 then _ else _) = _
    by_cases q0 : (sGo q.2.2.2 q.2.1 q.2.2.1).1 = 0
    · rw [if_pos (by rw [q0]; rfl), if_pos q0]
      rfl
    · rw [if_neg (show ¬ nI _ = (0 : Int32) from fun e => q0 ((nI_eq (b := 0) (by omega) (by omega)).mp e)), if_neg q0]
      rfl
  · rw [if_neg c4, if_neg c4]
    by_cases hd : cD c = true
    · obtain ⟨d, h1, h2⟩ := cD_n hd
      have ev : c - 48 = nI d := by
        rw [h2, show (48 : Int32) = nI 48 from rfl, pk_sub (by omega)]
        congr 1
        omega
      have ew : 10 * nI q.2.2.1 + c - 48 = nI (10 * q.2.2.1 + d) := by
        rw [show (10 : Int32) * nI q.2.2.1 = nI (10 * q.2.2.1) from pk_mul 10 _, h2, nI_add, show (48 : Int32) = nI 48 from rfl, pk_sub (by omega)]
        congr 1
        omega
      rw [hd, if_neg (show ¬ (if true = true then (1 : Int32) else 0) = 0 by decide), if_pos rfl, ev, ew, nI_clamp (by omega), nI_1]
      exact ⟨μ, ρ, rfl, hc, M5.rfl' μ⟩
    · have hd' : cD c = false := by simpa using hd
      have ha := (cls.resolve_left c4).resolve_left hd
      obtain ⟨p, h1, h2⟩ := cA_n ha
      have ev : c - 97 = nI p := by
        rw [h2, show (97 : Int32) = nI 97 from rfl, pk_sub (by omega)]
        congr 1
        omega
      rw [hd', if_pos (show (if false = true then (1 : Int32) else 0) = 0 from rfl), if_neg (by decide), ev, nI_clamp (by omega), nI_1]
      exact ⟨μ, ρ, rfl, hc, M5.rfl' μ⟩
theorem R_run {μ : xM} {ρ : Nat → Int32} {t : Nat → Int32} {a : xA} {B m n : Nat} (hn : 100 < n) (hm : m ≤ 80) (hc : RRep ρ a) (I : Inv B a) (hB : B + 300 * m + 500 < 2 ^ 30) (hw : μ 0 6 = -1) (h1 : μ 0 4 = nI m) (h2 : ∀ k, k < m → μ 2 k = t k) (hs : ∃ s, sAt t m = some s) : ∃ μ' ρ', B_X5_run_28 n n (xr μ ρ) 0 0 0 0 = some (nI (rS 44 (rQ t a m)).1, xr μ' ρ') ∧ RRep ρ' (rS 44 (rQ t a m)).2.2.2 ∧ M5 μ μ' := by
  have loop : ∀ (f k : Nat) (μ1 : xM) (ρ1 : Nat → Int32), k ≤ m → m + 1 - k < f → RRep ρ1 (rQ t a k).2.2.2 → M5 μ μ1 → ∃ μ' ρ', B_X5_run_28 n f (xr μ1 ρ1) (nI (rQ t a k).1) (nI (rQ t a k).2.1) (nI (rQ t a k).2.2.1) (nI k) = some (nI (rS 44 (rQ t a m)).1, xr μ' ρ') ∧ RRep ρ' (rS 44 (rQ t a m)).2.2.2 ∧ M5 μ μ' := by
    intro f
    induction f with
    | zero => intro k μ1 ρ1 _ h; omega
    | succ f ih =>
      intro k μ1 ρ1 hk hf hr fr
      obtain ⟨s, hst⟩ := sAt_le hs k hk
      have hb2 : B + 300 * k ≤ B + 300 * m := Nat.add_le_add_left (Nat.mul_le_mul_left _ hk) _
      obtain ⟨i1, i2, i3, i4, i5⟩ := rQ_inv I k s (Nat.lt_of_le_of_lt hb2 (Nat.lt_of_le_of_lt (Nat.le_add_right _ _) hB)) hst
      have hl : (rQ t a k).2.2.1 < 10000 := Nat.lt_of_lt_of_le i3 (by
        unfold pL
        split
        · decide
        · split
          · decide
          · split
            · decide
            · split <;> decide)
      have hb3 : (B + 300 * k) + 500 < 2 ^ 30 := Nat.lt_of_le_of_lt (Nat.add_le_add_right hb2 _) hB
      have hw1 : μ1 0 6 = -1 := (fr.1 6 (by decide)).trans hw
      have e4 : μ1 0 4 = nI m := (fr.1 4 (by decide)).trans h1
      show ∃ μ' ρ', (if μ1 0 4 < nI k then _ else _) = _ ∧ _
      rw [e4, if_neg (nI_nlt hk (by omega))]
      by_cases q : k < m
      · obtain ⟨s', hs'⟩ := sAt_le hs (k + 1) q
        obtain ⟨s9, hs9, hq⟩ := sAt_down hs'
        rw [hst] at hs9
        cases hs9
        have e2 : xr μ1 ρ1 2 k = t k := by
          show μ1 2 k = t k
          rw [fr.2 2 (by decide) (by decide)]
          exact h2 k q
        obtain ⟨μ2, ρ2, x2, c2, f2⟩ := R_sign (μ := μ1) (k := k) (fun σ l2 l3 l4 l5 => B_X5_run_28 n f σ l2 l3 l4 l5) hr i5 hb3 i2 hl (by omega : 20 < n) hw1 (stp_cls i1 hq)
        obtain ⟨μ', ρ', e9, c9, f9⟩ := ih (k + 1) μ2 ρ2 q (by omega) c2 (fr.trans f2)
        have e4' : xr μ1 ρ1 0 4 = nI m := e4
        rw [e4', if_pos (nI_lt q (by omega)), ite_ok (by omega) (by omega), nI_clamp (by omega), e2]
        exact ⟨μ', ρ', x2.trans e9, c9, f9⟩
      · have ek : k = m := by omega
        subst ek
        obtain ⟨μ2, ρ2, x2, c2, f2⟩ := R_sign (μ := μ1) (k := k) (c := 44) (fun σ l2 l3 l4 l5 => B_X5_run_28 n f σ l2 l3 l4 l5) hr i5 hb3 i2 hl (by omega : 20 < n) hw1 (Or.inl rfl)
        have e4' : xr μ1 ρ1 0 4 = nI k := e4
        rw [e4', if_neg (nI_nlt (Nat.le_refl _) (by omega))]
        refine ⟨μ2, ρ2, x2.trans ?_, c2, fr.trans f2⟩
        obtain ⟨g, rfl⟩ : ∃ g, f = g + 1 := ⟨f - 1, by omega⟩
        show (if μ2 0 4 < nI (k + 1) then _ else _) = _
        rw [f2.1 4 (by decide), e4, if_pos (nI_lt (Nat.lt_succ_self _) (by omega))]
  exact loop n 0 μ ρ (Nat.zero_le _) (by omega) hc (M5.rfl' μ)
