/-! access, walk *)  -/
theorem sGo_C (a : xA) (p l i : Nat) (hi : 9 ≤ i) : aC (sGo a p l).2 i = aC a i := by
  show (if i = 4 then _ else if i = 5 then _ else if i = 6 then _ else if i = 7 then _ else aC (sHelps p l (sServe (sWork (aC a 2) a) l).1 (aC a 2) (sServe (sWork (aC a 2) a) l).2).2 i) = _
  rw [if_neg (by omega), if_neg (by omega), if_neg (by omega), if_neg (by omega), sHelps_C _ _ _ _ (by omega), sServe_C _ _ _ (by omega), (sWork_r a _).2.2.2.2]
theorem sWalk_C (p l : Nat) (st : Int32) (a : xA) (i : Nat) (hi : 9 ≤ i) : ∀ k, aC (sWalk p l st k a).2 i = aC a i := by
  intro k
  induction k with
  | zero => rfl
  | succ k ih => exact (sGo_C _ _ _ i hi).trans ih
theorem no6 {μ : xM} (w : μ 0 6 = -1) : ∀ h, h < 6 → μ 0 6 = nI h → μ 0 8 = 0 := fun h hh e => absurd (e.symm.trans w) (nI_m1 (by omega))
theorem both_go {B n : Nat} {σ μ : xM} {a : xA} (R : Rel B σ μ a) (hn : 400 < n) (hB : B + 1000 < 2 ^ 30) {p l : Nat} (hp : p < 16) (hl : l < 10000) : ∃ v τ' μ' a', F_X2_perform n (x_sh 4 σ) (nI p) (nI l) = some (v, τ') ∧ F_X5_go n μ (nI p) (nI l) = some (v, μ') ∧ Rel (B + 300) (x_pt 4 τ' σ) μ' a' := by
  obtain ⟨g1, g2, g3⟩ := R.gh
  obtain ⟨τ', e1, c1, -⟩ := C_perform g1 g3 (by omega : 20 < n) hp hl (by omega)
  obtain ⟨μ', ρ', e2, c2, mw⟩ := R_go (μ := μ) g2 g3 (by omega : 20 < n) hp hl (by omega) (no6 R.w)
  rw [xr_self] at e2
  have m5 := mw.m5 g3.hn R.w
  exact ⟨_, τ', _, _, e1, e2, R.act (by omega) c1 c2 (Inv_go g3 hp hl (by omega)) (fun i hi => sGo_C _ _ _ i hi) (fun k hk => m5.1 k (by omega)) (m5.2 2 (by decide) (by decide))⟩
theorem M_access {B n : Nat} {σ μ : xM} {a : xA} (R : Rel B σ μ a) (hn : 400 < n) (hB : B + 30000 < 2 ^ 30) (x y : Int32) : OK2 (B + 30000) (F_X4_access n σ x y) (F_X5_access n μ x y) := by
  have no := fun v => R.no (B' := B + 30000) (by omega) hB v
  unfold F_X4_access F_X5_access F_X5_isAccess F_X5_isLine
  rcases io (x := x) (L := 0) (H := 15) 0 15 rfl rfl (by decide) (by decide) with ⟨o1, i1, p, -, p2, rfl⟩ | ⟨o1, i1⟩
  · rcases io (x := y) (L := 0) (H := 9999) 0 9999 rfl rfl (by decide) (by decide) with ⟨o2, i2, l, -, l2, rfl⟩ | ⟨o2, i2⟩
    · rw [o1, i1, o2, i2, z00, z00, z10, z10, z10]
      obtain ⟨σ1, μ1, e1, e2, R1⟩ := R.rec hn
      obtain ⟨v, τ', μ', a', f1, f2, R2⟩ := both_go R1 hn (by omega) (show p < 16 by omega) (show l < 10000 by omega)
      rw [e1, Option.bind_some, f1, Option.bind_some, e2, Option.bind_some, f2, Option.bind_some]
      exact ⟨_, _, _, _, rfl, rfl, R2.mono (by omega) hB⟩
    · rw [o1, i1, o2, i2, z00, z10, z10, z00, z00]
      exact no _
  · rw [o1, i1, z10, z00, z00]
    exact no _
theorem mul_mid {s k c : Int} (hk : 0 ≤ k) (hc : k ≤ c) : (0 ≤ s → 0 ≤ k * s ∧ k * s ≤ c * s) ∧ (s < 0 → c * s ≤ k * s ∧ k * s ≤ 0) := by
  refine ⟨fun h => ⟨Int.mul_nonneg hk h, Int.mul_le_mul_of_nonneg_right hc h⟩, fun h => ⟨Int.mul_le_mul_of_nonpos_right hc (by omega), Int.mul_nonpos_of_nonneg_of_nonpos hk (by omega)⟩⟩
theorem lin_toInt {l k : Nat} {st : Int32} (hl : l < 10000) (hk : k < 30) (h1 : -999 ≤ st.toInt) (h2 : st.toInt ≤ 999) : (nI l + nI k * st).toInt = (l : Int) + (k : Int) * st.toInt := by
  have e : ∀ z : Int, -999 ≤ z → z ≤ 999 → -30000 ≤ (k : Int) * z ∧ (k : Int) * z ≤ 30000 := fun z hz1 hz2 => by
    have m1 := mul_mid (s := z) (k := (k : Int)) (c := 30) (by omega) (by omega)
    by_cases q : 0 ≤ z
    · have := m1.1 q
      omega
    · have := m1.2 (by omega)
      omega
  have b := e _ h1 h2
  rw [Int32.toInt_add, Int32.toInt_mul, nI_toInt (by omega), nI_toInt (by omega), Int.bmod_eq_of_le (n := (k : Int) * st.toInt) (by omega) (by omega), Int.bmod_eq_of_le (by omega) (by omega)]
theorem walk_ok {l c : Nat} {st : Int32} (hl : l < 10000) (hc : c < 30) (h1 : -999 ≤ st.toInt) (h2 : st.toInt ≤ 999) (h3 : 0 ≤ (nI l + nI c * st).toInt) (h4 : (nI l + nI c * st).toInt ≤ 9999) : ∀ k, k < c + 1 → ∃ y, y < 10000 ∧ nI l + nI k * st = nI y := by
  intro k hk
  rw [lin_toInt hl hc h1 h2] at h3 h4
  have e := lin_toInt (k := k) hl (by omega) h1 h2
  have m1 := mul_mid (s := st.toInt) (k := (k : Int)) (c := (c : Int)) (by omega) (by omega)
  have b : 0 ≤ (l : Int) + (k : Int) * st.toInt ∧ (l : Int) + (k : Int) * st.toInt ≤ 9999 := by
    by_cases q : 0 ≤ st.toInt
    · have := m1.1 q
      omega
    · have := m1.2 (by omega)
      omega
  refine ⟨((l : Int) + (k : Int) * st.toInt).toNat, by omega, ?_⟩
  apply Int32.toInt_inj.mp
  rw [e, nI_toInt (by omega)]
  omega
theorem io_s {x : Int32} : (F_X4_isOutside x (-999) 999 = 0 ∧ F_X5_in x (-999) 999 = 1 ∧ -999 ≤ x.toInt ∧ x.toInt ≤ 999) ∨ (F_X4_isOutside x (-999) 999 = 1 ∧ F_X5_in x (-999) 999 = 0) := by
  unfold F_X4_isOutside F_X5_in
  by_cases q1 : x < -999
  · rw [if_pos q1, if_pos q1]
    exact Or.inr ⟨rfl, rfl⟩
  · rw [if_neg q1, if_neg q1]
    by_cases q2 : 999 < x
    · rw [if_pos q2, if_pos q2]
      exact Or.inr ⟨rfl, rfl⟩
    · rw [if_neg q2, if_neg q2]
      rw [Int32.lt_iff_toInt_lt] at q1 q2
      have t1 : (-999 : Int32).toInt = -999 := by decide
      have t2 : (999 : Int32).toInt = 999 := by decide
      exact Or.inl ⟨rfl, rfl, by omega, by omega⟩
/-- a walk's numbers, on both sides -/
theorem walk_io (x y z u : Int32) : (F_X4_isWalk x y z u = 1 ∧ F_X5_isWalk x y z u = 1 ∧ ∃ p l c, p < 16 ∧ l < 10000 ∧ c ≤ 30 ∧ x = nI p ∧ y = nI l ∧ u = nI c ∧ ∀ k, k < c → ∃ y, y < 10000 ∧ nI l + nI k * z = nI y) ∨ (F_X4_isWalk x y z u = 0 ∧ F_X5_isWalk x y z u = 0) := by
  unfold F_X4_isWalk F_X5_isWalk F_X5_isAccess F_X5_isLine
  rcases io (x := x) (L := 0) (H := 15) 0 15 rfl rfl (by decide) (by decide) with ⟨o1, i1, p, -, p2, rfl⟩ | ⟨o1, i1⟩
  · rcases io (x := y) (L := 0) (H := 9999) 0 9999 rfl rfl (by decide) (by decide) with ⟨o2, i2, l, -, l2, rfl⟩ | ⟨o2, i2⟩
    · rcases io_s (x := z) with ⟨o3, i3, h1, h2⟩ | ⟨o3, i3⟩
      · rcases io (x := u) (L := 1) (H := 30) 1 30 rfl rfl (by decide) (by decide) with ⟨o4, i4, c, c1, c2, rfl⟩ | ⟨o4, i4⟩
        · obtain ⟨d, rfl⟩ : ∃ d, c = d + 1 := ⟨c - 1, by omega⟩
          have ec : nI l + z * (nI (d + 1) - 1) = nI l + nI d * z := by rw [nI_pred, Int32.mul_comm]
          rcases io (x := nI l + nI d * z) (L := 0) (H := 9999) 0 9999 rfl rfl (by decide) (by decide) with ⟨o5, i5, y, -, y2, ey⟩ | ⟨o5, i5⟩
          · rw [ec, o1, i1, o2, i2, o3, i3, o4, i4, o5, i5, z00, z00, z00, z00, z00, z10, z10, z10, z10]
            refine Or.inl ⟨rfl, rfl, p, l, d + 1, by omega, by omega, by omega, rfl, rfl, rfl, walk_ok (by omega) (by omega) h1 h2 ?_ ?_⟩
            · rw [ey, nI_toInt (by omega)]
              omega
            · rw [ey, nI_toInt (by omega)]
              omega
          · rw [ec, o1, i1, o2, i2, o3, i3, o4, i4, o5, i5, z00, z00, z00, z00, z10, z10, z10, z10, z10, z10, z00]
            exact Or.inr ⟨rfl, rfl⟩
        · rw [o1, i1, o2, i2, o3, i3, o4, i4, z00, z00, z00, z10, z10, z10, z10, z10, z00]
          exact Or.inr ⟨rfl, rfl⟩
      · rw [o1, i1, o2, i2, o3, i3, z00, z00, z10, z10, z10, z10, z00]
        exact Or.inr ⟨rfl, rfl⟩
    · rw [o1, i1, o2, i2, z00, z10, z10, z00, z00]
      exact Or.inr ⟨rfl, rfl⟩
  · rw [o1, i1, z10, z00, z00]
    exact Or.inr ⟨rfl, rfl⟩
theorem both_walk {B n : Nat} {σ μ : xM} {a : xA} (R : Rel B σ μ a) (hn : 400 < n) (hB : B + 20000 < 2 ^ 30) {p l c : Nat} {st : Int32} (hp : p < 16) (hc : c ≤ 30) (hv : ∀ k, k < c → ∃ y, y < 10000 ∧ nI l + nI k * st = nI y) : ∃ v τ' μ' a', F_X2_performWalk n (x_sh 4 σ) (nI p) (nI l) st (nI c) = some (v, τ') ∧ F_X5_goOn n μ (nI p) (nI l) st (nI c) = some (v, μ') ∧ Rel (B + 9000) (x_pt 4 τ' σ) μ' a' := by
  obtain ⟨g1, g2, g3⟩ := R.gh
  obtain ⟨τ', e1, c1⟩ := C_walk g1 g3 (n := n) hp (by omega) (by omega) hv (by omega)
  obtain ⟨μ', ρ', e2, c2, m5⟩ := R_goOn (μ := μ) g2 g3 (n := n) hp (by omega) (by omega) hv (by omega) R.w
  rw [xr_self] at e2
  exact ⟨_, τ', _, _, e1, e2, R.act (by omega) c1 c2 ((Inv_walk g3 hp hv (by omega) c (Nat.le_refl _)).mono (by omega) (by omega)) (fun i hi => sWalk_C _ _ _ _ i hi _) (fun k hk => m5.1 k (by omega)) (m5.2 2 (by decide) (by decide))⟩
theorem M_walk {B n : Nat} {σ μ : xM} {a : xA} (R : Rel B σ μ a) (hn : 400 < n) (hB : B + 30000 < 2 ^ 30) (x y z u : Int32) : OK2 (B + 30000) (F_X4_walk n σ x y z u) (F_X5_walk n μ x y z u) := by
  have no := fun v => R.no (B' := B + 30000) (by omega) hB v
  unfold F_X4_walk F_X5_walk
  rcases walk_io x y z u with ⟨w1, w2, p, l, c, hp, hl, hc, rfl, rfl, rfl, hv⟩ | ⟨w1, w2⟩
  · rw [w1, w2, z10, z10]
    obtain ⟨σ1, μ1, e1, e2, R1⟩ := R.rec hn
    obtain ⟨v, τ', μ', a', f1, f2, R2⟩ := both_walk R1 hn (by omega) hp hc hv
    rw [e1, Option.bind_some, f1, Option.bind_some, e2, Option.bind_some, f2, Option.bind_some]
    exact ⟨_, _, _, _, rfl, rfl, R2.mono (by omega) hB⟩
  · rw [w1, w2, z00, z00]
    exact no _
