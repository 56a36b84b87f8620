/-! the check: an access, a walk *)  -/
theorem MW.rfl0 (μ : xM) (A : Nat → List Nat) : MW μ μ 0 A := ⟨fun _ _ _ => rfl, fun _ _ _ _ => rfl, fun _ => ⟨rfl, rfl⟩, fun h hh => absurd hh (Nat.not_lt_zero _)⟩
theorem R_helps {B : Nat} {a : xA} (I : Inv B a) {n : Nat} (hn : 20 < n) {μ : xM} {p l o : Nat} (hp : p < 16) (ho : o ≤ 2) (hB : B + 400 < 2 ^ 30) (hw : ∀ h, h < 6 → μ 0 6 = nI h → μ 0 8 = 0) : ∀ (f i : Nat) (μ1 : xM) (ρ : Nat → Int32), i ≤ aC a 2 → aC a 2 - i < f → RRep ρ (sHelps p l o i a).2 → MW μ μ1 i (fun h => sAsk (sHelps p l o h a).2 h p l o) → ∃ μ' ρ', B_X5_go_16 n f (xr μ1 ρ) (nI p) (nI l) (nI o) (nI (sHelps p l o i a).1) (nI i) = some (nI o, xr μ' ρ') ∧ RRep ρ' (sLog (sHelps p l o (aC a 2) a).2 p l o (sHelps p l o (aC a 2) a).1) ∧ MW μ μ' (aC a 2) (fun h => sAsk (sHelps p l o h a).2 h p l o) := by
  intro f
  induction f with
  | zero => intro i μ1 ρ _ h1; omega
  | succ f ih =>
    intro i μ1 ρ hi hf hr hm
    have h6 := I.hn
    have hC : aC (sHelps p l o i a).2 2 = aC a 2 := sHelps_C p l o 2 (by decide) a i
    have Ii := Inv_helps (l := l) (o := o) I hp i hi (by omega)
    by_cases q : i < aC a 2
    · have e2 : ρ 351 = nI (aC a 2) := (hr.c 2 (by decide)).trans (by rw [hC])
      have hhi : i < aC (sHelps p l o i a).2 2 := by rw [hC]; exact q
      obtain ⟨ρ1, e3, c3⟩ := R_learn (l := l) hr Ii hhi hn μ1 hp ho
      have I1 := Inv_learn (l := l) (o := o) Ii hhi hp
      have hh1 : i < aC (sLearn (sHelps p l o i a).2 i p l o).2 2 := by rw [(sLearn_r _ i p l o).2.2.2.2]; exact hhi
      obtain ⟨w1, w2, w3, w4⟩ := hm
      have h8 : x_up μ1 0 5 (sLearn (sHelps p l o i a).2 i p l o).1 0 6 = nI i → x_up μ1 0 5 (sLearn (sHelps p l o i a).2 i p l o).1 0 8 = 0 := fun e => by
        rw [x_up_off (by omega), w1 6 (by decide) (by decide)] at e
        rw [x_up_off (by omega), (w3 (fun h' hh' e2 => by
          rw [e, nI_eq (by omega) (by omega)] at e2
          omega)).1]
        exact hw i (by omega) e
      obtain ⟨ρ2, e4, c4⟩ := R_fetchAhead (μ := x_up μ1 0 5 (sLearn (sHelps p l o i a).2 i p l o).1) c3 I1 hh1 hn l h8 (by omega)
      rw [show x_up μ1 0 5 (sLearn (sHelps p l o i a).2 i p l o).1 0 5 = (sLearn (sHelps p l o i a).2 i p l o).1 from x_up_at] at e4 c4
      have hA := (sAsk_ok (l := l) (o := o) Ii hhi hp).1
      have hm2 := MW.one (i := i) ⟨w1, w2, w3, w4⟩ (by omega) hA (sLearn (sHelps p l o i a).2 i p l o).1 (hw i (by omega))
      obtain ⟨μ', ρ', e9, c9, m9⟩ := ih (i + 1) _ ρ2 q (by omega) c4 hm2
      refine ⟨μ', ρ', ?_, c9, m9⟩
      show (if (351 : Int32) < 0 ∨ 2506 ≤ (351 : Int32).toNatClampNeg then _ else _) = _
      rw [show (351 : Int32) = nI 351 from rfl, gd (by decide), cl (by decide), xr_1, e2, if_pos (nI_lt q (by omega)), e3, Option.bind_some, e4, Option.bind_some, nI_1]
      show B_X5_go_16 n f _ (nI p) (nI l) (nI o) (nI (sHelps p l o i a).1 + nI (sFetches (sLearn (sHelps p l o i a).2 i p l o).2 i (sAsk (sHelps p l o i a).2 i p l o)).1) (nI (i + 1)) = _
      rw [nI_add]
      exact e9
    · have ei : i = aC a 2 := by omega
      subst ei
      obtain ⟨ρ', e, c⟩ := R_log hr Ii n μ1 p l o (sHelps p l o (aC a 2) a).1 ho f hC
      exact ⟨μ1, ρ', e, c, hm⟩
theorem R_go {ρ : Nat → Int32} {a : xA} {B : Nat} (h : RRep ρ a) (I : Inv B a) {n : Nat} (hn : 20 < n) {μ : xM} {p l : Nat} (hp : p < 16) (hl : l < 10000) (hB : B + 500 < 2 ^ 30) (hw : ∀ h, h < 6 → μ 0 6 = nI h → μ 0 8 = 0) : ∃ μ' ρ', F_X5_go n (xr μ ρ) (nI p) (nI l) = some (nI (sGo a p l).1, xr μ' ρ') ∧ RRep ρ' (sGo a p l).2 ∧ MW μ μ' (aC a 2) (goAsk a p l) := by
  obtain ⟨ρ1, e1, c1⟩ := R_work I hn μ h
  have I1 := Inv_work I (aC a 2)
  have eC := (sWork_r a (aC a 2)).2.2.2.2
  have h6 := I.hn
  obtain ⟨ρ2, e2, c2⟩ := R_serve c1 I1 hn μ hl (by omega)
  have I2 := Inv_serve (l := l) I1 hl (by omega)
  have h2 : aC (sServe (sWork (aC a 2) a) l).2 2 = aC a 2 := (sServe_C _ l 2 (by decide)).trans (congrFun eC 2)
  have ho := sServe_lt (sWork (aC a 2) a) l
  obtain ⟨μ', ρ', e9, c9, m9⟩ := R_helps I2 hn (μ := μ) (l := l) (o := (sServe (sWork (aC a 2) a) l).1) hp (by omega) (by omega) hw n 0 μ ρ2 (Nat.zero_le _) (by omega) c2 (MW.rfl0 μ _)
  rw [h2] at c9 m9
  refine ⟨μ', ρ', ?_, c9, m9⟩
  unfold F_X5_go
  rw [e1, Option.bind_some, e2, Option.bind_some]
  exact e9
/-- only the asked step changes -/
def M5 (μ μ' : xM) : Prop := (∀ k, k ≠ 5 → μ' 0 k = μ 0 k) ∧ ∀ r, r ≠ 0 → r ≠ 1 → μ' r = μ r
theorem M5.rfl' (μ : xM) : M5 μ μ := ⟨fun _ _ => rfl, fun _ _ _ => rfl⟩
theorem M5.trans {μ1 μ2 μ3 : xM} (h1 : M5 μ1 μ2) (h2 : M5 μ2 μ3) : M5 μ1 μ3 := ⟨fun k hk => (h2.1 k hk).trans (h1.1 k hk), fun r r0 r1 => (h2.2 r r0 r1).trans (h1.2 r r0 r1)⟩
theorem MW.m5 {μ μ' : xM} {i : Nat} {A : Nat → List Nat} (h : MW μ μ' i A) (hi : i ≤ 6) (h1 : μ 0 6 = -1) : M5 μ μ' := by
  obtain ⟨w1, w2, w3, -⟩ := h
  have := w3 (fun h hh e => by
    rw [h1] at e
    exact nI_m1 (by omega) e.symm)
  refine ⟨fun k hk => ?_, fun r r0 r1 => ?_⟩
  · by_cases q : k = 8
    · rw [q]
      exact this.1
    · exact w1 k hk q
  · by_cases q : r = 3
    · rw [q]
      exact this.2
    · exact w2 r r0 r1 q
theorem R_goOn {ρ : Nat → Int32} {a : xA} {B : Nat} (h : RRep ρ a) (I : Inv B a) {n : Nat} {μ : xM} {p l c : Nat} {st : Int32} (hp : p < 16) (hc : c < 100) (hn : 200 < n) (hv : ∀ k, k < c → ∃ y, y < 10000 ∧ nI l + nI k * st = nI y) (hB : B + 300 * c + 500 < 2 ^ 30) (hw : μ 0 6 = -1) : ∃ μ' ρ', F_X5_goOn n (xr μ ρ) (nI p) (nI l) st (nI c) = some (nI (sWalk p l st c a).1, xr μ' ρ') ∧ RRep ρ' (sWalk p l st c a).2 ∧ M5 μ μ' := by
  have loop : ∀ (f k : Nat) (μ1 : xM) (ρ : Nat → Int32), k ≤ c → c - k < f → RRep ρ (sWalk p l st k a).2 → M5 μ μ1 → ∃ μ' ρ', B_X5_goOn_6 n f (xr μ1 ρ) (nI p) (nI l) st (nI c) (nI (sWalk p l st k a).1) (nI k) = some (nI (sWalk p l st c a).1, xr μ' ρ') ∧ RRep ρ' (sWalk p l st c a).2 ∧ M5 μ μ' := by
    intro f
    induction f with
    | zero => intro k μ1 ρ _ h1; omega
    | succ f ih =>
      intro k μ1 ρ hk hf hr hm
      show ∃ μ' ρ', (if nI k < nI c then _ else _) = _ ∧ _
      by_cases q : k < c
      · obtain ⟨y, hy, e⟩ := hv k q
        have Ik := Inv_walk I hp hv (by omega) k hk
        have hw1 : μ1 0 6 = -1 := (hm.1 6 (by decide)).trans hw
        obtain ⟨μ2, ρ2, e1, c1, m1⟩ := R_go (μ := μ1) (l := y) hr Ik (by omega : 20 < n) hp hy (by omega) (fun h hh e => by
          rw [hw1] at e
          exact absurd e.symm (nI_m1 (by omega)))
        have m2 := hm.trans (m1.m5 Ik.hn hw1)
        have es : sWalk p l st (k + 1) a = ((sWalk p l st k a).1 + (if (sGo (sWalk p l st k a).2 p y).1 = 0 then 0 else 1), (sGo (sWalk p l st k a).2 p y).2) := by
          show ((sWalk p l st k a).1 + (if (sGo (sWalk p l st k a).2 p (nI l + nI k * st).toNatClampNeg).1 = 0 then 0 else 1), (sGo (sWalk p l st k a).2 p (nI l + nI k * st).toNatClampNeg).2) = _
          rw [e, nI_clamp (by omega)]
        obtain ⟨μ', ρ', e9, c9, m9⟩ := ih (k + 1) μ2 ρ2 q (by omega) (by rw [es]; exact c1) m2
        rw [es] at e9
        have hlt := sGo_lt (sWalk p l st k a).2 p y
        rw [if_pos (nI_lt q (by omega)), e, e1, Option.bind_some]
        refine ⟨μ', ρ', ?_, c9, m9⟩
        unfold B_X5_goOn_34
        by_cases q0 : (sGo (sWalk p l st k a).2 p y).1 = 0
        · rw [if_pos q0] at e9
          show (if nI (sGo (sWalk p l st k a).2 p y).1 = 0 then _ else _) = _
          rw [if_pos (by rw [q0]; rfl), nI_1, Int32.add_zero]
          exact e9
        · rw [if_neg q0] at e9
          show (if nI (sGo (sWalk p l st k a).2 p y).1 = 0 then _ else _) = _
          rw [if_neg (show ¬ nI _ = (0 : Int32) from fun e => q0 ((nI_eq (b := 0) (by omega) (by omega)).mp e)), nI_1, nI_1]
          exact e9
      · have ek : k = c := by omega
        subst ek
        rw [if_neg (nI_nlt (Nat.le_refl _) (by omega))]
        exact ⟨μ1, ρ, rfl, hr, hm⟩
  exact loop n 0 μ ρ (Nat.zero_le _) (by omega) h (M5.rfl' μ)
