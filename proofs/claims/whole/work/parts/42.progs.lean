/-! how many programs the log names: one number on both sides *)  -/
def mf (f : Nat → Nat) : Nat → Nat
  | 0 => 0
  | k + 1 => mf f k ||| 2 ^ f k
theorem mf_tb (f : Nat → Nat) (p : Nat) : ∀ k, (mf f k).testBit p = true ↔ ∃ i, i < k ∧ f i = p := by
  intro k
  induction k with
  | zero => exact ⟨fun e => (by rw [show mf f 0 = 0 from rfl, Nat.zero_testBit] at e; exact absurd e (by decide)), fun ⟨i, hi, _⟩ => absurd hi (Nat.not_lt_zero _)⟩
  | succ k ih =>
    show (mf f k ||| 2 ^ f k).testBit p = true ↔ _
    rw [set_bit]
    by_cases q : p = f k
    · rw [if_pos q]
      exact ⟨fun _ => ⟨k, Nat.lt_succ_self _, q.symm⟩, fun _ => rfl⟩
    · rw [if_neg q, ih]
      exact ⟨fun ⟨i, h1, h2⟩ => ⟨i, by omega, h2⟩, fun ⟨i, h1, h2⟩ => ⟨i, by
        by_cases c : i = k
        · rw [c] at h2
          exact absurd h2.symm q
        · omega, h2⟩⟩
theorem mf_lt {f : Nat → Nat} : ∀ k, (∀ i, i < k → f i < 16) → mf f k < 65536 := by
  intro k
  induction k with
  | zero => intro _; exact (by decide : 0 < 65536)
  | succ k ih => intro h; exact set_lt (ih (fun i hi => h i (by omega))) (h k (Nat.lt_succ_self _))
theorem mf_same {f g : Nat → Nat} {m k : Nat} (h1 : ∀ i, i < m → ∃ j, j < k ∧ g j = f i) (h2 : ∀ j, j < k → ∃ i, i < m ∧ f i = g j) : mf f m = mf g k := by
  apply Nat.eq_of_testBit_eq
  intro p
  rw [Bool.eq_iff_iff, mf_tb, mf_tb]
  constructor
  · rintro ⟨i, hi, e⟩
    obtain ⟨j, hj, e2⟩ := h1 i hi
    exact ⟨j, hj, e2.trans e⟩
  · rintro ⟨j, hj, e⟩
    obtain ⟨i, hi, e2⟩ := h2 j hj
    exact ⟨i, hi, e2.trans e⟩
def prL (L : List xR) (i : Nat) : Nat := match L[i]? with
  | some r => (r 0).toNatClampNeg
  | none => 0
theorem C_progs {a : xA} {B : Nat} {τ : xM} (h : CRep τ a) (I : Inv B a) {n : Nat} (hn : 20 < n) : F_X2_programsInLog n τ = some (nI (pcN (mf (prL (aL a)) (aL a).length))) := by
  have hc := h.2.2.2.2.2
  have L := I.2.2.2.2.2.1
  have hl : (aL a).length ≤ 12 := hc.2.2.2.1
  have hp : ∀ i r, (aL a)[i]? = some r → ∃ p, p < 16 ∧ r 0 = nI p ∧ prL (aL a) i = p := fun i r hr => by
    obtain ⟨-, p, hp, e⟩ := L.2.2 i r hr
    refine ⟨p, hp, e, ?_⟩
    unfold prL
    rw [hr]
    show (r 0).toNatClampNeg = p
    rw [e, nI_clamp (by omega)]
  have hlt : ∀ i, i < (aL a).length → prL (aL a) i < 16 := fun i hi => by
    obtain ⟨p, h1, -, h3⟩ := hp i _ (List.getElem?_eq_getElem hi)
    rw [h3]
    exact h1
  have loop : ∀ (f k : Nat), k ≤ (aL a).length → (aL a).length - k < f → B_X2_programsInLog_4 n τ f (nI (mf (prL (aL a)) k)) (nI k) = some (nI (pcN (mf (prL (aL a)) (aL a).length))) := by
    intro f
    induction f with
    | zero => intro k _ h1; omega
    | succ f ih =>
      intro k hk hf
      show (if nI k < τ 45 3 then _ else _) = _
      rw [hc.2.2.1]
      by_cases q : k < (aL a).length
      · obtain ⟨r, hr⟩ : ∃ r, (aL a)[k]? = some r := ⟨_, List.getElem?_eq_getElem q⟩
        obtain ⟨p, h1, h2, h3⟩ := hp k r hr
        have e0 : F_X1_get n τ 45 (nI k) 0 = some (r 0) := C_get (j := 0) hc SF_L n hr (by decide)
        rw [if_pos (nI_lt q (by omega)), e0, Option.bind_some, h2, set_nI h1, nI_1]
        have hi := ih (k + 1) q (by omega)
        rw [show mf (prL (aL a)) (k + 1) = mf (prL (aL a)) k ||| 2 ^ p by rw [← h3]; rfl] at hi
        exact hi
      · have ek : k = (aL a).length := by omega
        subst ek
        rw [if_neg (nI_nlt (Nat.le_refl _) (by omega)), bit_nI (mf_lt _ hlt)]
  exact loop n 0 (Nat.zero_le _) (by omega)
theorem R_many {a : xA} {B : Nat} {ρ : Nat → Int32} (h : RRep ρ a) (I : Inv B a) (n : Nat) (μ : xM) : F_X5_loggedMany n (xr μ ρ) = some (nI (aL a).length) := by
  have L := I.2.2.2.2.2.1
  have hb := I.b
  have e4 : ρ 353 = nI (aC a 4) := h.c 4 (by decide)
  have L2 := L.2.1
  unfold F_X5_loggedMany
  rw [show (353 : Int32) = nI 353 from rfl, gd (by decide), cl (by decide), xr_1, e4]
  by_cases q : aC a 4 < 12
  · rw [if_pos (show nI (aC a 4) < (12 : Int32) from nI_lt (b := 12) q (by omega)), gd2 (by decide), show (aL a).length = aC a 4 by omega]
  · rw [if_neg (show ¬ nI (aC a 4) < (12 : Int32) from nI_nlt (b := 12) (by omega) (by have := L.1; omega)), show (aL a).length = 12 by omega]
    rfl
theorem R_progs {a : xA} {B : Nat} {ρ : Nat → Int32} (h : RRep ρ a) (I : Inv B a) {n : Nat} (hn : 20 < n) (μ : xM) : F_X5_programsLogged n (xr μ ρ) = some (nI (pcN (mf (prL (aL a)) (aL a).length))) := by
  have L := I.2.2.2.2.2.1
  have L2 := L.2.1
  have hl : (aL a).length ≤ 12 := by omega
  have row : ∀ k, k < (aL a).length → ∃ p, p < 16 ∧ ρ (300 + 4 * ((aC a 4 - (aL a).length + k) % 12)) = nI p ∧ prL (aL a) k = p := fun k hk => by
    have hr := List.getElem?_eq_getElem hk
    obtain ⟨-, p, hp, e⟩ := L.2.2 k _ hr
    refine ⟨p, hp, (h.2.2.2.2 k _ hr 0 (by decide)).trans e, ?_⟩
    unfold prL
    rw [hr]
    show ((aL a)[k] 0).toNatClampNeg = p
    rw [e, nI_clamp (by omega)]
  have back : ∀ s, s < (aL a).length → ∃ k, k < (aL a).length ∧ (aC a 4 - (aL a).length + k) % 12 = s := fun s hs => by
    by_cases q : aC a 4 ≤ 12
    · exact ⟨s, hs, by omega⟩
    · exact ⟨(s + 12 - aC a 4 % 12) % 12, by omega, by omega⟩
  have slot : ∀ s, s < (aL a).length → ∃ p, p < 16 ∧ ρ (300 + 4 * s) = nI p ∧ (ρ (300 + 4 * s)).toNatClampNeg = p := fun s hs => by
    obtain ⟨k, hk, e⟩ := back s hs
    obtain ⟨p, h1, h2, -⟩ := row k hk
    rw [e] at h2
    exact ⟨p, h1, h2, by rw [h2, nI_clamp (by omega)]⟩
  have es : mf (prL (aL a)) (aL a).length = mf (fun s => (ρ (300 + 4 * s)).toNatClampNeg) (aL a).length := by
    refine mf_same (fun k hk => ?_) (fun s hs => ?_)
    · obtain ⟨p, h1, h2, h3⟩ := row k hk
      refine ⟨(aC a 4 - (aL a).length + k) % 12, ?_, ?_⟩
      · by_cases q : aC a 4 ≤ 12
        · omega
        · have := Nat.mod_lt (aC a 4 - (aL a).length + k) (show 0 < 12 by decide)
          omega
      · show (ρ (300 + 4 * ((aC a 4 - (aL a).length + k) % 12))).toNatClampNeg = _
        rw [h2, nI_clamp (by omega), h3]
    · obtain ⟨k, hk, e⟩ := back s hs
      obtain ⟨p, h1, h2, h3⟩ := row k hk
      rw [e] at h2
      refine ⟨k, hk, ?_⟩
      show _ = (ρ (300 + 4 * s)).toNatClampNeg
      rw [h3, h2, nI_clamp (by omega)]
  rw [es]
  generalize hf : (fun s => (ρ (300 + 4 * s)).toNatClampNeg) = f
  have ef : ∀ s, s < (aL a).length → f s < 16 ∧ ρ (300 + 4 * s) = nI (f s) := fun s hs => by
    obtain ⟨p, h1, h2, h3⟩ := slot s hs
    rw [← hf]
    show (ρ (300 + 4 * s)).toNatClampNeg < 16 ∧ _ = nI (ρ (300 + 4 * s)).toNatClampNeg
    rw [h3]
    exact ⟨h1, h2⟩
  have loop : ∀ (g k : Nat), k ≤ (aL a).length → (aL a).length - k < g → B_X5_programsLogged_6 n (xr μ ρ) g (nI (mf f k)) (nI (pcN (mf f k))) (nI k) = some (nI (pcN (mf f (aL a).length))) := by
    intro g
    induction g with
    | zero => intro k _ h1; omega
    | succ g ih =>
      intro k hk hg
      show ((F_X5_loggedMany n (xr μ ρ)).bind _) = _
      rw [R_many h I n μ, Option.bind_some]
      by_cases q : k < (aL a).length
      · obtain ⟨h1, h2⟩ := ef k q
        have hi := ih (k + 1) q (by omega)
        rw [show mf f (k + 1) = mf f k ||| 2 ^ f k from rfl, pc_set h1] at hi
        have hm := mf_lt (f := f) k (fun i hi => (ef i (by omega)).1)
        rw [if_pos (nI_lt q (by omega)), show (300 : Int32) + 4 * nI k = nI (300 + 4 * k) by rw [show (4 : Int32) * nI k = nI (4 * k) from pk_mul 4 k]; exact nI_add 300 _, gd (by omega), cl (by omega), xr_1, h2]
        unfold B_X5_programsLogged_43
        rw [set_nI h1, nI_1, nI_1, Int32.add_zero]
        cases hb : (mf f k).testBit (f k) with
        | true =>
          rw [hb] at hi
          rw [if_neg (fun e => by rw [(test_nI hm h1).mp e] at hb; cases hb)]
          exact hi
        | false =>
          rw [hb] at hi
          rw [if_pos ((test_nI hm h1).mpr hb)]
          exact hi
      · have ek : k = (aL a).length := by omega
        subst ek
        rw [if_neg (nI_nlt (Nat.le_refl _) (by omega))]
  have e := loop n 0 (Nat.zero_le _) (by omega)
  rw [show pcN (mf f 0) = 0 from (by decide : pcN 0 = 0)] at e
  exact e
