/-! the check: the log, an access *)  -/
theorem fAsk_row (ls : List Nat) : ∀ (μ : xM) (r : Nat), r ≠ 0 → r ≠ 3 → ls.foldl wAsk μ r = μ r := by
  induction ls with
  | nil => intro μ r _ _; rfl
  | cons x ls ih =>
    intro μ r h0 h3
    rw [List.foldl_cons, ih _ r h0 h3]
    unfold wAsk
    rw [x_up_row' h0, x_up_row' h3]
theorem fAsk_3 (ls : List Nat) : ∀ (μ : xM) (m : Nat), μ 0 8 = nI m → m + ls.length < 2 ^ 31 → (∀ k, k < m → ls.foldl wAsk μ 3 k = μ 3 k) ∧ ∀ k x, ls[k]? = some x → ls.foldl wAsk μ 3 (m + k) = nI x := by
  induction ls with
  | nil => intro μ m _ _; exact ⟨fun _ _ => rfl, fun k x h => by cases h⟩
  | cons y ls ih =>
    intro μ m h hb
    rw [List.length_cons] at hb
    have e8 : wAsk μ y 0 8 = nI (m + 1) := by
      unfold wAsk
      rw [x_up_at, h, nI_1]
    obtain ⟨h1, h2⟩ := ih (wAsk μ y) (m + 1) e8 (by omega)
    have e3 : ∀ k, wAsk μ y 3 k = if k = m then nI y else μ 3 k := fun k => by
      unfold wAsk
      rw [x_up_row' (by decide), h, nI_clamp (by omega)]
      by_cases q : k = m
      · rw [q, x_up_at, if_pos rfl]
      · rw [x_up_off (by omega), if_neg q]
    refine ⟨fun k hk => ?_, fun k x hk => ?_⟩
    · rw [List.foldl_cons, h1 k (by omega), e3, if_neg (by omega)]
    · rw [List.foldl_cons]
      cases k with
      | zero =>
        cases hk
        rw [Nat.add_zero, h1 m (by omega), e3, if_pos rfl]
      | succ k =>
        have := h2 k x hk
        rw [show m + (k + 1) = m + 1 + k by omega]
        exact this
/-- what an access leaves of the check's other rows -/
def MW (μ μ' : xM) (i : Nat) (A : Nat → List Nat) : Prop := (∀ k, k ≠ 5 → k ≠ 8 → μ' 0 k = μ 0 k) ∧ (∀ r, r ≠ 0 → r ≠ 1 → r ≠ 3 → μ' r = μ r) ∧ ((∀ h, h < i → μ 0 6 ≠ nI h) → μ' 0 8 = μ 0 8 ∧ μ' 3 = μ 3) ∧ (∀ h, h < i → μ 0 6 = nI h → μ' 0 8 = nI (A h).length ∧ ∀ k x, (A h)[k]? = some x → μ' 3 k = nI x)
theorem MW.one {μ μ1 : xM} {i : Nat} {A : Nat → List Nat} (h : MW μ μ1 i A) (hi : i < 6) (hA : (A i).length ≤ 4) (st : Int32) (h8 : μ 0 6 = nI i → μ 0 8 = 0) : MW μ (wA (x_up μ1 0 5 st) i (A i)) (i + 1) A := by
  obtain ⟨w1, w2, w3, w4⟩ := h
  have e6 : x_up μ1 0 5 st 0 6 = μ 0 6 := by rw [x_up_off (by omega)]; exact w1 6 (by decide) (by decide)
  have e8 : x_up μ1 0 5 st 0 8 = μ1 0 8 := x_up_off (by omega)
  have e3 : x_up μ1 0 5 st 3 = μ1 3 := x_up_row' (by decide)
  refine ⟨fun k h5 h8 => ?_, fun r r0 r1 r3 => ?_, fun hne => ?_, fun h hh e => ?_⟩
  · rw [wA_0 _ _ _ _ h8, x_up_off (by omega)]
    exact w1 k h5 h8
  · unfold wA
    by_cases q : x_up μ1 0 5 st 0 6 = nI i
    · rw [if_pos q, fAsk_row _ _ _ r0 r3, x_up_row' r0]
      exact w2 r r0 r1 r3
    · rw [if_neg q, x_up_row' r0]
      exact w2 r r0 r1 r3
  · unfold wA
    rw [if_neg (by rw [e6]; exact hne i (Nat.lt_succ_self _)), e8, e3]
    exact w3 (fun h hh => hne h (by omega))
  · unfold wA
    by_cases q : h = i
    · subst q
      have hne : ∀ h', h' < h → μ 0 6 ≠ nI h' := fun h' hh' e2 => by
        rw [e, nI_eq (by omega) (by omega)] at e2
        omega
      have e80 : x_up μ1 0 5 st 0 8 = nI 0 := by rw [e8, (w3 hne).1, h8 e]; rfl
      rw [if_pos (by rw [e6]; exact e)]
      refine ⟨by rw [fAsk_8 _ _ 0 e80, Nat.zero_add], fun k x hk => ?_⟩
      have := (fAsk_3 (A h) _ 0 e80 (by omega)).2 k x hk
      rw [Nat.zero_add] at this
      exact this
    · rw [if_neg (by
        rw [e6, e]
        intro e2
        rw [nI_eq (by omega) (by omega)] at e2
        exact q e2), e8, e3]
      exact w4 h (by omega) e
theorem RRep.logged {ρ ρ' : Nat → Int32} {a : xA} {B : Nat} (h : RRep ρ a) (I : Inv B a) {p l o k : Nat} (hp : ρ' (300 + 4 * (aC a 4 % 12)) = nI p) (hl : ρ' (300 + 4 * (aC a 4 % 12) + 1) = nI l) (ho : ρ' (300 + 4 * (aC a 4 % 12) + 2) = nI o) (hk : ρ' (300 + 4 * (aC a 4 % 12) + 3) = nI k) (hc : ∀ i, i < 2157 → ρ' (349 + i) = nI (aC (sLog a p l o k) i)) (fr : ∀ i, i < 349 → (i < 300 + 4 * (aC a 4 % 12) ∨ 300 + 4 * (aC a 4 % 12) + 4 ≤ i) → ρ' i = ρ i) : RRep ρ' (sLog a p l o k) := by
  obtain ⟨h1, h2, h3, h4, h5⟩ := h
  obtain ⟨z1, z2, z3, z4⟩ := I.sz
  have L := I.2.2.2.2.2.1
  have L2 := L.2.1
  have hlen : (aL a).length ≤ 12 := by omega
  have hm : aC a 4 % 12 < 12 := Nat.mod_lt _ (by decide)
  have hpl2 : (pushL 12 (aL a)).length + 1 = min (aC a 4 + 1) 12 := by
    unfold pushL
    by_cases c : (aL a).length < 12
    · rw [if_pos c]
      omega
    · rw [if_neg c, List.length_tail]
      omega
  have hsub : (pushL 12 (aL a)).length ≤ (aL a).length := (push_sub _ _).length_le
  refine ⟨hc, fun s hs => ?_, ⟨by rw [fr _ (by omega) (by omega)]; exact h3.1, h3.2.fr (fun i hi1 hi2 => fr _ (by omega) (by omega))⟩, fun h9 hh => ?_, fun k' r hk' j hj => ?_⟩
  · have := z1 s hs
    exact ⟨by rw [fr _ (by omega) (by omega)]; exact (h2 s hs).1, (h2 s hs).2.fr (fun i hi1 hi2 => fr _ (by omega) (by omega))⟩
  · have hh' : h9 < aC a 2 := hh
    obtain ⟨g1, g2, g3⟩ := h4 h9 hh'
    have := z4 h9 hh'
    exact ⟨fun k hk => by rw [fr _ (by omega) (by omega)]; exact g1 k hk, by rw [fr _ (by omega) (by omega)]; exact g2, g3.fr (fun i hi1 hi2 => fr _ (by omega) (by omega))⟩
  · have e4 : aC (sLog a p l o k) 4 = aC a 4 + 1 := rfl
    have eL : aL (sLog a p l o k) = pushL 12 (aL a) ++ [row5 (nI p) (nI l) (nI o) (nI k) (nI (aC a 4))] := rfl
    rw [eL] at hk'
    rw [e4, eL, List.length_append, show [row5 (nI p) (nI l) (nI o) (nI k) (nI (aC a 4))].length = 1 from rfl]
    rw [get_push hlen (by decide)] at hk'
    by_cases c : k' < (pushL 12 (aL a)).length
    · rw [if_pos c] at hk'
      have := h5 _ r hk' j hj
      rw [fr _ (by omega) (by omega), ← this]
      congr 3
      omega
    · rw [if_neg c] at hk'
      by_cases c2 : k' = (pushL 12 (aL a)).length
      · rw [if_pos c2] at hk'
        cases hk'
        rw [show aC a 4 + 1 - ((pushL 12 (aL a)).length + 1) + k' = aC a 4 by omega]
        rcases (show j = 0 ∨ j = 1 ∨ j = 2 ∨ j = 3 by omega) with rfl | rfl | rfl | rfl
        · exact hp
        · exact hl
        · exact ho
        · exact hk
      · rw [if_neg c2] at hk'
        cases hk'
def lgU (ρ : Nat → Int32) (L p l o k c4 c5 c6 c7 : Nat) : Nat → Int32 := upd (upd (upd (upd (upd (upd (upd (upd ρ L (nI p)) (L + 1) (nI l)) (L + 2) (nI o)) (L + 3) (nI k)) 353 (nI c4)) 354 (nI c5)) 355 (nI c6)) 356 (nI c7)
theorem R_log {ρ : Nat → Int32} {a : xA} {B : Nat} (h : RRep ρ a) (I : Inv B a) (n : Nat) (μ : xM) (p l o k : Nat) (ho : o ≤ 2) (f : Nat) {H : Nat} (hH : aC a 2 = H) : ∃ ρ', B_X5_go_16 n (f + 1) (xr μ ρ) (nI p) (nI l) (nI o) (nI k) (nI H) = some (nI o, xr μ ρ') ∧ RRep ρ' (sLog a p l o k) := by
  have h6 := I.hn
  have hb := I.b
  have L1 := I.2.2.2.2.2.1.1
  have hm : aC a 4 % 12 < 12 := Nat.mod_lt _ (by decide)
  have e351 : ρ 351 = nI H := (h.c 2 (by decide)).trans (by rw [hH])
  have e353 : ρ 353 = nI (aC a 4) := h.c 4 (by decide)
  have e354 : ρ 354 = nI (aC a 5) := h.c 5 (by decide)
  have e355 : ρ 355 = nI (aC a 6) := h.c 6 (by decide)
  have e356 : ρ 356 = nI (aC a 7) := h.c 7 (by decide)
  have eL : (300 : Int32) + 4 * x_rem (nI (aC a 4)) 12 = nI (300 + 4 * (aC a 4 % 12)) := by
    rw [show (12 : Int32) = nI 12 from rfl, x_remN (by omega) (by decide) (by decide)]
    show nI 300 + nI 4 * nI _ = _
    rw [pk_mul, nI_add]
  have fin : ∀ c5 c6, c5 = (if o = 0 then aC a 5 else aC a 5 + 1) → c6 = (if o = 2 then aC a 6 + 1 else aC a 6) → RRep (lgU ρ (300 + 4 * (aC a 4 % 12)) p l o k (aC a 4 + 1) c5 c6 (aC a 7 + k)) (sLog a p l o k) := fun c5 c6 h5 h6 => by
    generalize hL : 300 + 4 * (aC a 4 % 12) = L at *
    refine h.logged I ?_ ?_ ?_ ?_ (fun i hi => ?_) (fun i hi hr => ?_)
    · rw [hL]
      unfold lgU
      rw [upd_ne (by omega), upd_ne (by omega), upd_ne (by omega), upd_ne (by omega), upd_ne (by omega), upd_ne (by omega), upd_ne (by omega), upd_eq]
    · rw [hL]
      unfold lgU
      rw [upd_ne (by omega), upd_ne (by omega), upd_ne (by omega), upd_ne (by omega), upd_ne (by omega), upd_ne (by omega), upd_eq]
    · rw [hL]
      unfold lgU
      rw [upd_ne (by omega), upd_ne (by omega), upd_ne (by omega), upd_ne (by omega), upd_ne (by omega), upd_eq]
    · rw [hL]
      unfold lgU
      rw [upd_ne (by omega), upd_ne (by omega), upd_ne (by omega), upd_ne (by omega), upd_eq]
    · show lgU ρ L p l o k (aC a 4 + 1) c5 c6 (aC a 7 + k) (349 + i) = nI (if i = 4 then aC a 4 + 1 else if i = 5 then (if o = 0 then aC a 5 else aC a 5 + 1) else if i = 6 then (if o = 2 then aC a 6 + 1 else aC a 6) else if i = 7 then aC a 7 + k else aC a i)
      rw [← h5, ← h6]
      by_cases q4 : i = 4
      · subst q4
        unfold lgU
        rw [if_pos rfl, upd_ne (by omega), upd_ne (by omega), upd_ne (by omega), upd_eq]
      · rw [if_neg q4]
        by_cases q5 : i = 5
        · subst q5
          unfold lgU
          rw [if_pos rfl, upd_ne (by omega), upd_ne (by omega), upd_eq]
        · rw [if_neg q5]
          by_cases q6 : i = 6
          · subst q6
            unfold lgU
            rw [if_pos rfl, upd_ne (by omega), upd_eq]
          · rw [if_neg q6]
            by_cases q7 : i = 7
            · subst q7
              unfold lgU
              rw [if_pos rfl, upd_eq]
            · rw [if_neg q7]
              unfold lgU
              rw [upd_ne (by omega), upd_ne (by omega), upd_ne (by omega), upd_ne (by omega), upd_ne (by omega), upd_ne (by omega), upd_ne (by omega), upd_ne (by omega)]
              exact h.1 i hi
    · rw [hL] at hr
      unfold lgU
      rw [upd_ne (by omega), upd_ne (by omega), upd_ne (by omega), upd_ne (by omega), upd_ne (by omega), upd_ne (by omega), upd_ne (by omega), upd_ne (by omega)]
  show ∃ ρ', (if (351 : Int32) < 0 ∨ 2506 ≤ (351 : Int32).toNatClampNeg then _ else _) = some (nI o, xr μ ρ') ∧ _
  rw [show (351 : Int32) = nI 351 from rfl, gd (by decide), cl (by decide), xr_1, e351, if_neg (nI_nlt (Nat.le_refl _) (by omega)), show (353 : Int32) = nI 353 from rfl, show (354 : Int32) = nI 354 from rfl, gd (by decide), cl (by decide), xr_1, e353, if_neg (show ¬ (12 : Int32) = 0 by decide), eL]
  have fin2 := fin
  generalize hL : 300 + 4 * (aC a 4 % 12) = L at *
  have a1 : nI L + 1 = nI (L + 1) := nI_1 L
  have a2 : nI L + 2 = nI (L + 2) := nI_add L 2
  have a3 : nI L + 3 = nI (L + 3) := nI_add L 3
  rw [a1, a2, a3]
  simp (disch := omega) only [gd, gd2, cl, xr_1, xr_up, upd_ne, e353, e354, nI_1 (aC a 4)]
  have k165 : ∀ (c5 c6 : Nat) (s : Int32), nI (aC a 6) + s = nI c6 → B_X5_go_165 n (xr μ (upd (upd (upd (upd (upd (upd ρ L (nI p)) (L + 1) (nI l)) (L + 2) (nI o)) (L + 3) (nI k)) 353 (nI (aC a 4 + 1))) 354 (nI c5))) (nI o) (nI k) 355 (nI (aC a 6)) s = some (nI o, xr μ (lgU ρ L p l o k (aC a 4 + 1) c5 c6 (aC a 7 + k))) := fun c5 c6 s es => by
    unfold B_X5_go_165 lgU
    rw [show (355 : Int32) = nI 355 from rfl, show (356 : Int32) = nI 356 from rfl, es]
    simp (disch := omega) only [gd, gd2, cl, xr_1, xr_up, upd_ne, e356, nI_add]
  have k144 : ∀ (c5 : Nat) (s : Int32), nI (aC a 5) + s = nI c5 → B_X5_go_144 n (xr μ (upd (upd (upd (upd (upd ρ L (nI p)) (L + 1) (nI l)) (L + 2) (nI o)) (L + 3) (nI k)) 353 (nI (aC a 4 + 1)))) (nI o) (nI k) (nI 354) (nI (aC a 5)) s = some (nI o, xr μ (lgU ρ L p l o k (aC a 4 + 1) c5 (if o = 2 then aC a 6 + 1 else aC a 6) (aC a 7 + k))) := fun c5 s es => by
    unfold B_X5_go_144
    rw [es, show ((355 : Int32).toNatClampNeg) = 355 from rfl]
    simp (disch := omega) only [gd, gd2, cl, xr_1, xr_up, upd_ne, e355]
    rw [if_neg (show ¬ ((355 : Int32) < 0 ∨ 2506 ≤ 355) by decide)]
    by_cases q : o = 2
    · rw [if_pos (by rw [q]; rfl), if_pos q]
      exact k165 c5 _ 1 (nI_1 _)
    · rw [if_neg (show ¬ nI o = (2 : Int32) from fun e => q ((nI_eq (b := 2) (by omega) (by omega)).mp e)), if_neg q]
      exact k165 c5 _ 0 (Int32.add_zero _)
  by_cases q : o = 0
  · rw [if_pos (by rw [q]; rfl), k144 (aC a 5) 0 (Int32.add_zero _)]
    exact ⟨_, rfl, fin _ _ (if_pos q).symm rfl⟩
  · rw [if_neg (show ¬ nI o = (0 : Int32) from fun e => q ((nI_eq (b := 0) (by omega) (by omega)).mp e)), k144 (aC a 5 + 1) 1 (nI_1 _)]
    exact ⟨_, rfl, fin _ _ (if_neg q).symm rfl⟩
