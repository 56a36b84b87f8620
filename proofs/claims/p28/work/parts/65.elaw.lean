/-! the law's answer *)  -/
theorem PA.any {B : Nat} {a : xA} {tp sn : Option xA} {f : Option (Int32 × xM)} (h : PA B a tp sn f) : ∃ v σ' a' tp', f = some (v, σ') ∧ PRel B σ' a' tp' sn := by
  obtain ⟨v, σ', e, h⟩ := h
  rcases h with ⟨-, h⟩ | ⟨-, a', h⟩
  · exact ⟨v, σ', _, _, e, h⟩
  · exact ⟨v, σ', _, _, e, h⟩
theorem rem8 : ∀ k, k < 24 → x_rem (nI k) (8 : Int32) = nI (k % 8) := by decide
section E
variable {B n : Nat} {a : xA} {tp sn : Option xA}
theorem W_183 {σ : xM} {t : Nat} (R : PRel B σ a tp sn) (hn : 400 < n) (hB : B + 90000 < 2 ^ 30) (ht : t < 24) (cf : Int32 → Int32) (K : xM → Int32 → Option (Int32 × xM)) (y : Int32) : ∃ σ' tp', PRel (B + 60000) σ' a tp' sn ∧ B_L_law_183 n cf K σ (nI t) y = K σ' (nI (t + 1)) := by
  have h212 : ∀ σ, B_L_law_212 n cf K σ (nI t) = K σ (nI (t + 1)) := fun σ => by
    unfold B_L_law_212
    rw [nI_1]
  unfold B_L_law_183
  rw [E_sound R hn, Option.bind_some, if_neg (by decide), if_neg (by decide), rem8 t ht]
  by_cases q : nI (t % 8) = (3 : Int32)
  · rw [if_pos q]
    obtain ⟨σ1, e1, R1⟩ := E_fore R hn hB (y >>> ((7 : Int32) &&& 31))
    refine ⟨σ1, _, R1, ?_⟩
    rw [e1, Option.bind_some, if_neg (show ¬ (1 : Int32) = 0 by decide), h212]
  · rw [if_neg q]
    exact ⟨σ, tp, R.mono (by omega) (by omega), h212 σ⟩
theorem W_step {σ : xM} {t : Nat} (R : PRel B σ a tp sn) (hn : 400 < n) (hB : B + 200000 < 2 ^ 30) (ht : t < 24) (cf : Int32 → Int32) (f : Nat) : ∃ σ' a' tp', PRel (B + 100000) σ' a' tp' sn ∧ B_L_law_103 n cf (f + 1) σ (nI t) = B_L_law_103 n cf f σ' (nI (t + 1)) := by
  have e1 : (1 : Int32) + nI t = nI (1 + t) := nI_add 1 t
  have h183 : ∀ (σ1 : xM) (a1 : xA) (tp1 : Option xA), PRel (B + 30000) σ1 a1 tp1 sn → ∃ σ' a' tp', PRel (B + 100000) σ' a' tp' sn ∧ B_L_law_183 n cf (fun σ l3 => B_L_law_103 n cf f σ l3) σ1 (nI t) (cf (nI (1 + t))) = B_L_law_103 n cf f σ' (nI (t + 1)) := fun σ1 a1 tp1 R1 => by
    obtain ⟨σ', tp', R2, e2⟩ := W_183 R1 hn (by omega) ht cf (fun σ l3 => B_L_law_103 n cf f σ l3) (cf (nI (1 + t)))
    exact ⟨σ', a1, tp', R2.mono (by omega) (by omega), e2⟩
  show ∃ σ' a' tp', PRel (B + 100000) σ' a' tp' sn ∧ (if nI t < (24 : Int32) then _ else _) = _
  rw [if_pos (show nI t < (24 : Int32) from nI_lt (b := 24) ht (by omega)), e1, if_neg (nI_pos (by omega)), E_all R hn, Option.bind_some]
  obtain ⟨v, σ1, e2, h⟩ := P_acts R hn (by omega) (cf (nI (1 + t)))
  rw [e2, Option.bind_some]
  rcases h with ⟨hv, R1⟩ | ⟨hv, a1, R1⟩
  · rw [if_pos hv, E_all R1 hn, Option.bind_some, lg_self, if_pos rfl]
    unfold B_L_law_149
    rw [if_pos hv]
    exact h183 _ _ _ R1
  · rw [if_neg hv]
    unfold B_L_law_149
    rw [if_neg hv]
    split
    · obtain ⟨v2, σ2, e3, hv2, R2⟩ := P_undo R1 hn
      rw [e3, Option.bind_some, if_neg hv2, E_all R2 hn, Option.bind_some, lg_self, if_pos rfl]
      exact h183 _ _ _ R2
    · exact h183 _ _ _ R1
theorem W_end {σ : xM} (R : PRel B σ a tp none) (hn : 400 < n) (hB : B + 90000 < 2 ^ 30) (cf : Int32 → Int32) (f : Nat) : ∃ σ', B_L_law_103 n cf (f + 1) σ (nI 24) = some (1, σ') := by
  obtain ⟨σ1, e1, R1⟩ := P_keep R hn
  obtain ⟨hw, hv⟩ := walk_yes (p := 4) (l := 0) (c := 9) (st := 3) (by decide) (by decide) (by decide) (by decide) (by decide) (by decide) (by decide) (by decide)
  obtain ⟨σ2, e2, R2⟩ := P_goes R1 hn (by omega) hw (by decide) (by decide) hv
  obtain ⟨σ3, e3, R3⟩ := P_restore R2 hn
  obtain ⟨v4, σ4, e4, h4, R4⟩ := P_undo R3 hn
  obtain ⟨σ5, e5, R5⟩ := P_restore R4 hn
  have k4 : aC a 4 ≤ B := R.inv.2.2.2.2.2.1.1
  have c1 : F_X4_count n σ1 0 = some (nI (aC a 4)) := E_count R1 hn (k := 0) (by decide) (by decide)
  have c3 : F_X4_count n σ3 0 = some (nI (aC a 4)) := E_count R3 hn (k := 0) (by decide) (by decide)
  have w1 : F_X4_walk n σ5 0 0 (-1) 2 = some (-100002, σ5) := by
    unfold F_X4_walk
    rw [if_pos (by decide)]
  have w2 : F_X4_wouldHit n σ5 0 9999 1 2 = some (-100002, σ5) := by
    unfold F_X4_wouldHit
    rw [if_pos (by decide)]
  have w3 : F_X4_wouldAsk n σ5 6 0 0 0 = some (-100001, σ5) := by
    unfold F_X4_wouldAsk
    have h6 := R5.h6
    rw [C_helperAt_no R5.cr R5.inv.1 n (x := 6) (fun h0 hh e => by
      have := (nI_eq (a := 6) (b := h0) (by omega) (by omega)).mp e
      omega), Option.bind_some]
    rfl
  have w4 : F_X4_count n σ5 17 = some (-100002) := rfl
  have w5 : F_X4_logged n σ5 12 0 = some (-100005) := by
    have e := E_logged (n := n) R5 (b := 12) (w := 0) (by decide) (by decide)
    have l12 := R5.cr.2.2.2.2.2.2.2.2.1
    have eo : oG a 12 0 = -100005 := if_neg (by omega)
    rw [eo] at e
    exact e
  have w6 : F_X4_logged n σ5 (-1) 0 = some (-100002) := by
    unfold F_X4_logged
    rw [if_pos (by decide)]
  have e2' : F_X4_walk n σ1 4 0 3 9 = some (nI (sWalk 4 0 3 9 a).1, σ2) := e2
  refine ⟨σ5, ?_⟩
  show (if nI 24 < (24 : Int32) then _ else _) = _
  rw [if_neg (show ¬ nI 24 < (24 : Int32) by decide), E_all R hn, Option.bind_some, e1, Option.bind_some, c1, Option.bind_some, if_pos rfl, e2', Option.bind_some, E_all R2 hn, Option.bind_some, e3, Option.bind_some, c3, Option.bind_some, if_pos rfl, E_all R3 hn, Option.bind_some, lg_self, if_pos rfl, e4, Option.bind_some, if_neg h4, E_all R4 hn, Option.bind_some, lg_self, if_pos rfl, e5, Option.bind_some, if_neg (nI_pos (by omega)), E_all R5 hn, Option.bind_some, lg_self, if_pos rfl, w1, Option.bind_some, if_pos rfl, w2, Option.bind_some, if_pos rfl, w3, Option.bind_some, if_pos rfl, w4, Option.bind_some, if_pos rfl, w5, Option.bind_some, if_pos rfl, w6, Option.bind_some, if_pos rfl]
theorem W_loop (hn : 400 < n) (cf : Int32 → Int32) : ∀ (f t B : Nat) (σ : xM) (a : xA) (tp : Option xA), t ≤ 24 → 24 - t < f → B + 100000 * (24 - t) + 300000 < 2 ^ 30 → PRel B σ a tp none → ∃ σ', B_L_law_103 n cf f σ (nI t) = some (1, σ') := by
  intro f
  induction f with
  | zero => intro t B σ a tp _ h; omega
  | succ f ih =>
    intro t B σ a tp ht hf hB R
    by_cases q : t < 24
    · obtain ⟨σ1, a1, tp1, R1, e1⟩ := W_step R hn (by omega) q cf f
      obtain ⟨σ2, e2⟩ := ih (t + 1) (B + 100000) σ1 a1 tp1 q (by omega) (by omega) R1
      exact ⟨σ2, e1.trans e2⟩
    · have e : t = 24 := by omega
      subst e
      exact W_end R hn (by omega) cf f
theorem E_law {σ : xM} (R : PRel 0 σ a tp none) (hn : 400 < n) (cf : Int32 → Int32) : ∃ σ', F_L_law n cf σ = some (1, σ') := by
  have l2 : ∀ σ x, F_L_low n σ x 2 = some (nI (lowN x 2)) := fun σ x => lowE n σ x (m := 2) (by decide) (by decide)
  have l3 : ∀ σ x, F_L_low n σ x 3 = some (nI (lowN x 3)) := fun σ x => lowE n σ x (m := 3) (by decide) (by decide)
  have l4 : ∀ σ x, F_L_low n σ x 4 = some (nI (lowN x 4)) := fun σ x => lowE n σ x (m := 4) (by decide) (by decide)
  unfold F_L_law
  rw [if_neg (by decide)]
  simp only [l2, l3, l4, Option.bind_some]
  obtain ⟨v1, σ1, a1, tp1, e1, R1⟩ := (P_shape R hn (by omega) ((1 : Int32) + nI (lowN (cf 0) 4)) ((1 : Int32) + nI (lowN ((cf 0) >>> ((4 : Int32) &&& 31)) 2))).any
  rw [e1, Option.bind_some]
  obtain ⟨v2, σ2, a2, tp2, e2, R2⟩ := (P_addHelper R1 hn (by omega) (nI (lowN ((cf 0) >>> ((7 : Int32) &&& 31)) 3)) ((1 : Int32) + nI (lowN ((cf 0) >>> ((9 : Int32) &&& 31)) 4)) ((1 : Int32) + nI (lowN ((cf 0) >>> ((12 : Int32) &&& 31)) 3))).any
  rw [e2, Option.bind_some]
  obtain ⟨v3, σ3, a3, tp3, e3, R3⟩ := (P_addHelper R2 hn (by omega) (nI (lowN ((cf 0) >>> ((15 : Int32) &&& 31)) 3)) ((1 : Int32) + nI (lowN ((cf 0) >>> ((17 : Int32) &&& 31)) 4)) ((1 : Int32) + nI (lowN ((cf 0) >>> ((20 : Int32) &&& 31)) 3))).any
  rw [e3, Option.bind_some]
  exact W_loop hn cf n 0 (0 + 30000 + 30000 + 30000) σ3 a3 tp3 (by decide) (by omega) (by decide) R3
end E
