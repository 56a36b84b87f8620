/-! the check: a helper's table, learning *)  -/
theorem xr_up0 (μ : xM) (ρ : Nat → Int32) {r : Nat} (h : r ≠ 1) (k : Nat) (v : Int32) : x_up (xr μ ρ) r k v = xr (x_up μ r k v) ρ := by
  funext r' k'
  by_cases q : r' = 1
  · subst q
    show (if 1 = r ∧ k' = k then v else ρ k') = ρ k'
    rw [if_neg (fun e => h e.1.symm)]
  · simp [x_up, xr, q]
theorem x_up_self {μ : xM} {r k : Nat} {v : Int32} (h : μ r k = v) : x_up μ r k v = μ := by
  funext r' k'
  simp only [x_up]
  by_cases q : r' = r ∧ k' = k
  · rw [if_pos q, q.1, q.2, h]
  · rw [if_neg q]
theorem x_up_up {μ : xM} {r k : Nat} {v w : Int32} : x_up (x_up μ r k v) r k w = x_up μ r k w := by
  funext r' k'
  simp only [x_up]
  by_cases q : r' = r ∧ k' = k
  · rw [if_pos q, if_pos q]
  · rw [if_neg q, if_neg q, if_neg q]
theorem R_reach {ρ : Nat → Int32} {a : xA} (h : RRep ρ a) {h0 : Nat} (hh : h0 < aC a 2) (h6 : aC a 2 ≤ 6) (h3 : aH a h0 3 ≤ 2) (n : Nat) (μ : xM) : F_X5_reachOf n (xr μ ρ) (nI h0) = some (nI (sReach a h0)) := by
  have e3 : ρ (120 + 14 * h0 + 3) = nI (aH a h0 3) := h.f hh 3 (by decide)
  have e1 : ρ (120 + 14 * h0 + 1) = nI (aH a h0 1) := h.f hh 1 (by decide)
  unfold F_X5_reachOf sReach
  rw [show F_X5_of (nI h0) (3 : Int32) = nI (120 + 14 * h0 + 3) from R_of h0 3, show F_X5_of (nI h0) (1 : Int32) = nI (120 + 14 * h0 + 1) from R_of h0 1]
  simp (disch := omega) only [gd, gd2, cl, xr_1, e3, e1]
  rcases (show aH a h0 3 = 0 ∨ aH a h0 3 = 1 ∨ aH a h0 3 = 2 by omega) with q | q | q
  · rw [q]
    rfl
  · rw [q]
    rfl
  · rw [q]
    rfl
theorem R_dropRow {ρ : Nat → Int32} {n : Nat} (hn : 20 < n) (μ : xM) {s len w : Nat} (hs : s < 6) (h1 : ρ (120 + 14 * s + 13) = nI len) (hw : w < len) (hl : len ≤ 4) : F_X5_dropRow n (xr μ ρ) (nI s) (nI w) = some (xr μ (shf (upd ρ (120 + 14 * s + 13) (nI (len - 1))) (204 + 16 * s + w * 4) (204 + 16 * s + (len - 1) * 4) 4)) := by
  have loop : ∀ (f k : Nat) (ρ : Nat → Int32), ρ (120 + 14 * s + 13) = nI (len - 1) → 204 ≤ k → k ≤ 204 + 16 * s + (len - 1) * 4 → 204 + 16 * s + (len - 1) * 4 - k < f → B_X5_dropRow_21 n f (xr μ ρ) (nI s) (nI k) = some (xr μ (shf ρ k (204 + 16 * s + (len - 1) * 4) 4)) := by
    intro f
    induction f with
    | zero => intro k ρ _ _ _ h; omega
    | succ f ih =>
      intro k ρ h1 h8 hk hf
      show (if F_X5_of (nI s) (13 : Int32) < 0 ∨ 2506 ≤ (F_X5_of (nI s) (13 : Int32)).toNatClampNeg then _ else _) = _
      rw [show F_X5_of (nI s) (13 : Int32) = nI (120 + 14 * s + 13) from R_of s 13, gd (by omega), cl (by omega), xr_1, h1, R_row]
      by_cases q : k < 204 + 16 * s + (len - 1) * 4
      · have e2 : nI k + 4 = nI (k + 4) := nI_add k 4
        rw [if_pos (nI_lt q (by omega)), e2, gd (by omega), gd (by omega), cl (by omega), cl (by omega), nI_1]
        show B_X5_dropRow_21 n f (x_up (xr μ ρ) 1 k (xr μ ρ 1 (k + 4))) (nI s) (nI (k + 1)) = _
        rw [xr_1, xr_up, ih (k + 1) _ (by rw [upd_ne (by omega)]; exact h1) (by omega) (by omega) (by omega), shf_step q (by decide)]
      · have ek : k = 204 + 16 * s + (len - 1) * 4 := by omega
        rw [if_neg (nI_nlt (by omega) (by omega)), ek, shf_end]
  obtain ⟨m, hm⟩ : ∃ m, len = m + 1 := ⟨len - 1, by omega⟩
  unfold F_X5_dropRow
  rw [show F_X5_of (nI s) (13 : Int32) = nI (120 + 14 * s + 13) from R_of s 13, gd (by omega), gd (by omega), cl (by omega), R_row]
  show B_X5_dropRow_21 n n (x_up (xr μ ρ) 1 (120 + 14 * s + 13) (xr μ ρ 1 (120 + 14 * s + 13) - 1)) (nI s) (nI (204 + 16 * s + w * 4)) = _
  rw [xr_1, h1, xr_up, show nI len - 1 = nI (len - 1) by rw [hm, nI_pred]; rfl]
  exact loop n _ _ upd_eq (by omega) (by omega) (by omega)
theorem R_addRow0 {ρ : Nat → Int32} (n : Nat) (μ : xM) {s len : Nat} (hs : s < 6) (h1 : ρ (120 + 14 * s + 13) = nI len) (hl : len < 4) (x y z v : Int32) : F_X5_addRow n (xr μ ρ) (nI s) x y z v = some (xr μ (upd (upd (upd (upd (upd ρ (204 + 16 * s + len * 4) x) (204 + 16 * s + len * 4 + 1) y) (204 + 16 * s + len * 4 + 2) z) (204 + 16 * s + len * 4 + 3) v) (120 + 14 * s + 13) (nI (len + 1)))) := by
  unfold F_X5_addRow
  rw [show F_X5_of (nI s) (13 : Int32) = nI (120 + 14 * s + 13) from R_of s 13, gd (by omega), cl (by omega), xr_1, h1, R_row, gd (by omega), show nI (204 + 16 * s + len * 4) + 1 = nI (204 + 16 * s + len * 4 + 1) from nI_add _ 1, show nI (204 + 16 * s + len * 4) + 2 = nI (204 + 16 * s + len * 4 + 2) from nI_add _ 2, show nI (204 + 16 * s + len * 4) + 3 = nI (204 + 16 * s + len * 4 + 3) from nI_add _ 3]
  simp (disch := omega) only [gd, gd2, cl, xr_1, xr_up, upd_ne, h1, nI_1]
theorem R_addRow {ρ : Nat → Int32} {a : xA} (h : RRep ρ a) (z : Sz a) (n : Nat) (μ : xM) {h0 : Nat} (hh : h0 < aC a 2) (hl : (aG a h0).length < 4) (k0 y0 z0 v0 : Int32) : ∃ ρ', F_X5_addRow n (xr μ ρ) (nI h0) (tG (aH a h0 0) 0 k0) y0 z0 v0 = some (xr μ ρ') ∧ RRep ρ' (wG a (va_up (aG a) h0 (aG a h0 ++ [row4 k0 y0 z0 v0]))) := by
  obtain ⟨-, g1, g2⟩ := h.2.2.2.1 h0 hh
  have h6 := z.2.2.1
  refine ⟨_, R_addRow0 n μ (by omega) g1 hl _ y0 z0 v0, h.setG z hh (fun i hi hr => ?_) ?_ ?_⟩
  · rw [upd_ne hi, upd_ne (by omega), upd_ne (by omega), upd_ne (by omega), upd_ne (by omega)]
  · rw [upd_eq, List.length_append]
    rfl
  · refine rp_append g2 (fun i h1 h2 => by rw [upd_ne (by omega), upd_ne (by omega), upd_ne (by omega), upd_ne (by omega), upd_ne (by omega)]) (fun j hj => ?_)
    rcases (show j = 0 ∨ j = 1 ∨ j = 2 ∨ j = 3 by omega) with rfl | rfl | rfl | rfl
    · rw [upd_ne (by omega), upd_ne (by omega), upd_ne (by omega), upd_ne (by omega), Nat.add_zero, upd_eq]
      rfl
    · rw [upd_ne (by omega), upd_ne (by omega), upd_ne (by omega), upd_eq]
      rfl
    · rw [upd_ne (by omega), upd_ne (by omega), upd_eq]
      rfl
    · rw [upd_ne (by omega), upd_eq]
      rfl
theorem R_drop {ρ : Nat → Int32} {a : xA} (h : RRep ρ a) (z : Sz a) {n : Nat} (hn : 20 < n) (μ : xM) {h0 w : Nat} (hh : h0 < aC a 2) (hw : w < (aG a h0).length) : ∃ ρ', F_X5_dropRow n (xr μ ρ) (nI h0) (nI w) = some (xr μ ρ') ∧ RRep ρ' (wG a (va_up (aG a) h0 ((aG a h0).eraseIdx w))) := by
  obtain ⟨-, g1, g2⟩ := h.2.2.2.1 h0 hh
  have h4 := z.2.2.2 h0 hh
  have h6 := z.2.2.1
  have hl : ((aG a h0).eraseIdx w).length = (aG a h0).length - 1 := by rw [List.length_eraseIdx, if_pos hw]
  refine ⟨_, R_dropRow hn μ (by omega) g1 hw h4, h.setG z hh (fun i hi hr => ?_) ?_ ?_⟩
  · simp only [shf]
    rw [if_neg (by omega), upd_ne hi]
  · simp only [shf]
    rw [if_neg (by omega), upd_eq, hl]
  · refine rp_erase (ρ := upd ρ (120 + 14 * h0 + 13) (nI ((aG a h0).length - 1))) (g2.fr (fun i h1 h2 => upd_ne (by omega))) hw (fun i h1 h2 => rfl)
theorem Sz.G {a : xA} (z : Sz a) {s : Nat} {l : List xR} (hl : l.length ≤ 4) : Sz (wG a (va_up (aG a) s l)) := ⟨z.1, z.2.1, z.2.2.1, fun s' hs' => by
  show (va_up (aG a) s l s').length ≤ 4
  by_cases q : s' = s
  · subst q
    rw [va_up_eq]
    exact hl
  · rw [va_up_off q]
    exact z.2.2.2 s' hs'⟩
theorem R_move {ρ : Nat → Int32} {a : xA} (h : RRep ρ a) (z : Sz a) {n : Nat} (hn : 20 < n) (μ : xM) {h0 w : Nat} {r : xR} (hh : h0 < aC a 2) (hw : (aG a h0)[w]? = some r) (k0 y0 z0 v0 : Int32) (hk : k0 = tG (aH a h0 0) 0 (r 0)) : ∃ ρ1 ρ', F_X5_dropRow n (xr μ ρ) (nI h0) (nI w) = some (xr μ ρ1) ∧ F_X5_addRow n (xr μ ρ1) (nI h0) k0 y0 z0 v0 = some (xr μ ρ') ∧ RRep ρ' (sMove a h0 w r y0 z0 v0) := by
  have hl := lt_of_get hw
  have h4 := z.2.2.2 h0 hh
  have el : ((aG a h0).eraseIdx w).length = (aG a h0).length - 1 := by rw [List.length_eraseIdx, if_pos hl]
  obtain ⟨ρ1, e1, c1⟩ := R_drop h z hn μ hh hl
  have z1 : Sz (wG a (va_up (aG a) h0 ((aG a h0).eraseIdx w))) := z.G (by omega)
  have es : aG (wG a (va_up (aG a) h0 ((aG a h0).eraseIdx w))) h0 = (aG a h0).eraseIdx w := va_up_eq
  obtain ⟨ρ2, e2, c2⟩ := R_addRow c1 z1 n μ (h0 := h0) hh (by rw [es]; omega) (r 0) y0 z0 v0
  refine ⟨ρ1, ρ2, e1, by rw [hk]; exact e2, ?_⟩
  rw [es] at c2
  have e3 : va_up (aG (wG a (va_up (aG a) h0 ((aG a h0).eraseIdx w)))) h0 ((aG a h0).eraseIdx w ++ [row4 (r 0) y0 z0 v0]) = va_up (aG a) h0 ((aG a h0).eraseIdx w ++ [row4 (r 0) y0 z0 v0]) := bx_uu _ _ _ _
  rw [e3] at c2
  exact c2
/-- a new row, the table's oldest one dropped if it is full -/
theorem R_new {ρ : Nat → Int32} {a : xA} (h : RRep ρ a) (z : Sz a) {n : Nat} (hn : 20 < n) (μ : xM) {h0 m : Nat} (hh : h0 < aC a 2) (hm : (aG a h0).length ≤ m) (h1 : 1 ≤ m) (hm4 : m ≤ 4) (k0 y0 : Int32) (kk : Int32) (hk : kk = tG (aH a h0 0) 0 k0) (K : xM → Option xM) (hK : ∀ ρ1, K (xr μ ρ1) = F_X5_addRow n (xr μ ρ1) (nI h0) kk y0 0 0) : ∃ ρ', (if ρ (120 + 14 * h0 + 13) = nI m then (F_X5_dropRow n (xr μ ρ) (nI h0) 0).bind fun q => K q else K (xr μ ρ)) = some (xr μ ρ') ∧ RRep ρ' (wG a (va_up (aG a) h0 (pushL m (aG a h0) ++ [row4 k0 y0 0 0]))) := by
  obtain ⟨-, g1, g2⟩ := h.2.2.2.1 h0 hh
  rw [g1]
  by_cases q : (aG a h0).length < m
  · rw [if_neg (fun e => by rw [nI_eq (by omega) (by omega)] at e; omega), hK, hk]
    obtain ⟨ρ', e, c⟩ := R_addRow h z n μ hh (by omega) k0 y0 0 0
    refine ⟨ρ', e, ?_⟩
    unfold pushL
    rw [if_pos q]
    exact c
  · have em : (aG a h0).length = m := by omega
    rw [if_pos (by rw [em])]
    obtain ⟨ρ1, e1, c1⟩ := R_drop h z hn μ (w := 0) hh (by omega)
    have el : ((aG a h0).eraseIdx 0).length = (aG a h0).length - 1 := by rw [List.length_eraseIdx, if_pos (by omega)]
    have z1 : Sz (wG a (va_up (aG a) h0 ((aG a h0).eraseIdx 0))) := z.G (by omega)
    have es : aG (wG a (va_up (aG a) h0 ((aG a h0).eraseIdx 0))) h0 = (aG a h0).eraseIdx 0 := va_up_eq
    obtain ⟨ρ2, e2, c2⟩ := R_addRow c1 z1 n μ (h0 := h0) hh (by rw [es]; omega) k0 y0 0 0
    rw [show F_X5_dropRow n (xr μ ρ) (nI h0) 0 = _ from e1, Option.bind_some, hK, hk]
    refine ⟨ρ2, e2, ?_⟩
    rw [es] at c2
    have e3 : va_up (aG (wG a (va_up (aG a) h0 ((aG a h0).eraseIdx 0)))) h0 ((aG a h0).eraseIdx 0 ++ [row4 k0 y0 0 0]) = va_up (aG a) h0 ((aG a h0).eraseIdx 0 ++ [row4 k0 y0 0 0]) := bx_uu _ _ _ _
    rw [e3] at c2
    unfold pushL
    rw [if_neg q, ← List.eraseIdx_zero]
    exact c2
