/-! the check: a set's cells, throwing out, fetching *)  -/
theorem R_closeUp {ρ : Nat → Int32} {n : Nat} (hn : 20 < n) (μ : xM) {s len w : Nat} (hs : s < 8) (h1 : ρ s = nI len) (hw : w < len) (hl : len ≤ 4) : F_X5_closeUp n (xr μ ρ) (nI s) (nI w) = some (xr μ (shf (upd ρ s (nI (len - 1))) (8 + 12 * s + w * 3) (8 + 12 * s + (len - 1) * 3) 3)) := by
  have loop : ∀ (f k : Nat) (ρ : Nat → Int32), ρ s = nI (len - 1) → 8 ≤ k → k ≤ 8 + 12 * s + (len - 1) * 3 → 8 + 12 * s + (len - 1) * 3 - k < f → B_X5_closeUp_18 n f (xr μ ρ) (nI s) (nI k) = some (xr μ (shf ρ k (8 + 12 * s + (len - 1) * 3) 3)) := by
    intro f
    induction f with
    | zero => intro k ρ _ _ _ h; omega
    | succ f ih =>
      intro k ρ h1 h8 hk hf
      show (if (0 : Int32) + nI s < 0 ∨ 2506 ≤ ((0 : Int32) + nI s).toNatClampNeg then _ else _) = _
      rw [Int32.zero_add, gd (by omega), cl (by omega), xr_1, h1, R_cell]
      by_cases q : k < 8 + 12 * s + (len - 1) * 3
      · have e2 : nI k + 3 = nI (k + 3) := nI_add k 3
        rw [if_pos (nI_lt q (by omega)), e2, gd (by omega), gd (by omega), cl (by omega), cl (by omega), nI_1]
        show B_X5_closeUp_18 n f (x_up (xr μ ρ) 1 k (xr μ ρ 1 (k + 3))) (nI s) (nI (k + 1)) = _
        rw [xr_1, xr_up, ih (k + 1) _ (by rw [upd_ne (by omega)]; exact h1) (by omega) (by omega) (by omega), shf_step q (by decide)]
      · have ek : k = 8 + 12 * s + (len - 1) * 3 := by omega
        rw [if_neg (nI_nlt (by omega) (by omega)), ek, shf_end]
  obtain ⟨m, hm⟩ : ∃ m, len = m + 1 := ⟨len - 1, by omega⟩
  unfold F_X5_closeUp
  rw [Int32.zero_add, gd (by omega), gd (by omega), cl (by omega), R_cell]
  show B_X5_closeUp_18 n n (x_up (xr μ ρ) 1 s (xr μ ρ 1 s - 1)) (nI s) (nI (8 + 12 * s + w * 3)) = _
  rw [xr_1, h1, xr_up, show nI len - 1 = nI (len - 1) by rw [hm, nI_pred]; rfl]
  exact loop n _ _ upd_eq (by omega) (by omega) (by omega)
theorem R_append {ρ : Nat → Int32} (n : Nat) (μ : xM) {s len : Nat} (hs : s < 8) (h1 : ρ s = nI len) (hl : len < 4) (x y z : Int32) : F_X5_append n (xr μ ρ) (nI s) x y z = some (xr μ (upd (upd (upd (upd ρ (8 + 12 * s + len * 3) x) (8 + 12 * s + len * 3 + 1) y) (8 + 12 * s + len * 3 + 2) z) s (nI (len + 1)))) := by
  unfold F_X5_append
  rw [Int32.zero_add, gd (by omega), cl (by omega), xr_1, h1, R_cell, gd (by omega), show nI (8 + 12 * s + len * 3) + 1 = nI (8 + 12 * s + len * 3 + 1) from nI_add _ 1, show nI (8 + 12 * s + len * 3) + 2 = nI (8 + 12 * s + len * 3 + 2) from nI_add _ 2, cl (by omega), gd (by omega), cl (by omega), gd (by omega), cl (by omega), gd2 (by omega), gd2 (by omega)]
  show some (x_up (x_up (x_up (x_up (xr μ ρ) 1 (8 + 12 * s + len * 3) x) 1 (8 + 12 * s + len * 3 + 1) y) 1 (8 + 12 * s + len * 3 + 2) z) 1 s (x_up (x_up (x_up (xr μ ρ) 1 (8 + 12 * s + len * 3) x) 1 (8 + 12 * s + len * 3 + 1) y) 1 (8 + 12 * s + len * 3 + 2) z 1 s + 1)) = _
  rw [xr_up, xr_up, xr_up, xr_up, xr_1, upd_ne (by omega), upd_ne (by omega), upd_ne (by omega), h1, nI_1]
theorem R_close {ρ : Nat → Int32} {a : xA} (h : RRep ρ a) (z : Sz a) {n : Nat} (hn : 20 < n) (μ : xM) {s w : Nat} (hs : s < 8) (hw : w < (aS a s).length) : ∃ ρ', F_X5_closeUp n (xr μ ρ) (nI s) (nI w) = some (xr μ ρ') ∧ RRep ρ' (wS a (va_up (aS a) s ((aS a s).eraseIdx w))) := by
  obtain ⟨g1, g2⟩ := h.2.1 s hs
  have h4 := z.1 s hs
  have hl : ((aS a s).eraseIdx w).length = (aS a s).length - 1 := by rw [List.length_eraseIdx, if_pos hw]
  refine ⟨_, R_closeUp hn μ hs g1 hw h4, h.setS z hs (fun i hi hr => ?_) ?_ ?_⟩
  · simp only [shf]
    rw [if_neg (by omega), upd_ne hi]
  · simp only [shf]
    rw [if_neg (by omega), upd_eq, hl]
  · refine rp_erase (ρ := upd ρ s (nI ((aS a s).length - 1))) (g2.fr (fun i h1 h2 => upd_ne (by omega))) hw (fun i h1 h2 => rfl)
theorem R_add {ρ : Nat → Int32} {a : xA} (h : RRep ρ a) (z : Sz a) (n : Nat) (μ : xM) {s : Nat} (hs : s < 8) (hl : (aS a s).length < 4) (x y v : Int32) : ∃ ρ', F_X5_append n (xr μ ρ) (nI s) x (uc y) v = some (xr μ ρ') ∧ RRep ρ' (wS a (va_up (aS a) s (aS a s ++ [row3 x y v]))) := by
  obtain ⟨g1, g2⟩ := h.2.1 s hs
  refine ⟨_, R_append n μ hs g1 hl x (uc y) v, h.setS z hs (fun i hi hr => ?_) ?_ ?_⟩
  · rw [upd_ne hi, upd_ne (by omega), upd_ne (by omega), upd_ne (by omega)]
  · rw [upd_eq, List.length_append]
    rfl
  · refine rp_append g2 (fun i h1 h2 => by rw [upd_ne (by omega), upd_ne (by omega), upd_ne (by omega), upd_ne (by omega)]) (fun j hj => ?_)
    rcases (show j = 0 ∨ j = 1 ∨ j = 2 by omega) with rfl | rfl | rfl
    · rw [upd_ne (by omega), upd_ne (by omega), upd_ne (by omega), Nat.add_zero, upd_eq]
      rfl
    · rw [upd_ne (by omega), upd_ne (by omega), upd_eq]
      rfl
    · rw [upd_ne (by omega), upd_eq]
      rfl
theorem Sz.S {a : xA} (z : Sz a) {s : Nat} {l : List xR} (hl : l.length ≤ 4) : Sz (wS a (va_up (aS a) s l)) := ⟨fun s' hs' => by
  show (va_up (aS a) s l s').length ≤ 4
  by_cases q : s' = s
  · subst q
    rw [va_up_eq]
    exact hl
  · rw [va_up_off q]
    exact z.1 s' hs', z.2⟩
theorem R_hit {ρ : Nat → Int32} {a : xA} (h : RRep ρ a) (z : Sz a) {n : Nat} (hn : 20 < n) (μ : xM) {s w : Nat} {r : xR} (hs : s < 8) (hw : (aS a s)[w]? = some r) : ∃ ρ1 ρ', F_X5_closeUp n (xr μ ρ) (nI s) (nI w) = some (xr μ ρ1) ∧ F_X5_append n (xr μ ρ1) (nI s) (r 0) (uc (r 1)) 0 = some (xr μ ρ') ∧ RRep ρ' (sHit a s w r) := by
  have hl := lt_of_get hw
  have h4 := z.1 s hs
  have el : ((aS a s).eraseIdx w).length = (aS a s).length - 1 := by rw [List.length_eraseIdx, if_pos hl]
  obtain ⟨ρ1, e1, c1⟩ := R_close h z hn μ hs hl
  have z1 : Sz (wS a (va_up (aS a) s ((aS a s).eraseIdx w))) := z.S (by omega)
  have es : aS (wS a (va_up (aS a) s ((aS a s).eraseIdx w))) s = (aS a s).eraseIdx w := va_up_eq
  obtain ⟨ρ2, e2, c2⟩ := R_add c1 z1 n μ hs (by rw [es]; omega) (r 0) (r 1) 0
  refine ⟨ρ1, ρ2, e1, e2, ?_⟩
  rw [es] at c2
  have e3 : va_up (aS (wS a (va_up (aS a) s ((aS a s).eraseIdx w)))) s ((aS a s).eraseIdx w ++ [row3 (r 0) (r 1) 0]) = va_up (aS a) s ((aS a s).eraseIdx w ++ [row3 (r 0) (r 1) 0]) := bx_uu _ _ _ _
  rw [e3] at c2
  exact c2
theorem R_out99 {ρ : Nat → Int32} {a : xA} (h : RRep ρ a) (z : Sz a) (n : Nat) (μ : xM) (hl : (aT a).length < 8) (x y : Int32) : ∃ ρ', B_X5_throwOut_99 n (xr μ ρ) (uc y) x = some (xr μ ρ') ∧ RRep ρ' (wC (wT a (aT a ++ [row2 x y])) (va_up (aC a) 8 (aC a 8 + 1))) := by
  obtain ⟨g1, g2⟩ := h.2.2.1
  have e8 : ρ 357 = nI (aC a 8) := h.c 8 (by decide)
  have r1 : RRep (upd (upd (upd ρ (104 + 2 * (aT a).length) x) (104 + 2 * (aT a).length + 1) (uc y)) 348 (nI ((aT a).length + 1))) (wT a (aT a ++ [row2 x y])) := by
    refine h.setT z (fun i hi hr => ?_) ?_ ?_
    · rw [upd_ne hi, upd_ne (by omega), upd_ne (by omega)]
    · rw [upd_eq, List.length_append]
      rfl
    · refine rp_append g2 (fun i h1 h2 => by rw [upd_ne (by omega), upd_ne (by omega), upd_ne (by omega)]) (fun j hj => ?_)
      rcases (show j = 0 ∨ j = 1 by omega) with rfl | rfl
      · rw [upd_ne (by omega), upd_ne (by omega), show 104 + (aT a).length * 2 + 0 = 104 + 2 * (aT a).length by omega, upd_eq]
        rfl
      · rw [upd_ne (by omega), show 104 + (aT a).length * 2 + 1 = 104 + 2 * (aT a).length + 1 by omega, upd_eq]
        rfl
  have z1 : Sz (wT a (aT a ++ [row2 x y])) := ⟨z.1, by show (aT a ++ [row2 x y]).length ≤ 8; rw [List.length_append]; exact hl, z.2.2⟩
  have r2 := r1.setC (i := 8) (v := aC a 8 + 1) z1 (by decide) (by decide) (by decide)
  refine ⟨_, ?_, r2⟩
  unfold B_X5_throwOut_99
  rw [show (348 : Int32) = nI 348 from rfl, show (357 : Int32) = nI 357 from rfl, gd (by decide), cl (by decide), xr_1, g1, show (104 : Int32) + 2 * nI (aT a).length = nI (104 + 2 * (aT a).length) by rw [show (2 : Int32) * nI (aT a).length = nI (2 * (aT a).length) from pk_mul 2 _]; exact nI_add 104 _, gd (by omega), cl (by omega), gd2 (by omega)]
  show (if ((104 : Int32) + (2 * x_up (xr μ ρ) 1 (104 + 2 * (aT a).length) x 1 348)) + 1 < 0 ∨ 2506 ≤ (((104 : Int32) + (2 * x_up (xr μ ρ) 1 (104 + 2 * (aT a).length) x 1 348)) + 1).toNatClampNeg then none else _) = _
  rw [xr_up, xr_1, upd_ne (by omega), g1, show (104 : Int32) + 2 * nI (aT a).length = nI (104 + 2 * (aT a).length) by rw [show (2 : Int32) * nI (aT a).length = nI (2 * (aT a).length) from pk_mul 2 _]; exact nI_add 104 _, show nI (104 + 2 * (aT a).length) + 1 = nI (104 + 2 * (aT a).length + 1) from nI_add _ 1, gd (by omega), cl (by omega), gd2 (by omega), gd2 (by omega), gd (by decide), gd (by decide), cl (by decide)]
  show some (x_up (x_up (x_up (xr μ (upd ρ (104 + 2 * (aT a).length) x)) 1 (104 + 2 * (aT a).length + 1) (uc y)) 1 348 (x_up (xr μ (upd ρ (104 + 2 * (aT a).length) x)) 1 (104 + 2 * (aT a).length + 1) (uc y) 1 348 + 1)) 1 357 (x_up (x_up (xr μ (upd ρ (104 + 2 * (aT a).length) x)) 1 (104 + 2 * (aT a).length + 1) (uc y)) 1 348 (x_up (xr μ (upd ρ (104 + 2 * (aT a).length) x)) 1 (104 + 2 * (aT a).length + 1) (uc y) 1 348 + 1) 1 357 + 1)) = _
  rw [xr_up, xr_1, upd_ne (by omega), upd_ne (by omega), g1, xr_up, xr_1, upd_ne (by decide), upd_ne (by omega), upd_ne (by omega), e8, xr_up, nI_1, nI_1]
