/-! the check's small methods over the lists -/
theorem gd {k : Nat} (hk : k < 2506) {α : Type} {u v : α} : (if nI k < 0 ∨ 2506 ≤ (nI k).toNatClampNeg then u else v) = v := ite_ok hk (by decide)
theorem gd2 {k : Nat} (hk : k < 2506) {α : Type} {u v : α} : (if nI k < 0 ∨ 2506 ≤ k then u else v) = v := if_neg (fun e => e.elim (nI_pos (by omega)) (by omega))
theorem R_of (h k : Nat) : F_X5_of (nI h) (nI k) = nI (120 + 14 * h + k) := by
  show nI 120 + nI 14 * nI h + nI k = _
  rw [pk_mul, nI_add, nI_add]
theorem R_cell (s w : Nat) : F_X5_cellOf (nI s) (nI w) = nI (8 + 12 * s + w * 3) := by
  show nI 8 + nI 3 * (nI 4 * nI s + nI w) = _
  rw [pk_mul, nI_add, pk_mul, nI_add]
  congr 1
  omega
theorem R_row (h r : Nat) : F_X5_rowOf (nI h) (nI r) = nI (204 + 16 * h + r * 4) := by
  show nI 204 + nI 16 * nI h + nI 4 * nI r = _
  rw [pk_mul, nI_add, pk_mul, nI_add]
  congr 1
  omega
theorem cl {k : Nat} (h : k < 2 ^ 31) : (nI k).toNatClampNeg = k := nI_clamp h
/-- the last row of a key among the first k -/
def lm (L : List xR) (x : Int32) : Nat → Int32
  | 0 => -1
  | k + 1 => match L[k]? with
    | some r => if r 0 = x then nI k else lm L x k
    | none => lm L x k
theorem kIdx_mem {L : List xR} {x : Int32} : kIdx L x < L.length ↔ ∃ r, r ∈ L ∧ r 0 = x := by
  unfold kIdx
  rw [List.findIdx_lt_length]
  constructor
  · rintro ⟨r, h1, h2⟩
    exact ⟨r, h1, of_decide_eq_true h2⟩
  · rintro ⟨r, h1, h2⟩
    exact ⟨r, h1, decide_eq_true h2⟩
theorem kIdx_get {L : List xR} {x : Int32} (h : kIdx L x < L.length) : ∃ r, L[kIdx L x]? = some r ∧ r 0 = x := by
  refine ⟨L[kIdx L x], List.getElem?_eq_getElem h, ?_⟩
  have := List.findIdx_getElem (w := h)
  exact of_decide_eq_true this
theorem kIdx_eq {L : List xR} (hn : (L.map (fun r => r 0)).Nodup) {x : Int32} {k : Nat} {r : xR} (hk : L[k]? = some r) (e : r 0 = x) : kIdx L x = k := by
  obtain ⟨r', h1, h2⟩ := kIdx_get (kIdx_mem.mpr ⟨r, List.mem_of_getElem? hk, e⟩)
  exact nd_key hn h1 hk (h2.trans e.symm)
theorem lm_eq {L : List xR} (hn : (L.map (fun r => r 0)).Nodup) (x : Int32) : ∀ k, k ≤ L.length → lm L x k = if kIdx L x < k then nI (kIdx L x) else -1 := by
  intro k
  induction k with
  | zero => intro _; rfl
  | succ k ih =>
    intro hk
    obtain ⟨r, hr⟩ : ∃ r, L[k]? = some r := ⟨_, List.getElem?_eq_getElem hk⟩
    have e : lm L x (k + 1) = if r 0 = x then nI k else lm L x k := by
      show (match L[k]? with | some r => if r 0 = x then nI k else lm L x k | none => lm L x k) = _
      rw [hr]
    rw [e]
    by_cases q : r 0 = x
    · rw [if_pos q, kIdx_eq hn hr q, if_pos (Nat.lt_succ_self _)]
    · rw [if_neg q, ih (by omega)]
      have hne : kIdx L x ≠ k := fun e2 => by
        obtain ⟨r', h1, h2⟩ := kIdx_get (x := x) (L := L) (by omega)
        rw [e2, hr] at h1
        cases h1
        exact q h2
      by_cases c : kIdx L x < k
      · rw [if_pos c, if_pos (by omega)]
      · rw [if_neg c, if_neg (by omega)]
theorem R_place_loop {ρ : Nat → Int32} {L : List xR} {s : Nat} (hs : s < 8) (hl : L.length ≤ 4) (h1 : ρ s = nI L.length) (h2 : rp ρ (8 + 12 * s) 3 tS L) (n : Nat) (μ : xM) (x : Int32) : ∀ (f k : Nat), k ≤ L.length → L.length - k < f → B_X5_placeOf_16 n (xr μ ρ) f x (nI s) (lm L x k) (nI k) = some (lm L x L.length) := by
  intro f
  induction f with
  | zero => intro k _ h; omega
  | succ f ih =>
    intro k hk hf
    show (if (0 : Int32) + nI s < 0 ∨ 2506 ≤ ((0 : Int32) + nI s).toNatClampNeg then _ else _) = _
    rw [Int32.zero_add, gd (by omega), cl (by omega), xr_1, h1]
    by_cases q : k < L.length
    · obtain ⟨r, hr⟩ : ∃ r, L[k]? = some r := ⟨_, List.getElem?_eq_getElem q⟩
      have e0 : ρ (8 + 12 * s + k * 3) = r 0 := h2 k r hr 0 (by decide)
      rw [if_pos (nI_lt q (by omega)), R_cell, gd (by omega), cl (by omega), xr_1, e0]
      have el : lm L x (k + 1) = if r 0 = x then nI k else lm L x k := by
        show (match L[k]? with | some r => if r 0 = x then nI k else lm L x k | none => lm L x k) = _
        rw [hr]
      have hi := ih (k + 1) q (by omega)
      rw [el] at hi
      unfold B_X5_placeOf_50
      by_cases c : r 0 = x
      · rw [if_pos c] at hi
        rw [if_pos c, nI_1]
        exact hi
      · rw [if_neg c] at hi
        rw [if_neg c, nI_1]
        exact hi
    · have ek : k = L.length := by omega
      subst ek
      rw [if_neg (nI_nlt (Nat.le_refl _) (by omega))]
theorem x_remN {l s : Nat} (hl : l < 2 ^ 31) (h0 : 0 < s) (hs : s < 2 ^ 31) : x_rem (nI l) (nI s) = nI (l % s) := pk_rem hl h0 hs
theorem RRep.c {ρ : Nat → Int32} {a : xA} (h : RRep ρ a) (i : Nat) (hi : i < 9) : ρ (349 + i) = nI (aC a i) := h.1 i (Nat.lt_of_lt_of_le hi (by decide))
theorem RRep.f {ρ : Nat → Int32} {a : xA} (h : RRep ρ a) {h0 : Nat} (hh : h0 < aC a 2) (k : Nat) (hk : k < 13) : ρ (120 + 14 * h0 + k) = nI (aH a h0 k) := (h.2.2.2.1 h0 hh).1 k hk
theorem R_placeOf {ρ : Nat → Int32} {a : xA} (h : RRep ρ a) (IC : InvC a) (IS : InvS a) {n : Nat} (hn : 20 < n) (μ : xM) {l : Nat} (hl : l < 10000) : F_X5_placeOf n (xr μ ρ) (nI l) = some (if kIdx (aS a (l % aC a 0)) (nI l) < (aS a (l % aC a 0)).length then nI (kIdx (aS a (l % aC a 0)) (nI l)) else -1) := by
  have hs : l % aC a 0 < 8 := Nat.lt_of_lt_of_le (Nat.mod_lt _ IC.1) IC.2.1
  have h4 : (aS a (l % aC a 0)).length ≤ 4 := Nat.le_trans (IS _).2.1 IC.2.2.2.1
  have e0 : ρ 349 = nI (aC a 0) := h.c 0 (by decide)
  have h1 := IC.1
  have h8 := IC.2.1
  unfold F_X5_placeOf
  rw [show (349 : Int32) = nI 349 from rfl, gd (by decide), cl (by decide), xr_1, e0, if_neg (show ¬ nI (aC a 0) = (0 : Int32) from nI_ne0 h1 (by omega)), x_remN (by omega) h1 (by omega)]
  obtain ⟨g1, g2⟩ := h.2.1 _ hs
  rw [← lm_eq (IS _).2.2.2 (nI l) _ (Nat.le_refl _)]
  exact R_place_loop hs h4 g1 g2 n μ (nI l) n 0 (Nat.zero_le _) (by omega)
theorem R_outPlaceOf {ρ : Nat → Int32} {a : xA} (h : RRep ρ a) (h8 : (aT a).length ≤ 8) (hnd : ((aT a).map (fun r => r 0)).Nodup) {n : Nat} (hn : 20 < n) (μ : xM) (x : Int32) : F_X5_outPlaceOf n (xr μ ρ) x = some (if kIdx (aT a) x < (aT a).length then nI (kIdx (aT a) x) else -1) := by
  obtain ⟨g1, g2⟩ := h.2.2.1
  have loop : ∀ (f k : Nat), k ≤ (aT a).length → (aT a).length - k < f → B_X5_outPlaceOf_4 n (xr μ ρ) f x (lm (aT a) x k) (nI k) = some (lm (aT a) x (aT a).length) := by
    intro f
    induction f with
    | zero => intro k _ h; omega
    | succ f ih =>
      intro k hk hf
      show (if (348 : Int32) < 0 ∨ 2506 ≤ (348 : Int32).toNatClampNeg then _ else _) = _
      rw [show (348 : Int32) = nI 348 from rfl, gd (by decide), cl (by decide), xr_1, g1]
      by_cases q : k < (aT a).length
      · obtain ⟨r, hr⟩ : ∃ r, (aT a)[k]? = some r := ⟨_, List.getElem?_eq_getElem q⟩
        have e0 : ρ (104 + k * 2) = r 0 := g2 k r hr 0 (by decide)
        have ei : (104 : Int32) + 2 * nI k = nI (104 + k * 2) := by
          show nI 104 + nI 2 * nI k = _
          rw [pk_mul, nI_add, Nat.mul_comm]
        rw [if_pos (nI_lt q (by omega)), ei, gd (by omega), cl (by omega), xr_1, e0]
        have el : lm (aT a) x (k + 1) = if r 0 = x then nI k else lm (aT a) x k := by
          show (match (aT a)[k]? with | some r => if r 0 = x then nI k else lm (aT a) x k | none => lm (aT a) x k) = _
          rw [hr]
        have hi := ih (k + 1) q (by omega)
        rw [el] at hi
        unfold B_X5_outPlaceOf_36
        by_cases c : r 0 = x
        · rw [if_pos c] at hi
          rw [if_pos c, nI_1]
          exact hi
        · rw [if_neg c] at hi
          rw [if_neg c, nI_1]
          exact hi
      · have ek : k = (aT a).length := by omega
        subst ek
        rw [if_neg (nI_nlt (Nat.le_refl _) (by omega))]
  rw [← lm_eq hnd x _ (Nat.le_refl _)]
  exact loop n 0 (Nat.zero_le _) (by omega)
theorem R_forgetOut {ρ : Nat → Int32} {n : Nat} (hn : 20 < n) (μ : xM) {len p : Nat} (h1 : ρ 348 = nI len) (hp : p < len) (hl : len ≤ 8) : F_X5_forgetOut n (xr μ ρ) (nI p) = some (xr μ (upd (shf ρ (104 + p * 2) (104 + (len - 1) * 2) 2) 348 (nI (len - 1)))) := by
  have loop : ∀ (f k : Nat) (ρ : Nat → Int32), ρ 348 = nI len → k ≤ 2 * (len - 1) → 2 * (len - 1) - k < f → B_X5_forgetOut_4 n f (xr μ ρ) (nI k) = some (xr μ (upd (shf ρ (104 + k) (104 + 2 * (len - 1)) 2) 348 (nI (len - 1)))) := by
    intro f
    induction f with
    | zero => intro k ρ _ _ h; omega
    | succ f ih =>
      intro k ρ h1 hk hf
      have eb : (2 : Int32) * nI len - 2 = nI (2 * (len - 1)) := by
        show nI 2 * nI len - nI 2 = _
        rw [pk_mul, pk_sub (by omega)]
        congr 1
        omega
      show (if (348 : Int32) < 0 ∨ 2506 ≤ (348 : Int32).toNatClampNeg then _ else _) = _
      rw [show (348 : Int32) = nI 348 from rfl, gd (by decide), cl (by decide), xr_1, h1, eb]
      by_cases q : k < 2 * (len - 1)
      · have e1 : (104 : Int32) + nI k = nI (104 + k) := nI_add 104 k
        have e2 : nI (104 + k) + 2 = nI (104 + k + 2) := nI_add (104 + k) 2
        rw [if_pos (nI_lt q (by omega)), e1, e2, gd (by omega), gd (by omega), cl (by omega), cl (by omega)]
        show B_X5_forgetOut_4 n f (x_up (xr μ ρ) 1 (104 + k) (xr μ ρ 1 (104 + k + 2))) (nI k + 1) = _
        rw [xr_1, xr_up, nI_1, ih (k + 1) _ (by rw [upd_ne (by omega)]; exact h1) (by omega) (by omega)]
        rw [show 104 + (k + 1) = 104 + k + 1 by omega, shf_step (by omega) (by decide)]
      · have ek : k = 2 * (len - 1) := by omega
        subst ek
        rw [if_neg (nI_nlt (Nat.le_refl _) (by omega)), gd2 (by decide), gd2 (by decide), shf_end]
        show some (x_up (xr μ ρ) 1 348 (nI len - 1)) = _
        obtain ⟨m, hm⟩ : ∃ m, len = m + 1 := ⟨len - 1, by omega⟩
        rw [hm, nI_pred, xr_up]
        rfl
  unfold F_X5_forgetOut
  have e := loop n (2 * p) ρ h1 (by omega) (by omega)
  rw [show (2 : Int32) * nI p = nI (2 * p) from pk_mul 2 p, e, Nat.mul_comm 2 p, Nat.mul_comm 2 (len - 1)]
theorem R_forgetLine {ρ : Nat → Int32} {a : xA} (h : RRep ρ a) (z : Sz a) (hnd : ((aT a).map (fun r => r 0)).Nodup) {n : Nat} (hn : 20 < n) (μ : xM) (l : Nat) : ∃ ρ', F_X5_forgetLine n (xr μ ρ) (nI l) = some (xr μ ρ') ∧ RRep ρ' (sErase a l) := by
  have h8 := z.2.1
  unfold F_X5_forgetLine
  rw [R_outPlaceOf h h8 hnd hn, Option.bind_some]
  by_cases q : kIdx (aT a) (nI l) < (aT a).length
  · obtain ⟨g1, g2⟩ := h.2.2.1
    rw [if_pos q, if_neg (nI_pos (by omega)), Option.bind_some, R_forgetOut hn μ g1 q h8, Option.bind_some]
    have hl : ((aT a).eraseIdx (kIdx (aT a) (nI l))).length = (aT a).length - 1 := by rw [List.length_eraseIdx, if_pos q]
    refine ⟨_, rfl, h.setT z (fun i hi hr => ?_) ?_ ?_⟩
    · rw [upd_ne hi]
      simp only [shf]
      rw [if_neg (by omega)]
    · rw [upd_eq, hl]
    · exact rp_erase g2 q (fun i h1 h2 => upd_ne (by omega))
  · rw [if_neg q, if_pos (by decide)]
    have e : (aT a).eraseIdx (kIdx (aT a) (nI l)) = aT a := List.eraseIdx_of_length_le (Nat.not_lt.mp q)
    refine ⟨ρ, rfl, ?_⟩
    unfold sErase
    rw [e]
    exact h
theorem R_hours {ρ : Nat → Int32} {a : xA} (h : RRep ρ a) (z : Sz a) {h0 : Nat} (hh : h0 < aC a 2) (n : Nat) (μ : xM) (m : Nat) : ∃ ρ', F_X5_giveHours n (xr μ ρ) (nI h0) (nI m) = some (xr μ ρ') ∧ RRep ρ' (sHours a h0 m) := by
  have h6 := z.2.2.1
  have e4 : ρ (120 + 14 * h0 + 4) = nI (aH a h0 4) := h.f hh 4 (by decide)
  have r1 := h.setH (v := aH a h0 4 + m) z hh (k := 4) (by decide) (by decide)
  have r2 := r1.setH (v := 2) z hh (k := 3) (by decide) (by decide)
  have r3 := r2.setH (v := 0) z hh (k := 5) (by decide) (by decide)
  refine ⟨_, ?_, r3⟩
  unfold F_X5_giveHours
  rw [show F_X5_of (nI h0) (4 : Int32) = nI (120 + 14 * h0 + 4) from R_of h0 4, show F_X5_of (nI h0) (3 : Int32) = nI (120 + 14 * h0 + 3) from R_of h0 3, show F_X5_of (nI h0) (5 : Int32) = nI (120 + 14 * h0 + 5) from R_of h0 5, gd (by omega), gd (by omega), gd (by omega), gd (by omega), cl (by omega), cl (by omega), cl (by omega), xr_1, e4, nI_add]
  show some (x_up (x_up (x_up (xr μ ρ) 1 (120 + 14 * h0 + 4) (nI (aH a h0 4 + m))) 1 (120 + 14 * h0 + 3) (nI 2)) 1 (120 + 14 * h0 + 5) (nI 0)) = _
  rw [xr_up, xr_up, xr_up]
