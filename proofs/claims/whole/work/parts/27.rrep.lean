/-! the check's row of numbers holds the lists *)  -/
def xr (μ : xM) (ρ : Nat → Int32) : xM := fun r => if r = 1 then ρ else μ r
theorem xr_1 (μ : xM) (ρ : Nat → Int32) (k : Nat) : xr μ ρ 1 k = ρ k := rfl
theorem xr_ne {μ : xM} {ρ : Nat → Int32} {r : Nat} (h : r ≠ 1) : xr μ ρ r = μ r := by simp [xr, h]
theorem xr_up (μ : xM) (ρ : Nat → Int32) (k : Nat) (v : Int32) : x_up (xr μ ρ) 1 k v = xr μ (upd ρ k v) := by
  funext r' k'
  by_cases h : r' = 1
  · subst h
    simp [x_up, xr, upd]
  · simp [x_up, xr, h]
theorem xr_self (μ : xM) : xr μ (μ 1) = μ := by
  funext r k
  by_cases h : r = 1
  · subst h
    rfl
  · rw [xr_ne h]
def uc (x : Int32) : Int32 := if x = -100005 then -1 else x
def tS : Nat → Int32 → Int32 := fun j x => if j = 1 then uc x else x
def tG (k : Nat) : Nat → Int32 → Int32 := fun j x => if j = 0 then (if k = 0 then x else 0) else x
/-- aC from 9 on: a ghost of what stands behind the first block, so that all steps keep it -/
def RRep (ρ : Nat → Int32) (a : xA) : Prop := (∀ i, i < 2157 → ρ (349 + i) = nI (aC a i)) ∧ (∀ s, s < 8 → ρ s = nI (aS a s).length ∧ rp ρ (8 + 12 * s) 3 tS (aS a s)) ∧ (ρ 348 = nI (aT a).length ∧ rp ρ 104 2 tS (aT a)) ∧ (∀ h, h < aC a 2 → (∀ k, k < 13 → ρ (120 + 14 * h + k) = nI (aH a h k)) ∧ ρ (120 + 14 * h + 13) = nI (aG a h).length ∧ rp ρ (204 + 16 * h) 4 (tG (aH a h 0)) (aG a h)) ∧ (∀ k r, (aL a)[k]? = some r → ∀ j, j < 4 → ρ (300 + 4 * ((aC a 4 - (aL a).length + k) % 12) + j) = r j)
/-- the sizes of what is held -/
def Sz (a : xA) : Prop := (∀ s, s < 8 → (aS a s).length ≤ 4) ∧ (aT a).length ≤ 8 ∧ aC a 2 ≤ 6 ∧ (∀ h, h < aC a 2 → (aG a h).length ≤ 4)
theorem Inv.sz {B : Nat} {a : xA} (I : Inv B a) : Sz a := by
  refine ⟨fun s _ => Nat.le_trans (I.2.1 s).2.1 I.1.2.2.2.1, I.2.2.1.1, I.hn, fun h hh => ?_⟩
  have h2 := (I.2.2.2.1 h hh).1
  obtain ⟨g0, g1, g2⟩ := I.2.2.2.2.1 h hh
  rcases (show aH a h 0 = 0 ∨ aH a h 0 = 1 ∨ aH a h 0 = 2 by omega) with q | q | q
  · exact (g0 q).1
  · exact Nat.le_trans (g1 q).1 (by decide)
  · rw [g2 q]
    exact Nat.zero_le _
theorem rp.fr {ρ ρ' : Nat → Int32} {b c : Nat} {t : Nat → Int32 → Int32} {l : List xR} (h : rp ρ b c t l) (fr : ∀ i, b ≤ i → i < b + l.length * c → ρ' i = ρ i) : rp ρ' b c t l := fun w r hw j hj => by
  have h1 := ix_lt (lt_of_get hw) hj
  rw [fr _ (by omega) (by omega)]
  exact h w r hw j hj
theorem RRep.setS {ρ ρ' : Nat → Int32} {a : xA} {s : Nat} {l : List xR} (h : RRep ρ a) (z : Sz a) (hs : s < 8) (fr : ∀ i, i ≠ s → (i < 8 + 12 * s ∨ 8 + 12 * s + 12 ≤ i) → ρ' i = ρ i) (e : ρ' s = nI l.length) (hr : rp ρ' (8 + 12 * s) 3 tS l) : RRep ρ' (wS a (va_up (aS a) s l)) := by
  obtain ⟨h1, h2, h3, h4, h5⟩ := h
  obtain ⟨z1, z2, z3, z4⟩ := z
  refine ⟨fun i hi => by rw [fr _ (by omega) (by omega)]; exact h1 i hi, fun s' hs' => ?_, ⟨by rw [fr _ (by omega) (by omega)]; exact h3.1, h3.2.fr (fun i hi1 hi2 => fr _ (by omega) (by omega))⟩, fun h9 hh => ?_, fun k r hk j hj => by rw [fr _ (by omega) (by omega)]; exact h5 k r hk j hj⟩
  · show ρ' s' = nI (va_up (aS a) s l s').length ∧ rp ρ' (8 + 12 * s') 3 tS (va_up (aS a) s l s')
    by_cases q : s' = s
    · subst q
      rw [va_up_eq]
      exact ⟨e, hr⟩
    · rw [va_up_off q]
      have := z1 s' hs'
      exact ⟨by rw [fr _ (by omega) (by omega)]; exact (h2 s' hs').1, (h2 s' hs').2.fr (fun i hi1 hi2 => fr _ (by omega) (by omega))⟩
  · obtain ⟨g1, g2, g3⟩ := h4 h9 hh
    exact ⟨fun k hk => by rw [fr _ (by omega) (by omega)]; exact g1 k hk, by rw [fr _ (by omega) (by omega)]; exact g2, g3.fr (fun i hi1 hi2 => fr _ (by omega) (by omega))⟩
theorem RRep.setT {ρ ρ' : Nat → Int32} {a : xA} {l : List xR} (h : RRep ρ a) (z : Sz a) (fr : ∀ i, i ≠ 348 → (i < 104 ∨ 120 ≤ i) → ρ' i = ρ i) (e : ρ' 348 = nI l.length) (hr : rp ρ' 104 2 tS l) : RRep ρ' (wT a l) := by
  obtain ⟨h1, h2, h3, h4, h5⟩ := h
  obtain ⟨z1, z2, z3, z4⟩ := z
  refine ⟨fun i hi => by rw [fr _ (by omega) (by omega)]; exact h1 i hi, fun s' hs' => ?_, ⟨e, hr⟩, fun h9 hh => ?_, fun k r hk j hj => by rw [fr _ (by omega) (by omega)]; exact h5 k r hk j hj⟩
  · have := z1 s' hs'
    exact ⟨by rw [fr _ (by omega) (by omega)]; exact (h2 s' hs').1, (h2 s' hs').2.fr (fun i hi1 hi2 => fr _ (by omega) (by omega))⟩
  · have hh' : h9 < aC a 2 := hh
    obtain ⟨g1, g2, g3⟩ := h4 h9 hh
    have := z4 h9 hh
    exact ⟨fun k hk => by rw [fr _ (by omega) (by omega)]; exact g1 k hk, by rw [fr _ (by omega) (by omega)]; exact g2, g3.fr (fun i hi1 hi2 => fr _ (by omega) (by omega))⟩
theorem RRep.setG {ρ ρ' : Nat → Int32} {a : xA} {h0 : Nat} {l : List xR} (h : RRep ρ a) (z : Sz a) (hh0 : h0 < aC a 2) (fr : ∀ i, i ≠ 120 + 14 * h0 + 13 → (i < 204 + 16 * h0 ∨ 204 + 16 * h0 + 16 ≤ i) → ρ' i = ρ i) (e : ρ' (120 + 14 * h0 + 13) = nI l.length) (hr : rp ρ' (204 + 16 * h0) 4 (tG (aH a h0 0)) l) : RRep ρ' (wG a (va_up (aG a) h0 l)) := by
  obtain ⟨h1, h2, h3, h4, h5⟩ := h
  obtain ⟨z1, z2, z3, z4⟩ := z
  refine ⟨fun i hi => by rw [fr _ (by omega) (by omega)]; exact h1 i hi, fun s' hs' => ?_, ⟨by rw [fr _ (by omega) (by omega)]; exact h3.1, h3.2.fr (fun i hi1 hi2 => fr _ (by omega) (by omega))⟩, fun h9 hh => ?_, fun k r hk j hj => by rw [fr _ (by omega) (by omega)]; exact h5 k r hk j hj⟩
  · have := z1 s' hs'
    exact ⟨by rw [fr _ (by omega) (by omega)]; exact (h2 s' hs').1, (h2 s' hs').2.fr (fun i hi1 hi2 => fr _ (by omega) (by omega))⟩
  · have hh' : h9 < aC a 2 := hh
    obtain ⟨g1, g2, g3⟩ := h4 h9 hh
    have := z4 h9 hh
    refine ⟨fun k hk => by rw [fr _ (by omega) (by omega)]; exact g1 k hk, ?_⟩
    show ρ' (120 + 14 * h9 + 13) = nI (va_up (aG a) h0 l h9).length ∧ rp ρ' (204 + 16 * h9) 4 (tG (aH a h9 0)) (va_up (aG a) h0 l h9)
    by_cases q : h9 = h0
    · subst q
      rw [va_up_eq]
      exact ⟨e, hr⟩
    · rw [va_up_off q]
      exact ⟨by rw [fr _ (by omega) (by omega)]; exact g2, g3.fr (fun i hi1 hi2 => fr _ (by omega) (by omega))⟩
theorem upd_eq {f : Nat → Int32} {k : Nat} {v : Int32} : upd f k v k = v := by simp [upd]
theorem upd_ne {f : Nat → Int32} {k j : Nat} {v : Int32} (h : j ≠ k) : upd f k v j = f j := by simp [upd, h]
theorem RRep.setH {ρ : Nat → Int32} {a : xA} {h0 k v : Nat} (h : RRep ρ a) (z : Sz a) (hh0 : h0 < aC a 2) (hk : k < 13) (hk0 : k ≠ 0) : RRep (upd ρ (120 + 14 * h0 + k) (nI v)) (wH a (hu (aH a) h0 k v)) := by
  obtain ⟨h1, h2, h3, h4, h5⟩ := h
  obtain ⟨z1, z2, z3, z4⟩ := z
  have fr : ∀ i, i ≠ 120 + 14 * h0 + k → upd ρ (120 + 14 * h0 + k) (nI v) i = ρ i := fun i hi => upd_ne hi
  refine ⟨fun i hi => by rw [fr _ (by omega)]; exact h1 i hi, fun s' hs' => ?_, ⟨by rw [fr _ (by omega)]; exact h3.1, h3.2.fr (fun i hi1 hi2 => fr _ (by omega))⟩, fun h9 hh => ?_, fun k r hk j hj => by rw [fr _ (by omega)]; exact h5 k r hk j hj⟩
  · have := z1 s' hs'
    exact ⟨by rw [fr _ (by omega)]; exact (h2 s' hs').1, (h2 s' hs').2.fr (fun i hi1 hi2 => fr _ (by omega))⟩
  · have hh' : h9 < aC a 2 := hh
    obtain ⟨g1, g2, g3⟩ := h4 h9 hh
    have := z4 h9 hh
    have e0 : aH (wH a (hu (aH a) h0 k v)) h9 0 = aH a h9 0 := by
      show hu (aH a) h0 k v h9 0 = _
      simp only [hu]
      rw [if_neg (by omega)]
    rw [e0]
    refine ⟨fun k' hk' => ?_, by rw [fr _ (by omega)]; exact g2, g3.fr (fun i hi1 hi2 => fr _ (by omega))⟩
    show upd ρ (120 + 14 * h0 + k) (nI v) (120 + 14 * h9 + k') = nI (hu (aH a) h0 k v h9 k')
    by_cases q : h9 = h0 ∧ k' = k
    · rw [q.1, q.2, upd_eq]
      simp [hu]
    · rw [upd_ne (by omega)]
      simp only [hu, if_neg q]
      exact g1 k' hk'
theorem RRep.setC {ρ : Nat → Int32} {a : xA} {i v : Nat} (h : RRep ρ a) (z : Sz a) (hi : i < 9) (hi2 : i ≠ 2) (hi4 : i ≠ 4) : RRep (upd ρ (349 + i) (nI v)) (wC a (va_up (aC a) i v)) := by
  obtain ⟨h1, h2, h3, h4, h5⟩ := h
  obtain ⟨z1, z2, z3, z4⟩ := z
  have fr : ∀ x, x ≠ 349 + i → upd ρ (349 + i) (nI v) x = ρ x := fun x hx => upd_ne hx
  have e2 : aC (wC a (va_up (aC a) i v)) 2 = aC a 2 := va_up_off (Ne.symm hi2)
  have e4 : aC (wC a (va_up (aC a) i v)) 4 = aC a 4 := va_up_off (Ne.symm hi4)
  refine ⟨fun x hx => ?_, fun s' hs' => ?_, ⟨by rw [fr _ (by omega)]; exact h3.1, h3.2.fr (fun i hi1 hi2 => fr _ (by omega))⟩, fun h9 hh => ?_, fun k r hk j hj => by rw [e4, fr _ (by omega)]; exact h5 k r hk j hj⟩
  · show upd ρ (349 + i) (nI v) (349 + x) = nI (va_up (aC a) i v x)
    by_cases q : x = i
    · subst q
      rw [upd_eq, va_up_eq]
    · rw [upd_ne (by omega), va_up_off q]
      exact h1 x hx
  · have := z1 s' hs'
    exact ⟨by rw [fr _ (by omega)]; exact (h2 s' hs').1, (h2 s' hs').2.fr (fun i hi1 hi2 => fr _ (by omega))⟩
  · rw [e2] at hh
    obtain ⟨g1, g2, g3⟩ := h4 h9 hh
    have := z4 h9 hh
    exact ⟨fun k hk => by rw [fr _ (by omega)]; exact g1 k hk, by rw [fr _ (by omega)]; exact g2, g3.fr (fun i hi1 hi2 => fr _ (by omega))⟩
/-- places from lo on up to hi take what stands d further on -/
def shf (ρ : Nat → Int32) (lo hi d : Nat) : Nat → Int32 := fun i => if lo ≤ i ∧ i < hi then ρ (i + d) else ρ i
theorem shf_step {ρ : Nat → Int32} {k hi d : Nat} (hk : k < hi) (hd : 0 < d) : shf (upd ρ k (ρ (k + d))) (k + 1) hi d = shf ρ k hi d := by
  funext i
  simp only [shf]
  by_cases c1 : k + 1 ≤ i ∧ i < hi
  · rw [if_pos c1, if_pos (show k ≤ i ∧ i < hi by omega), upd_ne (by omega)]
  · rw [if_neg c1]
    by_cases c2 : i = k
    · subst c2
      rw [if_pos (show i ≤ i ∧ i < hi by omega), upd_eq]
    · rw [if_neg (by omega), upd_ne c2]
theorem shf_end {ρ : Nat → Int32} {hi d : Nat} : shf ρ hi hi d = ρ := by
  funext i
  simp only [shf]
  rw [if_neg (by omega)]
theorem rp_erase {ρ ρ' : Nat → Int32} {b c w : Nat} {t : Nat → Int32 → Int32} {L : List xR} (h : rp ρ b c t L) (hw : w < L.length) (e : ∀ i, b ≤ i → i < b + (L.length - 1) * c → ρ' i = shf ρ (b + w * c) (b + (L.length - 1) * c) c i) : rp ρ' b c t (L.eraseIdx w) := by
  intro k r hk j hj
  have hlen : k < L.length - 1 := by
    have := lt_of_get hk
    rw [List.length_eraseIdx, if_pos hw] at this
    exact this
  have h1 := ix_lt hlen hj
  rw [e _ (by omega) (by omega)]
  rw [List.getElem?_eraseIdx] at hk
  simp only [shf]
  by_cases q : k < w
  · rw [if_pos q] at hk
    have h2 := ix_lt q hj
    rw [if_neg (by omega)]
    exact h k r hk j hj
  · rw [if_neg q] at hk
    have h3 : w * c ≤ k * c := Nat.mul_le_mul_right c (Nat.not_lt.mp q)
    rw [if_pos (by omega)]
    have h4 := h (k + 1) r hk j hj
    rw [Nat.succ_mul] at h4
    rw [← h4]
    congr 1
    omega
theorem rp_append {ρ ρ' : Nat → Int32} {b c : Nat} {t : Nat → Int32 → Int32} {L : List xR} {g : xR} (h : rp ρ b c t L) (e : ∀ i, b ≤ i → i < b + L.length * c → ρ' i = ρ i) (hg : ∀ j, j < c → ρ' (b + L.length * c + j) = t j (g j)) : rp ρ' b c t (L ++ [g]) := by
  intro k r hk j hj
  rw [List.getElem?_append] at hk
  by_cases q : k < L.length
  · rw [if_pos q] at hk
    have h1 := ix_lt q hj
    rw [e _ (by omega) (by omega)]
    exact h k r hk j hj
  · rw [if_neg q] at hk
    have hk0 : k = L.length := by
      have := lt_of_get hk
      simp at this
      omega
    subst hk0
    rw [Nat.sub_self] at hk
    cases hk
    exact hg j hj
