/-! the check's block copy *)  -/
def cpB (ρ : Nat → Int32) (b d k : Nat) : Nat → Int32 := fun i => if d ≤ i ∧ i < d + k then ρ (b + (i - d)) else ρ i
theorem R_copy {ρ : Nat → Int32} {n : Nat} (hn : 400 < n) (μ : xM) {b d : Nat} (hb : b + 358 ≤ 2506) (hd : d + 358 ≤ 2506) (hs : b + 358 ≤ d ∨ d + 358 ≤ b) : F_X5_copy n (xr μ ρ) (nI b) (nI d) = some (xr μ (cpB ρ b d 358)) := by
  have loop : ∀ (f k : Nat), k ≤ 358 → 358 - k < f → B_X5_copy_2 n f (xr μ (cpB ρ b d k)) (nI b) (nI d) (nI k) = some (xr μ (cpB ρ b d 358)) := by
    intro f
    induction f with
    | zero => intro k _ h; omega
    | succ f ih =>
      intro k hk hf
      show (if nI k < (358 : Int32) then _ else _) = _
      by_cases q : k < 358
      · have e1 : cpB ρ b d k (b + k) = ρ (b + k) := by
          unfold cpB
          rw [if_neg (by omega)]
        have e2 : upd (cpB ρ b d k) (d + k) (ρ (b + k)) = cpB ρ b d (k + 1) := by
          funext i
          unfold cpB
          by_cases c : i = d + k
          · subst c
            rw [upd_eq, if_pos (by omega)]
            congr 1
            omega
          · rw [upd_ne c]
            by_cases c2 : d ≤ i ∧ i < d + k
            · rw [if_pos c2, if_pos (by omega)]
            · rw [if_neg c2, if_neg (by omega)]
        rw [if_pos (show nI k < (358 : Int32) from nI_lt (b := 358) q (by omega)), nI_add, nI_add, gd (by omega), gd (by omega), cl (by omega), cl (by omega), nI_1]
        show B_X5_copy_2 n f (x_up (xr μ (cpB ρ b d k)) 1 (d + k) (xr μ (cpB ρ b d k) 1 (b + k))) (nI b) (nI d) (nI (k + 1)) = _
        rw [xr_1, xr_up, e1, e2]
        exact ih (k + 1) q (by omega)
      · have ek : k = 358 := by omega
        subst ek
        rw [if_neg (show ¬ nI 358 < (358 : Int32) by decide)]
  have e0 : cpB ρ b d 0 = ρ := by
    funext i
    unfold cpB
    rw [if_neg (by omega)]
  have e := loop n 0 (by decide) (by omega)
  rw [e0] at e
  exact e
/-- the block from b on -/
def blk (ρ : Nat → Int32) (b : Nat) : Nat → Int32 := fun i => ρ (b + i)
/-- the first block alone -/
def RR0 (ρ : Nat → Int32) (a : xA) : Prop := (∀ i, i < 9 → ρ (349 + i) = nI (aC a i)) ∧ (∀ s, s < 8 → ρ s = nI (aS a s).length ∧ rp ρ (8 + 12 * s) 3 tS (aS a s)) ∧ (ρ 348 = nI (aT a).length ∧ rp ρ 104 2 tS (aT a)) ∧ (∀ h, h < aC a 2 → (∀ k, k < 13 → ρ (120 + 14 * h + k) = nI (aH a h k)) ∧ ρ (120 + 14 * h + 13) = nI (aG a h).length ∧ rp ρ (204 + 16 * h) 4 (tG (aH a h 0)) (aG a h)) ∧ (∀ k r, (aL a)[k]? = some r → ∀ j, j < 4 → ρ (300 + 4 * ((aC a 4 - (aL a).length + k) % 12) + j) = r j)
theorem RRep.r0 {ρ : Nat → Int32} {a : xA} (h : RRep ρ a) : RR0 ρ a := ⟨fun i hi => h.1 i (Nat.lt_of_lt_of_le hi (by decide)), h.2⟩
theorem RR0.low {ρ ρ' : Nat → Int32} {a : xA} (h : RR0 ρ a) (z : Sz a) (e : ∀ i, i < 358 → ρ' i = ρ i) : RR0 ρ' a := by
  obtain ⟨h1, h2, h3, h4, h5⟩ := h
  obtain ⟨z1, z2, z3, z4⟩ := z
  refine ⟨fun i hi => by rw [e _ (by omega)]; exact h1 i hi, fun s hs => ?_, ⟨by rw [e _ (by omega)]; exact h3.1, h3.2.fr (fun i h1 h2 => e _ (by omega))⟩, fun h9 hh => ?_, fun k r hk j hj => by
    have := Nat.mod_lt (aC a 4 - (aL a).length + k) (show 0 < 12 by decide)
    rw [e _ (by omega)]
    exact h5 k r hk j hj⟩
  · have := z1 s hs
    exact ⟨by rw [e _ (by omega)]; exact (h2 s hs).1, (h2 s hs).2.fr (fun i h1 h2 => e _ (by omega))⟩
  · obtain ⟨g1, g2, g3⟩ := h4 h9 hh
    have := z4 h9 hh
    exact ⟨fun k hk => by rw [e _ (by omega)]; exact g1 k hk, by rw [e _ (by omega)]; exact g2, g3.fr (fun i h1 h2 => e _ (by omega))⟩
theorem blk_cp {ρ : Nat → Int32} {b d : Nat} : ∀ i, i < 358 → blk (cpB ρ b d 358) d i = blk ρ b i := fun i hi => by
  unfold blk cpB
  rw [if_pos (by omega), Nat.add_sub_cancel_left]
theorem blk_off {ρ : Nat → Int32} {b d c : Nat} (h : c + 358 ≤ d ∨ d + 358 ≤ c) : ∀ i, i < 358 → blk (cpB ρ b d 358) c i = blk ρ c i := fun i hi => by
  unfold blk cpB
  rw [if_neg (by omega)]
theorem blk_0 {ρ : Nat → Int32} : blk ρ 0 = ρ := by
  funext i
  unfold blk
  rw [Nat.zero_add]
