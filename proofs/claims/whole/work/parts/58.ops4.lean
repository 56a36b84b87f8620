/-! addHelper *)  -/
def hN (k d p i : Nat) : Nat := if i = 0 then k else if i = 1 then d else if i = 2 then p else 0
def sHire (a : xA) (k d p : Nat) : xA := wC (wH (wG a (va_up (aG a) (aC a 2) [])) (fun h i => if h = aC a 2 then hN k d p i else aH a h i)) (va_up (aC a) 2 (aC a 2 + 1))
theorem sHire_2 (a : xA) (k d p : Nat) : aC (sHire a k d p) 2 = aC a 2 + 1 := rfl
theorem sHire_C (a : xA) (k d p i : Nat) (hi : i ≠ 2) : aC (sHire a k d p) i = aC a i := va_up_off hi
theorem okBy.mono {h h' : Nat} {x : Int32} (o : okBy h x) (hh : h ≤ h') : okBy h' x := o.imp id (fun ⟨k, hk, e⟩ => ⟨k, by omega, e⟩)
theorem Inv_hire {B : Nat} {a : xA} {k d p : Nat} (I : Inv B a) (h6 : aC a 2 < 6) (hk : k ≤ 2) (d1 : 1 ≤ d) (d4 : d ≤ 4) (p1 : 1 ≤ p) (p9 : p ≤ 9) : Inv B (sHire a k d p) := by
  obtain ⟨IC, IS, IT, IH, IG, IL, hB⟩ := I
  have hm : aC a 2 ≤ aC a 2 + 1 := Nat.le_succ _
  refine ⟨⟨IC.1, IC.2.1, IC.2.2.1, IC.2.2.2.1, h6, IC.2.2.2.2.2⟩, fun s => ?_, ⟨IT.1, fun r hr => ⟨(IT.2.1 r hr).1, (IT.2.1 r hr).2.mono hm⟩, IT.2.2⟩, fun h hh => ?_, fun h hh => ?_, IL, hB⟩
  · obtain ⟨q1, q2, q3, q4⟩ := IS s
    exact ⟨q1, q2, fun r hr => ⟨(q3 r hr).1, (q3 r hr).2.1.mono hm, (q3 r hr).2.2⟩, q4⟩
  · have hh' : h < aC a 2 + 1 := hh
    by_cases q : h = aC a 2
    · have e : ∀ i, aH (sHire a k d p) h i = hN k d p i := fun i => if_pos q
      rw [e, e, e, e, e, e]
      exact ⟨hk, d1, d4, p1, p9, (show 0 ≤ 2 by decide), Nat.zero_le _, fun e => absurd (show (0 : Nat) = 2 from e) (by decide), fun e => absurd (show (0 : Nat) = 1 from e) (by decide), (show 0 ≤ 9 by decide)⟩
    · have e : ∀ i, aH (sHire a k d p) h i = aH a h i := fun i => if_neg q
      rw [e, e, e, e, e, e]
      exact IH h (by omega)
  · have hh' : h < aC a 2 + 1 := hh
    by_cases q : h = aC a 2
    · have e2 : aG (sHire a k d p) h = [] := by
        show va_up (aG a) (aC a 2) [] h = []
        rw [q]
        exact va_up_eq
      rw [e2]
      exact ⟨fun _ => ⟨Nat.zero_le _, fun r hr => (List.not_mem_nil hr).elim, List.nodup_nil⟩, fun _ => ⟨Nat.zero_le _, fun r hr => (List.not_mem_nil hr).elim⟩, fun _ => rfl⟩
    · have e : aH (sHire a k d p) h 0 = aH a h 0 := if_neg q
      have e2 : aG (sHire a k d p) h = aG a h := va_up_off q
      rw [e, e2]
      exact IG h (by omega)
theorem C_begin {τ : xM} {H n k d p : Nat} (hH : H < 6) : ∃ τ', F_X0_begin n τ (21 + 4 * H) (nI k) (nI d) (nI p) = some τ' ∧ (∀ b, b ≠ 21 + 4 * H → b ≠ 22 + 4 * H → τ' b = τ b) ∧ (∀ i, i < 13 → τ' (21 + 4 * H) (3 + i) = nI (hN k d p i)) ∧ τ' (22 + 4 * H) = x_up τ (22 + 4 * H) 3 0 (22 + 4 * H) := by
  unfold F_X0_begin
  simp only [(gr_G H hH).1, Option.bind_some]
  refine ⟨_, rfl, fun b h1 h2 => ?_, fun i hi => ?_, ?_⟩
  · rw [x_up_row' h2]
    simp only [x_up_row' h1]
  · rw [x_up_row' (by omega)]
    have hi9 : i = 0 ∨ i = 1 ∨ i = 2 ∨ i = 3 ∨ i = 4 ∨ i = 5 ∨ i = 6 ∨ i = 7 ∨ i = 8 ∨ i = 9 ∨ i = 10 ∨ i = 11 ∨ i = 12 := by omega
    rcases hi9 with rfl | rfl | rfl | rfl | rfl | rfl | rfl | rfl | rfl | rfl | rfl | rfl | rfl <;> simp [x_up, hN] <;> rfl
  · funext j
    have hne : 22 + 4 * H ≠ 21 + 4 * H := by omega
    simp only [x_up, if_neg (show ¬ (22 + 4 * H = 21 + 4 * H ∧ _) from fun e => hne e.1)]
theorem C_hire {τ : xM} {a : xA} {B n k d p : Nat} (h : CRep τ a) (I : Inv B a) (h6 : aC a 2 < 6) : ∃ τ', F_X2_hire n τ (nI k) (nI d) (nI p) = some (nI (aC a 2), τ') ∧ CRep τ' (sHire a k d p) := by
  have e6 : τ 0 6 = nI (aC a 2) := h.c 2 (by decide)
  obtain ⟨τ1, e1, f1, v1, t1⟩ := C_begin (τ := τ) (n := n) (k := k) (d := d) (p := p) h6
  unfold F_X2_hire
  rw [e6]
  rcases io (x := nI (aC a 2)) (L := 0) (H := 5) 0 5 rfl rfl (by decide) (by decide) with ⟨o1, -⟩ | ⟨o1, -⟩
  · rw [o1, z00, ite_ok h6 (by omega), nI_clamp (by omega), gr_H _ h6, Option.bind_some, e1, Option.bind_some]
    have e7 : τ1 0 6 = nI (aC a 2) := by
      rw [f1 0 (by omega) (by omega)]
      exact e6
    show ∃ τ', some (x_up τ1 0 6 (τ1 0 6 + 1) 0 6 - 1, x_up τ1 0 6 (τ1 0 6 + 1)) = _ ∧ _
    rw [x_up_at, e7, nI_1, nI_pred]
    have f2 : ∀ b, b ≠ 0 → b ≠ 21 + 4 * aC a 2 → b ≠ 22 + 4 * aC a 2 → x_up τ1 0 6 (nI (aC a 2 + 1)) b = τ b := fun b h0 h1 h2 => by rw [x_up_row' h0, f1 b h1 h2]
    refine ⟨_, rfl, fun i hi => ?_, fun s hs => (h.2.1 s hs).fr (f2 _ (by omega) (by omega) (by omega)) (f2 _ (by omega) (by omega) (by omega)), h.2.2.1.fr (f2 _ (by omega) (by omega) (by omega)) (f2 _ (by omega) (by omega) (by omega)), fun h9 hh i hi => ?_, fun h9 hh => ?_, h.2.2.2.2.2.fr (f2 _ (by omega) (by omega) (by omega)) (f2 _ (by omega) (by omega) (by omega))⟩
    · by_cases q : i = 2
      · subst q
        rw [x_up_at]
        rfl
      · rw [x_up_off (by omega), f1 0 (by omega) (by omega), sHire_C _ _ _ _ _ q]
        exact h.1 i hi
    · have hh' : h9 < aC a 2 + 1 := hh
      rw [x_up_row' (by omega)]
      by_cases q : h9 = aC a 2
      · have e : aH (sHire a k d p) h9 i = hN k d p i := if_pos q
        rw [e, q]
        exact v1 i hi
      · have e : aH (sHire a k d p) h9 i = aH a h9 i := if_neg q
        rw [e, f1 _ (by omega) (by omega)]
        exact h.2.2.2.1 h9 (by omega) i hi
    · show CR _ _ 4 4 (va_up (aG a) (aC a 2) [] h9)
      by_cases q : h9 = aC a 2
      · rw [q, va_up_eq]
        refine CR.fr (τ := x_up τ (22 + 4 * aC a 2) 3 0) (h.2.2.2.2.1 _ h6).nil ?_ ?_
        · rw [x_up_row' (by omega)]
          exact t1
        · rw [f2 _ (by omega) (by omega) (by omega), x_up_row' (by omega)]
      · rw [va_up_off q]
        exact (h.2.2.2.2.1 h9 hh).fr (f2 _ (by omega) (by omega) (by omega)) (f2 _ (by omega) (by omega) (by omega))
  · exfalso
    unfold F_X4_isOutside at o1
    rw [if_neg (nI_pos (by omega)), if_neg (show ¬ (5 : Int32) < nI (aC a 2) from nI_nlt (b := aC a 2) (a := 5) (by omega) (by omega))] at o1
    exact absurd o1 (by decide)
def zr (ρ : Nat → Int32) (b k : Nat) : Nat → Int32 := fun i => if b ≤ i ∧ i < b + k then 0 else ρ i
theorem zr_0 (ρ : Nat → Int32) (b : Nat) : zr ρ b 0 = ρ := by
  funext i
  simp only [zr]
  rw [if_neg (by omega)]
theorem zr_s (ρ : Nat → Int32) (b k : Nat) : upd (zr ρ b k) (b + k) 0 = zr ρ b (k + 1) := by
  funext i
  by_cases c : i = b + k
  · rw [c, upd_eq]
    simp only [zr]
    rw [if_pos (by omega)]
  · rw [upd_ne c]
    simp only [zr]
    by_cases c2 : b ≤ i ∧ i < b + k
    · rw [if_pos c2, if_pos (by omega)]
    · rw [if_neg c2, if_neg (by omega)]
theorem R_hire {ρ : Nat → Int32} {a : xA} {B n k d p : Nat} (h : RRep ρ a) (I : Inv B a) (h6 : aC a 2 < 6) (hn : 20 < n) (μ : xM) : ∃ ρ', B_X5_addHelper_64 n n (xr μ ρ) (nI k) (nI d) (nI p) (nI (aC a 2)) 0 = some (nI (aC a 2), xr μ ρ') ∧ RRep ρ' (sHire a k d p) := by
  obtain ⟨z1, z2, z3, z4⟩ := I.sz
  generalize hH : aC a 2 = H at *
  have e351 : ρ 351 = nI H := (h.c 2 (by decide)).trans (by rw [hH])
  have loop : ∀ (f i : Nat), i ≤ 14 → 14 - i < f → B_X5_addHelper_64 n f (xr μ (zr ρ (120 + 14 * H) i)) (nI k) (nI d) (nI p) (nI H) (nI i) = B_X5_addHelper_64 n 1 (xr μ (zr ρ (120 + 14 * H) 14)) (nI k) (nI d) (nI p) (nI H) (nI 14) := by
    intro f
    induction f with
    | zero => intro i _ h; omega
    | succ f ih =>
      intro i hi hf
      by_cases q : i < 14
      · have e := ih (i + 1) q (by omega)
        rw [← e]
        show (if nI i < (14 : Int32) then _ else _) = _
        rw [if_pos (show nI i < (14 : Int32) from nI_lt (b := 14) q (by omega)), R_of, gd (by omega), cl (by omega), nI_1]
        show B_X5_addHelper_64 n f (x_up (xr μ (zr ρ (120 + 14 * H) i)) 1 (120 + 14 * H + i) 0) _ _ _ _ _ = _
        rw [xr_up, zr_s]
      · have ei : i = 14 := by omega
        subst ei
        rfl
  have e0 := loop n 0 (by decide) (by omega)
  rw [zr_0] at e0
  rw [show (0 : Int32) = nI 0 from rfl, e0]
  have e1 : zr ρ (120 + 14 * H) 14 351 = nI H := by
    simp only [zr]
    rw [if_neg (by omega)]
    exact e351
  show ∃ ρ', (if nI 14 < (14 : Int32) then _ else _) = _ ∧ _
  rw [if_neg (show ¬ nI 14 < (14 : Int32) by decide)]
  simp (disch := omega) only [of0, of1, of2, gd, gd2, cl, xr_up, xr_1, upd_ne, e1, nI_1, g351b, t351]
  refine ⟨_, rfl, ?_⟩
  have fr : ∀ i, i ≠ 351 → (i < 120 + 14 * H ∨ 120 + 14 * H + 14 ≤ i) → upd (upd (upd (upd (zr ρ (120 + 14 * H) 14) (120 + 14 * H + 0) (nI k)) (120 + 14 * H + 1) (nI d)) (120 + 14 * H + 2) (nI p)) 351 (nI (H + 1)) i = ρ i := fun i h1 h2 => by
    rw [upd_ne h1, upd_ne (by omega), upd_ne (by omega), upd_ne (by omega)]
    simp only [zr]
    rw [if_neg (by omega)]
  have new : ∀ i, i < 14 → upd (upd (upd (upd (zr ρ (120 + 14 * H) 14) (120 + 14 * H + 0) (nI k)) (120 + 14 * H + 1) (nI d)) (120 + 14 * H + 2) (nI p)) 351 (nI (H + 1)) (120 + 14 * H + i) = nI (hN k d p i) := fun i hi => by
    rw [upd_ne (by omega)]
    unfold hN
    by_cases q0 : i = 0
    · rw [if_pos q0, q0, upd_ne (by omega), upd_ne (by omega), upd_eq]
    · rw [if_neg q0]
      by_cases q1 : i = 1
      · rw [if_pos q1, q1, upd_ne (by omega), upd_eq]
      · rw [if_neg q1]
        by_cases q2 : i = 2
        · rw [if_pos q2, q2, upd_eq]
        · rw [if_neg q2, upd_ne (by omega), upd_ne (by omega), upd_ne (by omega)]
          simp only [zr]
          rw [if_pos (by omega)]
          rfl
  have h351 : upd (upd (upd (upd (zr ρ (120 + 14 * H) 14) (120 + 14 * H + 0) (nI k)) (120 + 14 * H + 1) (nI d)) (120 + 14 * H + 2) (nI p)) 351 (nI (H + 1)) 351 = nI (H + 1) := upd_eq
  generalize upd (upd (upd (upd (zr ρ (120 + 14 * H) 14) (120 + 14 * H + 0) (nI k)) (120 + 14 * H + 1) (nI d)) (120 + 14 * H + 2) (nI p)) 351 (nI (H + 1)) = ρ2 at *
  obtain ⟨h1, h2, h3, h4, h5⟩ := h
  refine ⟨fun i hi => ?_, fun s hs => ?_, ⟨by rw [fr _ (by omega) (by omega)]; exact h3.1, h3.2.fr (fun i hi1 hi2 => fr _ (by have : aT (sHire a k d p) = aT a := rfl; omega) (by omega))⟩, fun h9 hh => ?_, fun k' r hk' j hj => ?_⟩
  · by_cases q : i = 2
    · rw [q, sHire_2, hH]
      exact h351
    · rw [fr _ (by omega) (by omega), sHire_C _ _ _ _ _ q]
      exact h1 i hi
  · have := z1 s hs
    exact ⟨by rw [fr _ (by omega) (by omega)]; exact (h2 s hs).1, (h2 s hs).2.fr (fun i hi1 hi2 => fr _ (by omega) (by omega))⟩
  · have hh' : h9 < H + 1 := by rw [sHire_2, hH] at hh; exact hh
    by_cases q : h9 = H
    · have eA : ∀ i, aH (sHire a k d p) h9 i = hN k d p i := fun i => if_pos (by rw [hH]; exact q)
      have eG : aG (sHire a k d p) h9 = [] := by
        show va_up (aG a) (aC a 2) [] h9 = []
        rw [hH, q]
        exact va_up_eq
      rw [eG, q]
      refine ⟨fun i hi => ?_, ?_, fun w r hw => by cases hw⟩
      · rw [← q, eA, q]
        exact new i (by omega)
      · exact new 13 (by decide)
    · have eA : ∀ i, aH (sHire a k d p) h9 i = aH a h9 i := fun i => if_neg (by rw [hH]; exact q)
      have eG : aG (sHire a k d p) h9 = aG a h9 := va_up_off (by rw [hH]; exact q)
      obtain ⟨g1, g2, g3⟩ := h4 h9 (by omega)
      have := z4 h9 (by omega)
      rw [eG, eA]
      refine ⟨fun i hi => ?_, by rw [fr _ (by omega) (by omega)]; exact g2, g3.fr (fun i hi1 hi2 => fr _ (by omega) (by omega))⟩
      rw [eA, fr _ (by omega) (by omega)]
      exact g1 i hi
  · have := Nat.mod_lt (aC a 4 - (aL a).length + k') (show 0 < 12 by decide)
    have e4 : aC (sHire a k d p) 4 = aC a 4 := rfl
    have eL : aL (sHire a k d p) = aL a := rfl
    rw [e4, eL, fr _ (by omega) (by omega)]
    exact h5 k' r hk' j hj
theorem M_addHelper {B n : Nat} {σ μ : xM} {a : xA} (R : Rel B σ μ a) (hn : 400 < n) (hB : B + 30000 < 2 ^ 30) (x y z : Int32) : OK2 (B + 30000) (F_X4_addHelper n σ x y z) (F_X5_addHelper n μ x y z) := by
  have no := fun v => R.no (B' := B + 30000) (by omega) hB v
  have h6 := R.h6
  unfold F_X4_addHelper F_X5_addHelper
  rcases io (x := x) (L := 0) (H := 2) 0 2 rfl rfl (by decide) (by decide) with ⟨o1, i1, k, -, k2, rfl⟩ | ⟨o1, i1⟩
  · rcases io (x := y) (L := 1) (H := 4) 1 4 rfl rfl (by decide) (by decide) with ⟨o2, i2, d, d1, d4, rfl⟩ | ⟨o2, i2⟩
    · rcases io (x := z) (L := 1) (H := 9) 1 9 rfl rfl (by decide) (by decide) with ⟨o3, i3, p, p1, p9, rfl⟩ | ⟨o3, i3⟩
      · simp only [g351b, t351, o1, i1, o2, i2, o3, i3, z00, z10]
        rw [show σ (4 + 0) 6 = nI (aC a 2) from R.cr.c 2 (by decide), show μ 1 351 = nI (aC a 2) from R.rr.c 2 (by decide)]
        by_cases q : aC a 2 < 6
        · rw [if_pos (show nI (aC a 2) < (6 : Int32) from nI_lt (b := 6) q (by omega)), if_neg (show ¬ nI (aC a 2) = (6 : Int32) from fun e => by
            have := (nI_eq (b := 6) (by omega) (by omega)).mp e
            omega)]
          obtain ⟨σ1, μ1, f1, f2, R1⟩ := R.rec hn
          obtain ⟨g1, g2, g3⟩ := R1.gh
          obtain ⟨τ', e1, c1⟩ := C_hire (n := n) (k := k) (d := d) (p := p) g1 g3 q
          obtain ⟨ρ', e2, c2⟩ := R_hire (n := n) (k := k) (d := d) (p := p) g2 g3 q (by omega) μ1
          rw [xr_self] at e2
          rw [f1, Option.bind_some, f2, Option.bind_some, e1, Option.bind_some, show μ1 1 351 = nI (aC (tla a (μ1 1)) 2) from R1.rr.c 2 (by decide), e2]
          exact ⟨_, _, _, _, rfl, rfl, R1.act (by omega) c1 c2 ((Inv_hire g3 q k2 d1 d4 p1 p9).mono (by omega) hB) (fun i hi => sHire_C _ _ _ _ _ (by omega)) (fun _ _ => rfl) rfl⟩
        · have e : aC a 2 = 6 := by omega
          rw [e, if_neg (show ¬ nI 6 < (6 : Int32) by decide), if_pos (show nI 6 = (6 : Int32) from rfl)]
          exact no _
      · rw [o1, i1, o2, i2, o3, i3]
        simp only [z00, z10]
        exact no _
    · rw [o1, i1, o2, i2]
      simp only [z00, z10]
      exact no _
  · rw [o1, i1]
    simp only [z00, z10]
    exact no _
