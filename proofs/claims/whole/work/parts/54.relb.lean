/-! the relation between the object and the check *)  -/
theorem nI_self (x : Int32) : nI x.toBitVec.toNat = x := by
  apply Int32.toBitVec_inj.mp
  show BitVec.ofNat 32 x.toBitVec.toNat = x.toBitVec
  rw [BitVec.ofNat_toNat, BitVec.setWidth_eq]
theorem CRep.tail {τ : xM} {a : xA} {C : Nat → Nat} (h : CRep τ a) (e : ∀ i, i < 9 → C i = aC a i) : CRep τ (wC a C) := by
  obtain ⟨h1, h2, h3, h4, h5, h6⟩ := h
  have e2 := e 2 (by decide)
  refine ⟨fun i hi => ?_, h2, h3, fun h hh k hk => ?_, h5, h6⟩
  · show τ 0 (4 + i) = nI (C i)
    rw [e i hi]
    exact h1 i hi
  · refine h4 h ?_ k hk
    rw [← e2]
    exact hh
theorem Inv.tail {B : Nat} {a : xA} {C : Nat → Nat} (I : Inv B a) (e : ∀ i, i < 9 → C i = aC a i) : Inv B (wC a C) := by
  have e0 := e 0 (by decide)
  have e1 := e 1 (by decide)
  have e2 := e 2 (by decide)
  have e3 := e 3 (by decide)
  have e4 := e 4 (by decide)
  unfold Inv InvC InvS InvT InvH InvG InvL at *
  simp only [aC, aS, aT, aH, aG, aL, wC] at e0 e1 e2 e3 e4 I ⊢
  rw [e0, e1, e2, e3, e4]
  exact I
def tlC (a : xA) (ρ : Nat → Int32) (i : Nat) : Nat := if i < 9 then aC a i else (ρ (349 + i)).toBitVec.toNat
theorem tlC_lo {a : xA} {ρ : Nat → Int32} : ∀ i, i < 9 → tlC a ρ i = aC a i := fun i hi => if_pos hi
/-- the same state, with what stands behind the first block as a ghost -/
def tla (a : xA) (ρ : Nat → Int32) : xA := wC a (tlC a ρ)
theorem RR0.tail {ρ : Nat → Int32} {a : xA} (h : RR0 ρ a) : RRep ρ (tla a ρ) := by
  obtain ⟨h1, h2, h3, h4, h5⟩ := h
  have e2 : tlC a ρ 2 = aC a 2 := tlC_lo 2 (by decide)
  have e4 : tlC a ρ 4 = aC a 4 := tlC_lo 4 (by decide)
  refine ⟨fun i hi => ?_, h2, h3, fun h hh => h4 h ?_, fun k r hk j hj => ?_⟩
  · show ρ (349 + i) = nI (tlC a ρ i)
    by_cases q : i < 9
    · rw [tlC_lo i q]
      exact h1 i q
    · unfold tlC
      rw [if_neg q, nI_self]
  · rw [← e2]
    exact hh
  · have := h5 k r hk j hj
    rw [← e4] at this
    exact this
theorem RR0.c {ρ : Nat → Int32} {a : xA} (h : RR0 ρ a) (i : Nat) (hi : i < 9) : ρ (349 + i) = nI (aC a i) := h.1 i hi
theorem RR0.mono {ρ : Nat → Int32} {a : xA} (h : RR0 ρ a) : RRep ρ (tla a ρ) := h.tail
def Rel (B : Nat) (σ μ : xM) (a : xA) : Prop := (CRep (x_sh 4 σ) a ∧ RR0 (μ 1) a ∧ Inv B a) ∧ (∃ hs oo m, PO σ hs oo ∧ (∀ k, k < m → RR0 (blk (μ 1) (358 + 358 * k)) (hs k) ∧ Inv B (hs k)) ∧ m ≤ 4 ∧ σ 0 6 = nI m ∧ μ 0 1 = nI m) ∧ (∃ sc sn kp, CR6 (x_sh 51 σ) sc ∧ CR6 (x_sh 98 σ) sn ∧ (kp = 1 → RR0 (blk (μ 1) 1790) sn ∧ Inv B sn) ∧ kp ≤ 1 ∧ σ 0 5 = nI kp ∧ μ 0 2 = nI kp) ∧ (∃ tl, tl ≤ 80 ∧ σ 2 1 = nI tl ∧ μ 0 4 = nI tl ∧ ∀ k, k < tl → σ 3 k = μ 2 k) ∧ μ 0 6 = -1
theorem Rel.cr {B : Nat} {σ μ : xM} {a : xA} (R : Rel B σ μ a) : CRep (x_sh 4 σ) a := R.1.1
theorem Rel.rr {B : Nat} {σ μ : xM} {a : xA} (R : Rel B σ μ a) : RR0 (μ 1) a := R.1.2.1
theorem Rel.inv {B : Nat} {σ μ : xM} {a : xA} (R : Rel B σ μ a) : Inv B a := R.1.2.2
theorem Rel.w {B : Nat} {σ μ : xM} {a : xA} (R : Rel B σ μ a) : μ 0 6 = -1 := R.2.2.2.2
theorem PO.low {σ σ' : xM} {hs : Nat → xA} {oo : Nat → Nat} (h : PO σ hs oo) (h1 : σ' 1 = σ 1) (h2 : ∀ r, 145 ≤ r → σ' r = σ r) : PO σ' hs oo := ⟨fun k hk => by
  obtain ⟨e, c⟩ := h.1 k hk
  have g := hsO_ge e
  exact ⟨by rw [h1]; exact e, c.low (fun r hr => h2 (oo k + r) (by omega))⟩, h.2⟩
/-- what stands now has changed, and nothing else -/
theorem Rel.cur {B B' : Nat} {σ μ σ' μ' : xM} {a a' : xA} (R : Rel B σ μ a) (hB : B ≤ B') (h1 : σ' 0 = σ 0) (h2 : ∀ r, r = 1 ∨ r = 2 ∨ r = 3 ∨ 51 ≤ r → σ' r = σ r) (h3 : ∀ k, k < 5 ∨ k = 6 → μ' 0 k = μ 0 k) (h4 : ∀ i, 358 ≤ i → i < 2148 → μ' 1 i = μ 1 i) (h5 : μ' 2 = μ 2) (c : CRep (x_sh 4 σ') a') (r : RR0 (μ' 1) a') (I : Inv B' a') : Rel B' σ' μ' a' := by
  obtain ⟨-, ⟨hs, oo, m, p1, p2, p3, p4, p5⟩, ⟨sc, sn, kp, s1, s2, s3, s4, s5, s6⟩, ⟨tl, t1, t2, t3, t4⟩, w⟩ := R
  refine ⟨⟨c, r, I⟩, ⟨hs, oo, m, p1.low (h2 1 (Or.inl rfl)) (fun r hr => h2 r (by omega)), fun k hk => ?_, p3, by rw [h1]; exact p4, by rw [h3 1 (by decide)]; exact p5⟩, ⟨sc, sn, kp, s1.low (fun r hr => h2 (51 + r) (by omega)), s2.low (fun r hr => h2 (98 + r) (by omega)), fun hk => ?_, s4, by rw [h1]; exact s5, by rw [h3 2 (by decide)]; exact s6⟩, ⟨tl, t1, by rw [h2 2 (by omega)]; exact t2, by rw [h3 4 (by decide)]; exact t3, fun k hk => by rw [h2 3 (by omega), h5]; exact t4 k hk⟩, by rw [h3 6 (by decide)]; exact w⟩
  · obtain ⟨q1, q2⟩ := p2 k hk
    exact ⟨q1.low q2.sz (fun i hi => h4 (358 + 358 * k + i) (by omega) (by omega)), q2.mono hB I.b⟩
  · obtain ⟨q1, q2⟩ := s3 hk
    exact ⟨q1.low q2.sz (fun i hi => h4 (1790 + i) (by omega) (by omega)), q2.mono hB I.b⟩
theorem Rel.mono {B B' : Nat} {σ μ : xM} {a : xA} (R : Rel B σ μ a) (hB : B ≤ B') (hb : B' < 2 ^ 30) : Rel B' σ μ a := R.cur hB rfl (fun _ _ => rfl) (fun _ _ => rfl) (fun _ _ _ => rfl) rfl R.cr R.rr (R.inv.mono hB hb)
/-- both record -/
theorem Rel.rec2 {B n : Nat} {σ μ : xM} {a : xA} (R : Rel B σ μ a) (hn : 400 < n) : ∃ σ' μ', F_X4_remember n σ = some σ' ∧ F_X5_record n μ = some μ' ∧ Rel B σ' μ' a ∧ (∀ k, k ≠ 6 → σ' 0 k = σ 0 k) ∧ σ' 2 = σ 2 ∧ σ' 3 = σ 3 ∧ (∀ k, k ≠ 1 → μ' 0 k = μ 0 k) ∧ μ' 2 = μ 2 := by
  obtain ⟨⟨c1, c2, c3⟩, ⟨hs, oo, m, p1, p2, p3, p4, p5⟩, ⟨sc, sn, kp, s1, s2, s3, s4, s5, s6⟩, ⟨tl, t1, t2, t3, t4⟩, w⟩ := R
  obtain ⟨σ', hs', oo', e1, x1, x2, x3, x4, x5⟩ := T_remember hn p3 p4 p1 ⟨c1, c3.hn⟩
  obtain ⟨μ', e2, y1, y2, y3, y4, y5⟩ := R_record (μ := μ) hn p3 p5
  have z := c3.sz
  refine ⟨σ', μ', e1, e2, ⟨⟨c1.low c3.hn (fun r hr => x3 (4 + r) (by omega) (by omega) (by omega)), c2.low z (fun i hi => y4 i (Or.inl hi)), c3⟩, ⟨hs', oo', min m 3 + 1, x4, fun k hk => ?_, by omega, x1, y1⟩, ⟨sc, sn, kp, s1.low (fun r hr => x3 (51 + r) (by omega) (by omega) (by omega)), s2.low (fun r hr => x3 (98 + r) (by omega) (by omega) (by omega)), fun hk => ?_, s4, by rw [x2 5 (by decide)]; exact s5, by rw [y2 2 (by decide)]; exact s6⟩, ⟨tl, t1, by rw [x3 2 (by decide) (by decide) (by decide)]; exact t2, by rw [y2 4 (by decide)]; exact t3, fun k hk => by rw [x3 3 (by decide) (by decide) (by decide), y3 2 (by decide) (by decide)]; exact t4 k hk⟩, by rw [y2 6 (by decide)]; exact w⟩, x2, x3 2 (by decide) (by decide) (by decide), x3 3 (by decide) (by decide) (by decide), y2, y3 2 (by decide) (by decide)⟩
  · have hy := y5 k (by omega)
    rw [x5 k]
    by_cases q : k = min m 3
    · rw [if_pos q]
      exact ⟨c2.low z (fun i hi => (hy i hi).trans (if_pos q)), c3⟩
    · rw [if_neg q]
      by_cases q4 : m = 4
      · rw [if_pos q4]
        obtain ⟨g1, g2⟩ := p2 (k + 1) (by omega)
        exact ⟨g1.low g2.sz (fun i hi => (hy i hi).trans (by rw [if_neg q, if_pos q4])), g2⟩
      · rw [if_neg q4]
        obtain ⟨g1, g2⟩ := p2 k (by omega)
        exact ⟨g1.low g2.sz (fun i hi => (hy i hi).trans (by rw [if_neg q, if_neg q4])), g2⟩
  · obtain ⟨q1, q2⟩ := s3 hk
    exact ⟨q1.low q2.sz (fun i hi => y4 (1790 + i) (by omega)), q2⟩
theorem Rel.rec {B n : Nat} {σ μ : xM} {a : xA} (R : Rel B σ μ a) (hn : 400 < n) : ∃ σ' μ', F_X4_remember n σ = some σ' ∧ F_X5_record n μ = some μ' ∧ Rel B σ' μ' a := by
  obtain ⟨σ', μ', h1, h2, h3, -⟩ := R.rec2 hn
  exact ⟨σ', μ', h1, h2, h3⟩
/-- a step of both over what stands now -/
theorem Rel.act {B B' : Nat} {σ μ τ' μ' : xM} {ρ' : Nat → Int32} {a a' : xA} (R : Rel B σ μ a) (hB : B ≤ B') (c : CRep τ' a') (r : RRep ρ' a') (I : Inv B' a') (g : ∀ i, 9 ≤ i → aC a' i = aC (tla a (μ 1)) i) (h0 : ∀ k, k < 5 ∨ k = 6 → μ' 0 k = μ 0 k) (h5 : μ' 2 = μ 2) : Rel B' (x_pt 4 τ' σ) (xr μ' ρ') a' := by
  refine R.cur hB ?_ (fun r hr => ?_) (fun k hk => by rw [xr_ne (by decide)]; exact h0 k hk) (fun i h1 h2 => ?_) (by rw [xr_ne (by decide)]; exact h5) (c.low I.hn (fun r hr => x_sh_pt hr)) r.r0 I
  · funext k
    simp only [x_pt]
    rw [if_neg (by omega)]
  · funext k
    simp only [x_pt]
    rw [if_neg (by omega)]
  · have e := r.1 (i - 349) (by omega)
    have e3 := (R.rr.tail).1 (i - 349) (by omega)
    rw [show 349 + (i - 349) = i by omega] at e e3
    rw [xr_1, e, g _ (by omega), ← e3]
def OK2 (B : Nat) (f g : Option (Int32 × xM)) : Prop := ∃ v σ' μ' a', f = some (v, σ') ∧ g = some (v, μ') ∧ Rel B σ' μ' a'
def OK1 (f g : Option Int32) : Prop := ∃ v, f = some v ∧ g = some v
theorem OK2.no {B B' : Nat} {σ μ : xM} {a : xA} (R : Rel B σ μ a) (hB : B ≤ B') (hb : B' < 2 ^ 30) (v : Int32) : OK2 B' (some (v, σ)) (some (v, μ)) := ⟨v, σ, μ, a, rfl, rfl, R.mono hB hb⟩
theorem io {x L H : Int32} (lo hi : Nat) (hL : L = nI lo) (hH : H = nI hi) (hh : hi < 2 ^ 31) (hlo : lo ≤ hi) : (F_X4_isOutside x L H = 0 ∧ F_X5_in x L H = 1 ∧ ∃ k, lo ≤ k ∧ k ≤ hi ∧ x = nI k) ∨ (F_X4_isOutside x L H = 1 ∧ F_X5_in x L H = 0) := by
  subst hL
  subst hH
  unfold F_X4_isOutside F_X5_in
  by_cases q1 : x < nI lo
  · rw [if_pos q1, if_pos q1]
    exact Or.inr ⟨rfl, rfl⟩
  · rw [if_neg q1, if_neg q1]
    by_cases q2 : nI hi < x
    · rw [if_pos q2, if_pos q2]
      exact Or.inr ⟨rfl, rfl⟩
    · rw [if_neg q2, if_neg q2]
      have q0 : ¬ x < 0 := fun e => q1 (by
        rw [Int32.lt_iff_toInt_lt] at e ⊢
        rw [nI_toInt (by omega)]
        have : (0 : Int32).toInt = 0 := rfl
        omega)
      obtain ⟨j, hj, rfl⟩ := nI_of q0
      rw [nI_ltI hj (by omega)] at q1
      rw [nI_ltI (by omega) hj] at q2
      exact Or.inl ⟨rfl, rfl, j, by omega, by omega, rfl⟩
theorem g351 {α : Type} {u v : α} : (if (351 : Int32) < 0 ∨ 2506 ≤ (351 : Int32).toNatClampNeg then u else v) = v := if_neg (by decide)
theorem hp_io {τ : xM} {μ : xM} {a : xA} (c : CRep τ a) (r : RR0 (μ 1) a) (I : InvC a) (n : Nat) (x : Int32) : (∃ h, h < aC a 2 ∧ x = nI h ∧ F_X2_helperAt n τ x = some (some (21 + 4 * h)) ∧ F_X5_isHelper n μ x = some 1) ∨ (F_X2_helperAt n τ x = some none ∧ F_X5_isHelper n μ x = some 0) := by
  have h6 := I.2.2.2.2.1
  have e : F_X5_isHelper n μ x = some (F_X5_in x 0 (nI (aC a 2) - 1)) := by
    unfold F_X5_isHelper
    rw [g351, show ((351 : Int32).toNatClampNeg) = 351 from rfl, show μ 1 351 = nI (aC a 2) from r.c 2 (by decide)]
  cases hm : aC a 2 with
  | zero =>
    refine Or.inr ⟨C_helperAt_no c I n (fun h0 hh => by omega), ?_⟩
    rw [e, hm]
    unfold F_X5_in
    by_cases q : x < 0
    · rw [if_pos q]
    · rw [if_neg q, if_pos]
      obtain ⟨j, hj, rfl⟩ := nI_of q
      rw [Int32.lt_iff_toInt_lt, nI_toInt hj, show (nI 0 - 1).toInt = -1 by decide]
      omega
  | succ m =>
    rw [hm, nI_pred] at e
    rcases io (x := x) (L := 0) (H := nI m) 0 m rfl rfl (by omega) (Nat.zero_le _) with ⟨q1, q2, h, -, h2, rfl⟩ | ⟨q1, q2⟩
    · exact Or.inl ⟨h, by omega, rfl, C_helperAt c I n (by omega), by rw [e, q2]⟩
    · refine Or.inr ⟨C_helperAt_no c I n (fun h0 hh eq => ?_), by rw [e, q2]⟩
      subst eq
      unfold F_X5_in at q2
      rw [if_neg (nI_pos (by omega)), if_neg (nI_nlt (by omega) (by omega))] at q2
      exact absurd q2 (by decide)
