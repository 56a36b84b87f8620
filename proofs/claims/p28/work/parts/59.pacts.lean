/-! access, walk, undo, keep, restore, and what would be *)  -/
theorem P_go {B n : Nat} {σ : xM} {a : xA} {tp sn : Option xA} (R : PRel B σ a tp sn) (hn : 400 < n) (hB : B + 30000 < 2 ^ 30) {p l : Nat} (hp : p < 16) (hl : l < 10000) : ∃ σ', F_X4_access n σ (nI p) (nI l) = some (nI (sGo a p l).1, σ') ∧ PRel (B + 30000) σ' (sGo a p l).2 (some a) sn := by
  unfold F_X4_access
  obtain ⟨σ1, e1, R1⟩ := R.rec hn
  obtain ⟨τ', f1, c1, -⟩ := C_perform R1.cr R1.inv (n := n) (by omega) hp hl (by omega)
  have o1 : F_X4_isOutside (nI p) 0 15 = 0 := C_outside (lo := 0) (hi := 15) (by omega) (by omega) (by decide)
  have o2 : F_X4_isOutside (nI l) 0 9999 = 0 := C_outside (lo := 0) (hi := 9999) (by omega) (by omega) (by decide)
  rw [o1, o2, z00, z00, e1, Option.bind_some, f1, Option.bind_some]
  exact ⟨_, rfl, R1.act (B' := B + 30000) (by omega) c1 ((J_go R1.jnv hp hl (by omega)).mono (by omega) hB)⟩
theorem P_access {B n : Nat} {σ : xM} {a : xA} {tp sn : Option xA} (R : PRel B σ a tp sn) (hn : 400 < n) (hB : B + 30000 < 2 ^ 30) (x y : Int32) : PA (B + 30000) a tp sn (F_X4_access n σ x y) := by
  have no := fun v hv => PA.no R (B' := B + 30000) (by omega) hB v hv
  rcases io (x := x) (L := 0) (H := 15) 0 15 rfl rfl (by decide) (by decide) with ⟨o1, p, -, p2, rfl⟩ | o1
  · rcases io (x := y) (L := 0) (H := 9999) 0 9999 rfl rfl (by decide) (by decide) with ⟨o2, l, -, l2, rfl⟩ | o2
    · obtain ⟨σ', e, R2⟩ := P_go R hn hB (show p < 16 by omega) (show l < 10000 by omega)
      rw [e]
      have := sGo_lt a p l
      exact PA.yes (k := (sGo a p l).1) (by omega) R2
    · unfold F_X4_access
      rw [o1, o2, z00, z10]
      exact no _ (by decide)
  · unfold F_X4_access
    rw [o1, z10]
    exact no _ (by decide)
theorem P_goes {B n : Nat} {σ : xM} {a : xA} {tp sn : Option xA} (R : PRel B σ a tp sn) (hn : 400 < n) (hB : B + 30000 < 2 ^ 30) {p l c : Nat} {st : Int32} (hw : F_X4_isWalk (nI p) (nI l) st (nI c) = 1) (hp : p < 16) (hc : c ≤ 30) (hv : ∀ k, k < c → ∃ y, y < 10000 ∧ nI l + nI k * st = nI y) : ∃ σ', F_X4_walk n σ (nI p) (nI l) st (nI c) = some (nI (sWalk p l st c a).1, σ') ∧ PRel (B + 30000) σ' (sWalk p l st c a).2 (some a) sn := by
  unfold F_X4_walk
  obtain ⟨σ1, e1, R1⟩ := R.rec hn
  obtain ⟨τ', f1, c1⟩ := C_walk R1.cr R1.inv (n := n) hp (by omega) (by omega) hv (by omega)
  rw [hw, z10, e1, Option.bind_some, f1, Option.bind_some]
  exact ⟨_, rfl, R1.act (B' := B + 30000) (by omega) c1 ((J_walk R1.jnv hp hv (by omega) c (Nat.le_refl _)).mono (by omega) hB)⟩
theorem P_walk {B n : Nat} {σ : xM} {a : xA} {tp sn : Option xA} (R : PRel B σ a tp sn) (hn : 400 < n) (hB : B + 30000 < 2 ^ 30) (x y z u : Int32) : PA (B + 30000) a tp sn (F_X4_walk n σ x y z u) := by
  rcases walk_io x y z u with ⟨w1, p, l, c, hp, hl, hc, rfl, rfl, rfl, hv⟩ | w1
  · obtain ⟨σ', e, R2⟩ := P_goes R hn hB w1 hp hc hv
    rw [e]
    have := sWalk_le p l z a c
    exact PA.yes (k := (sWalk p l z c a).1) (by omega) R2
  · unfold F_X4_walk
    rw [w1, z00]
    exact PA.no R (by omega) hB _ (by decide)
theorem P_undo {B n : Nat} {σ : xM} {a b : xA} {sn : Option xA} (R : PRel B σ a (some b) sn) (hn : 400 < n) : ∃ v σ', F_X4_undo n σ = some (v, σ') ∧ ¬ v < 0 ∧ PRel B σ' b none sn := by
  obtain ⟨⟨c, J⟩, ⟨hs, oo, m, p1, p2, p3, p4⟩, ⟨sc, s0, kp, s1, s2, s3, s4, s5⟩, t⟩ := R
  obtain ⟨q1, q2, q3⟩ := p4 b rfl
  obtain ⟨m, rfl⟩ : ∃ m', m = m' + 1 := ⟨m - 1, by omega⟩
  rw [Nat.add_sub_cancel] at q2
  unfold F_X4_undo
  rw [p3, if_neg (show ¬ nI (m + 1) < (1 : Int32) from nI_nlt (b := 1) (by omega) (by omega)), if_neg (show ¬ (4 : Int32) < nI (m + 1) from nI_nlt (a := 4) (b := m + 1) p2 (by omega)), nI_pred]
  obtain ⟨e1, y1⟩ := p1.1 m (by omega)
  have g1 := hsO_ge e1
  have y1' : CR6 (x_sh (oo m) (x_up σ 0 6 (nI m))) (hs m) := y1.low (fun r hr => by
    show x_up σ 0 6 (nI m) (oo m + r) = σ (oo m + r)
    exact x_up_row' (by omega))
  have c1' : CRep (x_sh 4 (x_up σ 0 6 (nI m))) a := c.low J.1.hn (fun r hr => by
    show x_up σ 0 6 (nI m) (4 + r) = σ (4 + r)
    exact x_up_row' (by omega))
  obtain ⟨σ2, e2, d2, f2⟩ := C_copy2 (σ := x_up σ 0 6 (nI m)) (n := n) (o := 4) (o2 := oo m) (a := hs m) (b := a) (by omega) (Or.inl (by omega)) y1'.1 y1'.2 c1'
  show ∃ v σ', (if x_up σ 0 6 (nI m) 0 6 < 0 ∨ 4 ≤ (x_up σ 0 6 (nI m) 0 6).toNatClampNeg then none else (hsO (x_up σ 0 6 (nI m) 1 (x_up σ 0 6 (nI m) 0 6).toNatClampNeg)).bind fun o2 => (F_X2_copyFrom n (x_up σ 0 6 (nI m)) 4 o2).bind fun q3 => some ((q3 0 6), q3)) = some (v, σ') ∧ _
  rw [x_up_at, ite_ok (by omega) (by omega), nI_clamp (by omega), x_up_row' (show 1 ≠ 0 by decide), e1, Option.bind_some, e2, Option.bind_some]
  have x0 : σ2 0 = x_up σ 0 6 (nI m) 0 := f2 0 (by omega)
  have fo : ∀ r, r ≠ 0 → (r < 4 ∨ 51 ≤ r) → σ2 r = σ r := fun r h0 hr => (f2 r (by omega)).trans (x_up_row' h0)
  refine ⟨_, _, rfl, ?_, ⟨by rw [← q2]; exact d2, q3⟩, ⟨hs, oo, m, p1.low (fo 1 (by decide) (by decide)) (fun r hr => fo r (by omega) (by omega)), by omega, by rw [x0, x_up_at], fun b hb => by cases hb⟩, ⟨sc, s0, kp, s1.low (fun r hr => fo (51 + r) (by omega) (by omega)), s2.low (fun r hr => fo (98 + r) (by omega) (by omega)), s3, by rw [x0, x_up_off (by decide)]; exact s4, s5⟩, by rw [fo 2 (by decide) (by decide)]; exact t⟩
  rw [x0, x_up_at]
  exact nI_pos (by omega)
theorem P_keep {B n : Nat} {σ : xM} {a : xA} {tp sn : Option xA} (R : PRel B σ a tp sn) (hn : 400 < n) : ∃ σ', F_X4_keep n σ = some (nI (aC a 4), σ') ∧ PRel B σ' a tp (some a) := by
  obtain ⟨⟨c, J⟩, ⟨hs, oo, m, p1, p2, p3, p4⟩, ⟨sc, s0, kp, s1, s2, s3, s4, s5⟩, t⟩ := R
  unfold F_X4_keep
  obtain ⟨σ2, e2, d2, f2⟩ := C_copy2 (n := n) (o := 98) (o2 := 4) (by omega) (Or.inr (by omega)) c J.1.hn s2.1
  rw [e2, Option.bind_some]
  have fo : ∀ r, (r < 98 ∨ 145 ≤ r) → σ2 r = σ r := fun r hr => f2 r (by omega)
  have f3 : ∀ r, r ≠ 0 → (r < 98 ∨ 145 ≤ r) → x_up σ2 0 5 1 r = σ r := fun r h0 hr => by rw [x_up_row' h0, fo r hr]
  have ea : x_up σ2 0 5 1 (4 + 0) 8 = nI (aC a 4) := by
    rw [f3 (4 + 0) (by decide) (by decide)]
    exact c.c 4 (by decide)
  show ∃ σ', some (x_up σ2 0 5 1 (4 + 0) 8, x_up σ2 0 5 1) = some (nI (aC a 4), σ') ∧ _
  rw [ea]
  refine ⟨_, rfl, ⟨c.low J.1.hn (fun r hr => f3 (4 + r) (by omega) (by omega)), J⟩, ⟨hs, oo, m, p1.low (f3 1 (by decide) (by decide)) (fun r hr => f3 r (by omega) (by omega)), p2, by rw [x_up_off (by decide), fo 0 (by decide)]; exact p3, p4⟩, ⟨sc, a, 1, s1.low (fun r hr => f3 (51 + r) (by omega) (by omega)), CR6.low ⟨d2, J.1.hn⟩ (fun r hr => x_up_row' (by omega)), Nat.le_refl _, x_up_at, fun b hb => ?_⟩, by rw [f3 2 (by decide) (by decide)]; exact t⟩
  cases hb
  exact ⟨rfl, rfl, J⟩
theorem P_restore {B n : Nat} {σ : xM} {a b : xA} {tp : Option xA} (R : PRel B σ a tp (some b)) (hn : 400 < n) : ∃ σ', F_X4_restore n σ = some (nI (aC b 4), σ') ∧ PRel B σ' b (some a) (some b) := by
  obtain ⟨σ1, f1, R1⟩ := R.rec hn
  have k5 : σ 0 5 = nI 1 := by
    obtain ⟨-, -, ⟨sc, s0, kp, s1, s2, s3, s4, s5⟩, t⟩ := R
    obtain ⟨q1, q2, q3⟩ := s5 b rfl
    rw [s4, q1]
  obtain ⟨⟨c, J⟩, ⟨hs, oo, m, p1, p2, p3, p4⟩, ⟨sc, s0, kp, s1, s2, s3, s4, s5⟩, t⟩ := R1
  obtain ⟨q1, q2, q3⟩ := s5 b rfl
  subst q1
  subst q2
  unfold F_X4_restore
  rw [k5, if_neg (nI_ne0 (by omega) (by omega)), f1, Option.bind_some]
  obtain ⟨σ2, e2, d2, y2⟩ := C_copy2 (n := n) (o := 4) (o2 := 98) (by omega) (Or.inl (by omega)) s2.1 s2.2 c
  rw [e2, Option.bind_some]
  have ea : σ2 (4 + 0) 8 = nI (aC s0 4) := d2.c 4 (by decide)
  rw [ea]
  have fo : ∀ r, (r < 4 ∨ 51 ≤ r) → σ2 r = σ1 r := fun r hr => y2 r (by omega)
  exact ⟨_, rfl, ⟨d2, q3⟩, ⟨hs, oo, m, p1.low (fo 1 (by decide)) (fun r hr => fo r (by omega)), p2, by rw [fo 0 (by decide)]; exact p3, p4⟩, ⟨sc, s0, 1, s1.low (fun r hr => fo (51 + r) (by omega)), s2.low (fun r hr => fo (98 + r) (by omega)), s3, by rw [fo 0 (by decide)]; exact s4, s5⟩, by rw [fo 2 (by decide)]; exact t⟩
/-- the scratch block alone has changed -/
theorem PRel.scr {B : Nat} {σ σ' : xM} {a sc' : xA} {tp sn : Option xA} (R : PRel B σ a tp sn) (h : ∀ r, r < 51 ∨ 98 ≤ r → σ' r = σ r) (hs : CR6 (x_sh 51 σ') sc') : PRel B σ' a tp sn := by
  obtain ⟨⟨c, J⟩, ⟨hs', oo, m, p1, p2, p3, p4⟩, ⟨sc, s0, kp, s1, s2, s3, s4, s5⟩, t⟩ := R
  exact ⟨⟨c.low J.1.hn (fun r hr => h (4 + r) (by omega)), J⟩, ⟨hs', oo, m, p1.low (h 1 (by omega)) (fun r hr => h r (by omega)), p2, by rw [h 0 (by omega)]; exact p3, p4⟩, ⟨sc', s0, kp, hs, s2.low (fun r hr => h (98 + r) (by omega)), s3, by rw [h 0 (by omega)]; exact s4, s5⟩, by rw [h 2 (by omega)]; exact t⟩
theorem PRel.try {B n : Nat} {σ : xM} {a : xA} {tp sn : Option xA} (R : PRel B σ a tp sn) (hn : 400 < n) : ∃ σ1, F_X2_copyFrom n σ 51 4 = some σ1 ∧ (∀ r, r < 51 ∨ 98 ≤ r → σ1 r = σ r) ∧ CRep (x_sh 51 σ1) a := by
  obtain ⟨⟨c, J⟩, -, ⟨sc, s0, kp, s1, s2, s3, s4, s5⟩, t⟩ := R
  obtain ⟨σ1, e1, d1, f1⟩ := C_copy2 (n := n) (o := 51) (o2 := 4) (by omega) (Or.inr (by omega)) c J.1.hn s1.1
  exact ⟨σ1, e1, fun r hr => f1 r (by omega), d1⟩
theorem P_wouldHit {B n : Nat} {σ : xM} {a : xA} {tp sn : Option xA} (R : PRel B σ a tp sn) (hn : 400 < n) (hB : B + 30000 < 2 ^ 30) {p l c : Nat} {st : Int32} (hw : F_X4_isWalk (nI p) (nI l) st (nI c) = 1) (hp : p < 16) (hc : c ≤ 30) (hv : ∀ k, k < c → ∃ y, y < 10000 ∧ nI l + nI k * st = nI y) : ∃ σ', F_X4_wouldHit n σ (nI p) (nI l) st (nI c) = some (nI (sWalk p l st c a).1, σ') ∧ PRel B σ' a tp sn := by
  unfold F_X4_wouldHit
  obtain ⟨σ1, e1, f1, d1⟩ := R.try hn
  obtain ⟨τ', u1, u2⟩ := C_walk d1 R.inv (n := n) hp (by omega) (by omega) hv (by omega)
  have I2 := Inv_walk R.inv hp hv (by omega) c (Nat.le_refl _)
  rw [hw, z10, e1, Option.bind_some, u1, Option.bind_some]
  exact ⟨_, rfl, R.scr (sc' := (sWalk p l st c a).2) (fun r hr => (x_pt_row (by omega)).trans (f1 r hr)) (CR6.low ⟨u2, I2.hn⟩ (fun r hr => x_sh_pt hr))⟩
theorem P_wouldAsk {B n : Nat} {σ : xM} {a : xA} {tp sn : Option xA} (R : PRel B σ a tp sn) (hn : 400 < n) (hB : B + 30000 < 2 ^ 30) {h p l j : Nat} (hh : h < aC a 2) (hp : p < 16) (hl : l < 10000) (hj : j < 100) : ∃ v σ', F_X4_wouldAsk n σ (nI h) (nI p) (nI l) (nI j) = some (v, σ') ∧ PRel B σ' a tp sn ∧ (if j < (goAsk a p l h).length then ¬ v < 0 else v < 0) := by
  have h6 := R.h6
  unfold F_X4_wouldAsk
  have o1 : F_X4_isOutside (nI p) 0 15 = 0 := C_outside (lo := 0) (hi := 15) (by omega) (by omega) (by decide)
  have o2 : F_X4_isOutside (nI l) 0 9999 = 0 := C_outside (lo := 0) (hi := 9999) (by omega) (by omega) (by decide)
  have q : ¬ nI j < 0 := nI_pos (by omega)
  rw [C_helperAt R.cr R.inv.1 n hh, Option.bind_some]
  show ∃ v σ', (if F_X4_isOutside (nI p) 0 15 = 0 then _ else _) = some (v, σ') ∧ _
  obtain ⟨σ1, c1, f1, g1⟩ := R.try hn
  obtain ⟨τ', u1, u2, u3⟩ := C_perform g1 R.inv (n := n) (by omega) hp hl (by omega)
  have I2 := Inv_go R.inv hp hl (by omega)
  rw [o1, o2, z00, z00, if_neg q, c1, Option.bind_some, u1, Option.bind_some]
  show ∃ v σ', (F_X2_helperAt n (x_sh 51 (x_pt 51 τ' σ1)) (nI h)).bind _ = some (v, σ') ∧ _
  have u2' : CRep (x_sh 51 (x_pt 51 τ' σ1)) (sGo a p l).2 := CRep.low u2 I2.hn (fun r hr => x_sh_pt hr)
  rw [C_helperAt u2' I2.1 n (by rw [C_helps_2]; exact hh), Option.bind_some]
  show ∃ v σ', (F_X0_wishAt n (x_sh 51 (x_pt 51 τ' σ1)) (21 + 4 * h) (nI j)).bind _ = some (v, σ') ∧ _
  have R2 : PRel B (x_pt 51 τ' σ1) a tp sn := R.scr (sc' := (sGo a p l).2) (fun r hr => (x_pt_row (by omega)).trans (f1 r hr)) (CR6.low ⟨u2, I2.hn⟩ (fun r hr => x_sh_pt hr))
  have w0 := u3 h hh
  have w1 : WR (x_sh 51 (x_pt 51 τ' σ1)) h (goAsk a p l h) := w0.keep (by rw [x_sh_pt (by omega)]) (x_sh_pt (by omega))
  obtain ⟨w2, w3, w4⟩ := w1
  have ok : ∀ x, x ∈ goAsk a p l h → x < 10000 := by
    have I1 := Inv_serve (l := l) (Inv_work R.inv (aC a 2)) hl (by omega)
    have e2 : aC (sServe (sWork (aC a 2) a) l).2 2 = aC a 2 := by rw [sServe_C _ _ _ (by decide), (sWork_r a _).2.2.2.2]
    have I3 := Inv_helps (l := l) (o := (sServe (sWork (aC a 2) a) l).1) I1 hp h (by omega) (by omega)
    exact (sAsk_ok I3 (by rw [sHelps_C _ _ _ _ (by decide)]; omega) hp).2
  have gg := gr_G h (by omega)
  unfold F_X0_wishAt
  rw [if_neg q, w2]
  by_cases c : j < (goAsk a p l h).length
  · obtain ⟨v, hv⟩ : ∃ v, (goAsk a p l h)[j]? = some v := ⟨_, List.getElem?_eq_getElem c⟩
    rw [if_pos (nI_lt c (by omega)), gg.2.1, Option.bind_some, gg.2.2, if_pos (show nI j < Int32.ofNat 4 from nI_lt (b := 4) (by omega) (by decide)), Option.bind_some, gg.2.2, ite_ok (by omega) (by decide), nI_clamp (by omega), w4 j v hv, Option.bind_some]
    refine ⟨_, _, rfl, R2, ?_⟩
    rw [if_pos c]
    exact nI_pos (by have := ok v (List.mem_of_getElem? hv); omega)
  · rw [if_neg (nI_nlt (by omega) (by omega)), Option.bind_some]
    refine ⟨_, _, rfl, R2, ?_⟩
    rw [if_neg c]
    decide
