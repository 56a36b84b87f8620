/-! the check: throwing out, fetching *)  -/
theorem uc_nI {h : Nat} (hh : h < 2 ^ 30) : uc (nI h) = nI h := by
  unfold uc
  refine if_neg (fun q => ?_)
  have : (nI h).toInt = (-100005 : Int32).toInt := by rw [q]
  rw [nI_toInt (by omega), show (-100005 : Int32).toInt = -100005 by decide] at this
  omega
theorem nI_m1 {h : Nat} (hh : h < 2 ^ 30) : ¬ nI h = -1 := fun q => by
  have : (nI h).toInt = (-1 : Int32).toInt := by rw [q]
  rw [nI_toInt (by omega), show (-1 : Int32).toInt = -1 by decide] at this
  omega
theorem bid_nI {h : Nat} (hh : h < 2 ^ 30) : bid (nI h) = some h := by
  unfold bid
  rw [if_neg (fun q => ?_), nI_clamp (by omega)]
  have : (nI h).toInt = (-100005 : Int32).toInt := by rw [q]
  rw [nI_toInt (by omega), show (-100005 : Int32).toInt = -100005 by decide] at this
  omega
theorem Sz.T {a : xA} (z : Sz a) {l : List xR} (hl : l.length ≤ 8) : Sz (wT a l) := ⟨z.1, hl, z.2.2⟩
theorem R_forgetO {ρ : Nat → Int32} {a : xA} (h : RRep ρ a) (z : Sz a) {n : Nat} (hn : 20 < n) (μ : xM) {p : Nat} (hp : p < (aT a).length) : ∃ ρ', F_X5_forgetOut n (xr μ ρ) (nI p) = some (xr μ ρ') ∧ RRep ρ' (wT a ((aT a).eraseIdx p)) := by
  obtain ⟨g1, g2⟩ := h.2.2.1
  have h8 := z.2.1
  have hl : ((aT a).eraseIdx p).length = (aT a).length - 1 := by rw [List.length_eraseIdx, if_pos hp]
  refine ⟨_, R_forgetOut hn μ g1 hp h8, h.setT z (fun i hi hr => ?_) ?_ ?_⟩
  · rw [upd_ne hi]
    simp only [shf]
    rw [if_neg (by omega)]
  · rw [upd_eq, hl]
  · exact rp_erase g2 hp (fun i h1 h2 => upd_ne (by omega))
theorem R_out69 {ρ : Nat → Int32} {b : xA} (h : RRep ρ b) (z : Sz b) (hnd : ((aT b).map (fun r => r 0)).Nodup) {n : Nat} (hn : 20 < n) (μ : xM) {s k : Nat} (hs : s < 8) {r : xR} {l : List xR} (hS : aS b s = r :: l) (hk : r 0 = nI k) (hT : ¬ inR (aT b) k) (by_ : Int32) : ∃ ρ', B_X5_throwOut_69 n (xr μ ρ) (nI s) (uc by_) (r 0) = some (xr μ ρ') ∧ RRep ρ' (sOut1 b s r l by_) := by
  have h8 := z.2.1
  have h4 := z.1 s hs
  rw [hS] at h4
  obtain ⟨ρ1, e1, c1⟩ := R_close (w := 0) h z hn μ hs (by rw [hS]; exact Nat.succ_pos _)
  have el : (aS b s).eraseIdx 0 = l := by rw [hS]; rfl
  rw [el] at c1
  have z1 : Sz (wS b (va_up (aS b) s l)) := z.S (by simp at h4; omega)
  obtain ⟨ρ2, e2, c2⟩ := R_forgetLine c1 z1 hnd hn μ k
  have ee : sErase (wS b (va_up (aS b) s l)) k = wS b (va_up (aS b) s l) := by
    have hx : ¬ kIdx (aT b) (nI k) < (aT b).length := fun q => hT (kIdx_in.mp q)
    have e : (aT b).eraseIdx (kIdx (aT b) (nI k)) = aT b := List.eraseIdx_of_length_le (Nat.not_lt.mp hx)
    show wT (wS b (va_up (aS b) s l)) ((aT b).eraseIdx (kIdx (aT b) (nI k))) = _
    rw [e]
    rfl
  rw [ee] at c2
  have e348 : ρ2 348 = nI (aT b).length := c2.2.2.1.1
  unfold B_X5_throwOut_69
  rw [show (0 : Int32) = nI 0 from rfl, e1, Option.bind_some, hk, e2, Option.bind_some, show (348 : Int32) = nI 348 from rfl]
  show ∃ ρ', (if nI 348 < 0 ∨ 2506 ≤ (nI 348).toNatClampNeg then none else if xr μ ρ2 1 (nI 348).toNatClampNeg = 8 then _ else _) = some (xr μ ρ') ∧ _
  rw [gd (by decide), cl (by decide), xr_1, e348]
  by_cases q : (aT b).length < 8
  · have ep : pushL 8 (aT b) = aT b := if_pos q
    obtain ⟨ρ3, e3, c3⟩ := R_out99 c2 z1 n μ q (nI k) by_
    rw [if_neg (show ¬ nI (aT b).length = (8 : Int32) from fun e => by rw [show (8 : Int32) = nI 8 from rfl, nI_eq (by omega) (by decide)] at e; omega)]
    refine ⟨ρ3, e3, ?_⟩
    unfold sOut1
    rw [ep, hk]
    exact c3
  · have ep : pushL 8 (aT b) = (aT b).tail := if_neg q
    have hl8 : (aT b).length = 8 := by omega
    obtain ⟨ρ3, e3, c3⟩ := R_forgetO (p := 0) c2 z1 hn μ (by show 0 < (aT b).length; omega)
    have et : (aT (wS b (va_up (aS b) s l))).eraseIdx 0 = (aT b).tail := List.eraseIdx_zero
    rw [et] at c3
    have ht : (aT b).tail.length < 8 := by rw [List.length_tail]; omega
    obtain ⟨ρ4, e4, c4⟩ := R_out99 c3 (z1.T (by omega)) n μ ht (nI k) by_
    rw [if_pos (by rw [hl8]; rfl)]
    refine ⟨ρ4, ?_, ?_⟩
    · show ((F_X5_forgetOut n (xr μ ρ2) (nI 0)).bind _) = _
      rw [e3, Option.bind_some]
      exact e4
    · unfold sOut1
      rw [ep, hk]
      exact c4
theorem R_throw {ρ : Nat → Int32} {a : xA} {B : Nat} (h : RRep ρ a) (I : Inv B a) {n : Nat} (hn : 20 < n) (μ : xM) {s : Nat} (hs : s < 8) {r : xR} {l : List xR} (hS : aS a s = r :: l) (by_ : Int32) : ∃ ρ', F_X5_throwOut n (xr μ ρ) (nI s) (uc by_) = some (xr μ ρ') ∧ RRep ρ' (sOut a s by_) := by
  have z := I.sz
  have h6 := I.hn
  obtain ⟨IC, IS, IT, IH, IG, IL, hB⟩ := I
  have hr : r ∈ aS a s := by rw [hS]; exact List.mem_cons_self
  obtain ⟨⟨k, hk1, hk2, hk3⟩, hb, hnew⟩ := (IS s).2.2.1 r hr
  have hT : ¬ inR (aT a) k := by
    rintro ⟨q, hq, e⟩
    exact IT.2.2.2 s r q hr hq (hk2.trans e.symm)
  obtain ⟨g1, g2⟩ := h.2.1 s hs
  have g0 : (aS a s)[0]? = some r := by rw [hS]; rfl
  have e0 : ρ (8 + 12 * s + 0 * 3) = r 0 := g2 0 r g0 0 (by decide)
  have e1 : ρ (8 + 12 * s + 0 * 3 + 1) = uc (r 1) := g2 0 r g0 1 (by decide)
  have e2 : ρ (8 + 12 * s + 0 * 3 + 2) = r 2 := g2 0 r g0 2 (by decide)
  unfold F_X5_throwOut
  rw [show F_X5_cellOf (nI s) (0 : Int32) = nI (8 + 12 * s + 0 * 3) from R_cell s 0, show nI (8 + 12 * s + 0 * 3) + 1 = nI (8 + 12 * s + 0 * 3 + 1) from nI_add _ 1, show nI (8 + 12 * s + 0 * 3) + 2 = nI (8 + 12 * s + 0 * 3 + 2) from nI_add _ 2, gd (by omega), gd (by omega), gd (by omega), cl (by omega), cl (by omega), cl (by omega), xr_1, xr_1, xr_1, xr_1, e0, e1, e2]
  by_cases q : r 2 = 1
  · rw [if_pos q]
    have hne : r 1 ≠ -100005 := by
      rcases hnew with q2 | q2
      · rw [q2] at q
        exact absurd q (by decide)
      · exact q2.2
    obtain ⟨h0, hh, eh⟩ := hb.resolve_left hne
    rw [eh, uc_nI (by omega), show F_X5_of (nI h0) (8 : Int32) = nI (120 + 14 * h0 + 8) from R_of h0 8, show F_X5_of (nI h0) (2 : Int32) = nI (120 + 14 * h0 + 2) from R_of h0 2, gd (by omega), gd (by omega), gd (by omega), cl (by omega), cl (by omega)]
    have ev : ρ (120 + 14 * h0 + 8) = nI (aH a h0 8) := h.f hh 8 (by decide)
    have r1 := h.setH (v := aH a h0 8 + 1) z hh (k := 8) (by decide) (by decide)
    have ep : upd ρ (120 + 14 * h0 + 8) (nI (aH a h0 8 + 1)) (120 + 14 * h0 + 2) = nI (aH a h0 2) := by
      rw [upd_ne (by omega)]
      exact h.f hh 2 (by decide)
    obtain ⟨ρ2, e9, c9⟩ := R_hours (h0 := h0) r1 z hh n μ (aH a h0 2)
    obtain ⟨ρ3, e8, c8⟩ := R_out69 (b := sVain a h0) c9 z IT.2.2.1 hn μ hs hS hk2 hT by_
    have es : sOut a s by_ = sOut1 (sVain a h0) s r l by_ := by
      unfold sOut
      rw [hS]
      show (if r 2 = 1 then _ else _) = _
      rw [if_pos q, eh, bid_nI (by omega)]
      rfl
    rw [es]
    refine ⟨ρ3, ?_, c8⟩
    show ((F_X5_giveHours n (x_up (xr μ ρ) 1 (120 + 14 * h0 + 8) (ρ (120 + 14 * h0 + 8) + 1)) (nI h0) (x_up (xr μ ρ) 1 (120 + 14 * h0 + 8) (ρ (120 + 14 * h0 + 8) + 1) 1 (120 + 14 * h0 + 2))).bind _) = _
    rw [xr_up, xr_1, ev, nI_1, ep, e9, Option.bind_some]
    exact e8
  · rw [if_neg q]
    obtain ⟨ρ3, e8, c8⟩ := R_out69 h z IT.2.2.1 hn μ hs hS hk2 hT by_
    have es : sOut a s by_ = sOut1 a s r l by_ := by
      unfold sOut
      rw [hS]
      exact if_neg q
    rw [es]
    exact ⟨ρ3, e8, c8⟩
theorem R_fetch41 {ρ : Nat → Int32} {a : xA} (h : RRep ρ a) (z : Sz a) (n : Nat) (μ : xM) {s : Nat} (hs : s < 8) (hl : (aS a s).length < 4) (l : Nat) {by_ : Int32} {hn9 : Nat} (h9 : hn9 ≤ 6) (hb : okBy hn9 by_) : ∃ ρ', B_X5_fetch_41 n (xr μ ρ) (nI l) (uc by_) (nI s) = some (xr μ ρ') ∧ RRep ρ' (sPut a s l by_) := by
  obtain ⟨ρ', e, c⟩ := R_add h z n μ hs hl (nI l) by_ (if by_ = -100005 then 0 else 1)
  refine ⟨ρ', ?_, c⟩
  unfold B_X5_fetch_41 B_X5_fetch_55
  rcases hb with q | ⟨h0, hh, q⟩
  · subst q
    rw [if_pos rfl] at e
    rw [if_pos (show uc (-100005) = -1 from rfl), e, Option.bind_some]
  · have hne : ¬ by_ = -100005 := fun e2 => by
      have : bid by_ = some h0 := by rw [q]; exact bid_nI (by omega)
      rw [e2] at this
      cases this
    rw [if_neg hne] at e
    have hu1 : ¬ uc by_ = -1 := by
      rw [q, uc_nI (by omega)]
      exact nI_m1 (by omega)
    rw [if_neg hu1, e, Option.bind_some]
theorem R_fetch {ρ : Nat → Int32} {a : xA} {B : Nat} (h : RRep ρ a) (I : Inv B a) {n : Nat} (hn : 20 < n) (μ : xM) {l : Nat} (hl : l < 10000) {by_ : Int32} (hb : okBy (aC a 2) by_) (hB : B + 9 < 2 ^ 30) : ∃ ρ', F_X5_fetch n (xr μ ρ) (nI l) (uc by_) = some (xr μ ρ') ∧ RRep ρ' (sFetch a l by_) := by
  have z := I.sz
  have h6 := I.hn
  have IC := I.1
  have h1 := IC.1
  have h8 := IC.2.1
  have h4 := IC.2.2.2.1
  have hw1 := IC.2.2.1
  have hs : l % aC a 0 < 8 := Nat.lt_of_lt_of_le (Nat.mod_lt _ h1) h8
  have e0 : ρ 349 = nI (aC a 0) := h.c 0 (by decide)
  have Ie := Inv_erase I l
  obtain ⟨ρ1, e1, c1⟩ := R_forgetLine h z I.2.2.1.2.2.1 hn μ l
  have es : ρ1 (l % aC a 0) = nI (aS a (l % aC a 0)).length := (c1.2.1 _ hs).1
  have ew : ρ1 350 = nI (aC a 1) := c1.c 1 (by decide)
  have hlen := (I.2.1 (l % aC a 0)).2.1
  unfold F_X5_fetch sFetch
  rw [show (349 : Int32) = nI 349 from rfl, gd (by decide), cl (by decide), xr_1, e0, if_neg (show ¬ nI (aC a 0) = (0 : Int32) from nI_ne0 h1 (by omega)), x_remN (by omega) h1 (by omega), e1, Option.bind_some, Int32.zero_add, gd (by omega), cl (by omega), show (350 : Int32) = nI 350 from rfl, gd (by decide), cl (by decide), xr_1, xr_1, es, ew]
  by_cases q : (aS a (l % aC a 0)).length < aC a 1
  · rw [if_neg (fun e => by rw [nI_eq (by omega) (by omega)] at e; omega), if_pos q]
    exact R_fetch41 c1 Ie.sz n μ hs (by show (aS a _).length < 4; omega) l h6 hb
  · rw [if_pos (by congr 1; omega), if_neg q]
    cases hS : aS a (l % aC a 0) with
    | nil =>
      rw [hS] at q
      exact absurd hw1 q
    | cons r l9 =>
      obtain ⟨ρ2, e2, c2⟩ := R_throw c1 Ie hn μ hs (show aS (sErase a l) (l % aC a 0) = r :: l9 from hS) by_
      have Io := Inv_out (s := l % aC a 0) (by_ := by_) Ie hb hB
      have hl2 : (aS (sOut (sErase a l) (l % aC a 0) by_) (l % aC a 0)).length < 4 := by
        rw [sOut_S (show aS (sErase a l) (l % aC a 0) = r :: l9 from hS), va_up_eq]
        rw [hS] at hlen
        simp at hlen
        omega
      rw [e2, Option.bind_some]
      exact R_fetch41 c2 Io.sz n μ hs hl2 l h6 hb
