/-! the object, with its record and its snapshot *)  -/
theorem io {x L H : Int32} (lo hi : Nat) (hL : L = nI lo) (hH : H = nI hi) (hh : hi < 2 ^ 31) (hlo : lo ≤ hi) : (F_X4_isOutside x L H = 0 ∧ ∃ k, lo ≤ k ∧ k ≤ hi ∧ x = nI k) ∨ F_X4_isOutside x L H = 1 := by
  subst hL
  subst hH
  unfold F_X4_isOutside
  by_cases q1 : x < nI lo
  · rw [if_pos q1]
    exact Or.inr rfl
  · rw [if_neg q1]
    by_cases q2 : nI hi < x
    · rw [if_pos q2]
      exact Or.inr rfl
    · rw [if_neg q2]
      have q0 : ¬ x < 0 := fun e => q1 (by
        rw [Int32.lt_iff_toInt_lt] at e ⊢
        rw [nI_toInt (by omega)]
        have : (0 : Int32).toInt = 0 := rfl
        omega)
      obtain ⟨j, hj, rfl⟩ := nI_of q0
      rw [nI_ltI hj (by omega)] at q1
      rw [nI_ltI (by omega) hj] at q2
      exact Or.inl ⟨rfl, j, by omega, by omega, rfl⟩
theorem io_s {x : Int32} : (F_X4_isOutside x (-999) 999 = 0 ∧ -999 ≤ x.toInt ∧ x.toInt ≤ 999) ∨ F_X4_isOutside x (-999) 999 = 1 := by
  unfold F_X4_isOutside
  by_cases q1 : x < -999
  · rw [if_pos q1]
    exact Or.inr rfl
  · rw [if_neg q1]
    by_cases q2 : 999 < x
    · rw [if_pos q2]
      exact Or.inr rfl
    · rw [if_neg q2]
      rw [Int32.lt_iff_toInt_lt] at q1 q2
      have t1 : (-999 : Int32).toInt = -999 := by decide
      have t2 : (999 : Int32).toInt = 999 := by decide
      exact Or.inl ⟨rfl, by omega, by omega⟩
/-- a walk's numbers -/
theorem walk_io (x y z u : Int32) : (F_X4_isWalk x y z u = 1 ∧ ∃ p l c, p < 16 ∧ l < 10000 ∧ c ≤ 30 ∧ x = nI p ∧ y = nI l ∧ u = nI c ∧ ∀ k, k < c → ∃ y, y < 10000 ∧ nI l + nI k * z = nI y) ∨ F_X4_isWalk x y z u = 0 := by
  unfold F_X4_isWalk
  rcases io (x := x) (L := 0) (H := 15) 0 15 rfl rfl (by decide) (by decide) with ⟨o1, p, -, p2, rfl⟩ | o1
  · rcases io (x := y) (L := 0) (H := 9999) 0 9999 rfl rfl (by decide) (by decide) with ⟨o2, l, -, l2, rfl⟩ | o2
    · rcases io_s (x := z) with ⟨o3, h1, h2⟩ | o3
      · rcases io (x := u) (L := 1) (H := 30) 1 30 rfl rfl (by decide) (by decide) with ⟨o4, c, c1, c2, rfl⟩ | o4
        · obtain ⟨d, rfl⟩ : ∃ d, c = d + 1 := ⟨c - 1, by omega⟩
          have ec : nI l + z * (nI (d + 1) - 1) = nI l + nI d * z := by rw [nI_pred, Int32.mul_comm]
          rcases io (x := nI l + nI d * z) (L := 0) (H := 9999) 0 9999 rfl rfl (by decide) (by decide) with ⟨o5, y, -, y2, ey⟩ | o5
          · rw [ec, o1, o2, o3, o4, o5, z00, z00, z00, z00, z00]
            refine Or.inl ⟨rfl, p, l, d + 1, by omega, by omega, by omega, rfl, rfl, rfl, walk_ok (by omega) (by omega) h1 h2 ?_ ?_⟩
            · rw [ey, nI_toInt (by omega)]
              omega
            · rw [ey, nI_toInt (by omega)]
              omega
          · rw [ec, o1, o2, o3, o4, o5, z00, z00, z00, z00, z10]
            exact Or.inr rfl
        · rw [o1, o2, o3, o4, z00, z00, z00, z10]
          exact Or.inr rfl
      · rw [o1, o2, o3, z00, z00, z10]
        exact Or.inr rfl
    · rw [o1, o2, z00, z10]
      exact Or.inr rfl
  · rw [o1, z10]
    exact Or.inr rfl
theorem hp_io {τ : xM} {a : xA} (c : CRep τ a) (I : InvC a) (n : Nat) (x : Int32) : (∃ h, h < aC a 2 ∧ x = nI h ∧ F_X2_helperAt n τ x = some (some (21 + 4 * h))) ∨ F_X2_helperAt n τ x = some none := by
  by_cases q : ∃ h, h < aC a 2 ∧ x = nI h
  · obtain ⟨h, hh, rfl⟩ := q
    exact Or.inl ⟨h, hh, rfl, C_helperAt c I n hh⟩
  · exact Or.inr (C_helperAt_no c I n (fun h hh e => q ⟨h, hh, e⟩))
theorem C_begin {τ : xM} {H n k d p : Nat} (hH : H < 6) : ∃ τ', F_X0_begin n τ (21 + 4 * H) (nI k) (nI d) (nI p) = some τ' ∧ (∀ b, b ≠ 21 + 4 * H → b ≠ 22 + 4 * H → τ' b = τ b) ∧ (∀ i, i < 13 → τ' (21 + 4 * H) (3 + i) = nI (hN k d p i)) ∧ τ' (22 + 4 * H) = x_up τ (22 + 4 * H) 3 0 (22 + 4 * H) := by
  unfold F_X0_begin
  simp only [(gr_G H hH).1, Option.bind_some]
  refine ⟨_, rfl, fun b h1 h2 => ?_, fun i hi => ?_, ?_⟩
  · rw [x_up_row' h2]
    simp only [x_up_row' h1]
  · rw [x_up_row' (by omega)]
    have hi9 : i = 0 ∨ i = 1 ∨ i = 2 ∨ i = 3 ∨ i = 4 ∨ i = 5 ∨ i = 6 ∨ i = 7 ∨ i = 8 ∨ i = 9 ∨ i = 10 ∨ i = 11 ∨ i = 12 := by omega
    rcases hi9 with rfl | rfl | rfl | rfl | rfl | rfl | rfl | rfl | rfl | rfl | rfl | rfl | rfl <;> simp [x_up, hN] <;> rfl
  · funext j
    have hne : 22 + 4 * H ≠ 21 + 4 * H := by omega
    simp only [x_up, if_neg (show ¬ (22 + 4 * H = 21 + 4 * H ∧ _) from fun e => hne e.1)]
theorem C_hire {τ : xM} {a : xA} {B n k d p : Nat} (h : CRep τ a) (I : Inv B a) (h6 : aC a 2 < 6) : ∃ τ', F_X2_hire n τ (nI k) (nI d) (nI p) = some (nI (aC a 2), τ') ∧ CRep τ' (sHire a k d p) := by
  have e6 : τ 0 6 = nI (aC a 2) := h.c 2 (by decide)
  obtain ⟨τ1, e1, f1, v1, t1⟩ := C_begin (τ := τ) (n := n) (k := k) (d := d) (p := p) h6
  unfold F_X2_hire
  rw [e6]
  rcases io (x := nI (aC a 2)) (L := 0) (H := 5) 0 5 rfl rfl (by decide) (by decide) with ⟨o1, -⟩ | o1
  · rw [o1, z00, ite_ok h6 (by omega), nI_clamp (by omega), gr_H _ h6, Option.bind_some, e1, Option.bind_some]
    have e7 : τ1 0 6 = nI (aC a 2) := by
      rw [f1 0 (by omega) (by omega)]
      exact e6
    show ∃ τ', some (x_up τ1 0 6 (τ1 0 6 + 1) 0 6 - 1, x_up τ1 0 6 (τ1 0 6 + 1)) = _ ∧ _
    rw [x_up_at, e7, nI_1, nI_pred]
    have f2 : ∀ b, b ≠ 0 → b ≠ 21 + 4 * aC a 2 → b ≠ 22 + 4 * aC a 2 → x_up τ1 0 6 (nI (aC a 2 + 1)) b = τ b := fun b h0 h1 h2 => by rw [x_up_row' h0, f1 b h1 h2]
    refine ⟨_, rfl, fun i hi => ?_, fun s hs => (h.2.1 s hs).fr (f2 _ (by omega) (by omega) (by omega)) (f2 _ (by omega) (by omega) (by omega)), h.2.2.1.fr (f2 _ (by omega) (by omega) (by omega)) (f2 _ (by omega) (by omega) (by omega)), fun h9 hh i hi => ?_, fun h9 hh => ?_, h.2.2.2.2.2.fr (f2 _ (by omega) (by omega) (by omega)) (f2 _ (by omega) (by omega) (by omega))⟩
    · by_cases q : i = 2
      · subst q
        rw [x_up_at]
        rfl
      · rw [x_up_off (by omega), f1 0 (by omega) (by omega), sHire_C _ _ _ _ _ q]
        exact h.1 i hi
    · have hh' : h9 < aC a 2 + 1 := hh
      rw [x_up_row' (by omega)]
      by_cases q : h9 = aC a 2
      · have e : aH (sHire a k d p) h9 i = hN k d p i := if_pos q
        rw [e, q]
        exact v1 i hi
      · have e : aH (sHire a k d p) h9 i = aH a h9 i := if_neg q
        rw [e, f1 _ (by omega) (by omega)]
        exact h.2.2.2.1 h9 (by omega) i hi
    · show CR _ _ 4 4 (va_up (aG a) (aC a 2) [] h9)
      by_cases q : h9 = aC a 2
      · rw [q, va_up_eq]
        refine CR.fr (τ := x_up τ (22 + 4 * aC a 2) 3 0) (h.2.2.2.2.1 _ h6).nil ?_ ?_
        · rw [x_up_row' (by omega)]
          exact t1
        · rw [f2 _ (by omega) (by omega) (by omega), x_up_row' (by omega)]
      · rw [va_up_off q]
        exact (h.2.2.2.2.1 h9 hh).fr (f2 _ (by omega) (by omega) (by omega)) (f2 _ (by omega) (by omega) (by omega))
  · exfalso
    unfold F_X4_isOutside at o1
    rw [if_neg (nI_pos (by omega)), if_neg (show ¬ (5 : Int32) < nI (aC a 2) from nI_nlt (b := aC a 2) (a := 5) (by omega) (by omega))] at o1
    exact absurd o1 (by decide)
theorem PO.low {σ σ' : xM} {hs : Nat → xA} {oo : Nat → Nat} (h : PO σ hs oo) (h1 : σ' 1 = σ 1) (h2 : ∀ r, 145 ≤ r → σ' r = σ r) : PO σ' hs oo := ⟨fun k hk => by
  obtain ⟨e, c⟩ := h.1 k hk
  have g := hsO_ge e
  exact ⟨by rw [h1]; exact e, c.low (fun r hr => h2 (oo k + r) (by omega))⟩, h.2⟩
/-- the object holds a; tp: what the last record is, where it matters; sn: what the snapshot is, where it matters -/
def PRel (B : Nat) (σ : xM) (a : xA) (tp sn : Option xA) : Prop := (CRep (x_sh 4 σ) a ∧ Jnv B a) ∧ (∃ hs oo m, PO σ hs oo ∧ m ≤ 4 ∧ σ 0 6 = nI m ∧ ∀ b, tp = some b → 1 ≤ m ∧ hs (m - 1) = b ∧ Jnv B b) ∧ (∃ sc s0 kp, CR6 (x_sh 51 σ) sc ∧ CR6 (x_sh 98 σ) s0 ∧ kp ≤ 1 ∧ σ 0 5 = nI kp ∧ ∀ b, sn = some b → kp = 1 ∧ s0 = b ∧ Jnv B b) ∧ σ 2 1 = 0
theorem PRel.cr {B : Nat} {σ : xM} {a : xA} {tp sn : Option xA} (R : PRel B σ a tp sn) : CRep (x_sh 4 σ) a := R.1.1
theorem PRel.inv {B : Nat} {σ : xM} {a : xA} {tp sn : Option xA} (R : PRel B σ a tp sn) : Inv B a := R.1.2.1
theorem PRel.jnv {B : Nat} {σ : xM} {a : xA} {tp sn : Option xA} (R : PRel B σ a tp sn) : Jnv B a := R.1.2
theorem PRel.h6 {B : Nat} {σ : xM} {a : xA} {tp sn : Option xA} (R : PRel B σ a tp sn) : aC a 2 ≤ 6 := R.inv.hn
theorem PRel.cf {B : Nat} {σ : xM} {a : xA} {tp sn : Option xA} (R : PRel B σ a tp sn) {h : Nat} (hh : h < aC a 2) (k : Nat) (hk : k < 13) : σ (4 + (21 + 4 * h)) (3 + k) = nI (aH a h k) := R.cr.f hh k hk
theorem PRel.cur {B B' : Nat} {σ σ' : xM} {a a' : xA} {tp sn : Option xA} (R : PRel B σ a tp sn) (hB : B ≤ B') (h1 : σ' 0 = σ 0) (h2 : ∀ r, r = 1 ∨ r = 2 ∨ r = 3 ∨ 51 ≤ r → σ' r = σ r) (c : CRep (x_sh 4 σ') a') (J : Jnv B' a') : PRel B' σ' a' tp sn := by
  obtain ⟨-, ⟨hs, oo, m, p1, p2, p3, p4⟩, ⟨sc, s0, kp, s1, s2, s3, s4, s5⟩, t⟩ := R
  refine ⟨⟨c, J⟩, ⟨hs, oo, m, p1.low (h2 1 (Or.inl rfl)) (fun r hr => h2 r (by omega)), p2, by rw [h1]; exact p3, fun b hb => ?_⟩, ⟨sc, s0, kp, s1.low (fun r hr => h2 (51 + r) (by omega)), s2.low (fun r hr => h2 (98 + r) (by omega)), s3, by rw [h1]; exact s4, fun b hb => ?_⟩, by rw [h2 2 (by omega)]; exact t⟩
  · obtain ⟨q1, q2, q3⟩ := p4 b hb
    exact ⟨q1, q2, q3.mono hB J.1.b⟩
  · obtain ⟨q1, q2, q3⟩ := s5 b hb
    exact ⟨q1, q2, q3.mono hB J.1.b⟩
theorem PRel.mono {B B' : Nat} {σ : xM} {a : xA} {tp sn : Option xA} (R : PRel B σ a tp sn) (hB : B ≤ B') (hb : B' < 2 ^ 30) : PRel B' σ a tp sn := R.cur hB rfl (fun _ _ => rfl) R.cr (R.jnv.mono hB hb)
theorem PRel.none {B : Nat} {σ : xM} {a : xA} {tp sn : Option xA} (R : PRel B σ a tp sn) : PRel B σ a none sn := by
  obtain ⟨r, ⟨hs, oo, m, p1, p2, p3, p4⟩, s⟩ := R
  exact ⟨r, ⟨hs, oo, m, p1, p2, p3, fun b hb => by cases hb⟩, s⟩
/-- a record -/
theorem PRel.rec {B n : Nat} {σ : xM} {a : xA} {tp sn : Option xA} (R : PRel B σ a tp sn) (hn : 400 < n) : ∃ σ', F_X4_remember n σ = some σ' ∧ PRel B σ' a (some a) sn := by
  obtain ⟨⟨c, J⟩, ⟨hs, oo, m, p1, p2, p3, p4⟩, ⟨sc, s0, kp, s1, s2, s3, s4, s5⟩, t⟩ := R
  obtain ⟨σ', hs', oo', e1, x1, x2, x3, x4, x5⟩ := T_remember hn p2 p3 p1 ⟨c, J.1.hn⟩
  refine ⟨σ', e1, ⟨c.low J.1.hn (fun r hr => x3 (4 + r) (by omega) (by omega) (by omega)), J⟩, ⟨hs', oo', min m 3 + 1, x4, by omega, x1, fun b hb => ?_⟩, ⟨sc, s0, kp, s1.low (fun r hr => x3 (51 + r) (by omega) (by omega) (by omega)), s2.low (fun r hr => x3 (98 + r) (by omega) (by omega) (by omega)), s3, by rw [x2 5 (by decide)]; exact s4, s5⟩, by rw [x3 2 (by decide) (by decide) (by decide)]; exact t⟩
  cases hb
  exact ⟨by omega, by rw [x5, if_pos (by omega)], J⟩
/-- a step over what stands now -/
theorem PRel.act {B B' : Nat} {σ τ' : xM} {a a' : xA} {tp sn : Option xA} (R : PRel B σ a tp sn) (hB : B ≤ B') (c : CRep τ' a') (J : Jnv B' a') : PRel B' (x_pt 4 τ' σ) a' tp sn := by
  refine R.cur hB ?_ (fun r hr => ?_) (c.low J.1.hn (fun r hr => x_sh_pt hr)) J
  · funext k
    simp only [x_pt]
    rw [if_neg (by omega)]
  · funext k
    simp only [x_pt]
    rw [if_neg (by omega)]
/-- an act: refused, and nothing has changed; or done, and the state ahead of it is recorded -/
def PA (B : Nat) (a : xA) (tp sn : Option xA) (f : Option (Int32 × xM)) : Prop := ∃ v σ', f = some (v, σ') ∧ ((v < 0 ∧ PRel B σ' a tp sn) ∨ (¬ v < 0 ∧ ∃ a', PRel B σ' a' (some a) sn))
theorem PA.no {B B' : Nat} {σ : xM} {a : xA} {tp sn : Option xA} (R : PRel B σ a tp sn) (hB : B ≤ B') (hb : B' < 2 ^ 30) (v : Int32) (hv : v < 0) : PA B' a tp sn (some (v, σ)) := ⟨v, σ, rfl, Or.inl ⟨hv, R.mono hB hb⟩⟩
theorem PA.yes {B : Nat} {σ' : xM} {a a' : xA} {tp sn : Option xA} {k : Nat} (hk : k < 2 ^ 31) (R : PRel B σ' a' (some a) sn) : PA B a tp sn (some (nI k, σ')) := ⟨_, σ', rfl, Or.inr ⟨nI_pos hk, a', R⟩⟩
theorem lines_le {B : Nat} {a : xA} (I : Inv B a) : sLines a 8 < 100 := by
  have h : ∀ m, sLines a m ≤ 4 * m := by
    intro m
    induction m with
    | zero => exact Nat.le_refl _
    | succ m ih =>
      have h4 : (aS a m).length ≤ 4 := Nat.le_trans (I.2.1 m).2.1 I.1.2.2.2.1
      show sLines a m + (aS a m).length ≤ _
      omega
  have := h 8
  omega
theorem P_shape {B n : Nat} {σ : xM} {a : xA} {tp sn : Option xA} (R : PRel B σ a tp sn) (hn : 400 < n) (hB : B + 30000 < 2 ^ 30) (x y : Int32) : PA (B + 30000) a tp sn (F_X4_shape n σ x y) := by
  have no := fun v hv => PA.no R (B' := B + 30000) (by omega) hB v hv
  unfold F_X4_shape
  rcases io (x := x) (L := 1) (H := 8) 1 8 rfl rfl (by decide) (by decide) with ⟨o1, s, s1, s2, rfl⟩ | o1
  · rcases io (x := y) (L := 1) (H := 4) 1 4 rfl rfl (by decide) (by decide) with ⟨o2, w, w1, w2, rfl⟩ | o2
    · rw [o1, o2, z00, z00]
      have key : PA (B + 30000) a tp sn (B_X4_shape_47 n σ (nI s) (nI w)) := by
        obtain ⟨σ1, e1, R1⟩ := R.rec hn
        obtain ⟨τ', f1, c1⟩ := C_empty R1.cr R1.inv (n := n) (by omega) (by omega)
        have J1 := J_empty R1.jnv (by omega) 8 (by decide)
        have em := sEmpty_nil R1.inv
        generalize sEmpty 8 a = b9 at c1 J1 em
        unfold B_X4_shape_47
        rw [e1, Option.bind_some, f1, Option.bind_some]
        show PA _ _ _ _ (some (_, x_up (x_up (x_up (x_pt 4 τ' σ1) (4 + 18) 3 0) (4 + 0) 4 (nI s)) (4 + 0) 5 (nI w)))
        rw [x_pt_up (by decide), x_pt_up (by decide), x_pt_up (by decide)]
        have d1 : CRep (x_up τ' 18 3 0) (wT b9 ([] : List xR)) := c1.setT (fun b h1 h2 => x_up_row' h1) c1.2.2.1.nil
        have d2 := (d1.setC (i := 0) (v := s) (by decide)).setC (i := 1) (v := w) (by decide)
        have := lines_le R.inv
        have J2 : Jnv (B + 30000) (wC (wT b9 []) (va_up (va_up (aC b9) 0 s) 1 w)) := (J_shape J1 em s1 s2 w1 w2).mono (by omega) hB
        have R2 := R1.act (B' := B + 30000) (by omega) d2 J2
        exact PA.yes (k := sLines a 8) (by omega) R2
      split
      · split
        · exact no _ (by decide)
        · exact key
      · exact key
    · rw [o1, o2, z00, z10]
      exact no _ (by decide)
  · rw [o1, z10]
    exact no _ (by decide)
theorem P_flush {B n : Nat} {σ : xM} {a : xA} {tp sn : Option xA} (R : PRel B σ a tp sn) (hn : 400 < n) (hB : B + 30000 < 2 ^ 30) : PA (B + 30000) a tp sn (F_X4_flush n σ) := by
  unfold F_X4_flush
  rw [C_lines R.cr (by omega : 20 < n), Option.bind_some]
  split
  · exact PA.no R (by omega) hB _ (by decide)
  · obtain ⟨σ1, e1, R1⟩ := R.rec hn
    obtain ⟨τ', f1, c1⟩ := C_empty R1.cr R1.inv (n := n) (by omega) (by omega)
    rw [e1, Option.bind_some, f1, Option.bind_some]
    have := lines_le R.inv
    exact PA.yes (by omega) (R1.act (by omega) c1 ((J_empty R1.jnv (by omega) 8 (by decide)).mono (by omega) hB))
theorem P_addHelper {B n : Nat} {σ : xM} {a : xA} {tp sn : Option xA} (R : PRel B σ a tp sn) (hn : 400 < n) (hB : B + 30000 < 2 ^ 30) (x y z : Int32) : PA (B + 30000) a tp sn (F_X4_addHelper n σ x y z) := by
  have no := fun v hv => PA.no R (B' := B + 30000) (by omega) hB v hv
  have h6 := R.h6
  unfold F_X4_addHelper
  rcases io (x := x) (L := 0) (H := 2) 0 2 rfl rfl (by decide) (by decide) with ⟨o1, k, -, k2, rfl⟩ | o1
  · rcases io (x := y) (L := 1) (H := 4) 1 4 rfl rfl (by decide) (by decide) with ⟨o2, d, d1, d4, rfl⟩ | o2
    · rcases io (x := z) (L := 1) (H := 9) 1 9 rfl rfl (by decide) (by decide) with ⟨o3, p, p1, p9, rfl⟩ | o3
      · rw [o1, o2, o3, z00, z00, z00, show σ (4 + 0) 6 = nI (aC a 2) from R.cr.c 2 (by decide)]
        by_cases q : aC a 2 < 6
        · rw [if_pos (show nI (aC a 2) < (6 : Int32) from nI_lt (b := 6) q (by omega))]
          obtain ⟨σ1, f1, R1⟩ := R.rec hn
          obtain ⟨τ', e1, c1⟩ := C_hire (n := n) (k := k) (d := d) (p := p) R1.cr R1.inv q
          rw [f1, Option.bind_some, e1, Option.bind_some]
          exact PA.yes (by omega) (R1.act (by omega) c1 ((J_hire R1.jnv q k2 d1 d4 p1 p9).mono (by omega) hB))
        · rw [if_neg (show ¬ nI (aC a 2) < (6 : Int32) from nI_nlt (b := 6) (by omega) (by omega))]
          exact no _ (by decide)
      · rw [o1, o2, o3, z00, z00, z10]
        exact no _ (by decide)
    · rw [o1, o2, z00, z10]
      exact no _ (by decide)
  · rw [o1, z10]
    exact no _ (by decide)
theorem P_setDegree {B n : Nat} {σ : xM} {a : xA} {tp sn : Option xA} (R : PRel B σ a tp sn) (hn : 400 < n) (hB : B + 30000 < 2 ^ 30) (x y : Int32) : PA (B + 30000) a tp sn (F_X4_setDegree n σ x y) := by
  have no := fun v hv => PA.no R (B' := B + 30000) (by omega) hB v hv
  have h6 := R.h6
  unfold F_X4_setDegree
  rcases hp_io R.cr R.inv.1 n x with ⟨h, hh, rfl, e1⟩ | e1
  · rw [e1, Option.bind_some]
    show PA _ _ _ _ (if F_X4_isOutside y 1 4 = 0 then _ else _)
    rcases io (x := y) (L := 1) (H := 4) 1 4 rfl rfl (by decide) (by decide) with ⟨o2, w, w1, w2, rfl⟩ | o2
    · rw [o2, z00]
      split
      · exact no _ (by decide)
      · obtain ⟨σ1, f1, R1⟩ := R.rec hn
        rw [f1, Option.bind_some]
        show PA _ _ _ _ (some (σ1 (4 + (21 + 4 * h)) 4, x_up σ1 (4 + (21 + 4 * h)) (3 + 1) (nI w)))
        rw [show σ1 (4 + (21 + 4 * h)) 4 = nI (aH a h 1) from R1.cf hh 1 (by decide), x_up_pt (by omega)]
        have i4 := (R.inv.2.2.2.1 h hh).2.2.1
        exact PA.yes (by omega) (R1.act (by omega) (R1.cr.setH h6 hh (k := 1) (v := w) (by decide)) ((J_deg R1.jnv hh w1 w2).mono (by omega) hB))
    · rw [o2, z10]
      exact no _ (by decide)
  · rw [e1, Option.bind_some]
    exact no _ (by decide)
theorem P_setTrial {B n : Nat} {σ : xM} {a : xA} {tp sn : Option xA} (R : PRel B σ a tp sn) (hn : 400 < n) (hB : B + 30000 < 2 ^ 30) (x : Int32) : PA (B + 30000) a tp sn (F_X4_setTrial n σ x) := by
  have no := fun v hv => PA.no R (B' := B + 30000) (by omega) hB v hv
  unfold F_X4_setTrial
  rcases io (x := x) (L := 1) (H := 9) 1 9 rfl rfl (by decide) (by decide) with ⟨o2, w, w1, w2, rfl⟩ | o2
  · rw [o2, z00]
    split
    · exact no _ (by decide)
    · obtain ⟨σ1, f1, R1⟩ := R.rec hn
      rw [f1, Option.bind_some]
      show PA _ _ _ _ (some (σ1 (4 + 0) 7, x_up σ1 (4 + 0) (4 + 3) (nI w)))
      rw [show σ1 (4 + 0) 7 = nI (aC a 3) from R1.cr.c 3 (by decide), x_up_pt (by decide)]
      have i3 := R.inv.1.2.2.2.2.2.2
      exact PA.yes (by omega) (R1.act (by omega) (R1.cr.setC (i := 3) (v := w) (by decide)) ((J_trial R1.jnv w1 w2).mono (by omega) hB))
  · rw [o2, z10]
    exact no _ (by decide)
theorem P_pardon {B n : Nat} {σ : xM} {a : xA} {tp sn : Option xA} (R : PRel B σ a tp sn) (hn : 400 < n) (hB : B + 30000 < 2 ^ 30) (x : Int32) : PA (B + 30000) a tp sn (F_X4_pardon n σ x) := by
  have no := fun v hv => PA.no R (B' := B + 30000) (by omega) hB v hv
  have h6 := R.h6
  unfold F_X4_pardon
  rcases hp_io R.cr R.inv.1 n x with ⟨h, hh, rfl, e1⟩ | e1
  · rw [e1, Option.bind_some]
    show PA _ _ _ _ (if σ (4 + (21 + 4 * h)) 6 = 0 then _ else _)
    split
    · exact no _ (by decide)
    · obtain ⟨σ1, f1, R1⟩ := R.rec hn
      rw [f1, Option.bind_some]
      have e7 : x_sh 4 σ1 (21 + 4 * h) 7 = nI (aH a h 4) := R1.cf hh 4 (by decide)
      have e14 : x_sh 4 σ1 (21 + 4 * h) 14 = nI (aH a h 11) := R1.cf hh 11 (by decide)
      unfold F_X0_release
      simp only [Option.bind_some]
      rw [e7, e14, nI_add]
      have d1 := (((R1.cr.setH h6 hh (k := 11) (v := aH a h 11 + aH a h 4) (by decide)).setH h6 hh (k := 4) (v := 0) (by decide)).setH h6 hh (k := 5) (v := 0) (by decide)).setH h6 hh (k := 3) (v := 0) (by decide)
      have i4 := (R.inv.2.2.2.1 h hh).2.2.2.2.2.2.1
      exact PA.yes (by omega) (R1.act (by omega) d1 ((J_free R1.jnv hh).mono (by omega) hB))
  · rw [e1, Option.bind_some]
    exact no _ (by decide)
theorem P_forget {B n : Nat} {σ : xM} {a : xA} {tp sn : Option xA} (R : PRel B σ a tp sn) (hn : 400 < n) (hB : B + 30000 < 2 ^ 30) (x : Int32) : PA (B + 30000) a tp sn (F_X4_forget n σ x) := by
  have no := fun v hv => PA.no R (B' := B + 30000) (by omega) hB v hv
  have h6 := R.h6
  unfold F_X4_forget
  rcases hp_io R.cr R.inv.1 n x with ⟨h, hh, rfl, e1⟩ | e1
  · rw [e1, Option.bind_some]
    show PA _ _ _ _ (if σ (4 + (21 + 4 * h)) 3 = 2 then _ else _)
    split
    · exact no _ (by decide)
    · have eg := (gr_G h (by omega)).1
      rw [eg, Option.bind_some]
      split
      · exact no _ (by decide)
      · obtain ⟨σ1, f1, R1⟩ := R.rec hn
        have cG := R1.cr.2.2.2.2.1 h (by omega)
        have el1 : σ1 (4 + (22 + 4 * h)) 3 = nI (aG a h).length := cG.2.2.1
        rw [f1, Option.bind_some, Option.bind_some, Option.bind_some, el1]
        show PA _ _ _ _ (some (_, x_up σ1 (4 + (22 + 4 * h)) 3 0))
        rw [x_up_pt (by omega)]
        have d1 := R1.cr.setG h6 (h0 := h) (l := []) (by omega) (fun b h1 h2 => x_up_row' h1) cG.nil
        have l4 := cG.2.2.2.1
        exact PA.yes (by omega) (R1.act (by omega) d1 ((J_forget R1.jnv).mono (by omega) hB))
  · rw [e1, Option.bind_some]
    exact no _ (by decide)
