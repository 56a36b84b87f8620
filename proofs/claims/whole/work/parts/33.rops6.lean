/-! the check: learning *)  -/
theorem R_strideTail (n : Nat) (σ : xM) (l1 l2 l3 l4 : Int32) (r : xR) : (if l3 - r 1 = r 2 then (if l3 - r 1 = (0 : Int32) then B_X5_learnStride_166 n σ l1 l2 l3 l4 (l3 - r 1) (r 2) (r 3) else (if r 3 < (3 : Int32) then B_X5_learnStride_160 n σ l1 l2 l3 l4 (r 2) (r 3) 1 else B_X5_learnStride_160 n σ l1 l2 l3 l4 (r 2) (r 3) 0)) else B_X5_learnStride_166 n σ l1 l2 l3 l4 (l3 - r 1) (r 2) (r 3)) = B_X5_learnStride_195 n σ l1 l2 l3 l4 (sStride l3 r).1 (sStride l3 r).2 := by
  have k166 : B_X5_learnStride_166 n σ l1 l2 l3 l4 (l3 - r 1) (r 2) (r 3) = B_X5_learnStride_195 n σ l1 l2 l3 l4 (if (if 0 < r 3 then r 3 - 1 else r 3) = 0 then l3 - r 1 else r 2) (if 0 < r 3 then r 3 - 1 else r 3) := by
    unfold B_X5_learnStride_166 B_X5_learnStride_178 B_X5_learnStride_193
    by_cases c : (0 : Int32) < r 3
    · rw [if_pos c, if_pos c]
      by_cases c2 : r 3 - 1 = 0
      · rw [if_pos c2, if_pos c2]
      · rw [if_neg c2, if_neg c2]
    · rw [if_neg c, if_neg c, Int32.sub_zero]
      by_cases c2 : r 3 = 0
      · rw [if_pos c2, if_pos c2]
      · rw [if_neg c2, if_neg c2]
  unfold sStride
  by_cases q : l3 - r 1 = r 2
  · by_cases q2 : l3 - r 1 = 0
    · simp only [if_neg (show ¬ (l3 - r 1 = r 2 ∧ ¬ l3 - r 1 = 0) from fun e => e.2 q2)]
      rw [if_pos q, if_pos q2, k166]
    · simp only [if_pos (show l3 - r 1 = r 2 ∧ ¬ l3 - r 1 = 0 from ⟨q, q2⟩)]
      rw [if_pos q, if_neg q2]
      unfold B_X5_learnStride_160
      by_cases c : r 3 < 3
      · rw [if_pos c, if_pos c]
      · rw [if_neg c, if_neg c, Int32.add_zero]
  · simp only [if_neg (show ¬ (l3 - r 1 = r 2 ∧ ¬ l3 - r 1 = 0) from fun e => q e.1)]
    rw [if_neg q, k166]
theorem R_learnStride {ρ : Nat → Int32} {a : xA} {B : Nat} (h : RRep ρ a) (I : Inv B a) {h0 : Nat} (hh : h0 < aC a 2) {n : Nat} (hn : 20 < n) {μ : xM} (h5 : μ 0 5 = 0) {p l o : Nat} (hk : aH a h0 0 = 0) (hp : p < 16) : ∃ ρ', F_X5_learnStride n (xr μ ρ) (nI h0) (nI p) (nI l) = some (xr (x_up μ 0 5 (sLearn a h0 p l o).1) ρ') ∧ RRep ρ' (sLearn a h0 p l o).2 := by
  have z := I.sz
  have h6 := I.hn
  obtain ⟨i1, i2, i3⟩ := (I.2.2.2.2.1 h0 hh).1 hk
  obtain ⟨-, g1, g2⟩ := h.2.2.2.1 h0 hh
  have et : ∀ x, tG (aH a h0 0) 0 x = x := fun x => by rw [hk]; rfl
  have loop : ∀ (f k : Nat), k ≤ (aG a h0).length → (aG a h0).length - k < f → ∃ ρ', B_X5_learnStride_6 n f (xr μ ρ) (nI h0) (nI p) (nI l) (lm (aG a h0) (nI p) k) (nI k) = some (xr (x_up μ 0 5 (sLearn a h0 p l o).1) ρ') ∧ RRep ρ' (sLearn a h0 p l o).2 := by
    intro f
    induction f with
    | zero => intro k _ h; omega
    | succ f ih =>
      intro k hk' hf
      show ∃ ρ', (if F_X5_of (nI h0) (13 : Int32) < 0 ∨ 2506 ≤ (F_X5_of (nI h0) (13 : Int32)).toNatClampNeg then _ else _) = some _ ∧ _
      rw [show F_X5_of (nI h0) (13 : Int32) = nI (120 + 14 * h0 + 13) from R_of h0 13, gd (by omega), cl (by omega), xr_1, g1]
      by_cases q : k < (aG a h0).length
      · obtain ⟨r, hr⟩ : ∃ r, (aG a h0)[k]? = some r := ⟨_, List.getElem?_eq_getElem q⟩
        have e0 : ρ (204 + 16 * h0 + k * 4) = r 0 := (g2 k r hr 0 (by decide)).trans (et _)
        have el : lm (aG a h0) (nI p) (k + 1) = if r 0 = nI p then nI k else lm (aG a h0) (nI p) k := by
          show (match (aG a h0)[k]? with | some r => if r 0 = nI p then nI k else lm (aG a h0) (nI p) k | none => lm (aG a h0) (nI p) k) = _
          rw [hr]
        have hi := ih (k + 1) q (by omega)
        rw [el] at hi
        rw [if_pos (nI_lt q (by omega)), R_row, gd (by omega), cl (by omega), xr_1, e0]
        unfold B_X5_learnStride_44
        by_cases c : r 0 = nI p
        · rw [if_pos c] at hi
          rw [if_pos c, nI_1]
          exact hi
        · rw [if_neg c] at hi
          rw [if_neg c, nI_1]
          exact hi
      · have ek : k = (aG a h0).length := by omega
        subst ek
        rw [if_neg (nI_nlt (Nat.le_refl _) (by omega)), lm_eq i3 _ _ (Nat.le_refl _)]
        cases hr : (aG a h0)[kIdx (aG a h0) (nI p)]? with
        | none =>
          have q2 : ¬ kIdx (aG a h0) (nI p) < (aG a h0).length := fun q => by
            rw [List.getElem?_eq_getElem q] at hr
            cases hr
          have es : sLearn a h0 p l o = (0, sNew a h0 4 (nI p) (nI l)) := by
            unfold sLearn
            rw [if_pos hk, hr]
          rw [if_neg q2, if_pos (by decide), gd2 (by omega), es, x_up_self h5]
          obtain ⟨ρ', e, c⟩ := R_new h z hn μ hh (m := 4) i1 (by decide) (by decide) (nI p) (nI l) (nI p) (et _).symm (fun σ => B_X5_learnStride_78 n σ (nI h0) (nI p) (nI l)) (fun ρ1 => by
            unfold B_X5_learnStride_78
            cases F_X5_addRow n (xr μ ρ1) (nI h0) (nI p) (nI l) 0 0 with
            | none => rfl
            | some v => rfl)
          rw [g1] at e
          exact ⟨ρ', e, c⟩
        | some r =>
          have q2 := lt_of_get hr
          have hkey : r 0 = nI p := by
            obtain ⟨r9, h91, h92⟩ := kIdx_get q2
            rw [hr] at h91
            cases h91
            exact h92
          have es : sLearn a h0 p l o = (if 1 < (sStride (nI l) r).2 then (sStride (nI l) r).1 else 0, sMove a h0 (kIdx (aG a h0) (nI p)) r (nI l) (sStride (nI l) r).1 (sStride (nI l) r).2) := by
            unfold sLearn
            rw [if_pos hk, hr]
          have e1 : ρ (204 + 16 * h0 + kIdx (aG a h0) (nI p) * 4 + 1) = r 1 := g2 _ r hr 1 (by decide)
          have e2 : ρ (204 + 16 * h0 + kIdx (aG a h0) (nI p) * 4 + 2) = r 2 := g2 _ r hr 2 (by decide)
          have e3 : ρ (204 + 16 * h0 + kIdx (aG a h0) (nI p) * 4 + 3) = r 3 := g2 _ r hr 3 (by decide)
          obtain ⟨ρ1, ρ2, c1, c2, c3⟩ := R_move h z hn μ hh hr (nI p) (nI l) (sStride (nI l) r).1 (sStride (nI l) r).2 (by rw [et, hkey])
          rw [if_pos q2, if_neg (nI_pos (by omega)), R_row]
          generalize hP : kIdx (aG a h0) (nI p) = P at *
          rw [show nI (204 + 16 * h0 + P * 4) + 1 = nI (204 + 16 * h0 + P * 4 + 1) from nI_add _ 1, show nI (204 + 16 * h0 + P * 4) + 2 = nI (204 + 16 * h0 + P * 4 + 2) from nI_add _ 2, show nI (204 + 16 * h0 + P * 4) + 3 = nI (204 + 16 * h0 + P * 4 + 3) from nI_add _ 3]
          simp (disch := omega) only [gd, gd2, cl, xr_1, e1, e2, e3]
          rw [R_strideTail, es]
          unfold B_X5_learnStride_195
          rw [c1, Option.bind_some, c2, Option.bind_some]
          by_cases c9 : (1 : Int32) < (sStride (nI l) r).2
          · rw [if_pos c9, if_pos c9, xr_up0 μ ρ2 (by decide)]
            exact ⟨ρ2, rfl, c3⟩
          · rw [if_neg c9, if_neg c9, xr_up0 μ ρ2 (by decide)]
            exact ⟨ρ2, rfl, c3⟩
  exact loop n 0 (Nat.zero_le _) (by omega)
def lw (x : Int32) (G : List xR) (k : Nat) : Int32 := match lastK x G k with
  | none => -1
  | some w => nI w
theorem near_in (d : Int32) : (¬ d = 0 ∧ -4 ≤ d ∧ d ≤ 4) ↔ (¬ d = 0 ∧ ¬ F_X5_in d (-4) 4 = 0) := by
  unfold F_X5_in
  by_cases c1 : d < -4
  · rw [if_pos c1]
    exact ⟨fun e => absurd c1 (Int32.not_lt.mpr e.2.1), fun e => absurd rfl e.2⟩
  · rw [if_neg c1]
    by_cases c2 : 4 < d
    · rw [if_pos c2]
      exact ⟨fun e => absurd c2 (Int32.not_lt.mpr e.2.2), fun e => absurd rfl e.2⟩
    · rw [if_neg c2]
      exact ⟨fun e => ⟨e.1, by decide⟩, fun e => ⟨e.1, Int32.not_lt.mp c1, Int32.not_lt.mp c2⟩⟩
theorem R_learnStream {ρ : Nat → Int32} {a : xA} {B : Nat} (h : RRep ρ a) (I : Inv B a) {h0 : Nat} (hh : h0 < aC a 2) {n : Nat} (hn : 20 < n) {μ : xM} (h5 : μ 0 5 = 0) {p l o : Nat} (hk : aH a h0 0 = 1) (ho : o ≠ 1) : ∃ ρ', F_X5_learnStream n (xr μ ρ) (nI h0) (nI l) = some (xr (x_up μ 0 5 (sLearn a h0 p l o).1) ρ') ∧ RRep ρ' (sLearn a h0 p l o).2 := by
  have z := I.sz
  have h6 := I.hn
  obtain ⟨i1, i2⟩ := (I.2.2.2.2.1 h0 hh).2.1 hk
  obtain ⟨-, g1, g2⟩ := h.2.2.2.1 h0 hh
  have et : ∀ x, tG (aH a h0 0) 0 x = 0 := fun x => by rw [hk]; rfl
  have hk0 : ¬ aH a h0 0 = 0 := by omega
  have loop : ∀ (f k : Nat), k ≤ (aG a h0).length → (aG a h0).length - k < f → ∃ ρ', B_X5_learnStream_5 n f (xr μ ρ) (nI h0) (nI l) (lw (nI l) (aG a h0) k) (nI k) = some (xr (x_up μ 0 5 (sLearn a h0 p l o).1) ρ') ∧ RRep ρ' (sLearn a h0 p l o).2 := by
    intro f
    induction f with
    | zero => intro k _ h; omega
    | succ f ih =>
      intro k hk' hf
      show ∃ ρ', (if F_X5_of (nI h0) (13 : Int32) < 0 ∨ 2506 ≤ (F_X5_of (nI h0) (13 : Int32)).toNatClampNeg then _ else _) = some _ ∧ _
      rw [show F_X5_of (nI h0) (13 : Int32) = nI (120 + 14 * h0 + 13) from R_of h0 13, gd (by omega), cl (by omega), xr_1, g1]
      by_cases q : k < (aG a h0).length
      · obtain ⟨r, hr⟩ : ∃ r, (aG a h0)[k]? = some r := ⟨_, List.getElem?_eq_getElem q⟩
        have e1 : ρ (204 + 16 * h0 + k * 4 + 1) = r 1 := g2 k r hr 1 (by decide)
        have el : lastK (nI l) (aG a h0) (k + 1) = if nearB (nI l) r then some k else lastK (nI l) (aG a h0) k := by
          show (match (aG a h0)[k]? with | some r => if nearB (nI l) r then some k else lastK (nI l) (aG a h0) k | none => lastK (nI l) (aG a h0) k) = _
          rw [hr]
        have hi := ih (k + 1) q (by omega)
        rw [if_pos (nI_lt q (by omega)), R_row, show nI (204 + 16 * h0 + k * 4) + 1 = nI (204 + 16 * h0 + k * 4 + 1) from nI_add _ 1, gd (by omega), cl (by omega), xr_1, e1]
        unfold B_X5_learnStream_59 B_X5_learnStream_60
        rw [nI_1]
        by_cases c : ¬ nI l - r 1 = 0 ∧ -4 ≤ nI l - r 1 ∧ nI l - r 1 ≤ 4
        · have c2 := (near_in _).mp c
          have eb : nearB (nI l) r = true := decide_eq_true c
          rw [if_neg c2.1, if_neg c2.2]
          have ew : lw (nI l) (aG a h0) (k + 1) = nI k := by
            unfold lw
            rw [el, eb, if_pos rfl]
          rw [ew] at hi
          exact hi
        · have eb : nearB (nI l) r = false := decide_eq_false c
          have ew : lw (nI l) (aG a h0) (k + 1) = lw (nI l) (aG a h0) k := by
            unfold lw
            rw [el, eb, if_neg (by decide)]
          rw [ew] at hi
          by_cases c1 : nI l - r 1 = 0
          · rw [if_pos c1]
            exact hi
          · rw [if_neg c1]
            by_cases c2 : F_X5_in (nI l - r 1) (-4) 4 = 0
            · rw [if_pos c2]
              exact hi
            · exact absurd ((near_in _).mpr ⟨c1, c2⟩) c
      · have ek : k = (aG a h0).length := by omega
        subst ek
        rw [if_neg (nI_nlt (Nat.le_refl _) (by omega))]
        unfold lw
        cases hw : lastK (nI l) (aG a h0) (aG a h0).length with
        | none =>
          have es : sLearn a h0 p l o = (0, sNew a h0 3 (-100005) (nI l)) := by
            unfold sLearn lastN
            rw [if_neg hk0, if_pos hk, if_neg ho, hw]
          rw [if_pos (show (-1 : Int32) < 0 by decide), gd2 (by omega), es, x_up_self h5]
          obtain ⟨ρ', e, c⟩ := R_new h z hn μ hh (m := 3) i1 (by decide) (by decide) (-100005) (nI l) 0 (et _).symm (fun σ => B_X5_learnStream_92 n σ (nI h0) (nI l)) (fun ρ1 => by
            unfold B_X5_learnStream_92
            cases F_X5_addRow n (xr μ ρ1) (nI h0) 0 (nI l) 0 0 with
            | none => rfl
            | some v => rfl)
          rw [g1] at e
          exact ⟨ρ', e, c⟩
        | some w =>
          have q2 := (lastK_lt hw).2
          obtain ⟨r, hr⟩ : ∃ r, (aG a h0)[w]? = some r := ⟨_, List.getElem?_eq_getElem q2⟩
          have es : sLearn a h0 p l o = (if 1 < (sStream (nI l) r).2 then (sStream (nI l) r).1 else 0, sMove a h0 w r (nI l) (sStream (nI l) r).1 (sStream (nI l) r).2) := by
            unfold sLearn lastN
            rw [if_neg hk0, if_pos hk, if_neg ho, hw]
            show (match (aG a h0)[w]? with | none => _ | some r => _ : Int32 × xA) = _
            rw [hr]
          have e1 : ρ (204 + 16 * h0 + w * 4 + 1) = r 1 := g2 _ r hr 1 (by decide)
          have e2 : ρ (204 + 16 * h0 + w * 4 + 2) = r 2 := g2 _ r hr 2 (by decide)
          have e3 : ρ (204 + 16 * h0 + w * 4 + 3) = r 3 := g2 _ r hr 3 (by decide)
          obtain ⟨ρ1, ρ2, c1, c2, c3⟩ := R_move h z hn μ hh hr 0 (nI l) (sStream (nI l) r).1 (sStream (nI l) r).2 (et _).symm
          have k176 : B_X5_learnStream_176 n (xr μ ρ) (nI h0) (nI l) (nI w) (sStream (nI l) r).1 (sStream (nI l) r).2 = some (xr (x_up μ 0 5 (sLearn a h0 p l o).1) ρ2) := by
            rw [es]
            unfold B_X5_learnStream_176
            rw [c1, Option.bind_some, c2, Option.bind_some]
            by_cases c9 : (1 : Int32) < (sStream (nI l) r).2
            · rw [if_pos c9, if_pos c9, xr_up0 μ ρ2 (by decide)]
            · rw [if_neg c9, if_neg c9, xr_up0 μ ρ2 (by decide)]
          have k123 : ∀ way : Int32, way = (if r 1 < nI l then 1 else -1) → B_X5_learnStream_123 n (xr μ ρ) (nI h0) (nI l) (nI w) way = B_X5_learnStream_176 n (xr μ ρ) (nI h0) (nI l) (nI w) (sStream (nI l) r).1 (sStream (nI l) r).2 := fun way ew => by
            unfold B_X5_learnStream_123 sStream
            rw [← ew, R_row, show nI (204 + 16 * h0 + w * 4) + 2 = nI (204 + 16 * h0 + w * 4 + 2) from nI_add _ 2, show nI (204 + 16 * h0 + w * 4) + 3 = nI (204 + 16 * h0 + w * 4 + 3) from nI_add _ 3]
            simp (disch := omega) only [gd, gd2, cl, xr_1, e2, e3]
            by_cases b1 : way = r 2
            · rw [if_pos b1, if_pos b1]
              by_cases b2 : r 3 < 9
              · rw [if_pos b2, if_pos b2]
              · rw [if_neg b2, if_neg b2]
            · rw [if_neg b1, if_neg b1]
          refine ⟨ρ2, ?_, by rw [es]; exact c3⟩
          rw [if_neg (nI_pos (by omega)), R_row, show nI (204 + 16 * h0 + w * 4) + 1 = nI (204 + 16 * h0 + w * 4 + 1) from nI_add _ 1, gd (by omega), cl (by omega), xr_1, e1, ← k176]
          by_cases b : r 1 < nI l
          · rw [if_pos b]
            exact k123 1 (by rw [if_pos b])
          · rw [if_neg b]
            exact k123 (-1) (by rw [if_neg b])
  exact loop n 0 (Nat.zero_le _) (by omega)
theorem R_learn {ρ : Nat → Int32} {a : xA} {B : Nat} (h : RRep ρ a) (I : Inv B a) {h0 : Nat} (hh : h0 < aC a 2) {n : Nat} (hn : 20 < n) (μ : xM) {p l o : Nat} (hp : p < 16) (ho : o ≤ 2) : ∃ ρ', F_X5_learn n (xr μ ρ) (nI h0) (nI p) (nI l) (nI o) = some (xr (x_up μ 0 5 (sLearn a h0 p l o).1) ρ') ∧ RRep ρ' (sLearn a h0 p l o).2 := by
  have h6 := I.hn
  have h2 := (I.2.2.2.1 h0 hh).1
  have e0 : ρ (120 + 14 * h0 + 0) = nI (aH a h0 0) := h.f hh 0 (by decide)
  have h5 : x_up μ 0 5 (0 : Int32) 0 5 = 0 := x_up_at
  unfold F_X5_learn
  rw [xr_up0 μ ρ (by decide), show F_X5_of (nI h0) (0 : Int32) = nI (120 + 14 * h0 + 0) from R_of h0 0]
  show ∃ ρ', (if nI (120 + 14 * h0 + 0) < 0 ∨ 2506 ≤ (nI (120 + 14 * h0 + 0)).toNatClampNeg then none else _) = some _ ∧ _
  rw [gd (by omega), cl (by omega), xr_1, e0]
  rcases (show aH a h0 0 = 0 ∨ aH a h0 0 = 1 ∨ aH a h0 0 = 2 by omega) with q | q | q
  · obtain ⟨ρ', e, c⟩ := R_learnStride (l := l) (o := o) h I hh hn h5 q hp
    rw [x_up_up] at e
    rw [q, if_pos (show nI 0 = (0 : Int32) from rfl), e]
    exact ⟨ρ', rfl, c⟩
  · rw [q, if_neg (show ¬ nI 1 = (0 : Int32) by decide), if_pos (show nI 1 = (1 : Int32) from rfl)]
    by_cases c1 : o = 1
    · have es : sLearn a h0 p l o = (0, a) := by
        unfold sLearn
        rw [if_neg (by omega), if_pos q, if_pos c1]
      rw [if_pos (by rw [c1]; rfl), es]
      exact ⟨ρ, rfl, h⟩
    · obtain ⟨ρ', e, c⟩ := R_learnStream (p := p) (l := l) (o := o) h I hh hn h5 q c1
      rw [x_up_up] at e
      rw [if_neg (show ¬ nI o = (1 : Int32) from fun e => c1 ((nI_eq (b := 1) (by omega) (by omega)).mp e)), e]
      exact ⟨ρ', rfl, c⟩
  · have es : sLearn a h0 p l o = (if o = 0 then 1 else 0, a) := by
      unfold sLearn
      rw [if_neg (by omega), if_neg (by omega)]
    rw [q, if_neg (show ¬ nI 2 = (0 : Int32) by decide), if_neg (show ¬ nI 2 = (1 : Int32) by decide), es]
    by_cases c1 : o = 0
    · rw [if_pos (by rw [c1]; rfl), if_pos c1]
      refine ⟨ρ, ?_, h⟩
      show some (x_up (xr (x_up μ 0 5 0) ρ) 0 5 1) = _
      rw [xr_up0 _ ρ (by decide), x_up_up]
    · rw [if_neg (show ¬ nI o = (0 : Int32) from fun e => c1 ((nI_eq (b := 0) (by omega) (by omega)).mp e)), if_neg c1]
      refine ⟨ρ, ?_, h⟩
      show some (x_up (xr (x_up μ 0 5 0) ρ) 0 5 0) = _
      rw [xr_up0 _ ρ (by decide), x_up_up]
