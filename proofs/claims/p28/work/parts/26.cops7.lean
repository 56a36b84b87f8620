/-! walks, throwing all out, sums over the lists -/
theorem Inv_walk {B : Nat} {a : xA} (I : Inv B a) {p l c : Nat} {st : Int32} (hp : p < 16) (hv : ∀ k, k < c → ∃ y, y < 10000 ∧ nI l + nI k * st = nI y) (hB : B + 300 * c < 2 ^ 30) : ∀ k, k ≤ c → Inv (B + 300 * k) (sWalk p l st k a).2 := by
  intro k
  induction k with
  | zero => intro _; exact I
  | succ k ih =>
    intro hk
    obtain ⟨y, hy, e⟩ := hv k hk
    have I1 := ih (by omega)
    have I2 := Inv_go (l := y) I1 hp hy (by omega)
    show Inv (B + 300 * (k + 1)) (sGo (sWalk p l st k a).2 p (nI l + nI k * st).toNatClampNeg).2
    rw [e, nI_clamp (by omega)]
    exact I2.mono (by omega) (by omega)
theorem sWalk_le (p l : Nat) (st : Int32) (a : xA) : ∀ k, (sWalk p l st k a).1 ≤ k := by
  intro k
  induction k with
  | zero => exact Nat.le_refl _
  | succ k ih =>
    show (sWalk p l st k a).1 + (if _ then 0 else 1) ≤ k + 1
    split <;> omega
theorem sGo_lt (a : xA) (p l : Nat) : (sGo a p l).1 < 3 := sServe_lt _ _
theorem C_walk {B : Nat} {a : xA} {τ : xM} (h : CRep τ a) (I : Inv B a) {n : Nat} {p l c : Nat} {st : Int32} (hp : p < 16) (hc : c < 100) (hn : 200 < n) (hv : ∀ k, k < c → ∃ y, y < 10000 ∧ nI l + nI k * st = nI y) (hB : B + 300 * c + 400 < 2 ^ 30) : ∃ τ', F_X2_performWalk n τ (nI p) (nI l) st (nI c) = some (nI (sWalk p l st c a).1, τ') ∧ CRep τ' (sWalk p l st c a).2 := by
  have loop : ∀ (f k : Nat) (σ : xM), k ≤ c → c - k < f → CRep σ (sWalk p l st k a).2 → ∃ σ', B_X2_performWalk_6 n f σ (nI p) (nI l) st (nI c) (nI (sWalk p l st k a).1) (nI k) = some (nI (sWalk p l st c a).1, σ') ∧ CRep σ' (sWalk p l st c a).2 := by
    intro f
    induction f with
    | zero => intro k σ _ h1; omega
    | succ f ih =>
      intro k σ hk hf hr
      show ∃ σ', (if nI k < nI c then _ else _) = _ ∧ _
      by_cases q : k < c
      · obtain ⟨y, hy, e⟩ := hv k q
        have Ik := Inv_walk I hp hv (by omega) k hk
        obtain ⟨τ1, e1, c1, -⟩ := C_perform (l := y) hr Ik (by omega : 20 < n) hp hy (by omega)
        have es : sWalk p l st (k + 1) a = ((sWalk p l st k a).1 + (if (sGo (sWalk p l st k a).2 p y).1 = 0 then 0 else 1), (sGo (sWalk p l st k a).2 p y).2) := by
          show ((sWalk p l st k a).1 + (if (sGo (sWalk p l st k a).2 p (nI l + nI k * st).toNatClampNeg).1 = 0 then 0 else 1), (sGo (sWalk p l st k a).2 p (nI l + nI k * st).toNatClampNeg).2) = _
          rw [e, nI_clamp (by omega)]
        obtain ⟨σ', e9, c9⟩ := ih (k + 1) τ1 q (by omega) (by rw [es]; exact c1)
        rw [es] at e9
        have hlt := sGo_lt (sWalk p l st k a).2 p y
        rw [if_pos (nI_lt q (by omega)), e, e1, Option.bind_some]
        refine ⟨σ', ?_, c9⟩
        unfold B_X2_performWalk_30
        by_cases q0 : (sGo (sWalk p l st k a).2 p y).1 = 0
        · rw [if_pos q0] at e9
          show (if nI (sGo (sWalk p l st k a).2 p y).1 = 0 then _ else _) = _
          rw [if_pos (by rw [q0]; rfl), nI_1]
          exact e9
        · rw [if_neg q0] at e9
          show (if nI (sGo (sWalk p l st k a).2 p y).1 = 0 then _ else _) = _
          rw [if_neg (show ¬ nI _ = (0 : Int32) from fun e => q0 ((nI_eq (b := 0) (by omega) (by omega)).mp e)), nI_1, nI_1]
          exact e9
      · have ek : k = c := by omega
        subst ek
        rw [if_neg (nI_nlt (Nat.le_refl _) (by omega))]
        exact ⟨σ, rfl, hr⟩
  exact loop n 0 τ (Nat.zero_le _) (by omega) h
theorem sOuts_r (a : xA) (s : Nat) : ∀ k, k ≤ (aS a s).length → aS (sOuts s k a) s = (aS a s).drop k ∧ (∀ s', s' ≠ s → aS (sOuts s k a) s' = aS a s') ∧ ∀ i, i ≠ 8 → aC (sOuts s k a) i = aC a i := by
  intro k
  induction k with
  | zero => intro _; exact ⟨rfl, fun _ _ => rfl, fun _ _ => rfl⟩
  | succ k ih =>
    intro hk
    obtain ⟨h1, h2, h3⟩ := ih (by omega)
    obtain ⟨r, l, hrl⟩ : ∃ r l, (aS a s).drop k = r :: l := by
      cases hd : (aS a s).drop k with
      | nil =>
        rw [List.drop_eq_nil_iff] at hd
        omega
      | cons r l => exact ⟨r, l, rfl⟩
    have hS := h1.trans hrl
    have e := sOut_S (b := -100005) hS
    refine ⟨?_, fun s' hs' => ?_, fun i hi => (sOut_C0 _ _ _ _ hi).trans (h3 i hi)⟩
    · show aS (sOut (sOuts s k a) s (-100005)) s = _
      rw [e, va_up_eq, ← List.drop_drop (i := 1) (j := k), hrl]
      rfl
    · show aS (sOut (sOuts s k a) s (-100005)) s' = _
      rw [e, va_up_off hs']
      exact h2 s' hs'
theorem Inv_outs {B : Nat} {a : xA} (I : Inv B a) (s : Nat) : ∀ k, B + 9 * k < 2 ^ 30 → Inv (B + 9 * k) (sOuts s k a) := by
  intro k
  induction k with
  | zero => intro _; exact I
  | succ k ih =>
    intro hB
    exact (Inv_out (s := s) (by_ := -100005) (ih (by omega)) (Or.inl rfl) (by omega)).mono (by omega) hB
theorem sEmpty_r (a : xA) : ∀ s, (∀ s', s ≤ s' → aS (sEmpty s a) s' = aS a s') ∧ (∀ s', s' < s → aS (sEmpty s a) s' = []) ∧ ∀ i, i ≠ 8 → aC (sEmpty s a) i = aC a i := by
  intro s
  induction s with
  | zero => exact ⟨fun _ _ => rfl, fun s' h => absurd h (Nat.not_lt_zero _), fun _ _ => rfl⟩
  | succ s ih =>
    obtain ⟨h1, h2, h3⟩ := ih
    obtain ⟨g1, g2, g3⟩ := sOuts_r (sEmpty s a) s _ (Nat.le_refl _)
    refine ⟨fun s' hs' => (g2 s' (by omega)).trans (h1 s' (by omega)), fun s' hs' => ?_, fun i hi => (g3 i hi).trans (h3 i hi)⟩
    by_cases q : s' = s
    · subst q
      exact g1.trans (List.drop_length)
    · exact (g2 s' q).trans (h2 s' (by omega))
theorem Inv_empty {B : Nat} {a : xA} (I : Inv B a) (hB : B + 9 * 32 < 2 ^ 30) : ∀ s, s ≤ 8 → Inv (B + 36 * s) (sEmpty s a) := by
  intro s
  induction s with
  | zero => intro _; exact I
  | succ s ih =>
    intro hs
    have I1 := ih (by omega)
    have hl : (aS (sEmpty s a) s).length ≤ 4 := Nat.le_trans (I1.2.1 s).2.1 I1.1.2.2.2.1
    exact (Inv_outs I1 s (aS (sEmpty s a) s).length (by omega)).mono (by omega) (by omega)
theorem C_empty {B : Nat} {a : xA} {τ : xM} (h : CRep τ a) (I : Inv B a) {n : Nat} (hn : 20 < n) (hB : B + 400 < 2 ^ 30) : ∃ τ', F_X2_throwAllOut n τ = some (nI (sLines a 8), τ') ∧ CRep τ' (sEmpty 8 a) := by
  have inner : ∀ (K : xM → Int32 → Int32 → Option (Int32 × xM)) (s c : Nat) (b : xA) (B' : Nat), s < 8 → Inv B' b → B' + 50 < 2 ^ 30 → ∀ (f k : Nat) (σ : xM), k ≤ (aS b s).length → (aS b s).length - k < f → CRep σ (sOuts s k b) → ∃ σ', B_X2_throwAllOut_23 n K f σ (nI c) (nI s) (nI (aS b s).length) (nI k) = K σ' (nI (c + (aS b s).length)) (nI (s + 1)) ∧ CRep σ' (sOuts s (aS b s).length b) := by
    intro K s c b B' hs Ib hB' f
    have hl : (aS b s).length ≤ 4 := Nat.le_trans (Ib.2.1 s).2.1 Ib.1.2.2.2.1
    induction f with
    | zero => intro k σ _ h1; omega
    | succ f ih =>
      intro k σ hk hf hr
      show ∃ σ', (if nI k < nI (aS b s).length then _ else _) = _ ∧ _
      by_cases q : k < (aS b s).length
      · obtain ⟨g1, g2, g3⟩ := sOuts_r b s k hk
        have Ik := Inv_outs Ib s k (by omega)
        obtain ⟨r, l, hrl⟩ : ∃ r l, (aS b s).drop k = r :: l := by
          cases hd : (aS b s).drop k with
          | nil =>
            rw [List.drop_eq_nil_iff] at hd
            omega
          | cons r l => exact ⟨r, l, rfl⟩
        have hS := g1.trans hrl
        have hb := ((Ik.2.1 s).2.2.1 r (by rw [hS]; exact List.mem_cons_self)).2.1
        obtain ⟨τ1, e1, c1, -⟩ := C_throw hr Ik.1 hs hS hb Ik.2.2.1.1 hn (-100005)
        obtain ⟨σ', e9, c9⟩ := ih (k + 1) τ1 q (by omega) c1
        rw [if_pos (nI_lt q (by omega)), ite_ok (by omega) (by omega), nI_clamp (by omega), gr_S s hs, Option.bind_some, e1, Option.bind_some, nI_1]
        exact ⟨σ', e9, c9⟩
      · have ek : k = (aS b s).length := by omega
        subst ek
        rw [if_neg (nI_nlt (Nat.le_refl _) (by omega)), nI_add, nI_1]
        exact ⟨σ, rfl, hr⟩
  have outer : ∀ (f s : Nat) (σ : xM), s ≤ 8 → 8 - s < f → CRep σ (sEmpty s a) → ∃ σ', B_X2_throwAllOut_4 n f σ (nI (sLines a s)) (nI s) = some (nI (sLines a 8), σ') ∧ CRep σ' (sEmpty 8 a) := by
    intro f
    induction f with
    | zero => intro s σ _ h1; omega
    | succ f ih =>
      intro s σ hs hf hr
      show ∃ σ', (if nI s < (8 : Int32) then _ else _) = _ ∧ _
      by_cases q : s < 8
      · have Is := Inv_empty I (by omega) s hs
        have hl : (aS (sEmpty s a) s).length ≤ 4 := Nat.le_trans (Is.2.1 s).2.1 Is.1.2.2.2.1
        have el : aS (sEmpty s a) s = aS a s := (sEmpty_r a s).1 s (Nat.le_refl _)
        have e3 := (hr.2.1 s q).2.2.1
        obtain ⟨τ1, e1, c1⟩ := inner (fun σ l1 l2 => B_X2_throwAllOut_4 n f σ l1 l2) s (sLines a s) (sEmpty s a) _ q Is (by omega) n 0 σ (Nat.zero_le _) (by omega) hr
        obtain ⟨σ', e9, c9⟩ := ih (s + 1) τ1 q (by omega) c1
        rw [if_pos (show nI s < (8 : Int32) from nI_lt (b := 8) q (by omega)), ite_ok (by omega) (by omega), nI_clamp (by omega), gr_S s q, Option.bind_some, e3]
        refine ⟨σ', ?_, c9⟩
        refine e1.trans ?_
        rw [el]
        exact e9
      · have es : s = 8 := by omega
        subst es
        rw [if_neg (show ¬ nI 8 < (8 : Int32) by decide)]
        exact ⟨σ, rfl, hr⟩
  exact outer n 0 τ (Nat.zero_le _) (by omega) h
theorem C_lines {a : xA} {τ : xM} (h : CRep τ a) {n : Nat} (hn : 20 < n) : F_X2_linesInCache n τ = some (nI (sLines a 8)) := by
  have loop : ∀ (f s : Nat), s ≤ 8 → 8 - s < f → B_X2_linesInCache_4 n τ f (nI (sLines a s)) (nI s) = some (nI (sLines a 8)) := by
    intro f
    induction f with
    | zero => intro s _ h1; omega
    | succ f ih =>
      intro s hs hf
      show (if nI s < (8 : Int32) then _ else _) = _
      by_cases q : s < 8
      · rw [if_pos (show nI s < (8 : Int32) from nI_lt (b := 8) q (by omega)), ite_ok (by omega) (by omega), nI_clamp (by omega), gr_S s q, Option.bind_some, (h.2.1 s q).2.2.1, nI_add, nI_1]
        exact ih (s + 1) q (by omega)
      · have es : s = 8 := by omega
        subst es
        rw [if_neg (show ¬ nI 8 < (8 : Int32) by decide)]
  exact loop n 0 (Nat.zero_le _) (by omega)
def newBy (x : Int32) (r : xR) : Bool := decide (r 2 = 1 ∧ r 1 = x)
def cntP (P : xR → Bool) (a : xA) : Nat → Nat
  | 0 => 0
  | s + 1 => cntP P a s + (aS a s).countP P
theorem cnt_take {P : xR → Bool} {L : List xR} {k : Nat} {r : xR} (h : L[k]? = some r) : (L.take (k + 1)).countP P = (L.take k).countP P + (if P r then 1 else 0) := by
  rw [List.take_succ, h, List.countP_append]
  show _ + [r].countP P = _
  rw [List.countP_singleton]
theorem C_newOf {a : xA} {τ : xM} (h : CRep τ a) {n : Nat} (hn : 20 < n) (x : Int32) : F_X2_newLinesOf n τ x = some (nI (cntP (newBy x) a 8)) := by
  have inner : ∀ (K : Int32 → Int32 → Int32 → Option Int32) (s c : Nat), s < 8 → ∀ (f k : Nat), k ≤ (aS a s).length → (aS a s).length - k < f → B_X2_newLinesOf_13 n τ K f x (nI (c + ((aS a s).take k).countP (newBy x))) (nI s) (nI k) = K x (nI (c + (aS a s).countP (newBy x))) (nI (s + 1)) := by
    intro K s c hs f
    have hc := h.2.1 s hs
    have hl : (aS a s).length ≤ 4 := hc.2.2.2.1
    induction f with
    | zero => intro k _ h1; omega
    | succ f ih =>
      intro k hk hf
      show (if nI s < 0 ∨ 8 ≤ (nI s).toNatClampNeg then _ else _) = _
      rw [ite_ok (by omega) (by omega), nI_clamp (by omega), gr_S s hs, Option.bind_some, hc.2.2.1]
      by_cases q : k < (aS a s).length
      · obtain ⟨r, hr⟩ : ∃ r, (aS a s)[k]? = some r := ⟨_, List.getElem?_eq_getElem q⟩
        have e2 : F_X1_get n τ (2 + 2 * s) (nI k) 2 = some (r 2) := C_get (j := 2) hc (SF_S s hs) n hr (by decide)
        have e1 : F_X1_get n τ (2 + 2 * s) (nI k) 1 = some (r 1) := C_get (j := 1) hc (SF_S s hs) n hr (by decide)
        have hi := ih (k + 1) q (by omega)
        rw [cnt_take hr] at hi
        have ok : ∀ {α : Type} {u v : α}, (if nI s < 0 ∨ 8 ≤ s then u else v) = v := fun {α u v} => if_neg (fun e => e.elim (nI_pos (by omega)) (by omega))
        rw [if_pos (nI_lt q (by omega)), ok, Option.bind_some, e2, Option.bind_some]
        unfold B_X2_newLinesOf_62
        by_cases q2 : r 2 = 1
        · rw [if_pos q2, ok, Option.bind_some, e1, Option.bind_some]
          by_cases q1 : r 1 = x
          · have en : newBy x r = true := decide_eq_true ⟨q2, q1⟩
            rw [en, if_pos rfl, ← Nat.add_assoc] at hi
            rw [if_pos q1, nI_1, nI_1]
            exact hi
          · have en : newBy x r = false := decide_eq_false (fun e => q1 e.2)
            rw [en, if_neg (by decide), Nat.add_zero] at hi
            rw [if_neg q1, nI_1]
            exact hi
        · have en : newBy x r = false := decide_eq_false (fun e => q2 e.1)
          rw [en, if_neg (by decide), Nat.add_zero] at hi
          rw [if_neg q2, nI_1]
          exact hi
      · have ek : k = (aS a s).length := by omega
        subst ek
        rw [if_neg (nI_nlt (Nat.le_refl _) (by omega)), List.take_length, nI_1]
  have outer : ∀ (f s : Nat), s ≤ 8 → 8 - s < f → B_X2_newLinesOf_4 n τ f x (nI (cntP (newBy x) a s)) (nI s) = some (nI (cntP (newBy x) a 8)) := by
    intro f
    induction f with
    | zero => intro s _ h1; omega
    | succ f ih =>
      intro s hs hf
      show (if nI s < (8 : Int32) then _ else _) = _
      by_cases q : s < 8
      · have hl : (aS a s).length ≤ 4 := (h.2.1 s q).2.2.2.1
        rw [if_pos (show nI s < (8 : Int32) from nI_lt (b := 8) q (by omega))]
        have e := inner (fun l1 l2 l3 => B_X2_newLinesOf_4 n τ f l1 l2 l3) s (cntP (newBy x) a s) q n 0 (Nat.zero_le _) (by omega)
        rw [List.take_zero] at e
        exact e.trans (ih (s + 1) q (by omega))
      · have es : s = 8 := by omega
        subst es
        rw [if_neg (show ¬ nI 8 < (8 : Int32) by decide)]
  exact outer n 0 (Nat.zero_le _) (by omega)
def sNewAll (a : xA) : Nat → Nat
  | 0 => 0
  | h + 1 => sNewAll a h + cntP (newBy (nI h)) a 8
theorem C_newAll {a : xA} {τ : xM} (h : CRep τ a) (h6 : aC a 2 ≤ 6) {n : Nat} (hn : 20 < n) : F_X2_newLines n τ = some (nI (sNewAll a (aC a 2))) := by
  have e6 : τ 0 6 = nI (aC a 2) := h.c 2 (by decide)
  have loop : ∀ (f s : Nat), s ≤ aC a 2 → aC a 2 - s < f → B_X2_newLines_4 n τ f (nI (sNewAll a s)) (nI s) = some (nI (sNewAll a (aC a 2))) := by
    intro f
    induction f with
    | zero => intro s _ h1; omega
    | succ f ih =>
      intro s hs hf
      show (if nI s < τ 0 6 then _ else _) = _
      rw [e6]
      by_cases q : s < aC a 2
      · rw [if_pos (nI_lt q (by omega)), C_newOf h hn, Option.bind_some, nI_add, nI_1]
        exact ih (s + 1) q (by omega)
      · have es : s = aC a 2 := by omega
        subst es
        rw [if_neg (nI_nlt (Nat.le_refl _) (by omega))]
  exact loop n 0 (Nat.zero_le _) (by omega)
def sHrs (a : xA) : Nat → Nat
  | 0 => 0
  | h + 1 => sHrs a h + aH a h 4
theorem C_hours {a : xA} {τ : xM} (h : CRep τ a) (h6 : aC a 2 ≤ 6) {n : Nat} (hn : 20 < n) : F_X2_allHours n τ = some (nI (sHrs a (aC a 2))) := by
  have e6 : τ 0 6 = nI (aC a 2) := h.c 2 (by decide)
  have loop : ∀ (f s : Nat), s ≤ aC a 2 → aC a 2 - s < f → B_X2_allHours_4 n τ f (nI (sHrs a s)) (nI s) = some (nI (sHrs a (aC a 2))) := by
    intro f
    induction f with
    | zero => intro s _ h1; omega
    | succ f ih =>
      intro s hs hf
      show (if nI s < τ 0 6 then _ else _) = _
      rw [e6]
      by_cases q : s < aC a 2
      · have e7 : τ (21 + 4 * s) 7 = nI (aH a s 4) := h.f q 4 (by decide)
        rw [if_pos (nI_lt q (by omega)), ite_ok (by omega) (by omega), nI_clamp (by omega), gr_H s (by omega), Option.bind_some, e7, nI_add, nI_1]
        exact ih (s + 1) q (by omega)
      · have es : s = aC a 2 := by omega
        subst es
        rw [if_neg (nI_nlt (Nat.le_refl _) (by omega))]
  exact loop n 0 (Nat.zero_le _) (by omega)
