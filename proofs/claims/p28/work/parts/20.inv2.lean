/-! the invariant over an access -/
theorem inR_sub {L L' : List xR} {l : Nat} (h : List.Sublist L' L) (q : inR L' l) : inR L l := by
  obtain ⟨r, hr, e⟩ := q
  exact ⟨r, h.subset hr, e⟩
theorem sOut_T {a : xA} {s : Nat} {b : Int32} {r : xR} {l : List xR} (hS : aS a s = r :: l) : aT (sOut a s b) = pushL 8 (aT a) ++ [row2 (r 0) b] := by
  unfold sOut
  rw [hS]
  show aT (if r 2 = 1 then _ else _) = _
  by_cases q : r 2 = 1
  · rw [if_pos q]
    cases bid (r 1) with
    | none => rfl
    | some h => rfl
  · rw [if_neg q]
    rfl
theorem sFetch_C (a : xA) (l : Nat) (b : Int32) (i : Nat) (hi : i ≠ 8) : aC (sFetch a l b) i = aC a i := by
  unfold sFetch sPut
  show aC (if _ then _ else _) i = _
  by_cases q : (aS a (l % aC a 0)).length < aC a 1
  · rw [if_pos q]
    rfl
  · rw [if_neg q]
    exact sOut_C0 _ _ _ _ hi
theorem Inv_fetch {B : Nat} {a : xA} {l : Nat} {by_ : Int32} (I : Inv B a) (hl : l < 10000) (hS : ¬ inR (aS a (l % aC a 0)) l) (hb : okBy (aC a 2) by_) (hb' : B + 9 < 2 ^ 30) : Inv (B + 9) (sFetch a l by_) := by
  have I1 := Inv_erase I l
  have hT1 : ¬ inR (aT (sErase a l)) l := erase_out I.2.2.1.2.2.1
  unfold sFetch
  by_cases q : (aS a (l % aC a 0)).length < aC a 1
  · rw [if_pos q]
    exact (Inv_put I1 hl q hS hT1 hb).mono (Nat.le_add_right _ _) hb'
  · rw [if_neg q]
    cases hS0 : aS a (l % aC a 0) with
    | nil =>
      rw [hS0] at q
      exact absurd I.1.2.2.1 q
    | cons r l9 =>
      have hS1 : aS (sErase a l) (l % aC a 0) = r :: l9 := hS0
      have I2 := Inv_out (s := l % aC a 0) I1 hb hb'
      have e8 : ∀ i, i ≠ 8 → aC (sOut (sErase a l) (l % aC a 0) by_) i = aC a i := fun i hi => sOut_C0 _ _ _ _ hi
      have eS := sOut_S (b := by_) hS1
      have eT := sOut_T (b := by_) hS1
      have hr : r ∈ aS a (l % aC a 0) := by rw [hS0]; exact List.mem_cons_self
      have e0 := e8 0 (by decide)
      have I3 := Inv_put (l := l) (by_ := by_) I2 hl (by
        rw [e0, eS, va_up_eq, e8 1 (by decide)]
        have := (I.2.1 (l % aC a 0)).2.1
        rw [hS0] at this
        exact this) (by
        rw [e0, eS, va_up_eq]
        rintro ⟨r9, hr9, e9⟩
        exact hS ⟨r9, by rw [hS0]; exact List.mem_cons_of_mem _ hr9, e9⟩) (by
        rw [eT]
        rintro ⟨q9, hq9, e9⟩
        rcases List.mem_append.mp hq9 with h | h
        · exact hT1 ⟨q9, (push_sub _ _).subset h, e9⟩
        · rw [List.mem_singleton.mp h] at e9
          exact hS ⟨r, hr, e9⟩) (by rw [e8 2 (by decide)]; exact hb)
      rw [e0] at I3
      exact I3
theorem bid_ok {hn : Nat} {x : Int32} (h6 : hn ≤ 6) (h : okBy hn x) {h0 : Nat} (hb : bid x = some h0) : h0 < hn := by
  rcases h with e | ⟨h1, hh1, e⟩
  · rw [e] at hb
    cases hb
  · rw [e] at hb
    unfold bid at hb
    by_cases q9 : nI h1 = -100005
    · rw [if_pos q9] at hb
      cases hb
    · rw [if_neg q9, nI_clamp (by omega)] at hb
      cases hb
      exact hh1
theorem Inv_punish {B : Nat} {a : xA} (I : Inv B a) (l : Nat) (hb' : B + 2 < 2 ^ 30) : Inv (B + 2) (sPunish a l) := by
  unfold sPunish
  cases (aT a)[kIdx (aT a) (nI l)]? with
  | none => exact I.mono (Nat.le_add_right _ _) hb'
  | some r =>
    show Inv (B + 2) (match bid (r 1) with | none => a | some h => sHarm a h)
    cases bid (r 1) with
    | none => exact I.mono (Nat.le_add_right _ _) hb'
    | some h0 => exact Inv_hours (Inv_cnt (k := 9) I (by decide)) (by decide) (by decide) hb'
theorem sPunish_S (a : xA) (l : Nat) : aS (sPunish a l) = aS a ∧ aC (sPunish a l) = aC a ∧ aT (sPunish a l) = aT a := by
  unfold sPunish
  cases (aT a)[kIdx (aT a) (nI l)]? with
  | none => exact ⟨rfl, rfl, rfl⟩
  | some r =>
    show aS (match bid (r 1) with | none => a | some h => sHarm a h) = _ ∧ aC (match bid (r 1) with | none => a | some h => sHarm a h) = _ ∧ aT (match bid (r 1) with | none => a | some h => sHarm a h) = _
    cases bid (r 1) with
    | none => exact ⟨rfl, rfl, rfl⟩
    | some h0 => exact ⟨rfl, rfl, rfl⟩
theorem mem_touch {L : List xR} {w : Nat} {r r' x : xR} (hw : L[w]? = some r) (hx : x ∈ L.eraseIdx w ++ [r']) : x ∈ L ∨ x = r' := by
  rcases List.mem_append.mp hx with h | h
  · exact Or.inl ((List.eraseIdx_sublist _ _).subset h)
  · exact Or.inr (List.mem_singleton.mp h)
theorem nd_touch {L : List xR} {w : Nat} {r r' : xR} (hn : (L.map (fun r => r 0)).Nodup) (hw : L[w]? = some r) (e : r' 0 = r 0) : ((L.eraseIdx w ++ [r']).map (fun r => r 0)).Nodup := by
  rw [List.map_append, List.nodup_append]
  refine ⟨nd_sub (List.eraseIdx_sublist _ _) hn, by simp, fun x hx y hy => ?_⟩
  obtain ⟨q, hq, rfl⟩ := List.mem_map.mp hx
  have : y = r 0 := by simpa [e] using hy
  subst this
  intro e2
  obtain ⟨v, hv⟩ := List.getElem?_of_mem hq
  rw [List.getElem?_eraseIdx] at hv
  by_cases c : v < w
  · rw [if_pos c] at hv
    have := nd_key hn hv hw e2
    omega
  · rw [if_neg c] at hv
    have := nd_key hn hv hw e2
    omega
theorem len_touch' {L : List xR} {w : Nat} {r r' : xR} (hw : L[w]? = some r) : (L.eraseIdx w ++ [r']).length = L.length := by
  have hl := lt_of_get hw
  rw [List.length_append, List.length_eraseIdx, if_pos hl]
  simp
  omega
theorem Inv_hit {B : Nat} {a : xA} {s w : Nat} {r : xR} (I : Inv B a) (hw : (aS a s)[w]? = some r) : Inv B (sHit a s w r) := by
  obtain ⟨IC, IS, IT, IH, IG, IL, hB⟩ := I
  have hr := List.mem_of_getElem? hw
  have eS : aS (sHit a s w r) = va_up (aS a) s ((aS a s).eraseIdx w ++ [row3 (r 0) (r 1) 0]) := rfl
  have mS : ∀ s' r', r' ∈ va_up (aS a) s ((aS a s).eraseIdx w ++ [row3 (r 0) (r 1) 0]) s' → ∃ r9, r9 ∈ aS a s' ∧ r' 0 = r9 0 ∧ r' 1 = r9 1 ∧ (r' = r9 ∨ r' 2 = 0) := fun s' r' hr' => by
    by_cases q : s' = s
    · subst q
      rw [va_up_eq] at hr'
      rcases mem_touch hw hr' with h | h
      · exact ⟨r', h, rfl, rfl, Or.inl rfl⟩
      · subst h
        exact ⟨r, hr, rfl, rfl, Or.inr rfl⟩
    · rw [va_up_off q] at hr'
      exact ⟨r', hr', rfl, rfl, Or.inl rfl⟩
  refine ⟨IC, fun s' => ?_, ⟨IT.1, IT.2.1, IT.2.2.1, fun s' r' q hr' hq => ?_⟩, IH, IG, IL, hB⟩
  · obtain ⟨h1, h2, h3, h4⟩ := IS s'
    refine ⟨fun q => ?_, ?_, fun r' hr' => ?_, ?_⟩
    · rw [eS]
      by_cases q2 : s' = s
      · subst q2
        rw [h1 q] at hw
        simp at hw
      · rw [va_up_off q2]
        exact h1 q
    · rw [eS]
      by_cases q2 : s' = s
      · subst q2
        rw [va_up_eq, len_touch' hw]
        exact h2
      · rw [va_up_off q2]
        exact h2
    · rw [eS] at hr'
      obtain ⟨r9, m9, e0, e1, e2⟩ := mS s' r' hr'
      obtain ⟨g1, g2, g3⟩ := h3 r9 m9
      rw [e0, e1]
      refine ⟨g1, g2, ?_⟩
      rcases e2 with e2 | e2
      · rw [e2]
        exact g3
      · exact Or.inl e2
    · rw [eS]
      by_cases q2 : s' = s
      · subst q2
        rw [va_up_eq]
        exact nd_touch h4 hw rfl
      · rw [va_up_off q2]
        exact h4
  · rw [eS] at hr'
    obtain ⟨r9, m9, e0, -, -⟩ := mS s' r' hr'
    rw [e0]
    exact IT.2.2.2 s' r9 q m9 hq
theorem Inv_use {B : Nat} {a : xA} {h0 : Nat} (I : Inv B a) : Inv B (sUse a h0) := by
  unfold sUse
  by_cases q : aH a h0 3 = 1
  · rw [if_pos q]
    by_cases q2 : aH a h0 5 < 2
    · rw [if_pos q2]
      refine I.setH (Nat.le_refl _) I.b (fun h hh => ?_) (fun h hh => ?_)
      · have h1 := I.2.2.2.1 h hh
        by_cases q9 : h = h0
        · subst q9
          simp [hu, aH, wH] at h1 ⊢
          omega
        · simp [hu, aH, wH, q9] at h1 ⊢
          omega
      · by_cases q9 : h = h0
        · subst q9
          simp [hu]
        · simp [hu, q9]
    · rw [if_neg q2]
      refine I.setH (Nat.le_refl _) I.b (fun h hh => ?_) (fun h hh => ?_)
      · have h1 := I.2.2.2.1 h hh
        by_cases q9 : h = h0
        · subst q9
          simp [hu, aH, wH] at h1 q q2 ⊢
          omega
        · simp [hu, aH, wH, q9] at h1 ⊢
          omega
      · by_cases q9 : h = h0
        · subst q9
          simp [hu]
        · simp [hu, q9]
  · rw [if_neg q]
    exact Inv_cnt (k := 7) I (by decide)
theorem Inv_serve {B : Nat} {a : xA} {l : Nat} (I : Inv B a) (hl : l < 10000) (hb' : B + 11 < 2 ^ 30) : Inv (B + 11) (sServe a l).2 := by
  unfold sServe
  cases hr : (aS a (l % aC a 0))[kIdx (aS a (l % aC a 0)) (nI l)]? with
  | none =>
    have I1 := Inv_punish I l (by omega)
    obtain ⟨e1, e2, e3⟩ := sPunish_S a l
    refine Inv_fetch (B := B + 2) I1 hl ?_ (Or.inl rfl) (by omega)
    rw [e2, e1]
    intro q
    have := kIdx_in.mpr q
    rw [List.getElem?_eq_getElem this] at hr
    cases hr
  | some r =>
    have I1 := Inv_hit (s := l % aC a 0) I hr
    show Inv (B + 11) (if r 2 = 1 then _ else _ : Nat × xA).2
    by_cases q : r 2 = 1
    · rw [if_pos q]
      cases bid (r 1) with
      | none => exact I1.mono (by omega) hb'
      | some h0 => exact (Inv_use (h0 := h0) I1).mono (by omega) hb'
    · rw [if_neg q]
      exact I1.mono (by omega) hb'
theorem Inv_work1 {B : Nat} {a : xA} {h0 : Nat} (I : Inv B a) : Inv B (sWork1 a h0) := by
  unfold sWork1
  have hc3 : aC a 3 ≤ 9 := I.1.2.2.2.2.2.2
  have hc1 : 1 ≤ aC a 3 := I.1.2.2.2.2.2.1
  by_cases q : aH a h0 3 = 2
  · rw [if_pos q]
    by_cases q2 : aH a h0 4 < 2
    · rw [if_pos q2]
      refine I.setH (Nat.le_refl _) I.b (fun h hh => ?_) (fun h hh => ?_)
      · have h1 := I.2.2.2.1 h hh
        generalize aC a 3 = tr at *
        by_cases q9 : h = h0
        · subst q9
          simp [hu, aH, wH] at h1 ⊢
          omega
        · simp [hu, aH, wH, q9] at h1 ⊢
          omega
      · by_cases q9 : h = h0
        · subst q9
          simp [hu]
        · simp [hu, q9]
    · rw [if_neg q2]
      refine I.setH (Nat.le_refl _) I.b (fun h hh => ?_) (fun h hh => ?_)
      · have h1 := I.2.2.2.1 h hh
        by_cases q9 : h = h0
        · subst q9
          simp [hu, aH, wH] at h1 q q2 ⊢
          omega
        · simp [hu, aH, wH, q9] at h1 ⊢
          omega
      · by_cases q9 : h = h0
        · subst q9
          simp [hu]
        · simp [hu, q9]
  · rw [if_neg q]
    exact I
theorem sWork1_r (a : xA) (h : Nat) : aS (sWork1 a h) = aS a ∧ aT (sWork1 a h) = aT a ∧ aG (sWork1 a h) = aG a ∧ aL (sWork1 a h) = aL a ∧ aC (sWork1 a h) = aC a := by
  unfold sWork1
  by_cases q : aH a h 3 = 2
  · rw [if_pos q]
    by_cases q2 : aH a h 4 < 2
    · rw [if_pos q2]
      exact ⟨rfl, rfl, rfl, rfl, rfl⟩
    · rw [if_neg q2]
      exact ⟨rfl, rfl, rfl, rfl, rfl⟩
  · rw [if_neg q]
    exact ⟨rfl, rfl, rfl, rfl, rfl⟩
theorem sWork_r (a : xA) : ∀ k, aS (sWork k a) = aS a ∧ aT (sWork k a) = aT a ∧ aG (sWork k a) = aG a ∧ aL (sWork k a) = aL a ∧ aC (sWork k a) = aC a := by
  intro k
  induction k with
  | zero => exact ⟨rfl, rfl, rfl, rfl, rfl⟩
  | succ k ih =>
    obtain ⟨h1, h2, h3, h4, h5⟩ := sWork1_r (sWork k a) k
    obtain ⟨g1, g2, g3, g4, g5⟩ := ih
    exact ⟨h1.trans g1, h2.trans g2, h3.trans g3, h4.trans g4, h5.trans g5⟩
theorem Inv_work {B : Nat} {a : xA} (I : Inv B a) : ∀ k, Inv B (sWork k a) := by
  intro k
  induction k with
  | zero => exact I
  | succ k ih => exact Inv_work1 ih
