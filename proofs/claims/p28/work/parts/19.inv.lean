/-! the invariant is kept by each step -/
theorem push_sub (m : Nat) (l : List xR) : List.Sublist (pushL m l) l := by
  unfold pushL
  by_cases q : l.length < m
  · rw [if_pos q]
    exact List.Sublist.refl _
  · rw [if_neg q]
    exact List.tail_sublist l
theorem nd_sub {l l' : List xR} (h : List.Sublist l' l) (hn : (l.map (fun r => r 0)).Nodup) : (l'.map (fun r => r 0)).Nodup := List.Nodup.sublist (h.map _) hn
theorem Inv.b {B : Nat} {a : xA} (I : Inv B a) : B < 2 ^ 30 := I.2.2.2.2.2.2
theorem Inv.hn {B : Nat} {a : xA} (I : Inv B a) : aC a 2 ≤ 6 := I.1.2.2.2.2.1
theorem InvL.mono {B B' : Nat} {a : xA} (h : InvL B a) (hb : B ≤ B') : InvL B' a := ⟨Nat.le_trans h.1 hb, h.2⟩
theorem InvH.mono {B B' : Nat} {a : xA} (h : InvH B a) (hb : B ≤ B') : InvH B' a := fun h0 hh => by
  obtain ⟨h1, h2, h3, h4, h5, h6, h7, h8⟩ := h h0 hh
  exact ⟨h1, h2, h3, h4, h5, h6, Nat.le_trans h7 hb, h8⟩
theorem Inv.mono {B B' : Nat} {a : xA} (I : Inv B a) (hb : B ≤ B') (hb' : B' < 2 ^ 30) : Inv B' a := ⟨I.1, I.2.1, I.2.2.1, I.2.2.2.1.mono hb, I.2.2.2.2.1, I.2.2.2.2.2.1.mono hb, hb'⟩
theorem Inv.setH {B B' : Nat} {a : xA} {H' : Nat → Nat → Nat} (I : Inv B a) (hb : B ≤ B') (hb' : B' < 2 ^ 30) (hH : InvH B' (wH a H')) (hk : ∀ h, h < aC a 2 → H' h 0 = aH a h 0) : Inv B' (wH a H') :=
  ⟨I.1, I.2.1, I.2.2.1, hH, fun h hh => by
    have e : aH (wH a H') h 0 = aH a h 0 := hk h hh
    rw [e]
    exact I.2.2.2.2.1 h hh, I.2.2.2.2.2.1.mono hb, hb'⟩
theorem Inv_hours {B M : Nat} {a : xA} {h0 m : Nat} (I : Inv B a) (hm : 1 ≤ m) (hM : m ≤ M) (hb' : B + M < 2 ^ 30) : Inv (B + M) (sHours a h0 m) := by
  refine I.setH (Nat.le_add_right _ _) hb' (fun h hh => ?_) (fun h hh => ?_)
  · have h1 := I.2.2.2.1 h hh
    show hu (hu (hu (aH a) h0 4 (aH a h0 4 + m)) h0 3 2) h0 5 0 h 0 ≤ 2 ∧ _
    by_cases q : h = h0
    · subst q
      simp [hu, aH, wH] at h1 ⊢
      omega
    · simp [hu, aH, wH, q] at h1 ⊢
      omega
  · by_cases q : h = h0
    · subst q
      simp [hu]
    · simp [hu, q]
theorem Inv_cnt {B : Nat} {a : xA} {h0 k v : Nat} (I : Inv B a) (hk : 6 ≤ k) : Inv B (wH a (hu (aH a) h0 k v)) := by
  have e : ∀ h k', k' < 6 → hu (aH a) h0 k v h k' = aH a h k' := fun h k' q => by
    simp only [hu]
    rw [if_neg (by omega)]
  refine I.setH (Nat.le_refl _) I.b (fun h hh => ?_) (fun h hh => e h 0 (by decide))
  have h1 := I.2.2.2.1 h hh
  show hu (aH a) h0 k v h 0 ≤ 2 ∧ 1 ≤ hu (aH a) h0 k v h 1 ∧ hu (aH a) h0 k v h 1 ≤ 4 ∧ 1 ≤ hu (aH a) h0 k v h 2 ∧ hu (aH a) h0 k v h 2 ≤ 9 ∧ hu (aH a) h0 k v h 3 ≤ 2 ∧ hu (aH a) h0 k v h 4 ≤ B ∧ (hu (aH a) h0 k v h 3 = 2 → 1 ≤ hu (aH a) h0 k v h 4) ∧ (hu (aH a) h0 k v h 3 = 1 → 1 ≤ hu (aH a) h0 k v h 5) ∧ hu (aH a) h0 k v h 5 ≤ 9
  rw [e h 0 (by decide), e h 1 (by decide), e h 2 (by decide), e h 3 (by decide), e h 4 (by decide), e h 5 (by decide)]
  exact h1
theorem nd_key : ∀ {L : List xR}, (L.map (fun r => r 0)).Nodup → ∀ {i j : Nat} {r r' : xR}, L[i]? = some r → L[j]? = some r' → r 0 = r' 0 → i = j := by
  intro L
  induction L with
  | nil => intro _ i j r r' hi; simp at hi
  | cons x L ih =>
    intro hn i j r r' hi hj e
    rw [List.map_cons, List.nodup_cons] at hn
    cases i with
    | zero =>
      cases j with
      | zero => rfl
      | succ j =>
        simp at hi hj
        subst hi
        exact absurd (List.mem_map.mpr ⟨r', List.mem_of_getElem? hj, e.symm⟩) hn.1
    | succ i =>
      cases j with
      | zero =>
        simp at hi hj
        subst hj
        exact absurd (List.mem_map.mpr ⟨r, List.mem_of_getElem? hi, e⟩) hn.1
      | succ j =>
        simp at hi hj
        rw [ih hn.2 hi hj e]
theorem key_set {a : xA} (IS : InvS a) {s s' : Nat} {r r' : xR} (hr : r ∈ aS a s) (hr' : r' ∈ aS a s') (e : r 0 = r' 0) : s = s' := by
  obtain ⟨l, hl, e1, m1⟩ := ((IS s).2.2.1 r hr).1
  obtain ⟨l', hl', e2, m2⟩ := ((IS s').2.2.1 r' hr').1
  rw [e1, e2, nI_eq (by omega) (by omega)] at e
  rw [← m1, ← m2, e]
theorem Inv_out1 {B : Nat} {a : xA} {s : Nat} {r : xR} {l : List xR} {by_ : Int32} (I : Inv B a) (hS : aS a s = r :: l) (hb : okBy (aC a 2) by_) : Inv B (sOut1 a s r l by_) := by
  obtain ⟨IC, IS, IT, IH, IG, IL, hB⟩ := I
  have hr : r ∈ aS a s := by rw [hS]; exact List.mem_cons_self
  have hsub : List.Sublist l (aS a s) := by rw [hS]; exact List.sublist_cons_self _ _
  have e0 : ∀ i, i ≠ 8 → aC (sOut1 a s r l by_) i = aC a i := fun i hi => va_up_off hi
  have eS : aS (sOut1 a s r l by_) = va_up (aS a) s l := rfl
  have eT : aT (sOut1 a s r l by_) = pushL 8 (aT a) ++ [row2 (r 0) by_] := rfl
  have mS : ∀ s' r', r' ∈ va_up (aS a) s l s' → r' ∈ aS a s' := fun s' r' hr' => by
    by_cases q : s' = s
    · subst q
      rw [va_up_eq] at hr'
      exact hsub.subset hr'
    · rw [va_up_off q] at hr'
      exact hr'
  refine ⟨?_, fun s' => ?_, ⟨?_, fun q hq => ?_, ?_, fun s' r' q hr' hq => ?_⟩, fun h hh => ?_, fun h hh => ?_, ?_, hB⟩
  · unfold InvC
    rw [e0 0 (by decide), e0 1 (by decide), e0 2 (by decide), e0 3 (by decide)]
    exact IC
  · rw [eS, e0 0 (by decide), e0 1 (by decide), e0 2 (by decide)]
    obtain ⟨h1, h2, h3, h4⟩ := IS s'
    refine ⟨fun q => ?_, ?_, fun r' hr' => h3 r' (mS s' r' hr'), ?_⟩
    · by_cases q2 : s' = s
      · subst q2
        rw [h1 q] at hS
        cases hS
      · rw [va_up_off q2]
        exact h1 q
    · by_cases q2 : s' = s
      · subst q2
        rw [va_up_eq]
        exact Nat.le_trans hsub.length_le h2
      · rw [va_up_off q2]
        exact h2
    · by_cases q2 : s' = s
      · subst q2
        rw [va_up_eq]
        exact nd_sub hsub h4
      · rw [va_up_off q2]
        exact h4
  · rw [eT, List.length_append]
    exact pushL_len IT.1 (by decide)
  · rw [e0 2 (by decide)]
    rw [eT] at hq
    rcases List.mem_append.mp hq with h | h
    · exact IT.2.1 q ((push_sub _ _).subset h)
    · rw [List.mem_singleton.mp h]
      obtain ⟨l9, hl9, e9, -⟩ := ((IS s).2.2.1 r hr).1
      exact ⟨⟨l9, hl9, e9⟩, hb⟩
  · rw [eT, List.map_append, List.nodup_append]
    refine ⟨nd_sub (push_sub _ _) IT.2.2.1, by simp, fun x hx y hy => ?_⟩
    obtain ⟨q, hq, rfl⟩ := List.mem_map.mp hx
    have : y = r 0 := by simpa [row2] using hy
    subst this
    exact fun e => IT.2.2.2 s r q hr ((push_sub _ _).subset hq) e.symm
  · rw [eS] at hr'
    rw [eT] at hq
    rcases List.mem_append.mp hq with h | h
    · exact IT.2.2.2 s' r' q (mS s' r' hr') ((push_sub _ _).subset h)
    · rw [List.mem_singleton.mp h]
      show r' 0 ≠ r 0
      intro e
      have q2 : s' = s := key_set IS (mS s' r' hr') hr e
      subst q2
      rw [va_up_eq] at hr'
      have h4 := (IS s').2.2.2
      rw [hS, List.map_cons, List.nodup_cons] at h4
      exact h4.1 (List.mem_map.mpr ⟨r', hr', e⟩)
  · rw [e0 2 (by decide)] at hh
    exact IH h hh
  · rw [e0 2 (by decide)] at hh
    exact IG h hh
  · unfold InvL
    rw [e0 4 (by decide)]
    exact IL
theorem Inv_out {B : Nat} {a : xA} {s : Nat} {by_ : Int32} (I : Inv B a) (hb : okBy (aC a 2) by_) (hb' : B + 9 < 2 ^ 30) : Inv (B + 9) (sOut a s by_) := by
  unfold sOut
  cases hS : aS a s with
  | nil => exact I.mono (Nat.le_add_right _ _) hb'
  | cons r l =>
    have I1 := Inv_out1 I hS hb
    show Inv (B + 9) (if r 2 = 1 then _ else _)
    by_cases q : r 2 = 1
    · rw [if_pos q]
      have hr : okBy (aC a 2) (r 1) := ((I.2.1 s).2.2.1 r (by rw [hS]; exact List.mem_cons_self)).2.1
      cases hd : bid (r 1) with
      | none => exact I1.mono (Nat.le_add_right _ _) hb'
      | some h0 =>
        have hh : h0 < aC a 2 := by
          rcases hr with e | ⟨h1, hh1, e⟩
          · rw [e] at hd
            cases hd
          · rw [e] at hd
            unfold bid at hd
            by_cases q9 : nI h1 = -100005
            · rw [if_pos q9] at hd
              cases hd
            · rw [if_neg q9, nI_clamp (by have := I.hn; omega)] at hd
              cases hd
              exact hh1
        have h9 := I.2.2.2.1 h0 hh
        exact Inv_hours (Inv_cnt (k := 8) I1 (by decide)) h9.2.2.2.1 h9.2.2.2.2.1 hb'
    · rw [if_neg q]
      exact I1.mono (Nat.le_add_right _ _) hb'
theorem Inv_erase {B : Nat} {a : xA} (I : Inv B a) (l : Nat) : Inv B (sErase a l) := by
  obtain ⟨IC, IS, IT, IH, IG, IL, hB⟩ := I
  have hsub : List.Sublist ((aT a).eraseIdx (kIdx (aT a) (nI l))) (aT a) := List.eraseIdx_sublist _ _
  exact ⟨IC, IS, ⟨Nat.le_trans hsub.length_le IT.1, fun q hq => IT.2.1 q (hsub.subset hq), nd_sub hsub IT.2.2.1, fun s r q hr hq => IT.2.2.2 s r q hr (hsub.subset hq)⟩, IH, IG, IL, hB⟩
/-- a line is in a list of rows -/
def inR (L : List xR) (l : Nat) : Prop := ∃ r, r ∈ L ∧ r 0 = nI l
theorem kIdx_in {L : List xR} {l : Nat} : kIdx L (nI l) < L.length ↔ inR L l := by
  unfold kIdx inR
  rw [List.findIdx_lt_length]
  constructor
  · rintro ⟨r, h1, h2⟩
    exact ⟨r, h1, of_decide_eq_true h2⟩
  · rintro ⟨r, h1, h2⟩
    exact ⟨r, h1, decide_eq_true h2⟩
theorem erase_out {L : List xR} {l : Nat} (hn : (L.map (fun r => r 0)).Nodup) : ¬ inR (L.eraseIdx (kIdx L (nI l))) l := by
  rintro ⟨r, hr, e⟩
  obtain ⟨w, hw⟩ := List.getElem?_of_mem hr
  rw [List.getElem?_eraseIdx] at hw
  have hin : kIdx L (nI l) < L.length := kIdx_in.mpr ⟨r, (List.eraseIdx_sublist _ _).subset hr, e⟩
  have e1 : (L[kIdx L (nI l)]'hin) 0 = nI l := by
    have := List.findIdx_getElem (w := hin)
    exact of_decide_eq_true this
  have hj : ∃ w', w' ≠ kIdx L (nI l) ∧ L[w']? = some r := by
    by_cases q : w < kIdx L (nI l)
    · rw [if_pos q] at hw
      exact ⟨w, by omega, hw⟩
    · rw [if_neg q] at hw
      exact ⟨w + 1, by omega, hw⟩
  obtain ⟨w', hw', hr'⟩ := hj
  exact hw' (nd_key hn hr' (List.getElem?_eq_getElem hin) (e.trans e1.symm))
theorem Inv_put {B : Nat} {a : xA} {l : Nat} {by_ : Int32} (I : Inv B a) (hl : l < 10000) (hlen : (aS a (l % aC a 0)).length < aC a 1) (hS : ¬ inR (aS a (l % aC a 0)) l) (hT : ¬ inR (aT a) l) (hb : okBy (aC a 2) by_) : Inv B (sPut a (l % aC a 0) l by_) := by
  obtain ⟨IC, IS, IT, IH, IG, IL, hB⟩ := I
  have hmod : l % aC a 0 < aC a 0 := Nat.mod_lt _ IC.1
  generalize hs0 : l % aC a 0 = s at *
  have eS : aS (sPut a s l by_) = va_up (aS a) s (aS a s ++ [row3 (nI l) by_ (if by_ = -100005 then 0 else 1)]) := rfl
  refine ⟨IC, fun s' => ?_, ⟨IT.1, IT.2.1, IT.2.2.1, fun s' r' q hr' hq => ?_⟩, IH, IG, IL, hB⟩
  · rw [eS]
    by_cases q2 : s' = s
    · subst q2
      rw [va_up_eq]
      obtain ⟨h1, h2, h3, h4⟩ := IS s'
      refine ⟨fun q => absurd hmod (Nat.not_lt.mpr q), by rw [List.length_append]; exact hlen, fun r' hr' => ?_, ?_⟩
      · rcases List.mem_append.mp hr' with h | h
        · exact h3 r' h
        · rw [List.mem_singleton.mp h]
          refine ⟨⟨l, hl, rfl, hs0⟩, hb, ?_⟩
          show (if by_ = -100005 then (0 : Int32) else 1) = 0 ∨ _
          by_cases q3 : by_ = -100005
          · exact Or.inl (if_pos q3)
          · exact Or.inr ⟨if_neg q3, q3⟩
      · rw [List.map_append, List.nodup_append]
        refine ⟨h4, by simp, fun x hx y hy => ?_⟩
        obtain ⟨q, hq, rfl⟩ := List.mem_map.mp hx
        have : y = nI l := by simpa [row3] using hy
        subst this
        exact fun e => hS ⟨q, hq, e⟩
    · rw [va_up_off q2]
      exact IS s'
  · rw [eS] at hr'
    by_cases q2 : s' = s
    · subst q2
      rw [va_up_eq] at hr'
      rcases List.mem_append.mp hr' with h | h
      · exact IT.2.2.2 s' r' q h hq
      · rw [List.mem_singleton.mp h]
        exact fun e => hT ⟨q, hq, e.symm⟩
    · rw [va_up_off q2] at hr'
      exact IT.2.2.2 s' r' q hr' hq
