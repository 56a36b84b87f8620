/-! the invariant over learning, fetching ahead, the log, an access -/
theorem stride_ok {line : Int32} {r : xR} (h3 : ∃ t, t ≤ 3 ∧ r 3 = nI t) (h2 : r 3 ≠ 0 → r 2 ≠ 0) : (∃ t, t ≤ 3 ∧ (sStride line r).2 = nI t) ∧ ((sStride line r).2 ≠ 0 → (sStride line r).1 ≠ 0) := by
  obtain ⟨t, ht, e⟩ := h3
  unfold sStride
  by_cases q : line - r 1 = r 2 ∧ ¬ line - r 1 = 0
  · simp only [if_pos q]
    refine ⟨?_, fun _ e2 => q.2 (q.1.trans e2)⟩
    by_cases q3 : t < 3
    · rw [e, show (3 : Int32) = nI 3 from rfl, if_pos (nI_lt q3 (by omega)), nI_1]
      exact ⟨t + 1, by omega, rfl⟩
    · rw [e, show (3 : Int32) = nI 3 from rfl, if_neg (nI_nlt (by omega) (by omega))]
      exact ⟨t, ht, rfl⟩
  · simp only [if_neg q]
    cases t with
    | zero =>
      have e0 : r 3 = 0 := e
      rw [e0]
      exact ⟨⟨0, by decide, rfl⟩, fun h => absurd rfl h⟩
    | succ t =>
      have e1 : (0 : Int32) < r 3 := by
        rw [e]
        exact nI_lt (Nat.succ_pos t) (by omega)
      rw [if_pos e1, e, nI_pred]
      refine ⟨⟨t, by omega, rfl⟩, fun h => ?_⟩
      rw [if_neg h]
      exact h2 (fun e2 => by rw [e2] at e1; exact absurd e1 (by decide))
theorem stream_ok {line : Int32} {r : xR} (h3 : ∃ t, t ≤ 9 ∧ r 3 = nI t) : (∃ t, t ≤ 9 ∧ (sStream line r).2 = nI t) ∧ (sStream line r).1 ≠ 0 := by
  obtain ⟨t, ht, e⟩ := h3
  unfold sStream
  refine ⟨?_, ?_⟩
  · show ∃ t, t ≤ 9 ∧ (if (if r 1 < line then (1 : Int32) else -1) = r 2 then _ else _) = nI t
    by_cases q : (if r 1 < line then (1 : Int32) else -1) = r 2
    · rw [if_pos q]
      by_cases q3 : t < 9
      · rw [e, show (9 : Int32) = nI 9 from rfl, if_pos (nI_lt q3 (by omega)), nI_1]
        exact ⟨t + 1, by omega, rfl⟩
      · rw [e, show (9 : Int32) = nI 9 from rfl, if_neg (nI_nlt (by omega) (by omega))]
        exact ⟨9, by omega, rfl⟩
    · rw [if_neg q]
      exact ⟨1, by omega, rfl⟩
  · show (if r 1 < line then (1 : Int32) else -1) ≠ 0
    by_cases q : r 1 < line
    · rw [if_pos q]
      decide
    · rw [if_neg q]
      decide
theorem Inv.setG {B : Nat} {a : xA} {G' : Nat → List xR} (I : Inv B a) (hG : InvG (wG a G')) : Inv B (wG a G') := ⟨I.1, I.2.1, I.2.2.1, I.2.2.2.1, hG, I.2.2.2.2.2⟩
theorem sLearn_r (a : xA) (h p l o : Nat) : aS (sLearn a h p l o).2 = aS a ∧ aT (sLearn a h p l o).2 = aT a ∧ aH (sLearn a h p l o).2 = aH a ∧ aL (sLearn a h p l o).2 = aL a ∧ aC (sLearn a h p l o).2 = aC a := by
  unfold sLearn
  by_cases q : aH a h 0 = 0
  · rw [if_pos q]
    cases (aG a h)[kIdx (aG a h) (nI p)]? with
    | none => exact ⟨rfl, rfl, rfl, rfl, rfl⟩
    | some r => exact ⟨rfl, rfl, rfl, rfl, rfl⟩
  · rw [if_neg q]
    by_cases q1 : aH a h 0 = 1
    · rw [if_pos q1]
      by_cases q2 : o = 1
      · rw [if_pos q2]
        exact ⟨rfl, rfl, rfl, rfl, rfl⟩
      · rw [if_neg q2]
        cases lastN (nI l) (aG a h) with
        | none => exact ⟨rfl, rfl, rfl, rfl, rfl⟩
        | some w =>
          show aS (match (aG a h)[w]? with | none => _ | some r => _ : Int32 × xA).2 = _ ∧ aT (match (aG a h)[w]? with | none => _ | some r => _ : Int32 × xA).2 = _ ∧ aH (match (aG a h)[w]? with | none => _ | some r => _ : Int32 × xA).2 = _ ∧ aL (match (aG a h)[w]? with | none => _ | some r => _ : Int32 × xA).2 = _ ∧ aC (match (aG a h)[w]? with | none => _ | some r => _ : Int32 × xA).2 = _
          cases (aG a h)[w]? with
          | none => exact ⟨rfl, rfl, rfl, rfl, rfl⟩
          | some r => exact ⟨rfl, rfl, rfl, rfl, rfl⟩
    · rw [if_neg q1]
      exact ⟨rfl, rfl, rfl, rfl, rfl⟩
theorem Inv_learn {B : Nat} {a : xA} {h p l o : Nat} (I : Inv B a) (hh : h < aC a 2) (hp : p < 16) : Inv B (sLearn a h p l o).2 := by
  have hG := I.2.2.2.2.1
  have h1 := hG h hh
  unfold sLearn
  by_cases q : aH a h 0 = 0
  · rw [if_pos q]
    obtain ⟨g1, g2, g3⟩ := h1.1 q
    cases hr : (aG a h)[kIdx (aG a h) (nI p)]? with
    | none =>
      refine I.setG (fun h' hh' => ?_)
      show _ ∧ _
      by_cases q9 : h' = h
      · subst q9
        refine ⟨fun _ => ?_, fun e => absurd (q.symm.trans e) (by decide), fun e => absurd (q.symm.trans e) (by decide)⟩
        show (va_up (aG a) h' (pushL 4 (aG a h') ++ [row4 (nI p) (nI l) 0 0]) h').length ≤ 4 ∧ (∀ r, r ∈ va_up (aG a) h' (pushL 4 (aG a h') ++ [row4 (nI p) (nI l) 0 0]) h' → _) ∧ ((va_up (aG a) h' (pushL 4 (aG a h') ++ [row4 (nI p) (nI l) 0 0]) h').map (fun r => r 0)).Nodup
        rw [va_up_eq]
        refine ⟨by rw [List.length_append]; exact pushL_len g1 (by decide), fun r hr2 => ?_, ?_⟩
        · rcases List.mem_append.mp hr2 with m | m
          · exact g2 r ((push_sub _ _).subset m)
          · rw [List.mem_singleton.mp m]
            exact ⟨⟨p, hp, rfl⟩, ⟨0, by decide, rfl⟩, fun e => absurd rfl e⟩
        · rw [List.map_append, List.nodup_append]
          refine ⟨nd_sub (push_sub _ _) g3, by simp, fun x hx y hy => ?_⟩
          obtain ⟨q2, hq2, rfl⟩ := List.mem_map.mp hx
          have : y = nI p := by simpa [row4] using hy
          subst this
          intro e
          have hk : kIdx (aG a h') (nI p) < (aG a h').length := kIdx_in.mpr ⟨q2, (push_sub _ _).subset hq2, e⟩
          rw [List.getElem?_eq_getElem hk] at hr
          cases hr
      · have e9 : aG (sNew a h 4 (nI p) (nI l)) h' = aG a h' := va_up_off q9
        have e8 : aG (wG a (va_up (aG a) h (pushL 4 (aG a h) ++ [row4 (nI p) (nI l) 0 0]))) h' = aG a h' := e9
        rw [e8]
        exact hG h' hh'
    | some r =>
      refine I.setG (fun h' hh' => ?_)
      by_cases q9 : h' = h
      · subst q9
        obtain ⟨m1, m2, m3⟩ := g2 r (List.mem_of_getElem? hr)
        obtain ⟨s1, s2⟩ := stride_ok (line := nI l) m2 m3
        refine ⟨fun _ => ?_, fun e => absurd (q.symm.trans e) (by decide), fun e => absurd (q.symm.trans e) (by decide)⟩
        have e9 : aG (wG a (va_up (aG a) h' ((aG a h').eraseIdx (kIdx (aG a h') (nI p)) ++ [row4 (r 0) (nI l) (sStride (nI l) r).1 (sStride (nI l) r).2]))) h' = (aG a h').eraseIdx (kIdx (aG a h') (nI p)) ++ [row4 (r 0) (nI l) (sStride (nI l) r).1 (sStride (nI l) r).2] := va_up_eq
        rw [e9]
        refine ⟨by rw [len_touch' hr]; exact g1, fun r2 hr2 => ?_, nd_touch g3 hr rfl⟩
        rcases mem_touch hr hr2 with m | m
        · exact g2 r2 m
        · rw [m]
          exact ⟨m1, s1, s2⟩
      · have e8 : aG (wG a (va_up (aG a) h ((aG a h).eraseIdx (kIdx (aG a h) (nI p)) ++ [row4 (r 0) (nI l) (sStride (nI l) r).1 (sStride (nI l) r).2]))) h' = aG a h' := va_up_off q9
        rw [e8]
        exact hG h' hh'
  · rw [if_neg q]
    by_cases q1 : aH a h 0 = 1
    · rw [if_pos q1]
      obtain ⟨g1, g2⟩ := h1.2.1 q1
      by_cases q2 : o = 1
      · rw [if_pos q2]
        exact I
      · rw [if_neg q2]
        cases lastN (nI l) (aG a h) with
        | none =>
          refine I.setG (fun h' hh' => ?_)
          by_cases q9 : h' = h
          · subst q9
            refine ⟨fun e => absurd e q, fun _ => ?_, fun e => absurd (q1.symm.trans e) (by decide)⟩
            have e9 : aG (wG a (va_up (aG a) h' (pushL 3 (aG a h') ++ [row4 (-100005) (nI l) 0 0]))) h' = pushL 3 (aG a h') ++ [row4 (-100005) (nI l) 0 0] := va_up_eq
            rw [e9]
            refine ⟨by rw [List.length_append]; exact pushL_len g1 (by decide), fun r hr2 => ?_⟩
            rcases List.mem_append.mp hr2 with m | m
            · exact g2 r ((push_sub _ _).subset m)
            · rw [List.mem_singleton.mp m]
              exact ⟨rfl, ⟨0, by decide, rfl⟩⟩
          · have e8 : aG (wG a (va_up (aG a) h (pushL 3 (aG a h) ++ [row4 (-100005) (nI l) 0 0]))) h' = aG a h' := va_up_off q9
            rw [e8]
            exact hG h' hh'
        | some w =>
          show Inv B (match (aG a h)[w]? with | none => _ | some r => _ : Int32 × xA).2
          cases hr : (aG a h)[w]? with
          | none => exact I
          | some r =>
            refine I.setG (fun h' hh' => ?_)
            by_cases q9 : h' = h
            · subst q9
              obtain ⟨m1, m2⟩ := g2 r (List.mem_of_getElem? hr)
              obtain ⟨s1, -⟩ := stream_ok (line := nI l) m2
              refine ⟨fun e => absurd e q, fun _ => ?_, fun e => absurd (q1.symm.trans e) (by decide)⟩
              have e9 : aG (wG a (va_up (aG a) h' ((aG a h').eraseIdx w ++ [row4 (r 0) (nI l) (sStream (nI l) r).1 (sStream (nI l) r).2]))) h' = (aG a h').eraseIdx w ++ [row4 (r 0) (nI l) (sStream (nI l) r).1 (sStream (nI l) r).2] := va_up_eq
              rw [e9]
              refine ⟨by rw [len_touch' hr]; exact g1, fun r2 hr2 => ?_⟩
              rcases mem_touch hr hr2 with m | m
              · exact g2 r2 m
              · rw [m]
                exact ⟨m1, s1⟩
            · have e8 : aG (wG a (va_up (aG a) h ((aG a h).eraseIdx w ++ [row4 (r 0) (nI l) (sStream (nI l) r).1 (sStream (nI l) r).2]))) h' = aG a h' := va_up_off q9
              rw [e8]
              exact hG h' hh'
    · rw [if_neg q1]
      exact I
theorem okL_some {x : Int32} {l : Nat} (h : okL x = some l) : l < 10000 ∧ x = nI l := by
  unfold okL at h
  by_cases q : x < 0 ∨ 9999 < x
  · rw [if_pos q] at h
    cases h
  · rw [if_neg q] at h
    obtain ⟨j, hj, rfl⟩ := nI_of (fun e => q (Or.inl e))
    rw [nI_clamp hj] at h
    have e : j = l := Option.some.inj h
    rw [← e]
    refine ⟨?_, rfl⟩
    have : ¬ nI 9999 < nI j := fun e => q (Or.inr e)
    rw [nI_ltI (by omega) hj] at this
    omega
theorem asks_ok (l : Nat) (st : Int32) : ∀ k, (asks l st k).length ≤ k ∧ ∀ x, x ∈ asks l st k → x < 10000 := by
  intro k
  induction k with
  | zero => exact ⟨Nat.le_refl _, fun x hx => by cases hx⟩
  | succ k ih =>
    unfold asks
    cases hq : askAt l st k with
    | none =>
      show (asks l st k ++ []).length ≤ k + 1 ∧ ∀ x, x ∈ asks l st k ++ [] → x < 10000
      rw [List.append_nil]
      exact ⟨by omega, ih.2⟩
    | some y =>
      refine ⟨by rw [List.length_append]; exact Nat.succ_le_succ ih.1, fun x hx => ?_⟩
      rcases List.mem_append.mp hx with m | m
      · exact ih.2 x m
      · have : x = y := by simpa using m
        subst this
        exact (okL_some hq).1
theorem sFetch1_C (h : Nat) (q : Nat × xA) (l i : Nat) (hi : i ≠ 8) : aC (sFetch1 h q l).2 i = aC q.2 i := by
  unfold sFetch1
  by_cases c : kIdx (aS q.2 (l % aC q.2 0)) (nI l) < (aS q.2 (l % aC q.2 0)).length
  · rw [if_pos c]
  · rw [if_neg c]
    exact sFetch_C _ _ _ _ hi
theorem Inv_fetch1 {B h l : Nat} {q : Nat × xA} (I : Inv B q.2) (hh : h < aC q.2 2) (hl : l < 10000) (hb' : B + 9 < 2 ^ 30) : Inv (B + 9) (sFetch1 h q l).2 := by
  unfold sFetch1
  by_cases c : kIdx (aS q.2 (l % aC q.2 0)) (nI l) < (aS q.2 (l % aC q.2 0)).length
  · rw [if_pos c]
    exact I.mono (by omega) hb'
  · rw [if_neg c]
    exact Inv_fetch I hl (fun e => c (kIdx_in.mpr e)) (Or.inr ⟨h, hh, rfl⟩) hb'
theorem foldC (h : Nat) : ∀ (ls : List Nat) (q : Nat × xA) (i : Nat), i ≠ 8 → aC (ls.foldl (sFetch1 h) q).2 i = aC q.2 i := by
  intro ls
  induction ls with
  | nil => intro q i _; rfl
  | cons l ls ih =>
    intro q i hi
    rw [List.foldl_cons, ih _ i hi, sFetch1_C h q l i hi]
theorem Inv_fold (h : Nat) : ∀ (ls : List Nat) (B : Nat) (q : Nat × xA), Inv B q.2 → h < aC q.2 2 → (∀ x, x ∈ ls → x < 10000) → B + 9 * ls.length < 2 ^ 30 → Inv (B + 9 * ls.length) (ls.foldl (sFetch1 h) q).2 := by
  intro ls
  induction ls with
  | nil => intro B q I _ _ _; exact I
  | cons l ls ih =>
    intro B q I hh hl hb
    rw [List.length_cons] at hb
    rw [List.foldl_cons, List.length_cons]
    have I1 := Inv_fetch1 (h := h) I hh (hl l List.mem_cons_self) (by omega)
    have I2 := ih (B + 9) _ I1 (by rw [sFetch1_C h q l 2 (by decide)]; exact hh) (fun x hx => hl x (List.mem_cons_of_mem _ hx)) (by omega)
    exact I2.mono (by omega) (by omega)
theorem reach_le {B : Nat} {a : xA} (I : Inv B a) {h : Nat} (hh : h < aC a 2) : sReach a h ≤ 4 := by
  have h1 := I.2.2.2.1 h hh
  unfold sReach
  by_cases q : aH a h 3 = 0
  · rw [if_pos q]
    exact h1.2.2.1
  · rw [if_neg q]
    by_cases q2 : aH a h 3 = 1
    · rw [if_pos q2]
      decide
    · rw [if_neg q2]
      decide
theorem sAsk_ok {B : Nat} {a : xA} (I : Inv B a) {h p l o : Nat} (hh : h < aC a 2) (hp : p < 16) : (sAsk a h p l o).length ≤ 4 ∧ ∀ x, x ∈ sAsk a h p l o → x < 10000 := by
  unfold sAsk
  by_cases q : (sLearn a h p l o).1 = 0
  · rw [if_pos q]
    exact ⟨Nat.zero_le _, fun x hx => by cases hx⟩
  · rw [if_neg q]
    have I1 := Inv_learn (l := l) (o := o) I hh hp
    have hr := reach_le I1 (h := h) (by rw [(sLearn_r a h p l o).2.2.2.2]; exact hh)
    obtain ⟨k1, k2⟩ := asks_ok l (sLearn a h p l o).1 (sReach (sLearn a h p l o).2 h)
    exact ⟨Nat.le_trans k1 hr, k2⟩
theorem sHelp_C (a : xA) (h p l o i : Nat) (hi : i ≠ 8) : aC (sHelp a h p l o).2 i = aC a i := by
  have e : aC (sFetches (sLearn a h p l o).2 h (sAsk a h p l o)).2 i = aC (sLearn a h p l o).2 i := foldC h _ _ i hi
  exact e.trans (congrFun (sLearn_r a h p l o).2.2.2.2 i)
theorem Inv_help {B : Nat} {a : xA} {h p l o : Nat} (I : Inv B a) (hh : h < aC a 2) (hp : p < 16) (hb : B + 36 < 2 ^ 30) : Inv (B + 36) (sHelp a h p l o).2 := by
  have I1 := Inv_learn (l := l) (o := o) I hh hp
  obtain ⟨k1, k2⟩ := sAsk_ok (l := l) (o := o) I hh hp
  have I2 := Inv_fold h (sAsk a h p l o) B (0, (sLearn a h p l o).2) I1 (by rw [(sLearn_r a h p l o).2.2.2.2]; exact hh) k2 (by omega)
  exact (Inv_cnt (k := 6) I2 (by decide)).mono (by omega) hb
theorem sHelps_C (p l o i : Nat) (hi : i ≠ 8) (a : xA) : ∀ k, aC (sHelps p l o k a).2 i = aC a i := by
  intro k
  induction k with
  | zero => rfl
  | succ k ih => exact (sHelp_C _ k p l o i hi).trans ih
theorem Inv_helps {B : Nat} {a : xA} {p l o : Nat} (I : Inv B a) (hp : p < 16) : ∀ k, k ≤ aC a 2 → B + 36 * k < 2 ^ 30 → Inv (B + 36 * k) (sHelps p l o k a).2 := by
  intro k
  induction k with
  | zero => intro _ _; exact I
  | succ k ih =>
    intro hk hb
    have I1 := ih (by omega) (by omega)
    exact (Inv_help (h := k) (l := l) (o := o) I1 (by rw [sHelps_C p l o 2 (by decide)]; omega) hp (by omega)).mono (by omega) hb
theorem get_push {m : Nat} {l : List xR} {g : xR} (hl : l.length ≤ m) (hm : 1 ≤ m) (k : Nat) : (pushL m l ++ [g])[k]? = if k < (pushL m l).length then l[k + (l.length - (pushL m l).length)]? else if k = (pushL m l).length then some g else none := by
  rw [List.getElem?_append]
  by_cases q : k < (pushL m l).length
  · rw [if_pos q, if_pos q]
    unfold pushL at q ⊢
    by_cases c : l.length < m
    · rw [if_pos c] at q ⊢
      rw [Nat.sub_self]
      rfl
    · rw [if_neg c] at q ⊢
      rw [List.length_tail, List.getElem?_tail]
      congr 1
      omega
  · rw [if_neg q, if_neg q]
    by_cases c : k = (pushL m l).length
    · rw [if_pos c, c, Nat.sub_self]
      rfl
    · rw [if_neg c, List.getElem?_eq_none (by simp; omega)]
theorem Inv_log {B : Nat} {a : xA} {p l o n : Nat} (I : Inv B a) (hp : p < 16) (hb : B + 1 < 2 ^ 30) : Inv (B + 1) (sLog a p l o n) := by
  obtain ⟨IC, IS, IT, IH, IG, ⟨L1, L2, L3⟩, hB⟩ := I
  have hlen : (aL a).length ≤ 12 := by omega
  have hpl := pushL_len (m := 12) hlen (by decide)
  have hpl2 : (pushL 12 (aL a)).length + 1 = min (aC a 4 + 1) 12 := by
    unfold pushL
    by_cases c : (aL a).length < 12
    · rw [if_pos c]
      omega
    · rw [if_neg c, List.length_tail]
      omega
  have e4 : aC (sLog a p l o n) 4 = aC a 4 + 1 := rfl
  have eL : aL (sLog a p l o n) = pushL 12 (aL a) ++ [row5 (nI p) (nI l) (nI o) (nI n) (nI (aC a 4))] := rfl
  refine ⟨IC, IS, IT, fun h hh => ?_, IG, ⟨by rw [e4]; omega, ?_, fun k r hk => ?_⟩, hb⟩
  · exact (InvH.mono (B' := B + 1) IH (by omega)) h hh
  · rw [e4, eL, List.length_append]
    exact hpl2
  · rw [eL] at hk
    rw [e4, eL, List.length_append]
    rw [get_push hlen (by decide)] at hk
    by_cases c : k < (pushL 12 (aL a)).length
    · rw [if_pos c] at hk
      obtain ⟨k1, k2⟩ := L3 _ r hk
      refine ⟨?_, k2⟩
      rw [k1]
      congr 1
      have : (pushL 12 (aL a)).length ≤ (aL a).length := (push_sub _ _).length_le
      simp only [List.length_cons, List.length_nil]
      omega
    · rw [if_neg c] at hk
      by_cases c2 : k = (pushL 12 (aL a)).length
      · rw [if_pos c2] at hk
        cases hk
        refine ⟨?_, p, hp, rfl⟩
        show nI (aC a 4) = _
        congr 1
        simp only [List.length_cons, List.length_nil]
        omega
      · rw [if_neg c2] at hk
        cases hk
theorem sServe_C (a : xA) (l i : Nat) (hi : i ≠ 8) : aC (sServe a l).2 i = aC a i := by
  unfold sServe
  cases (aS a (l % aC a 0))[kIdx (aS a (l % aC a 0)) (nI l)]? with
  | none =>
    show aC (sFetch (sPunish a l) l (-100005)) i = _
    rw [sFetch_C _ _ _ _ hi, (sPunish_S a l).2.1]
  | some r =>
    show aC (if r 2 = 1 then _ else _ : Nat × xA).2 i = _
    by_cases q : r 2 = 1
    · rw [if_pos q]
      cases bid (r 1) with
      | none => rfl
      | some h0 =>
        show aC (sUse (sHit a _ _ r) h0) i = _
        unfold sUse
        by_cases q1 : aH (sHit a (l % aC a 0) (kIdx (aS a (l % aC a 0)) (nI l)) r) h0 3 = 1
        · rw [if_pos q1]
          by_cases q2 : aH (sHit a (l % aC a 0) (kIdx (aS a (l % aC a 0)) (nI l)) r) h0 5 < 2
          · rw [if_pos q2]
            rfl
          · rw [if_neg q2]
            rfl
        · rw [if_neg q1]
          rfl
    · rw [if_neg q]
      rfl
theorem Inv_go {B : Nat} {a : xA} {p l : Nat} (I : Inv B a) (hp : p < 16) (hl : l < 10000) (hb : B + 300 < 2 ^ 30) : Inv (B + 300) (sGo a p l).2 := by
  have I1 := Inv_work I (aC a 2)
  have eC := (sWork_r a (aC a 2)).2.2.2.2
  have I2 := Inv_serve (l := l) I1 hl (by omega)
  have h2 : aC (sServe (sWork (aC a 2) a) l).2 2 = aC a 2 := (sServe_C _ l 2 (by decide)).trans (congrFun eC 2)
  have h6 := I.hn
  have I3 := Inv_helps (l := l) (o := (sServe (sWork (aC a 2) a) l).1) I2 hp (aC a 2) (by omega) (by omega)
  exact (Inv_log (l := l) I3 hp (by omega)).mono (by omega) hb
