/-! the check: fetching ahead *)  -/
def w6 (a : xA) (h v : Nat) : xA := wH a (hu (aH a) h 6 v)
theorem wH_ext {a : xA} {H H' : Nat → Nat → Nat} (e : ∀ x y, H x y = H' x y) : wH a H = wH a H' := by
  rw [show H = H' from funext fun x => funext fun y => e x y]
theorem w6_same (a : xA) (h : Nat) : w6 a h (aH a h 6) = a := by
  have e : ∀ x y, hu (aH a) h 6 (aH a h 6) x y = aH a x y := fun x y => by
    simp only [hu]
    by_cases q : x = h ∧ y = 6
    · rw [if_pos q, q.1, q.2]
    · rw [if_neg q]
  exact wH_ext e
theorem w6_w6 (a : xA) (h v w : Nat) : w6 (w6 a h v) h w = w6 a h w := by
  have e : ∀ x y, hu (hu (aH a) h 6 v) h 6 w x y = hu (aH a) h 6 w x y := fun x y => by
    simp only [hu]
    by_cases q : x = h ∧ y = 6
    · rw [if_pos q, if_pos q]
    · rw [if_neg q, if_neg q, if_neg q]
  exact wH_ext (a := a) e
theorem hu_comm {H : Nat → Nat → Nat} {h k v h' k' v' : Nat} (hk : k ≠ k') : hu (hu H h k v) h' k' v' = hu (hu H h' k' v') h k v := by
  funext x y
  simp only [hu]
  by_cases q : x = h ∧ y = k
  · rw [if_neg (fun e => hk (q.2.symm.trans e.2)), if_pos q, if_pos q]
  · rw [if_neg q, if_neg q]
theorem hu_at {H : Nat → Nat → Nat} {h k v h' k' : Nat} (hk : k ≠ k') : hu H h k v h' k' = H h' k' := by
  simp only [hu]
  rw [if_neg (fun e => hk e.2.symm)]
theorem sHours_w6 (a : xA) (h v h' m : Nat) : sHours (w6 a h v) h' m = w6 (sHours a h' m) h v := by
  refine wH_ext (a := a) (fun x y => ?_)
  show hu (hu (hu (hu (aH a) h 6 v) h' 4 (hu (aH a) h 6 v h' 4 + m)) h' 3 2) h' 5 0 x y = hu (hu (hu (hu (aH a) h' 4 (aH a h' 4 + m)) h' 3 2) h' 5 0) h 6 v x y
  rw [hu_at (show 6 ≠ 4 by decide), hu_comm (show 6 ≠ 4 by decide), hu_comm (show 6 ≠ 3 by decide), hu_comm (show 6 ≠ 5 by decide)]
theorem sVain_w6 (a : xA) (h v h' : Nat) : sVain (w6 a h v) h' = w6 (sVain a h') h v := by
  have e1 : wH (w6 a h v) (hu (aH (w6 a h v)) h' 8 (aH (w6 a h v) h' 8 + 1)) = w6 (wH a (hu (aH a) h' 8 (aH a h' 8 + 1))) h v := by
    refine wH_ext (a := a) (fun x y => ?_)
    show hu (hu (aH a) h 6 v) h' 8 (hu (aH a) h 6 v h' 8 + 1) x y = hu (hu (aH a) h' 8 (aH a h' 8 + 1)) h 6 v x y
    rw [hu_at (show 6 ≠ 8 by decide), hu_comm (show 6 ≠ 8 by decide)]
  have e2 : aH (w6 a h v) h' 2 = aH a h' 2 := hu_at (by decide)
  unfold sVain
  rw [e1, e2, sHours_w6]
theorem sOut_w6 (a : xA) (h v s : Nat) (b : Int32) : sOut (w6 a h v) s b = w6 (sOut a s b) h v := by
  unfold sOut
  show (match aS a s with | [] => w6 a h v | r :: l => if r 2 = 1 then (match bid (r 1) with | none => sOut1 (w6 a h v) s r l b | some h' => sVain (sOut1 (w6 a h v) s r l b) h') else sOut1 (w6 a h v) s r l b) = _
  cases aS a s with
  | nil => rfl
  | cons r l =>
    show (if r 2 = 1 then _ else _ : xA) = w6 (if r 2 = 1 then _ else _) h v
    by_cases q : r 2 = 1
    · rw [if_pos q, if_pos q]
      cases bid (r 1) with
      | none => rfl
      | some h' =>
        show sVain (w6 (sOut1 a s r l b) h v) h' = w6 (sVain (sOut1 a s r l b) h') h v
        exact sVain_w6 _ _ _ _
    · rw [if_neg q, if_neg q]
      rfl
theorem sFetch_w6 (a : xA) (h v l : Nat) (b : Int32) : sFetch (w6 a h v) l b = w6 (sFetch a l b) h v := by
  show sPut (if (aS a (l % aC a 0)).length < aC a 1 then w6 (sErase a l) h v else sOut (w6 (sErase a l) h v) (l % aC a 0) b) (l % aC a 0) l b = w6 (sPut _ _ _ _) h v
  rw [sOut_w6]
  by_cases q : (aS a (l % aC a 0)).length < aC a 1
  · rw [if_pos q, if_pos q]
    rfl
  · rw [if_neg q, if_neg q]
    rfl
theorem sFetch_6 (a : xA) (h l : Nat) (b : Int32) : aH (sFetch a l b) h 6 = aH a h 6 := by
  have e := sFetch_w6 a h (aH a h 6) l b
  rw [w6_same] at e
  rw [e]
  show hu _ h 6 (aH a h 6) h 6 = _
  simp [hu]
theorem fold_6 (h : Nat) : ∀ (ls : List Nat) (q : Nat × xA), aH (ls.foldl (sFetch1 h) q).2 h 6 = aH q.2 h 6 := by
  intro ls
  induction ls with
  | nil => intro q; rfl
  | cons l ls ih =>
    intro q
    rw [List.foldl_cons, ih]
    unfold sFetch1
    by_cases c : kIdx (aS q.2 (l % aC q.2 0)) (nI l) < (aS q.2 (l % aC q.2 0)).length
    · rw [if_pos c]
    · rw [if_neg c]
      exact sFetch_6 _ _ _ _
/-- the check notes what the watched helper asks for -/
def wAsk (μ : xM) (x : Nat) : xM := x_up (x_up μ 3 (μ 0 8).toNatClampNeg (nI x)) 0 8 (μ 0 8 + 1)
def wA (μ : xM) (h : Nat) (ls : List Nat) : xM := if μ 0 6 = nI h then ls.foldl wAsk μ else μ
theorem wAsk_0 (μ : xM) (x k : Nat) (hk : k ≠ 8) : wAsk μ x 0 k = μ 0 k := by
  unfold wAsk
  rw [x_up_off (by omega), x_up_row' (by decide)]
theorem fAsk_0 (ls : List Nat) : ∀ (μ : xM) (k : Nat), k ≠ 8 → ls.foldl wAsk μ 0 k = μ 0 k := by
  induction ls with
  | nil => intro μ k _; rfl
  | cons x ls ih =>
    intro μ k hk
    rw [List.foldl_cons, ih _ k hk, wAsk_0 μ x k hk]
theorem fAsk_8 (ls : List Nat) : ∀ (μ : xM) (m : Nat), μ 0 8 = nI m → ls.foldl wAsk μ 0 8 = nI (m + ls.length) := by
  induction ls with
  | nil => intro μ m h; exact h
  | cons x ls ih =>
    intro μ m h
    rw [List.foldl_cons, ih _ (m + 1) (by unfold wAsk; rw [x_up_at, h, nI_1]), List.length_cons]
    congr 1
    omega
theorem wA_0 (μ : xM) (h : Nat) (ls : List Nat) (k : Nat) (hk : k ≠ 8) : wA μ h ls 0 k = μ 0 k := by
  unfold wA
  by_cases q : μ 0 6 = nI h
  · rw [if_pos q, fAsk_0 _ _ _ hk]
  · rw [if_neg q]
theorem wA_snoc {μ : xM} {h : Nat} {ls : List Nat} (q : μ 0 6 = nI h) (x : Nat) : wAsk (wA μ h ls) x = wA μ h (ls ++ [x]) := by
  unfold wA
  rw [if_pos q, if_pos q, List.foldl_append]
  rfl
theorem isLine_ok (x : Int32) : F_X5_isLine x = if okL x = none then 0 else 1 := by
  unfold F_X5_isLine F_X5_in okL
  by_cases c1 : x < 0
  · rw [if_pos c1, if_pos (Or.inl c1), if_pos rfl]
  · rw [if_neg c1]
    by_cases c2 : 9999 < x
    · rw [if_pos c2, if_pos (Or.inr c2), if_pos rfl]
    · rw [if_neg c2, if_neg (show ¬ (x < 0 ∨ 9999 < x) from fun e => e.elim c1 c2)]
      exact (if_neg (Option.some_ne_none _)).symm
theorem isLine_0 {x : Int32} (h : okL x = none) : F_X5_isLine x = 0 := by rw [isLine_ok, if_pos h]
theorem isLine_1 {x : Int32} {y : Nat} (h : okL x = some y) : ¬ F_X5_isLine x = 0 := by
  rw [isLine_ok, h, if_neg (Option.some_ne_none _)]
  decide
theorem R_fetchAhead {ρ : Nat → Int32} {a : xA} {B : Nat} (h : RRep ρ a) (I : Inv B a) {h0 : Nat} (hh : h0 < aC a 2) {n : Nat} (hn : 20 < n) {μ : xM} (l : Nat) (hw : μ 0 6 = nI h0 → μ 0 8 = 0) (hB : B + 36 < 2 ^ 30) : ∃ ρ', F_X5_fetchAhead n (xr μ ρ) (nI h0) (nI l) = some (nI (sFetches a h0 (if μ 0 5 = 0 then [] else asks l (μ 0 5) (sReach a h0))).1, xr (wA μ h0 (if μ 0 5 = 0 then [] else asks l (μ 0 5) (sReach a h0))) ρ') ∧ RRep ρ' (w6 (sFetches a h0 (if μ 0 5 = 0 then [] else asks l (μ 0 5) (sReach a h0))).2 h0 (aH (sFetches a h0 (if μ 0 5 = 0 then [] else asks l (μ 0 5) (sReach a h0))).2 h0 6 + (sFetches a h0 (if μ 0 5 = 0 then [] else asks l (μ 0 5) (sReach a h0))).1)) := by
  have h6 := I.hn
  have i3 := (I.2.2.2.1 h0 hh).2.2.2.2.2.1
  unfold F_X5_fetchAhead
  show ∃ ρ', (if μ 0 5 = (0 : Int32) then _ else _) = _ ∧ _
  by_cases q0 : μ 0 5 = 0
  · rw [if_pos q0, if_pos q0]
    have e0 : wA μ h0 [] = μ := by
      unfold wA
      by_cases q : μ 0 6 = nI h0
      · rw [if_pos q]
        rfl
      · rw [if_neg q]
    have e1 : w6 a h0 (aH a h0 6 + 0) = a := w6_same a h0
    obtain ⟨f, rfl⟩ : ∃ f, n = f + 1 := ⟨n - 1, by omega⟩
    unfold B_X5_fetchAhead_16
    refine ⟨ρ, ?_, ?_⟩
    · rw [e0]
      show (if (0 : Int32) < 1 then _ else _) = _
      rw [if_pos (by decide)]
      rfl
    · show RRep ρ (w6 a h0 (aH a h0 6 + 0))
      rw [e1]
      exact h
  · rw [if_neg q0, if_neg q0, show F_X5_reachOf n (xr μ ρ) (nI h0) = _ from R_reach h hh h6 i3 n μ, Option.bind_some]
    have hr4 := reach_le I hh
    generalize hst : μ 0 5 = st at *
    generalize hT : sReach a h0 = T at *
    have loop : ∀ (f k : Nat) (ρ : Nat → Int32), k ≤ T → T - k < f → RRep ρ (w6 (sFetches a h0 (asks l st k)).2 h0 (aH a h0 6 + (sFetches a h0 (asks l st k)).1)) → ∃ ρ', B_X5_fetchAhead_23 n f (xr (wA μ h0 (asks l st k)) ρ) (nI h0) (nI l) (nI T) (nI (sFetches a h0 (asks l st k)).1) (nI (k + 1)) = some (nI (sFetches a h0 (asks l st T)).1, xr (wA μ h0 (asks l st T)) ρ') ∧ RRep ρ' (w6 (sFetches a h0 (asks l st T)).2 h0 (aH a h0 6 + (sFetches a h0 (asks l st T)).1)) := by
      intro f
      induction f with
      | zero => intro k ρ _ h; omega
      | succ f ih =>
        intro k ρ hk hf hr
        show ∃ ρ', (if nI T < nI (k + 1) then _ else _) = some _ ∧ _
        by_cases q : k < T
        · have e5 : wA μ h0 (asks l st k) 0 5 = st := (wA_0 _ _ _ _ (by decide)).trans hst
          have e6 : wA μ h0 (asks l st k) 0 6 = μ 0 6 := wA_0 _ _ _ _ (by decide)
          have ex : xr (wA μ h0 (asks l st k)) ρ 0 5 = st := e5
          have ex6 : xr (wA μ h0 (asks l st k)) ρ 0 6 = μ 0 6 := e6
          rw [if_neg (nI_nlt (by omega) (by omega)), ex, ex6]
          have hi := ih (k + 1)
          obtain ⟨kl1, kl2⟩ := asks_ok l st k
          have II := Inv_fold h0 (asks l st k) B (0, a) I hh kl2 (by omega)
          cases hq : okL (nI l + nI (k + 1) * st) with
          | none =>
            have ea : asks l st (k + 1) = asks l st k := by
              show asks l st k ++ (askAt l st k).toList = _
              unfold askAt
              rw [hq]
              exact List.append_nil _
            rw [ea] at hi
            rw [if_pos (isLine_0 hq)]
            unfold B_X5_fetchAhead_77 B_X5_fetchAhead_119
            rw [if_pos (isLine_0 hq), nI_1]
            exact hi ρ q (by omega) hr
          | some x =>
            obtain ⟨hx, ex2⟩ := okL_some hq
            have ea : asks l st (k + 1) = asks l st k ++ [x] := by
              show asks l st k ++ (askAt l st k).toList = _
              unfold askAt
              rw [hq]
              rfl
            have es : sFetches a h0 (asks l st k ++ [x]) = sFetch1 h0 (sFetches a h0 (asks l st k)) x := by
              unfold sFetches
              rw [List.foldl_append]
              rfl
            rw [ea, es] at hi
            have hq1 := isLine_1 hq
            rw [ex2] at hq1
            rw [ex2, if_neg hq1]
            generalize hQ : sFetches a h0 (asks l st k) = Q at *
            have II' : Inv (B + 9 * (asks l st k).length) Q.2 := by
              rw [← hQ]
              exact II
            have hC : ∀ i, i ≠ 8 → aC Q.2 i = aC a i := fun i hi => by
              rw [← hQ]
              exact foldC h0 _ _ i hi
            have IW : Inv (B + 9 * (asks l st k).length) (w6 Q.2 h0 (aH a h0 6 + Q.1)) := Inv_cnt II' (by decide)
            have key : ∀ μ' : xM, μ' = wA μ h0 (asks l st k ++ [x]) → ∃ ρ', B_X5_fetchAhead_77 n (fun σ l1 l2 l3 l4 l5 => B_X5_fetchAhead_23 n f σ l1 l2 l3 l4 l5) (xr μ' ρ) (nI h0) (nI l) (nI T) (nI Q.1) (nI (k + 1)) (nI x) = some (nI (sFetches a h0 (asks l st T)).1, xr (wA μ h0 (asks l st T)) ρ') ∧ RRep ρ' (w6 (sFetches a h0 (asks l st T)).2 h0 (aH a h0 6 + (sFetches a h0 (asks l st T)).1)) := fun μ' eμ => by
              unfold B_X5_fetchAhead_77 B_X5_fetchAhead_119
              have eP : F_X5_placeOf n (xr μ' ρ) (nI x) = some (if kIdx (aS Q.2 (x % aC Q.2 0)) (nI x) < (aS Q.2 (x % aC Q.2 0)).length then nI (kIdx (aS Q.2 (x % aC Q.2 0)) (nI x)) else -1) := R_placeOf hr IW.1 IW.2.1 hn μ' hx
              rw [if_neg hq1, eP, Option.bind_some, nI_1]
              rw [← eμ] at hi
              by_cases c : kIdx (aS Q.2 (x % aC Q.2 0)) (nI x) < (aS Q.2 (x % aC Q.2 0)).length
              · have e1 : sFetch1 h0 Q x = Q := if_pos c
                rw [e1] at hi
                have hs4 : (aS Q.2 (x % aC Q.2 0)).length ≤ 4 := II'.sz.1 _ (Nat.lt_of_lt_of_le (Nat.mod_lt _ II'.1.1) II'.1.2.1)
                rw [if_pos c, if_neg (show ¬ nI (kIdx (aS Q.2 (x % aC Q.2 0)) (nI x)) < 0 from nI_pos (by omega))]
                have hj := hi ρ q (by omega) hr
                rw [← nI_1 (k + 1)] at hj
                exact hj
              · have e1 : sFetch1 h0 Q x = (Q.1 + 1, sFetch Q.2 x (nI h0)) := if_neg c
                rw [e1] at hi
                rw [if_neg c, if_pos (by decide)]
                have hh2 : h0 < aC Q.2 2 := by rw [hC 2 (by decide)]; exact hh
                obtain ⟨ρ1, f1, f2⟩ := R_fetch hr IW hn μ' hx (by_ := nI h0) (Or.inr ⟨h0, hh2, rfl⟩) (by omega)
                rw [uc_nI (by omega)] at f1
                rw [sFetch_w6] at f2
                have I9 := Inv_fetch II' hx (by_ := nI h0) (fun e => c (kIdx_in.mpr e)) (Or.inr ⟨h0, hh2, rfl⟩) (by omega)
                have I10 : Inv (B + 9 * (asks l st k).length + 9) (w6 (sFetch Q.2 x (nI h0)) h0 (aH a h0 6 + Q.1)) := Inv_cnt I9 (by decide)
                have hh3 : h0 < aC (sFetch Q.2 x (nI h0)) 2 := by rw [sFetch_C _ _ _ _ (by decide)]; exact hh2
                have e7 : ρ1 (120 + 14 * h0 + 6) = nI (aH a h0 6 + Q.1) := (f2.f hh3 6 (by decide)).trans (by
                  show nI (hu _ h0 6 (aH a h0 6 + Q.1) h0 6) = _
                  simp [hu])
                have f3 := f2.setH (v := aH a h0 6 + (Q.1 + 1)) I10.sz (h0 := h0) hh3 (k := 6) (by decide) (by decide)
                have f4 : RRep (upd ρ1 (120 + 14 * h0 + 6) (nI (aH a h0 6 + (Q.1 + 1)))) (w6 (sFetch Q.2 x (nI h0)) h0 (aH a h0 6 + (Q.1 + 1))) := by
                  rw [← w6_w6 _ h0 (aH a h0 6 + Q.1)]
                  exact f3
                rw [f1, Option.bind_some, show F_X5_of (nI h0) (6 : Int32) = nI (120 + 14 * h0 + 6) from R_of h0 6]
                simp (disch := omega) only [gd, gd2, cl, xr_1, xr_up, e7, nI_1]
                exact hi _ q (by omega) f4
            by_cases qw : μ 0 6 = nI h0
            · have e8 : wA μ h0 (asks l st k) 0 8 = nI (asks l st k).length := by
                unfold wA
                rw [if_pos qw, fAsk_8 _ _ 0 (hw qw), Nat.zero_add]
              have ex8 : xr (wA μ h0 (asks l st k)) ρ 0 8 = nI (asks l st k).length := e8
              rw [if_pos qw.symm, ex8, ite_ok (by omega) (by omega)]
              have em : x_up (x_up (xr (wA μ h0 (asks l st k)) ρ) 3 (nI (asks l st k).length).toNatClampNeg (nI x)) 0 8 (x_up (xr (wA μ h0 (asks l st k)) ρ) 3 (nI (asks l st k).length).toNatClampNeg (nI x) 0 8 + 1) = xr (wA μ h0 (asks l st k ++ [x])) ρ := by
                rw [← wA_snoc qw]
                unfold wAsk
                rw [x_up_row' (show (0 : Nat) ≠ 3 by decide), ex8, e8, xr_up0 _ ρ (by decide), xr_up0 _ ρ (by decide)]
              show ∃ ρ', B_X5_fetchAhead_77 n _ (x_up (x_up (xr (wA μ h0 (asks l st k)) ρ) 3 (nI (asks l st k).length).toNatClampNeg (nI x)) 0 8 (x_up (xr (wA μ h0 (asks l st k)) ρ) 3 (nI (asks l st k).length).toNatClampNeg (nI x) 0 8 + 1)) _ _ _ _ _ _ = _ ∧ _
              rw [em]
              exact key _ rfl
            · rw [if_neg (fun e => qw e.symm)]
              refine key _ ?_
              unfold wA
              rw [if_neg qw, if_neg qw]
        · have ek : k = T := by omega
          subst ek
          rw [if_pos (nI_lt (Nat.lt_succ_self _) (by omega))]
          exact ⟨ρ, rfl, hr⟩
    have e0 : wA μ h0 [] = μ := by
      unfold wA
      by_cases q : μ 0 6 = nI h0
      · rw [if_pos q]
        rfl
      · rw [if_neg q]
    obtain ⟨ρ', e, c⟩ := loop n 0 ρ (Nat.zero_le _) (by omega) (by
      show RRep ρ (w6 a h0 (aH a h0 6 + 0))
      rw [Nat.add_zero, w6_same]
      exact h)
    have e9 : asks l st 0 = [] := rfl
    rw [e9, e0] at e
    refine ⟨ρ', e, ?_⟩
    have e7 : aH (sFetches a h0 (asks l st T)).2 h0 6 = aH a h0 6 := fold_6 h0 _ (0, a)
    rw [e7]
    exact c
