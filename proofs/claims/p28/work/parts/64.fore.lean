/-! isForetold *)  -/
section E
variable {B n : Nat} {a : xA} {tp sn : Option xA}
theorem F_85 (hn : 400 < n) (hB : B + 30000 < 2 ^ 30) {h p l : Nat} (hh : h < aC a 2) (hp : p < 16) (hl : l < 10000) (K71 : xM → Int64 → Int32 → Int32 → Int32 → Int32 → Int32 → Int32 → Int32 → Option (Int32 × xM)) (x2 : Int64) (x6 x7 x8 : Int32) : ∀ (f i : Nat) (σ : xM), i ≤ 4 → 4 - i < f → PRel B σ a tp sn → ∃ σ', PRel B σ' a tp sn ∧ B_L_isForetold_85 n K71 f σ x2 (nI p) (nI l) x6 x7 x8 (nI (asked a p l h + min i (goAsk a p l h).length)) (nI h) (nI i) = K71 σ' x2 (nI p) (nI l) x6 x7 x8 (nI (asked a p l (h + 1))) (nI (h + 1)) := by
  intro f
  induction f with
  | zero => intro i σ _ h; omega
  | succ f ih =>
    intro i σ hi hf R
    have g4 := goAsk_le R.inv (by omega) hh hp hl
    by_cases q : i < 4
    · obtain ⟨v, σ1, e1, R1, hv⟩ := P_wouldAsk R hn hB hh hp hl (show i < 100 by omega)
      obtain ⟨σ2, R2, e2⟩ := ih (i + 1) σ1 q (by omega) R1
      refine ⟨σ2, R2, ?_⟩
      rw [← e2]
      show (if nI i < (4 : Int32) then _ else _) = _
      rw [if_pos (show nI i < (4 : Int32) from nI_lt (b := 4) q (by omega)), e1, Option.bind_some]
      unfold B_L_isForetold_117
      by_cases c : i < (goAsk a p l h).length
      · rw [if_pos c] at hv
        rw [if_neg hv, nI_1, nI_1, show asked a p l h + min (i + 1) (goAsk a p l h).length = asked a p l h + min i (goAsk a p l h).length + 1 by omega]
      · rw [if_neg c] at hv
        rw [if_pos hv, nI_1, Int32.add_zero, show asked a p l h + min (i + 1) (goAsk a p l h).length = asked a p l h + min i (goAsk a p l h).length by omega]
    · have e : i = 4 := by omega
      subst e
      refine ⟨σ, R, ?_⟩
      show K71 σ x2 (nI p) (nI l) x6 x7 x8 _ (nI h + 1) = _
      rw [nI_1, show min 4 (goAsk a p l h).length = (goAsk a p l h).length by omega]
      rfl
theorem F_204 {σ : xM} {p l c : Nat} {st v : Int32} (hn : 400 < n) (hB : B + 60000 < 2 ^ 30) {a1 : xA} (R : PRel B σ a1 (some a) sn) (hw : F_X4_isWalk (nI p) (nI l) st (nI c) = 1) (hp : p < 16) (hc : c ≤ 30) (hv : ∀ k, k < c → ∃ y, y < 10000 ∧ nI l + nI k * st = nI y) (ev : v = nI (sWalk p l st c a).1) : ∃ σ', PRel (B + 30000) σ' a none sn ∧ B_L_isForetold_204 n σ (allP a) (nI p) (nI l) st (nI c) v 1 = some (1, σ') := by
  obtain ⟨v1, σ1, e1, -, R1⟩ := P_undo R hn
  obtain ⟨σ2, e2, R2⟩ := P_goes R1 hn (by omega) hw hp hc hv
  obtain ⟨v3, σ3, e3, -, R3⟩ := P_undo R2 hn
  refine ⟨σ3, R3, ?_⟩
  unfold B_L_isForetold_204
  rw [e1, Option.bind_some, if_neg (by decide), E_all R1 hn, Option.bind_some, lg_self, if_pos rfl, e2, Option.bind_some, if_pos ev.symm, e3, Option.bind_some, E_all R3 hn, Option.bind_some, lg_self, if_pos rfl]
theorem E_c4 {σ : xM} (R : PRel B σ a tp sn) (hn : 400 < n) : F_X4_count n σ 4 = some (nI (aC a 7)) := E_count R hn (k := 4) (by decide) (by decide)
theorem F_71s (hn : 400 < n) (hB : B + 90000 < 2 ^ 30) {p l c : Nat} {st v : Int32} (hp : p < 16) (hl : l < 10000) {f i : Nat} {σ : xM} (q : i < aC a 2) (R : PRel B σ a tp sn) : ∃ σ', PRel B σ' a tp sn ∧ B_L_isForetold_71 n (f + 1) σ (allP a) (nI p) (nI l) st (nI c) v (nI (asked a p l i)) (nI i) = B_L_isForetold_71 n f σ' (allP a) (nI p) (nI l) st (nI c) v (nI (asked a p l (i + 1))) (nI (i + 1)) := by
  have h6 := R.h6
  obtain ⟨σ1, R1, e1⟩ := F_85 hn (by omega) q hp hl (fun σ l2 l4 l5 l6 l7 l8 l9 l10 => B_L_isForetold_71 n f σ l2 l4 l5 l6 l7 l8 l9 l10) (allP a) st (nI c) v n 0 σ (by omega) (by omega) R
  rw [Nat.zero_min, Nat.add_zero] at e1
  refine ⟨σ1, R1, Eq.trans ?_ e1⟩
  show ((F_X4_count n σ (nI 10)).bind fun q7 => if nI i < q7 then _ else _) = _
  rw [E_count R hn (k := 10) (by decide) (by decide), Option.bind_some, show oC a 10 = nI (aC a 2) from rfl, if_pos (nI_lt q (by omega))]
  rfl
theorem F_71g {p l : Nat} {σ1 : xM} {sn1 : Option xA} (R1 : PRel (B + 30000) σ1 (sGo a p l).2 (some a) sn1) : F_X4_logged n σ1 0 3 = some (nI (ahead a p l (aC a 2))) := by
  obtain ⟨L, r, eL, er⟩ := go_log a p l
  have e := E_logged (n := n) R1 (b := 0) (w := 3) (by decide) (by decide)
  have eo : oG (sGo a p l).2 0 3 = nI (ahead a p l (aC a 2)) := by
    unfold oG
    rw [eL, if_pos (by rw [List.length_append]; exact Nat.succ_pos _), oR_in (r := r) (by rw [List.length_append]; simp), er]
  rw [eo] at e
  exact e
theorem F_71e (hn : 400 < n) (hB : B + 90000 < 2 ^ 30) {p l c : Nat} {st v : Int32} (hp : p < 16) (hl : l < 10000) (hw : F_X4_isWalk (nI p) (nI l) st (nI c) = 1) (hc : c ≤ 30) (hv : ∀ k, k < c → ∃ y, y < 10000 ∧ nI l + nI k * st = nI y) (ev : v = nI (sWalk p l st c a).1) {f : Nat} {σ : xM} (R : PRel B σ a tp sn) : ∃ σ', PRel (B + 60000) σ' a none sn ∧ B_L_isForetold_71 n (f + 1) σ (allP a) (nI p) (nI l) st (nI c) v (nI (asked a p l (aC a 2))) (nI (aC a 2)) = some (1, σ') := by
  have h6 := R.h6
  obtain ⟨σ1, e1, R1⟩ := P_go R hn (by omega) hp hl
  have g3 := F_71g (n := n) R1
  have c4' : F_X4_count n σ1 4 = some (nI (aC a 7 + ahead a p l (aC a 2))) := by
    rw [← go_7]
    exact E_c4 R1 hn
  obtain ⟨C, hC⟩ : ∃ C, C = B + 30000 := ⟨_, rfl⟩
  rw [← hC] at R1
  obtain ⟨σ2, R2, e2⟩ := F_204 (v := v) hn (by omega) R1 hw hp hc hv ev
  refine ⟨σ2, R2.mono (by omega) (by omega), Eq.trans ?_ e2⟩
  have c4 : F_X4_count n σ 4 = some (nI (aC a 7)) := E_count R hn (k := 4) (by decide) (by decide)
  have l3 := sGo_lt a p l
  have al := ahead_le a p l (aC a 2)
  have al2 := asked_lt R.inv (by omega) hp hl (aC a 2) (Nat.le_refl _)
  generalize ahead a p l (aC a 2) = N at *
  generalize asked a p l (aC a 2) = M at *
  generalize (sGo a p l).1 = o at *
  show ((F_X4_count n σ (nI 10)).bind fun q7 => if nI (aC a 2) < q7 then _ else _) = _
  rw [E_count R hn (k := 10) (by decide) (by decide), Option.bind_some, show oC a 10 = nI (aC a 2) from rfl, if_neg (nI_nlt (by omega) (by omega)), E_all R hn, Option.bind_some, lg_self, if_pos rfl, c4, Option.bind_some, e1, Option.bind_some]
  dsimp only
  rw [if_neg (nI_pos (by omega)), if_pos (show nI o < (3 : Int32) from nI_lt (b := 3) l3 (by omega)), g3, Option.bind_some, c4', Option.bind_some, pk_sub (by omega), Nat.add_sub_cancel_left, if_pos rfl, Option.bind_some, if_neg (nI_nlt (by omega) (by omega))]
theorem F_71 (hn : 400 < n) (hB : B + 90000 < 2 ^ 30) {p l c : Nat} {st v : Int32} (hp : p < 16) (hl : l < 10000) (hw : F_X4_isWalk (nI p) (nI l) st (nI c) = 1) (hc : c ≤ 30) (hv : ∀ k, k < c → ∃ y, y < 10000 ∧ nI l + nI k * st = nI y) (ev : v = nI (sWalk p l st c a).1) : ∀ (f i : Nat) (σ : xM), i ≤ aC a 2 → aC a 2 - i < f → PRel B σ a tp sn → ∃ σ', PRel (B + 60000) σ' a none sn ∧ B_L_isForetold_71 n f σ (allP a) (nI p) (nI l) st (nI c) v (nI (asked a p l i)) (nI i) = some (1, σ') := by
  intro f
  induction f with
  | zero => intro i σ _ h; omega
  | succ f ih =>
    intro i σ hi hf R
    by_cases q : i < aC a 2
    · obtain ⟨σ1, R1, e1⟩ := F_71s (st := st) (v := v) (c := c) (f := f) hn hB hp hl q R
      obtain ⟨σ2, R2, e2⟩ := ih (i + 1) σ1 q (by omega) R1
      exact ⟨σ2, R2, e1.trans e2⟩
    · have ei : i = aC a 2 := by omega
      subst ei
      exact F_71e hn hB hp hl hw hc hv ev R
theorem E_fore {σ : xM} (R : PRel B σ a tp sn) (hn : 400 < n) (hB : B + 90000 < 2 ^ 30) (y : Int32) : ∃ σ', F_L_isForetold n σ y = some (1, σ') ∧ PRel (B + 60000) σ' a none sn := by
  have l3 : ∀ x, F_L_low n σ x 3 = some (nI (lowN x 3)) := fun x => lowE n σ x (m := 3) (by decide) (by decide)
  have l9 : ∀ x, F_L_low n σ x 9 = some (nI (lowN x 9)) := fun x => lowE n σ x (m := 9) (by decide) (by decide)
  have l11 : ∀ x, F_L_low n σ x 11 = some (nI (lowN x 11)) := fun x => lowE n σ x (m := 11) (by decide) (by decide)
  have l40 : ∀ x, F_L_low n σ x 40 = some (nI (lowN x 40)) := fun x => lowE n σ x (m := 40) (by decide) (by decide)
  unfold F_L_isForetold
  rw [E_all R hn, Option.bind_some, l3, Option.bind_some, l40, Option.bind_some, l11, Option.bind_some, l9, Option.bind_some]
  have b1 := lowN_lt y (show 0 < 3 by decide)
  have b2 := lowN_lt (y >>> ((3 : Int32) &&& 31)) (show 0 < 40 by decide)
  have b3 := lowN_lt (y >>> ((9 : Int32) &&& 31)) (show 0 < 11 by decide)
  have b4 := lowN_lt (y >>> ((13 : Int32) &&& 31)) (show 0 < 9 by decide)
  generalize lowN y 3 = p at *
  generalize lowN (y >>> ((3 : Int32) &&& 31)) 40 = l at *
  generalize lowN (y >>> ((9 : Int32) &&& 31)) 11 = s at *
  generalize lowN (y >>> ((13 : Int32) &&& 31)) 9 = c at *
  have e1 : (60 : Int32) + nI l = nI (60 + l) := nI_add 60 l
  have e2 : (1 : Int32) + nI c = nI (1 + c) := nI_add 1 c
  have e3 : (nI s - 5).toInt = (s : Int) - 5 := pk_sub_toInt (b := 5) (by omega) (by decide)
  rw [e1, e2]
  have mm := mul_mid (s := (nI s - 5).toInt) (k := ((1 + c - 1 : Nat) : Int)) (c := 8) (by omega) (by omega)
  have bd : 0 ≤ ((60 + l : Nat) : Int) + ((1 + c - 1 : Nat) : Int) * (nI s - 5).toInt ∧ ((60 + l : Nat) : Int) + ((1 + c - 1 : Nat) : Int) * (nI s - 5).toInt ≤ 9999 := by
    by_cases q : 0 ≤ (nI s - 5).toInt
    · have := mm.1 q
      omega
    · have := mm.2 (by omega)
      omega
  obtain ⟨hw, hv⟩ := walk_yes (p := p) (l := 60 + l) (c := 1 + c) (st := nI s - 5) (by omega) (by omega) (by omega) (by omega) (by omega) (by omega) bd.1 bd.2
  obtain ⟨σ1, u1, R1⟩ := P_wouldHit R hn (by omega) hw (by omega) (by omega) hv
  rw [u1, Option.bind_some]
  obtain ⟨σ2, R2, u2⟩ := F_71 hn hB (show p < 16 by omega) (show 60 + l < 10000 by omega) hw (by omega) hv rfl n 0 σ1 (by omega) (by have := R.h6; omega) R1
  exact ⟨σ2, u2, R2⟩
end E
