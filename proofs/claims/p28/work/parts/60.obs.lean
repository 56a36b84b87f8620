/-! what is told, out of the picture alone *)  -/
def oR (L : List xR) (p w : Nat) : Int32 := match L[p]? with
  | some r => r w
  | none => -100005
def oP (L : List xR) : Int32 := F_J6_bitCount (L.foldl (fun s r => s ||| ((1 : Int32) <<< (r 0 &&& 31))) 0)
def oC (a : xA) : Nat → Int32
  | 0 => nI (aC a 4)
  | 1 => nI (aC a 5)
  | 2 => nI (aC a 6)
  | 3 => nI (aC a 4) - nI (aC a 5)
  | 4 => nI (aC a 7)
  | 5 => nI (aC a 8)
  | 6 => nI (aC a 0)
  | 7 => nI (aC a 1)
  | 8 => nI (sLines a 8)
  | 9 => nI (sNewAll a (aC a 2))
  | 10 => nI (aC a 2)
  | 11 => nI (aC a 3)
  | 12 => nI (sHrs a (aC a 2))
  | 13 => nI (aT a).length
  | 15 => 0
  | _ => oP (aL a)
def oL (a : xA) (l : Nat) : Nat → Int32
  | 0 => if kIdx (aS a (l % aC a 0)) (nI l) < (aS a (l % aC a 0)).length then 1 else 0
  | 1 => if oR (aS a (l % aC a 0)) (kIdx (aS a (l % aC a 0)) (nI l)) 2 = 1 then 1 else 0
  | 2 => oR (aS a (l % aC a 0)) (kIdx (aS a (l % aC a 0)) (nI l)) 1
  | 3 => if kIdx (aS a (l % aC a 0)) (nI l) < (aS a (l % aC a 0)).length then nI (kIdx (aS a (l % aC a 0)) (nI l)) else -100005
  | 4 => if kIdx (aT a) (nI l) < (aT a).length then nI (kIdx (aT a) (nI l)) else -100005
  | _ => oR (aT a) (kIdx (aT a) (nI l)) 1
def oH (a : xA) (h : Nat) : Nat → Int32
  | 0 => nI (aH a h 0)
  | 1 => nI (aH a h 1)
  | 2 => nI (aH a h 2)
  | 3 => nI (aH a h 3)
  | 4 => nI (aH a h 4)
  | 5 => nI (aH a h 5)
  | 6 => nI (sReach a h)
  | 7 => nI (aH a h 6)
  | 8 => nI (aH a h 7)
  | 9 => nI (aH a h 8)
  | 10 => nI (nN a h)
  | 11 => nI (aH a h 9)
  | 12 => nI (aH a h 10)
  | 13 => nI (aH a h 11)
  | 14 => nI (aG a h).length
  | _ => nI (aH a h 12)
def oG (a : xA) (b w : Nat) : Int32 := if b < (aL a).length then oR (aL a) ((aL a).length - 1 - b) w else -100005
theorem oR_in {L : List xR} {p : Nat} {r : xR} (h : L[p]? = some r) (w : Nat) : oR L p w = r w := by
  unfold oR
  rw [h]
theorem oR_out {L : List xR} {p : Nat} (h : ¬ p < L.length) (w : Nat) : oR L p w = -100005 := by
  unfold oR
  rw [List.getElem?_eq_none (by omega)]
theorem C_row {τ : xM} {x cap c : Nat} {L : List xR} (h : CR τ x cap c L) (hs : SF x cap c) (n : Nat) {p w : Nat} (hp : p < 2 ^ 31) (hw : w < c) : F_X1_get n τ x (nI p) (nI w) = some (oR L p w) := by
  have h4 := h.2.2.2.1
  have h5 := hs.2.2.2.2.1
  by_cases q : p < L.length
  · obtain ⟨r, hr⟩ := get_of q
    rw [C_get h hs n hr hw, oR_in hr]
  · rw [oR_out q, C_get_no h n (Or.inr (nI_nlt (by omega) (by omega)))]
theorem C_row_no {τ : xM} {x cap c : Nat} {L : List xR} (h : CR τ x cap c L) (n : Nat) (y : Int32) : F_X1_get n τ x (-100005) y = some (-100005) := C_get_no h n (Or.inl (by decide))
theorem C_progs_loop {τ : xM} {L : List xR} (h : CR τ 45 12 5 L) (n : Nat) : ∀ (f i : Nat) (s : Int32), i ≤ L.length → L.length - i < f → B_X2_programsInLog_4 n τ f s (nI i) = some (F_J6_bitCount ((L.drop i).foldl (fun s r => s ||| ((1 : Int32) <<< (r 0 &&& 31))) s)) := by
  intro f
  have h12 := h.2.2.2.1
  induction f with
  | zero => intro i s _ h; omega
  | succ f ih =>
    intro i s hi hf
    show (if nI i < τ 45 3 then _ else _) = _
    rw [h.2.2.1]
    by_cases q : i < L.length
    · obtain ⟨r, hr⟩ := get_of q
      rw [if_pos (nI_lt q (by omega)), show F_X1_get n τ 45 (nI i) (0 : Int32) = some (r 0) from C_get (j := 0) h SF_L n hr (by decide), Option.bind_some, nI_1, ih (i + 1) _ q (by omega)]
      have e : L.drop i = r :: L.drop (i + 1) := by
        have e2 : L[i] = r := by
          rw [List.getElem?_eq_getElem q] at hr
          exact Option.some.inj hr
        rw [← e2, List.getElem_cons_drop]
      rw [e, List.foldl_cons]
    · rw [if_neg (nI_nlt (by omega) (by omega)), List.drop_eq_nil_of_le (by omega)]
      rfl
section E
variable {B n : Nat} {σ : xM} {a : xA} {tp sn : Option xA}
theorem E_count (R : PRel B σ a tp sn) (hn : 400 < n) {k : Nat} (hk : k < 17) (h14 : k ≠ 14) : F_X4_count n σ (nI k) = some (oC a k) := by
  have tv : ∀ i, i < 9 → some (σ (4 + 0) (4 + i)) = some (nI (aC a i)) := fun i hi => congrArg some (R.cr.c i hi)
  unfold F_X4_count
  rcases (show k = 0 ∨ k = 1 ∨ k = 2 ∨ k = 3 ∨ k = 4 ∨ k = 5 ∨ k = 6 ∨ k = 7 ∨ k = 8 ∨ k = 9 ∨ k = 10 ∨ k = 11 ∨ k = 12 ∨ k = 13 ∨ k = 15 ∨ k = 16 by omega) with rfl | rfl | rfl | rfl | rfl | rfl | rfl | rfl | rfl | rfl | rfl | rfl | rfl | rfl | rfl | rfl
  · exact tv 4 (by decide)
  · exact tv 5 (by decide)
  · exact tv 6 (by decide)
  · show some (σ (4 + 0) 8 - σ (4 + 0) 9) = some (nI (aC a 4) - nI (aC a 5))
    rw [show σ (4 + 0) 8 = nI (aC a 4) from R.cr.c 4 (by decide), show σ (4 + 0) 9 = nI (aC a 5) from R.cr.c 5 (by decide)]
  · exact tv 7 (by decide)
  · exact tv 8 (by decide)
  · exact tv 0 (by decide)
  · exact tv 1 (by decide)
  · show ((F_X2_linesInCache n (x_sh 4 σ)).bind fun q1 => some q1) = some (nI (sLines a 8))
    rw [C_lines R.cr (by omega : 20 < n)]
    rfl
  · show ((F_X2_newLines n (x_sh 4 σ)).bind fun q1 => some q1) = some (nI (sNewAll a (aC a 2)))
    rw [C_newAll R.cr R.h6 (n := n) (by omega)]
    rfl
  · exact tv 2 (by decide)
  · exact tv 3 (by decide)
  · show ((F_X2_allHours n (x_sh 4 σ)).bind fun q1 => some q1) = some (nI (sHrs a (aC a 2)))
    rw [C_hours R.cr R.h6 (n := n) (by omega)]
    rfl
  · exact congrArg some R.cr.2.2.1.2.2.1
  · exact congrArg some R.2.2.2
  · show ((F_X2_programsInLog n (x_sh 4 σ)).bind fun q1 => some q1) = some (oP (aL a))
    have cL := R.cr.2.2.2.2.2
    have := cL.2.2.2.1
    rw [show F_X2_programsInLog n (x_sh 4 σ) = some (oP (aL a)) from C_progs_loop cL n n 0 0 (by omega) (by omega)]
    rfl
theorem E_line (R : PRel B σ a tp sn) (hn : 400 < n) {l w : Nat} (hl : l < 10000) (hw : w < 6) : F_X4_line n σ (nI l) (nI w) = some (oL a l w) := by
  have o1 : F_X4_isOutside (nI l) 0 9999 = 0 := C_outside (lo := 0) (hi := 9999) (by omega) (by omega) (by decide)
  have hs := set_lt R.inv l
  have cS := R.cr.2.1 _ hs
  have cT := R.cr.2.2.1
  have l4 := cS.2.2.2.1
  have l8 := cT.2.2.2.1
  have kS := kIdx_le (aS a (l % aC a 0)) (nI l)
  have kT := kIdx_le (aT a) (nI l)
  unfold F_X4_line
  rw [o1, z00, C_setOf R.cr R.inv.1 n hl, Option.bind_some, Option.bind_some, C_find cS (SF_S _ hs) (by omega) (nI l), Option.bind_some, C_find cT SF_T (by omega) (nI l), Option.bind_some]
  rcases (show w = 0 ∨ w = 1 ∨ w = 2 ∨ w = 3 ∨ w = 4 ∨ w = 5 by omega) with rfl | rfl | rfl | rfl | rfl | rfl
  · show (if (if kIdx (aS a (l % aC a 0)) (nI l) < (aS a (l % aC a 0)).length then nI (kIdx (aS a (l % aC a 0)) (nI l)) else -100005) < (0 : Int32) then some (0 : Int32) else some 1) = some (if kIdx (aS a (l % aC a 0)) (nI l) < (aS a (l % aC a 0)).length then 1 else 0)
    by_cases q : kIdx (aS a (l % aC a 0)) (nI l) < (aS a (l % aC a 0)).length
    · rw [if_pos q, if_pos q, if_neg (nI_pos (by omega))]
    · rw [if_neg q, if_neg q]
      rfl
  · show (if (if kIdx (aS a (l % aC a 0)) (nI l) < (aS a (l % aC a 0)).length then nI (kIdx (aS a (l % aC a 0)) (nI l)) else -100005) < (0 : Int32) then some (0 : Int32) else (F_X1_get n (x_sh 4 σ) (2 + 2 * (l % aC a 0)) (if kIdx (aS a (l % aC a 0)) (nI l) < (aS a (l % aC a 0)).length then nI (kIdx (aS a (l % aC a 0)) (nI l)) else -100005) (nI 2)).bind fun q5 => if q5 = (1 : Int32) then some (1 : Int32) else some 0) = some (if oR (aS a (l % aC a 0)) (kIdx (aS a (l % aC a 0)) (nI l)) 2 = 1 then 1 else 0)
    by_cases q : kIdx (aS a (l % aC a 0)) (nI l) < (aS a (l % aC a 0)).length
    · rw [if_pos q, if_neg (nI_pos (by omega)), C_row cS (SF_S _ hs) n (by omega) (by decide), Option.bind_some]
      split <;> rfl
    · rw [if_neg q, oR_out q]
      rfl
  · show ((F_X1_get n (x_sh 4 σ) (2 + 2 * (l % aC a 0)) (if kIdx (aS a (l % aC a 0)) (nI l) < (aS a (l % aC a 0)).length then nI (kIdx (aS a (l % aC a 0)) (nI l)) else -100005) (nI 1)).bind fun q6 => some q6) = some (oR (aS a (l % aC a 0)) (kIdx (aS a (l % aC a 0)) (nI l)) 1)
    by_cases q : kIdx (aS a (l % aC a 0)) (nI l) < (aS a (l % aC a 0)).length
    · rw [if_pos q, C_row cS (SF_S _ hs) n (by omega) (by decide)]
      rfl
    · rw [if_neg q, oR_out q, C_row_no cS n]
      rfl
  · rfl
  · rfl
  · show ((F_X1_get n (x_sh 4 σ) 18 (if kIdx (aT a) (nI l) < (aT a).length then nI (kIdx (aT a) (nI l)) else -100005) (nI 1)).bind fun q6 => some q6) = some (oR (aT a) (kIdx (aT a) (nI l)) 1)
    by_cases q : kIdx (aT a) (nI l) < (aT a).length
    · rw [if_pos q, C_row cT SF_T n (by omega) (by decide)]
      rfl
    · rw [if_neg q, oR_out q, C_row_no cT n]
      rfl
theorem E_helper (R : PRel B σ a tp sn) (hn : 400 < n) {h w : Nat} (hh : h < aC a 2) (hw : w < 16) : F_X4_helper n σ (nI h) (nI w) = some (oH a h w) := by
  have tv : ∀ k, k < 13 → some (σ (4 + (21 + 4 * h)) (3 + k)) = some (nI (aH a h k)) := fun k hk => congrArg some (R.cf hh k hk)
  have h6 := R.h6
  unfold F_X4_helper
  rw [C_helperAt R.cr R.inv.1 n hh, Option.bind_some]
  rcases (show w = 0 ∨ w = 1 ∨ w = 2 ∨ w = 3 ∨ w = 4 ∨ w = 5 ∨ w = 6 ∨ w = 7 ∨ w = 8 ∨ w = 9 ∨ w = 10 ∨ w = 11 ∨ w = 12 ∨ w = 13 ∨ w = 14 ∨ w = 15 by omega) with rfl | rfl | rfl | rfl | rfl | rfl | rfl | rfl | rfl | rfl | rfl | rfl | rfl | rfl | rfl | rfl
  · exact tv 0 (by decide)
  · exact tv 1 (by decide)
  · exact tv 2 (by decide)
  · exact tv 3 (by decide)
  · exact tv 4 (by decide)
  · exact tv 5 (by decide)
  · show ((F_X0_reach n (x_sh 4 σ) (21 + 4 * h)).bind fun q3 => some q3) = some (nI (sReach a h))
    rw [C_reach R.cr R.inv hh n]
    rfl
  · exact tv 6 (by decide)
  · exact tv 7 (by decide)
  · exact tv 8 (by decide)
  · show ((F_X2_newLinesOf n (x_sh 4 σ) (nI h)).bind fun q3 => some q3) = some (nI (nN a h))
    rw [C_newOf R.cr (n := n) (by omega) (nI h)]
    rfl
  · exact tv 9 (by decide)
  · exact tv 10 (by decide)
  · exact tv 11 (by decide)
  · have c1 : σ (4 + (22 + 4 * h)) 3 = nI (aG a h).length := (R.cr.2.2.2.2.1 h (by omega)).2.2.1
    show ((gr (21 + 4 * h) 0).bind fun c5 => some (σ (4 + c5) 3)) = some (nI (aG a h).length)
    rw [(gr_G h (by omega)).1, Option.bind_some, c1]
  · exact tv 12 (by decide)
theorem E_table (R : PRel B σ a tp sn) {h p w : Nat} (hh : h < aC a 2) (hp : p < 1000) (hw : w < 4) : F_X4_table n σ (nI h) (nI p) (nI w) = some (oR (aG a h) p w) := by
  have h6 := R.h6
  have o1 : F_X4_isOutside (nI w) 0 3 = 0 := C_outside (lo := 0) (hi := 3) (by omega) (by omega) (by decide)
  unfold F_X4_table
  rw [C_helperAt R.cr R.inv.1 n hh, Option.bind_some]
  show (if nI p < 0 then _ else _) = _
  rw [if_neg (nI_pos (by omega)), o1, z00, (gr_G h (by omega)).1, Option.bind_some, C_row (R.cr.2.2.2.2.1 h (by omega)) (SF_G h (by omega)) n (by omega) hw]
  rfl
theorem E_inSet (R : PRel B σ a tp sn) {s p : Nat} (hs : s < aC a 0) (hp : p < 1000) : F_X4_inSet n σ (nI s) (nI p) = some (oR (aS a s) p 0) := by
  have h8 := R.inv.1.2.1
  obtain ⟨m, hm⟩ : ∃ m, aC a 0 = m + 1 := ⟨aC a 0 - 1, by omega⟩
  have o1 : F_X4_isOutside (nI s) 0 (nI m) = 0 := C_outside (lo := 0) (by omega) (by omega) (by omega)
  unfold F_X4_inSet
  rw [show σ (4 + 0) 4 = nI (aC a 0) from R.cr.c 0 (by decide), hm, nI_pred, o1, z00, if_neg (nI_pos (by omega)), C_setAt n (by omega), Option.bind_some, Option.bind_some, show F_X1_get n (x_sh 4 σ) (2 + 2 * s) (nI p) 0 = some (oR (aS a s) p 0) from C_row (w := 0) (R.cr.2.1 s (by omega)) (SF_S s (by omega)) n (by omega) (by decide)]
  rfl
theorem E_thrown (R : PRel B σ a tp sn) {p : Nat} (hp : p < 1000) : F_X4_thrownOut n σ (nI p) = some (oR (aT a) p 0) := by
  unfold F_X4_thrownOut
  rw [if_neg (nI_pos (by omega)), show F_X1_get n (x_sh 4 σ) 18 (nI p) 0 = some (oR (aT a) p 0) from C_row (w := 0) R.cr.2.2.1 SF_T n (by omega) (by decide)]
  rfl
theorem E_logged (R : PRel B σ a tp sn) {b w : Nat} (hb : b < 1000) (hw : w < 5) : F_X4_logged n σ (nI b) (nI w) = some (oG a b w) := by
  have o1 : F_X4_isOutside (nI w) 0 4 = 0 := C_outside (lo := 0) (hi := 4) (by omega) (by omega) (by decide)
  have cL := R.cr.2.2.2.2.2
  have l12 := cL.2.2.2.1
  have el : σ (4 + 45) 3 = nI (aL a).length := cL.2.2.1
  unfold F_X4_logged oG
  rw [if_neg (nI_pos (by omega)), o1, z00, el]
  by_cases c : b < (aL a).length
  · have e2 : nI (aL a).length - 1 - nI b = nI ((aL a).length - 1 - b) := by
      show nI _ - nI 1 - nI b = _
      rw [pk_sub (by omega), pk_sub (by omega)]
    rw [e2, C_row cL SF_L n (by omega) hw, if_pos c]
    rfl
  · rw [if_neg c, C_get_no cL n]
    · rfl
    · refine Or.inl ?_
      have e9 : nI (aL a).length - 1 - nI b = nI (aL a).length - (1 + nI b) := Int32.sub_sub _ _ _
      rw [Int32.lt_iff_toInt_lt, Int32.toInt_sub, show nI (aL a).length - 1 = nI (aL a).length - nI 1 from rfl, pk_sub_toInt (by omega) (by decide), nI_toInt (by omega), show (0 : Int32).toInt = 0 from rfl, Int.bmod_eq_of_le (by omega) (by omega)]
      omega
end E
