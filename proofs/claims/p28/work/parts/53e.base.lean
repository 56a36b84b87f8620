/-! from the whole claim: the class half of its operations *)  -/
theorem z00 {α : Type} {u v : α} : (if (0 : Int32) = 0 then u else v) = u := if_pos rfl
theorem z10 {α : Type} {u v : α} : (if (1 : Int32) = 0 then u else v) = v := if_neg (by decide)
theorem x_up_pt {σ : xM} {r k : Nat} {v : Int32} (hr : r < 47) : x_up σ (4 + r) k v = x_pt 4 (x_up (x_sh 4 σ) r k v) σ := by
  funext i j
  simp only [x_up, x_pt, x_sh]
  by_cases c : 4 ≤ i ∧ i < 4 + 47
  · rw [if_pos c]
    by_cases d : i = 4 + r ∧ j = k
    · rw [if_pos d, if_pos (by omega)]
    · rw [if_neg d, if_neg (by omega), show 4 + (i - 4) = i by omega]
  · rw [if_neg c, if_neg (by omega)]
theorem x_pt_up {τ σ : xM} {r k : Nat} {v : Int32} (hr : r < 47) : x_up (x_pt 4 τ σ) (4 + r) k v = x_pt 4 (x_up τ r k v) σ := by
  funext i j
  simp only [x_up, x_pt]
  by_cases c : 4 ≤ i ∧ i < 4 + 47
  · rw [if_pos c, if_pos c]
    by_cases d : i = 4 + r ∧ j = k
    · rw [if_pos d, if_pos (by omega)]
    · rw [if_neg d, if_neg (by omega)]
  · rw [if_neg c, if_neg c, if_neg (by omega)]
theorem x_pt_row {o : Nat} {τ σ : xM} {r : Nat} (h : r < o ∨ o + 47 ≤ r) : x_pt o τ σ r = σ r := by
  funext k
  simp only [x_pt]
  rw [if_neg (by omega)]
theorem CR.nil {τ : xM} {x cap c : Nat} {l : List xR} (h : CR τ x cap c l) : CR (x_up τ x 3 0) x cap c [] := ⟨by rw [x_up_off (by decide)]; exact h.1, by rw [x_up_off (by decide)]; exact h.2.1, by rw [x_up_at]; rfl, Nat.zero_le _, fun w r hw => by cases hw⟩
theorem Inv_shape {B s w : Nat} {b : xA} (I : Inv B b) (hS : ∀ k, aS b k = []) (s1 : 1 ≤ s) (s2 : s ≤ 8) (w1 : 1 ≤ w) (w2 : w ≤ 4) : Inv B (wC (wT b []) (va_up (va_up (aC b) 0 s) 1 w)) := by
  obtain ⟨IC, IS, IT, IH, IG, IL, hB⟩ := I
  refine ⟨⟨s1, s2, w1, w2, IC.2.2.2.2⟩, fun k => ?_, ⟨Nat.zero_le _, fun r hr => (List.not_mem_nil hr).elim, List.nodup_nil, fun s r q _ hq => (List.not_mem_nil hq).elim⟩, IH, IG, IL, hB⟩
  have e : aS (wC (wT b []) (va_up (va_up (aC b) 0 s) 1 w)) k = [] := hS k
  rw [e]
  exact ⟨fun _ => rfl, Nat.zero_le _, fun r hr => (List.not_mem_nil hr).elim, List.nodup_nil⟩
theorem sEmpty_nil {B : Nat} {b : xA} (I : Inv B b) (k : Nat) : aS (sEmpty 8 b) k = [] := by
  obtain ⟨h1, h2, h3⟩ := sEmpty_r b 8
  by_cases q : k < 8
  · exact h2 k q
  · rw [h1 k (by omega)]
    exact (I.2.1 k).1 (by have := I.1.2.1; omega)
theorem Inv_deg {B : Nat} {a : xA} {h0 v : Nat} (I : Inv B a) (h1 : 1 ≤ v) (h4 : v ≤ 4) : Inv B (wH a (hu (aH a) h0 1 v)) := by
  refine I.setH (Nat.le_refl _) I.b (fun h hh => ?_) (fun h hh => by simp [hu])
  have e := I.2.2.2.1 h hh
  show hu (aH a) h0 1 v h 0 ≤ 2 ∧ _
  by_cases q : h = h0
  · subst q
    simp [hu, aH, wH] at e ⊢
    omega
  · simp [hu, aH, wH, q] at e ⊢
    omega
theorem Inv_trial {B : Nat} {a : xA} {v : Nat} (I : Inv B a) (h1 : 1 ≤ v) (h4 : v ≤ 9) : Inv B (wC a (va_up (aC a) 3 v)) := by
  obtain ⟨IC, IS, IT, IH, IG, IL, hB⟩ := I
  exact ⟨⟨IC.1, IC.2.1, IC.2.2.1, IC.2.2.2.1, IC.2.2.2.2.1, h1, h4⟩, IS, IT, IH, IG, IL, hB⟩
theorem Inv_free {B : Nat} {a : xA} {h0 v : Nat} (I : Inv B a) : Inv B (wH a (hu (hu (hu (hu (aH a) h0 11 v) h0 4 0) h0 5 0) h0 3 0)) := by
  refine I.setH (Nat.le_refl _) I.b (fun h hh => ?_) (fun h hh => by simp [hu])
  have e := I.2.2.2.1 h hh
  show hu (hu (hu (hu (aH a) h0 11 v) h0 4 0) h0 5 0) h0 3 0 h 0 ≤ 2 ∧ _
  by_cases q : h = h0
  · subst q
    simp [hu, aH, wH] at e ⊢
    omega
  · simp [hu, aH, wH, q] at e ⊢
    omega
theorem Inv_forget {B : Nat} {a : xA} {h0 : Nat} (I : Inv B a) : Inv B (wG a (va_up (aG a) h0 [])) := by
  refine I.setG (fun h hh => ?_)
  have e := I.2.2.2.2.1 h hh
  show (aH a h 0 = 0 → (va_up (aG a) h0 [] h).length ≤ 4 ∧ (∀ r, r ∈ va_up (aG a) h0 [] h → _) ∧ _) ∧ (aH a h 0 = 1 → (va_up (aG a) h0 [] h).length ≤ 3 ∧ ∀ r, r ∈ va_up (aG a) h0 [] h → _) ∧ (aH a h 0 = 2 → va_up (aG a) h0 [] h = [])
  by_cases q : h = h0
  · subst q
    have e9 : va_up (aG a) h [] h = [] := va_up_eq
    refine ⟨fun _ => ⟨by rw [e9]; exact Nat.zero_le _, fun r hr => ?_, ?_⟩, fun _ => ⟨by rw [e9]; exact Nat.zero_le _, fun r hr => ?_⟩, fun _ => e9⟩
    · rw [e9] at hr
      cases hr
    · show ((va_up (aG a) h [] h).map _).Nodup
      rw [e9]
      exact List.nodup_nil
    · rw [e9] at hr
      cases hr
  · have e9 : va_up (aG a) h0 [] h = aG a h := va_up_off q
    have e10 : aG (wG a (va_up (aG a) h0 [])) h = aG a h := e9
    rw [e9]
    rw [e10]
    exact e
def hN (k d p i : Nat) : Nat := if i = 0 then k else if i = 1 then d else if i = 2 then p else 0
def sHire (a : xA) (k d p : Nat) : xA := wC (wH (wG a (va_up (aG a) (aC a 2) [])) (fun h i => if h = aC a 2 then hN k d p i else aH a h i)) (va_up (aC a) 2 (aC a 2 + 1))
theorem sHire_2 (a : xA) (k d p : Nat) : aC (sHire a k d p) 2 = aC a 2 + 1 := rfl
theorem sHire_C (a : xA) (k d p i : Nat) (hi : i ≠ 2) : aC (sHire a k d p) i = aC a i := va_up_off hi
theorem okBy.mono {h h' : Nat} {x : Int32} (o : okBy h x) (hh : h ≤ h') : okBy h' x := o.imp id (fun ⟨k, hk, e⟩ => ⟨k, by omega, e⟩)
theorem Inv_hire {B : Nat} {a : xA} {k d p : Nat} (I : Inv B a) (h6 : aC a 2 < 6) (hk : k ≤ 2) (d1 : 1 ≤ d) (d4 : d ≤ 4) (p1 : 1 ≤ p) (p9 : p ≤ 9) : Inv B (sHire a k d p) := by
  obtain ⟨IC, IS, IT, IH, IG, IL, hB⟩ := I
  have hm : aC a 2 ≤ aC a 2 + 1 := Nat.le_succ _
  refine ⟨⟨IC.1, IC.2.1, IC.2.2.1, IC.2.2.2.1, h6, IC.2.2.2.2.2⟩, fun s => ?_, ⟨IT.1, fun r hr => ⟨(IT.2.1 r hr).1, (IT.2.1 r hr).2.mono hm⟩, IT.2.2⟩, fun h hh => ?_, fun h hh => ?_, IL, hB⟩
  · obtain ⟨q1, q2, q3, q4⟩ := IS s
    exact ⟨q1, q2, fun r hr => ⟨(q3 r hr).1, (q3 r hr).2.1.mono hm, (q3 r hr).2.2⟩, q4⟩
  · have hh' : h < aC a 2 + 1 := hh
    by_cases q : h = aC a 2
    · have e : ∀ i, aH (sHire a k d p) h i = hN k d p i := fun i => if_pos q
      rw [e, e, e, e, e, e]
      exact ⟨hk, d1, d4, p1, p9, (show 0 ≤ 2 by decide), Nat.zero_le _, fun e => absurd (show (0 : Nat) = 2 from e) (by decide), fun e => absurd (show (0 : Nat) = 1 from e) (by decide), (show 0 ≤ 9 by decide)⟩
    · have e : ∀ i, aH (sHire a k d p) h i = aH a h i := fun i => if_neg q
      rw [e, e, e, e, e, e]
      exact IH h (by omega)
  · have hh' : h < aC a 2 + 1 := hh
    by_cases q : h = aC a 2
    · have e2 : aG (sHire a k d p) h = [] := by
        show va_up (aG a) (aC a 2) [] h = []
        rw [q]
        exact va_up_eq
      rw [e2]
      exact ⟨fun _ => ⟨Nat.zero_le _, fun r hr => (List.not_mem_nil hr).elim, List.nodup_nil⟩, fun _ => ⟨Nat.zero_le _, fun r hr => (List.not_mem_nil hr).elim⟩, fun _ => rfl⟩
    · have e : aH (sHire a k d p) h 0 = aH a h 0 := if_neg q
      have e2 : aG (sHire a k d p) h = aG a h := va_up_off q
      rw [e, e2]
      exact IG h (by omega)
theorem mul_mid {s k c : Int} (hk : 0 ≤ k) (hc : k ≤ c) : (0 ≤ s → 0 ≤ k * s ∧ k * s ≤ c * s) ∧ (s < 0 → c * s ≤ k * s ∧ k * s ≤ 0) := by
  refine ⟨fun h => ⟨Int.mul_nonneg hk h, Int.mul_le_mul_of_nonneg_right hc h⟩, fun h => ⟨Int.mul_le_mul_of_nonpos_right hc (by omega), Int.mul_nonpos_of_nonneg_of_nonpos hk (by omega)⟩⟩
theorem lin_toInt {l k : Nat} {st : Int32} (hl : l < 10000) (hk : k < 30) (h1 : -999 ≤ st.toInt) (h2 : st.toInt ≤ 999) : (nI l + nI k * st).toInt = (l : Int) + (k : Int) * st.toInt := by
  have e : ∀ z : Int, -999 ≤ z → z ≤ 999 → -30000 ≤ (k : Int) * z ∧ (k : Int) * z ≤ 30000 := fun z hz1 hz2 => by
    have m1 := mul_mid (s := z) (k := (k : Int)) (c := 30) (by omega) (by omega)
    by_cases q : 0 ≤ z
    · have := m1.1 q
      omega
    · have := m1.2 (by omega)
      omega
  have b := e _ h1 h2
  rw [Int32.toInt_add, Int32.toInt_mul, nI_toInt (by omega), nI_toInt (by omega), Int.bmod_eq_of_le (n := (k : Int) * st.toInt) (by omega) (by omega), Int.bmod_eq_of_le (by omega) (by omega)]
theorem walk_ok {l c : Nat} {st : Int32} (hl : l < 10000) (hc : c < 30) (h1 : -999 ≤ st.toInt) (h2 : st.toInt ≤ 999) (h3 : 0 ≤ (nI l + nI c * st).toInt) (h4 : (nI l + nI c * st).toInt ≤ 9999) : ∀ k, k < c + 1 → ∃ y, y < 10000 ∧ nI l + nI k * st = nI y := by
  intro k hk
  rw [lin_toInt hl hc h1 h2] at h3 h4
  have e := lin_toInt (k := k) hl (by omega) h1 h2
  have m1 := mul_mid (s := st.toInt) (k := (k : Int)) (c := (c : Int)) (by omega) (by omega)
  have b : 0 ≤ (l : Int) + (k : Int) * st.toInt ∧ (l : Int) + (k : Int) * st.toInt ≤ 9999 := by
    by_cases q : 0 ≤ st.toInt
    · have := m1.1 q
      omega
    · have := m1.2 (by omega)
      omega
  refine ⟨((l : Int) + (k : Int) * st.toInt).toNat, by omega, ?_⟩
  apply Int32.toInt_inj.mp
  rw [e, nI_toInt (by omega)]
  omega
theorem get_of {L : List xR} {k : Nat} (h : k < L.length) : ∃ r, L[k]? = some r := ⟨_, List.getElem?_eq_getElem h⟩
theorem nI_self (x : Int32) : nI x.toBitVec.toNat = x := by
  apply Int32.toBitVec_inj.mp
  show BitVec.ofNat 32 x.toBitVec.toNat = x.toBitVec
  rw [BitVec.ofNat_toNat, BitVec.setWidth_eq]
theorem sGo_C (a : xA) (p l i : Nat) (hi : 9 ≤ i) : aC (sGo a p l).2 i = aC a i := by
  show (if i = 4 then _ else if i = 5 then _ else if i = 6 then _ else if i = 7 then _ else aC (sHelps p l (sServe (sWork (aC a 2) a) l).1 (aC a 2) (sServe (sWork (aC a 2) a) l).2).2 i) = _
  rw [if_neg (by omega), if_neg (by omega), if_neg (by omega), if_neg (by omega), sHelps_C _ _ _ _ (by omega), sServe_C _ _ _ (by omega), (sWork_r a _).2.2.2.2]
theorem sWalk_C (p l : Nat) (st : Int32) (a : xA) (i : Nat) (hi : 9 ≤ i) : ∀ k, aC (sWalk p l st k a).2 i = aC a i := by
  intro k
  induction k with
  | zero => rfl
  | succ k ih => exact (sGo_C _ _ _ i hi).trans ih
theorem C_helps_2 (a : xA) (p l : Nat) : aC (sGo a p l).2 2 = aC a 2 := by
  show aC (sHelps p l (sServe (sWork (aC a 2) a) l).1 (aC a 2) (sServe (sWork (aC a 2) a) l).2).2 2 = _
  rw [sHelps_C _ _ _ _ (by decide), sServe_C _ _ _ (by decide), (sWork_r a _).2.2.2.2]
def aI : xA := (fun _ => [], [], fun _ _ => 0, fun _ => [], [], fun i => if i = 0 then 4 else if i = 1 then 2 else if i = 3 then 3 else 0)
theorem aI_inv : Inv 0 aI := ⟨⟨by decide, by decide, by decide, by decide, by decide, by decide, by decide⟩, fun s => ⟨fun _ => rfl, Nat.zero_le _, fun r hr => (List.not_mem_nil hr).elim, List.nodup_nil⟩, ⟨Nat.zero_le _, fun r hr => (List.not_mem_nil hr).elim, List.nodup_nil, fun s r q _ hq => (List.not_mem_nil hq).elim⟩, fun h hh => absurd hh (Nat.not_lt_zero _), fun h hh => absurd hh (Nat.not_lt_zero _), ⟨Nat.le_refl _, rfl, fun k r hk => by cases hk⟩, by decide⟩
