/-! the object's constructor: words *)  -/
theorem gr_47 : ∀ r, r < 47 → ∀ k b, gr r k = some b → b < 47 := by
  intro r hr k b h
  have d : ∀ r, r < 47 → kd r = 0 ∨ kd r = 1 ∨ kd r = 2 ∨ kd r = 7 ∨ kd r = 8 ∨ kd r = 9 := by decide
  have d0 : ∀ r, r < 47 → kd r = 0 → r + 3 < 47 := by decide
  have d1 : ∀ r, r < 47 → kd r = 1 → r + 1 < 47 := by decide
  unfold gr at h
  rcases d r hr with e | e | e | e | e | e
  · rw [e, if_neg (by decide), if_neg (by decide), if_neg (by decide), if_neg (by decide), if_pos rfl] at h
    have := d0 r hr e
    split at h
    · cases h
      omega
    · split at h
      · cases h
        omega
      · cases h
  · rw [e, if_neg (by decide), if_neg (by decide), if_pos rfl] at h
    split at h
    · cases h
      exact d1 r hr e
    · cases h
  · rw [e, if_pos rfl] at h
    split at h
    · cases h
      omega
    · split at h
      · cases h
        omega
      · split at h
        · cases h
          omega
        · split at h
          · cases h
            omega
          · cases h
  · rw [e, if_neg (by decide), if_neg (by decide), if_neg (by decide), if_neg (by decide), if_neg (by decide)] at h
    cases h
  · rw [e, if_neg (by decide), if_neg (by decide), if_neg (by decide), if_pos rfl] at h
    split at h
    · cases h
      omega
    · cases h
  · rw [e, if_neg (by decide), if_pos rfl] at h
    split at h
    · cases h
      omega
    · cases h
theorem stS {cs : Nat → ClassId} {ad ad' : Nat → Nat} {o o' r : Nat} (hr : r < 47) (h : ∀ j, j < 47 → ad' (o' + j) = ad (o + j)) : wfS cs (fun a => ad (o + a)) sI r = wfS cs (fun a => ad' (o' + a)) sI r := wI_ad (n := 47) h (gr_47 r hr)
def wSC (cs : Nat → ClassId) (ad : Nat → Nat) (r : Nat) : va_E := if r < 142 then wfS cs (fun a => ad (1 + 47 * ((r - 1) / 47) + a)) sI ((r - 1) % 47) else wfS cs (fun a => ad (143 + 47 * ((r - 143) / 47) + a)) sI ((r - 143) % 47)
theorem wSC_1 {cs : Nat → ClassId} {ad : Nat → Nat} {j i : Nat} (hj : j < 3) (hi : i < 47) : wSC cs ad (1 + 47 * j + i) = wfS cs (fun a => ad (1 + 47 * j + a)) sI i := by
  unfold wSC
  rw [if_pos (by omega), show (1 + 47 * j + i - 1) / 47 = j by omega, show (1 + 47 * j + i - 1) % 47 = i by omega]
theorem wSC_2 {cs : Nat → ClassId} {ad : Nat → Nat} {j i : Nat} (hi : i < 47) : wSC cs ad (143 + 47 * j + i) = wfS cs (fun a => ad (143 + 47 * j + a)) sI i := by
  unfold wSC
  rw [if_neg (by omega), show (143 + 47 * j + i - 143) / 47 = j by omega, show (143 + 47 * j + i - 143) % 47 = i by omega]
theorem wSC_a1 {cs : Nat → ClassId} {ad ad' : Nat → Nat} {J r : Nat} (hJ : J ≤ 3) (h : ∀ x, x < 1 + 47 * J → ad' x = ad x) (h0 : r ≠ 0) (hr : r < 1 + 47 * J) : wSC cs ad r = wSC cs ad' r := by
  obtain ⟨j, i, hi, rfl⟩ : ∃ j i, i < 47 ∧ r = 1 + 47 * j + i := ⟨(r - 1) / 47, (r - 1) % 47, Nat.mod_lt _ (by decide), by omega⟩
  rw [wSC_1 (by omega) hi, wSC_1 (by omega) hi]
  exact stS hi (fun x hx => h _ (by omega))
theorem wSC_a2 {cs : Nat → ClassId} {ad ad' : Nat → Nat} {J r : Nat} (h : ∀ x, x < 143 + 47 * J → ad' x = ad x) (h0 : r ≠ 0) (h1 : r ≠ 142) (hr : r < 143 + 47 * J) : wSC cs ad r = wSC cs ad' r := by
  by_cases q : r < 142
  · exact wSC_a1 (J := 3) (by decide) (fun x hx => h x (by omega)) h0 (by omega)
  · obtain ⟨j, i, hi, rfl⟩ : ∃ j i, i < 47 ∧ r = 143 + 47 * j + i := ⟨(r - 143) / 47, (r - 143) % 47, Nat.mod_lt _ (by decide), by omega⟩
    rw [wSC_2 hi, wSC_2 hi]
    exact stS hi (fun x hx => h _ (by omega))
def wU (cs : Nat → ClassId) (f0 : va_E) (ad : Nat → Nat) (r : Nat) : va_E := if r = 0 then f0 else wSC cs ad r
theorem wU_step {cs : Nat → ClassId} {ad ad' : Nat → Nat} {f0 f1 e9 : va_E} {j : Nat} (hj : j < 3) (h : ∀ x, x < 1 + 47 * j → ad' x = ad x) : ∀ r, r < 1 + 47 * j + 47 → va_up (fun r => if r < 1 + 47 * j then va_up (wU cs f0 ad) (1 + 47 * j) e9 r else shX2 cs (fun a => ad' (1 + 47 * j + a)) (r - (1 + 47 * j))) 0 f1 r = wU cs f1 ad' r := by
  intro r hr
  unfold wU
  by_cases r0 : r = 0
  · rw [r0, va_up_eq, if_pos rfl]
  · rw [va_up_off r0, if_neg r0]
    by_cases q : r < 1 + 47 * j
    · rw [if_pos q, va_up_off (by omega)]
      rw [if_neg r0]
      exact wSC_a1 (J := j) (by omega) h r0 q
    · rw [if_neg q]
      obtain ⟨i, rfl⟩ : ∃ i, r = 1 + 47 * j + i := ⟨r - (1 + 47 * j), by omega⟩
      rw [wSC_1 hj (by omega), Nat.add_sub_cancel_left]
      rfl
def wT4 (cs : Nat → ClassId) (f0 : va_E) (ad : Nat → Nat) (i : Nat) (r : Nat) : va_E := if r = 0 then f0 else if r = 142 then rfq (cs 4) 4 (fun j => if j < i then some (ad (143 + 47 * j)) else none) else wSC cs ad r
theorem wT4_step {cs : Nat → ClassId} {ad ad' : Nat → Nat} {f0 e9 : va_E} {j q9 : Nat} (h : ∀ x, x < 143 + 47 * j → ad' x = ad x) (hq : ad' (143 + 47 * j) = q9) : ∀ r, r < 143 + 47 * j + 47 → va_up (fun r => if r < 143 + 47 * j then va_up (wT4 cs f0 ad j) (143 + 47 * j) e9 r else shX2 cs (fun a => ad' (143 + 47 * j + a)) (r - (143 + 47 * j))) 142 (rfq (cs 4) 4 (va_up (fun x => if x < j then some (ad (143 + 47 * x)) else none) j (some q9))) r = wT4 cs f0 ad' (j + 1) r := by
  intro r hr
  unfold wT4
  by_cases r1 : r = 142
  · rw [r1, va_up_eq, if_neg (by decide), if_pos rfl]
    congr 1
    funext x
    by_cases c : x = j
    · subst c
      rw [va_up_eq, if_pos (Nat.lt_succ_self _), hq]
    · rw [va_up_off c]
      by_cases c2 : x < j
      · rw [if_pos c2, if_pos (by omega), h _ (by omega)]
      · rw [if_neg c2, if_neg (by omega)]
  · rw [va_up_off r1]
    by_cases q : r < 143 + 47 * j
    · rw [if_pos q, va_up_off (by omega)]
      by_cases r0 : r = 0
      · rw [if_pos r0, if_pos r0]
      · rw [if_neg r0, if_neg r1, if_neg r0, if_neg r1]
        exact wSC_a2 h r0 r1 q
    · rw [if_neg q, if_neg (by omega), if_neg r1]
      obtain ⟨i, rfl⟩ : ∃ i, r = 143 + 47 * j + i := ⟨r - (143 + 47 * j), by omega⟩
      rw [wSC_2 (by omega), Nat.add_sub_cancel_left]
      rfl
def perm (r : Nat) : Nat := if r = 0 then 0 else if r = 1 then 142 else if r = 2 then 331 else if r = 3 then 332 else if r < 145 then r - 3 else if r < 333 then r - 2 else r
def iperm (c : Nat) : Nat := if c = 0 then 0 else if c < 142 then c + 3 else if c = 142 then 1 else if c < 331 then c + 2 else if c = 331 then 2 else 3
theorem iperm_perm {r : Nat} (h : r < 333) : iperm (perm r) = r := by
  unfold iperm perm
  by_cases h0 : r = 0
  · rw [if_pos h0, if_pos rfl, h0]
  · rw [if_neg h0]
    by_cases h1 : r = 1
    · rw [if_pos h1, h1]
      rfl
    · rw [if_neg h1]
      by_cases h2 : r = 2
      · rw [if_pos h2, h2]
        rfl
      · rw [if_neg h2]
        by_cases h3 : r = 3
        · rw [if_pos h3, h3]
          rfl
        · rw [if_neg h3]
          by_cases h4 : r < 145
          · rw [if_pos h4, if_neg (by omega), if_pos (by omega)]
            omega
          · rw [if_neg h4, if_pos h, if_neg (by omega), if_neg (by omega), if_neg (by omega), if_pos (by omega)]
            omega
theorem perm_lt {r : Nat} (h : r < 333) : perm r < 333 := by
  unfold perm
  split
  · omega
  · split
    · omega
    · split
      · omega
      · split
        · omega
        · split
          · omega
          · omega
theorem perm_1 {j a : Nat} (hj : j < 3) (ha : a < 47) : perm (4 + 47 * j + a) = 1 + 47 * j + a := by
  unfold perm
  rw [if_neg (by omega), if_neg (by omega), if_neg (by omega), if_neg (by omega), if_pos (by omega)]
  omega
theorem perm_2 {j a : Nat} (hj : j < 4) (ha : a < 47) : perm (145 + 47 * j + a) = 143 + 47 * j + a := by
  unfold perm
  rw [if_neg (by omega), if_neg (by omega), if_neg (by omega), if_neg (by omega), if_neg (by omega), if_pos (by omega)]
  omega
theorem perm_hi {r : Nat} (h : 333 ≤ r) : perm r = r := by
  unfold perm
  rw [if_neg (by omega), if_neg (by omega), if_neg (by omega), if_neg (by omega), if_neg (by omega), if_neg (by omega)]
def sT0 : xM := fun r k => if r < 4 then (if r = 1 then (if k < 4 then nI k else nI 4) else 0) else sI ((r - 4) % 47) k
def shX4 (cs : Nat → ClassId) (ad : Nat → Nat) (c : Nat) : va_E := wfT cs (fun r => ad (perm r)) sT0 (iperm c)
theorem sT0_S {j i : Nat} (hi : i < 47) : sT0 (4 + 47 * j + i) = sI i := by
  funext k
  unfold sT0
  rw [if_neg (by omega), show (4 + 47 * j + i - 4) % 47 = i by omega]
theorem shX4_1 {cs : Nat → ClassId} {ad : Nat → Nat} {j i : Nat} (hj : j < 3) (hi : i < 47) : shX4 cs ad (1 + 47 * j + i) = wfS cs (fun a => ad (1 + 47 * j + a)) sI i := by
  unfold shX4
  have e : iperm (1 + 47 * j + i) = 4 + 47 * j + i := by
    unfold iperm
    rw [if_neg (by omega), if_pos (by omega)]
    omega
  rw [e, wfT_sub ⟨j, by omega, rfl⟩ hi, wfS_loc (x_sh (4 + 47 * j) sT0) sI i (fun k => congrFun (sT0_S hi) k)]
  exact wI_ad (n := 47) (fun x hx => by rw [perm_1 hj hx]) (gr_47 i hi)
theorem shX4_2 {cs : Nat → ClassId} {ad : Nat → Nat} {j i : Nat} (hj : j < 4) (hi : i < 47) : shX4 cs ad (143 + 47 * j + i) = wfS cs (fun a => ad (143 + 47 * j + a)) sI i := by
  unfold shX4
  have e : iperm (143 + 47 * j + i) = 4 + 47 * (j + 3) + i := by
    unfold iperm
    rw [if_neg (by omega), if_neg (by omega), if_neg (by omega), if_pos (by omega)]
    omega
  rw [e, wfT_sub ⟨j + 3, by omega, rfl⟩ hi, wfS_loc (x_sh (4 + 47 * (j + 3)) sT0) sI i (fun k => congrFun (sT0_S hi) k)]
  exact wI_ad (n := 47) (fun x hx => by rw [show 4 + 47 * (j + 3) + x = 145 + 47 * j + x by omega, perm_2 hj hx]) (gr_47 i hi)
theorem shX4_r1 {cs : Nat → ClassId} {ad : Nat → Nat} : shX4 cs ad 142 = rfq (cs 4) 4 (fun j => if j < 4 then some (ad (143 + 47 * j)) else none) := by
  unfold shX4
  rw [show iperm 142 = 1 from rfl, wfT_r1]
  unfold rfq
  congr 7
  funext k
  have e : sT0 1 k = if k < 4 then nI k else nI 4 := rfl
  rw [e]
  by_cases q : k < 4
  · rw [if_pos q, if_pos q]
    rcases (show k = 0 ∨ k = 1 ∨ k = 2 ∨ k = 3 by omega) with rfl | rfl | rfl | rfl <;> rfl
  · rw [if_neg q, if_neg q]
    rfl
theorem shX4_0 {cs : Nat → ClassId} {ad : Nat → Nat} : shX4 cs ad 0 = .inr (4, [.ref (ad 1), .ref (ad 48), .ref (ad 95), .ref (ad 142), .ref (ad 331), .int 0, .int 0]) := rfl
theorem shX4_331 {cs : Nat → ClassId} {ad : Nat → Nat} : shX4 cs ad 331 = .inr (3, [.ref (ad 332), .int 0]) := rfl
theorem shX4_332 {cs : Nat → ClassId} {ad : Nat → Nat} : shX4 cs ad 332 = .inl (cs 0, 80, .inl (fun _ => 0)) := rfl
