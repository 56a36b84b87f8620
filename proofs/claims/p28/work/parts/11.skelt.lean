/-! the object's cells: its own four, then seven States -/
def xo (o : Nat) : Prop := ∃ j, j < 7 ∧ o = 4 + 47 * j
def xt (k o a : Nat) : Prop := xo o ∧ xk k a
theorem x_xt {k o a : Nat} (h1 : xo o) (h2 : xk k a) : xt k o a := ⟨h1, h2⟩
theorem xo_4 : xo 4 := ⟨0, by decide, rfl⟩
theorem xo_51 : xo 51 := ⟨1, by decide, rfl⟩
theorem xo_98 : xo 98 := ⟨2, by decide, rfl⟩
theorem x_i1 {o : Nat} (h : xo o) : ∀ r, r < 47 → o + r < 333 := by
  obtain ⟨j, hj, rfl⟩ := h
  intro r hr
  omega
theorem x_i2 {o : Nat} : ∀ i j, i < 47 → j < 47 → o + i = o + j → i = j := fun i j _ _ h => Nat.add_left_cancel h
theorem x_otr {k o a : Nat} (h : xt k o a) : o + a < 333 := x_i1 h.1 a h.2.1
def hsO (v : Int32) : Option Nat := if v = 0 then some 145 else if v = 1 then some 192 else if v = 2 then some 239 else if v = 3 then some 286 else none
theorem xo_hs {v : Int32} {o : Nat} (h : hsO v = some o) : xo o := by
  unfold hsO at h
  refine x_ite h (fun _ h => ?_) (fun _ h => x_ite h (fun _ h => ?_) (fun _ h => x_ite h (fun _ h => ?_) (fun _ h => x_ite h (fun _ h => ?_) (fun _ h => ?_))))
  · cases h
    exact ⟨3, by decide, rfl⟩
  · cases h
    exact ⟨4, by decide, rfl⟩
  · cases h
    exact ⟨5, by decide, rfl⟩
  · cases h
    exact ⟨6, by decide, rfl⟩
  · cases h
def x_sh (o : Nat) (σ : xM) : xM := fun r k => σ (o + r) k
def x_pt (o : Nat) (τ σ : xM) : xM := fun r k => if o ≤ r ∧ r < o + 47 then τ (r - o) k else σ r k
theorem x_sh_pt {o : Nat} {τ σ : xM} {r : Nat} (hr : r < 47) : x_sh o (x_pt o τ σ) r = τ r := by
  funext k
  have h : o ≤ o + r ∧ o + r < o + 47 := ⟨Nat.le_add_right _ _, Nat.add_lt_add_left hr o⟩
  simp only [x_sh, x_pt, if_pos h, Nat.add_sub_cancel_left]
theorem x_pt_same {o : Nat} {τ σ : xM} : ∀ r, r < 333 → (∀ i, i < 47 → o + i ≠ r) → ∀ k, σ r k = x_pt o τ σ r k := by
  intro r _ h k
  have hn : ¬ (o ≤ r ∧ r < o + 47) := fun q => h (r - o) (by omega) (by omega)
  simp only [x_pt, if_neg hn]
def wfT (cs : Nat → ClassId) (ad : Nat → Nat) (σ : xM) (r : Nat) : va_E :=
  if r = 0 then .inr (4, [.ref (ad (4 + 0)), .ref (ad (51 + 0)), .ref (ad (98 + 0)), .ref (ad 1), .ref (ad 2), .int (σ 0 5), .int (σ 0 6)])
  else if r = 1 then .inl (cs 4, 4, .inr (.inr (.inr (.inr (fun k => (hsO (σ 1 k)).map (fun o => ad (o + 0)))))))
  else if r = 2 then .inr (3, [.ref (ad 3), .int (σ 2 1)])
  else if r = 3 then .inl (cs 0, 80, .inl (σ 3))
  else wfS cs (fun a => ad (4 + 47 * ((r - 4) / 47) + a)) (x_sh (4 + 47 * ((r - 4) / 47)) σ) ((r - 4) % 47)
theorem wfT_loc {cs : Nat → ClassId} {ad : Nat → Nat} : x_loc (wfT cs ad) := fun σ σ' r h => by
  have e : σ r = σ' r := funext h
  unfold wfT
  by_cases h0 : r = 0
  · subst h0
    simp [e]
  · by_cases h1 : r = 1
    · subst h1
      simp [e]
    · by_cases h2 : r = 2
      · subst h2
        simp [e]
      · by_cases h3 : r = 3
        · subst h3
          simp [e]
        · rw [if_neg h0, if_neg h1, if_neg h2, if_neg h3, if_neg h0, if_neg h1, if_neg h2, if_neg h3]
          refine wfS_loc _ _ _ (fun k => ?_)
          have e2 : 4 + 47 * ((r - 4) / 47) + (r - 4) % 47 = r := by omega
          simp only [x_sh, e2, e]
theorem wfT_sub {cs : Nat → ClassId} {ad : Nat → Nat} {σ : xM} {o r : Nat} (h : xo o) (hr : r < 47) : wfT cs ad σ (o + r) = wfS cs (fun a => ad (o + a)) (x_sh o σ) r := by
  obtain ⟨j, hj, rfl⟩ := h
  unfold wfT
  have e1 : (4 + 47 * j + r - 4) / 47 = j := by omega
  have e2 : (4 + 47 * j + r - 4) % 47 = r := by omega
  rw [if_neg (by omega), if_neg (by omega), if_neg (by omega), if_neg (by omega), e1, e2]
theorem wfT_pt {cs : Nat → ClassId} {ad : Nat → Nat} {σ τ : xM} {o r : Nat} (h : xo o) (hr : r < 47) : wfT cs ad (x_pt o τ σ) (o + r) = wfS cs (fun a => ad (o + a)) τ r := by
  rw [wfT_sub h hr]
  exact wfS_loc _ _ _ (fun k => by rw [x_sh_pt hr])
theorem x_rfo {v : Int32} {o : Nat} {ad : Nat → Nat} (h : hsO v = some o) : va_rf ((hsO v).map (fun o => ad (o + 0))) = .ref (ad (o + 0)) := by
  rw [h]
  rfl
theorem wfT_r0 {cs : Nat → ClassId} {ad : Nat → Nat} {σ : xM} : wfT cs ad σ 0 = .inr (4, [.ref (ad (4 + 0)), .ref (ad (51 + 0)), .ref (ad (98 + 0)), .ref (ad 1), .ref (ad 2), .int (σ 0 5), .int (σ 0 6)]) := rfl
theorem wfT_r1 {cs : Nat → ClassId} {ad : Nat → Nat} {σ : xM} : wfT cs ad σ 1 = .inl (cs 4, 4, .inr (.inr (.inr (.inr (fun k => (hsO (σ 1 k)).map (fun o => ad (o + 0))))))) := rfl
theorem wfT_r2 {cs : Nat → ClassId} {ad : Nat → Nat} {σ : xM} : wfT cs ad σ 2 = .inr (3, [.ref (ad 3), .int (σ 2 1)]) := rfl
theorem wfT_r3 {cs : Nat → ClassId} {ad : Nat → Nat} {σ : xM} : wfT cs ad σ 3 = .inl (cs 0, 80, .inl (σ 3)) := rfl
theorem wpT_r0_5 {cs : Nat → ClassId} {ad : Nat → Nat} {σ : xM} {x : Int32} : wfT cs ad (x_up σ 0 5 x) 0 = .inr (4, ([.ref (ad (4 + 0)), .ref (ad (51 + 0)), .ref (ad (98 + 0)), .ref (ad 1), .ref (ad 2), .int (σ 0 5), .int (σ 0 6)]).set 5 (.int x)) := by
  rw [wfT_r0]
  simp [x_up]
theorem wpT_r0_6 {cs : Nat → ClassId} {ad : Nat → Nat} {σ : xM} {x : Int32} : wfT cs ad (x_up σ 0 6 x) 0 = .inr (4, ([.ref (ad (4 + 0)), .ref (ad (51 + 0)), .ref (ad (98 + 0)), .ref (ad 1), .ref (ad 2), .int (σ 0 5), .int (σ 0 6)]).set 6 (.int x)) := by
  rw [wfT_r0]
  simp [x_up]
theorem wpT_r1 {cs : Nat → ClassId} {ad : Nat → Nat} {σ : xM} {v : Int32} {o j : Nat} (h : hsO v = some o) : wfT cs ad (x_up σ 1 j v) 1 = .inl (cs 4, 4, .inr (.inr (.inr (.inr (va_up (fun k => (hsO (σ 1 k)).map (fun o => ad (o + 0))) j (some (ad (o + 0)))))))) := by
  rw [wfT_r1]
  congr 7
  funext k
  by_cases hk : k = j
  · subst hk
    simp [x_up, va_up, h]
  · simp [x_up, va_up, hk]
theorem wpT_r2_1 {cs : Nat → ClassId} {ad : Nat → Nat} {σ : xM} {x : Int32} : wfT cs ad (x_up σ 2 1 x) 2 = .inr (3, ([.ref (ad 3), .int (σ 2 1)]).set 1 (.int x)) := by
  rw [wfT_r2]
  simp [x_up]
theorem wpT_r3 {cs : Nat → ClassId} {ad : Nat → Nat} {σ : xM} {x : Int32} {j : Nat} : wfT cs ad (x_up σ 3 j x) 3 = .inl (cs 0, 80, .inl (upd (σ 3) j x)) := by
  rw [wfT_r3, x_up_row]
theorem wfT_0 {cs : Nat → ClassId} {ad : Nat → Nat} {σ : xM} {o r : Nat} (h : xt 0 o r) : wfT cs ad σ (o + r) = .inr (0, [va_rf ((gr r 0).map (fun b => ad (o + b))), va_rf ((gr r 1).map (fun b => ad (o + b))), .int (σ (o + r) 2), .int (σ (o + r) 3), .int (σ (o + r) 4), .int (σ (o + r) 5), .int (σ (o + r) 6), .int (σ (o + r) 7), .int (σ (o + r) 8), .int (σ (o + r) 9), .int (σ (o + r) 10), .int (σ (o + r) 11), .int (σ (o + r) 12), .int (σ (o + r) 13), .int (σ (o + r) 14), .int (σ (o + r) 15)]) := (wfT_sub h.1 h.2.1).trans (wfS_0 h.2.2)
theorem wpT_0_2 {cs : Nat → ClassId} {ad : Nat → Nat} {σ : xM} {o r : Nat} {x : Int32} (h : xt 0 o r) : wfT cs ad (x_up σ (o + r) 2 x) (o + r) = .inr (0, ([va_rf ((gr r 0).map (fun b => ad (o + b))), va_rf ((gr r 1).map (fun b => ad (o + b))), .int (σ (o + r) 2), .int (σ (o + r) 3), .int (σ (o + r) 4), .int (σ (o + r) 5), .int (σ (o + r) 6), .int (σ (o + r) 7), .int (σ (o + r) 8), .int (σ (o + r) 9), .int (σ (o + r) 10), .int (σ (o + r) 11), .int (σ (o + r) 12), .int (σ (o + r) 13), .int (σ (o + r) 14), .int (σ (o + r) 15)]).set 2 (.int x)) := by
  rw [wfT_0 h]
  simp [x_up]
theorem wpT_0_3 {cs : Nat → ClassId} {ad : Nat → Nat} {σ : xM} {o r : Nat} {x : Int32} (h : xt 0 o r) : wfT cs ad (x_up σ (o + r) 3 x) (o + r) = .inr (0, ([va_rf ((gr r 0).map (fun b => ad (o + b))), va_rf ((gr r 1).map (fun b => ad (o + b))), .int (σ (o + r) 2), .int (σ (o + r) 3), .int (σ (o + r) 4), .int (σ (o + r) 5), .int (σ (o + r) 6), .int (σ (o + r) 7), .int (σ (o + r) 8), .int (σ (o + r) 9), .int (σ (o + r) 10), .int (σ (o + r) 11), .int (σ (o + r) 12), .int (σ (o + r) 13), .int (σ (o + r) 14), .int (σ (o + r) 15)]).set 3 (.int x)) := by
  rw [wfT_0 h]
  simp [x_up]
theorem wpT_0_4 {cs : Nat → ClassId} {ad : Nat → Nat} {σ : xM} {o r : Nat} {x : Int32} (h : xt 0 o r) : wfT cs ad (x_up σ (o + r) 4 x) (o + r) = .inr (0, ([va_rf ((gr r 0).map (fun b => ad (o + b))), va_rf ((gr r 1).map (fun b => ad (o + b))), .int (σ (o + r) 2), .int (σ (o + r) 3), .int (σ (o + r) 4), .int (σ (o + r) 5), .int (σ (o + r) 6), .int (σ (o + r) 7), .int (σ (o + r) 8), .int (σ (o + r) 9), .int (σ (o + r) 10), .int (σ (o + r) 11), .int (σ (o + r) 12), .int (σ (o + r) 13), .int (σ (o + r) 14), .int (σ (o + r) 15)]).set 4 (.int x)) := by
  rw [wfT_0 h]
  simp [x_up]
theorem wpT_0_5 {cs : Nat → ClassId} {ad : Nat → Nat} {σ : xM} {o r : Nat} {x : Int32} (h : xt 0 o r) : wfT cs ad (x_up σ (o + r) 5 x) (o + r) = .inr (0, ([va_rf ((gr r 0).map (fun b => ad (o + b))), va_rf ((gr r 1).map (fun b => ad (o + b))), .int (σ (o + r) 2), .int (σ (o + r) 3), .int (σ (o + r) 4), .int (σ (o + r) 5), .int (σ (o + r) 6), .int (σ (o + r) 7), .int (σ (o + r) 8), .int (σ (o + r) 9), .int (σ (o + r) 10), .int (σ (o + r) 11), .int (σ (o + r) 12), .int (σ (o + r) 13), .int (σ (o + r) 14), .int (σ (o + r) 15)]).set 5 (.int x)) := by
  rw [wfT_0 h]
  simp [x_up]
theorem wpT_0_6 {cs : Nat → ClassId} {ad : Nat → Nat} {σ : xM} {o r : Nat} {x : Int32} (h : xt 0 o r) : wfT cs ad (x_up σ (o + r) 6 x) (o + r) = .inr (0, ([va_rf ((gr r 0).map (fun b => ad (o + b))), va_rf ((gr r 1).map (fun b => ad (o + b))), .int (σ (o + r) 2), .int (σ (o + r) 3), .int (σ (o + r) 4), .int (σ (o + r) 5), .int (σ (o + r) 6), .int (σ (o + r) 7), .int (σ (o + r) 8), .int (σ (o + r) 9), .int (σ (o + r) 10), .int (σ (o + r) 11), .int (σ (o + r) 12), .int (σ (o + r) 13), .int (σ (o + r) 14), .int (σ (o + r) 15)]).set 6 (.int x)) := by
  rw [wfT_0 h]
  simp [x_up]
theorem wpT_0_7 {cs : Nat → ClassId} {ad : Nat → Nat} {σ : xM} {o r : Nat} {x : Int32} (h : xt 0 o r) : wfT cs ad (x_up σ (o + r) 7 x) (o + r) = .inr (0, ([va_rf ((gr r 0).map (fun b => ad (o + b))), va_rf ((gr r 1).map (fun b => ad (o + b))), .int (σ (o + r) 2), .int (σ (o + r) 3), .int (σ (o + r) 4), .int (σ (o + r) 5), .int (σ (o + r) 6), .int (σ (o + r) 7), .int (σ (o + r) 8), .int (σ (o + r) 9), .int (σ (o + r) 10), .int (σ (o + r) 11), .int (σ (o + r) 12), .int (σ (o + r) 13), .int (σ (o + r) 14), .int (σ (o + r) 15)]).set 7 (.int x)) := by
  rw [wfT_0 h]
  simp [x_up]
theorem wpT_0_8 {cs : Nat → ClassId} {ad : Nat → Nat} {σ : xM} {o r : Nat} {x : Int32} (h : xt 0 o r) : wfT cs ad (x_up σ (o + r) 8 x) (o + r) = .inr (0, ([va_rf ((gr r 0).map (fun b => ad (o + b))), va_rf ((gr r 1).map (fun b => ad (o + b))), .int (σ (o + r) 2), .int (σ (o + r) 3), .int (σ (o + r) 4), .int (σ (o + r) 5), .int (σ (o + r) 6), .int (σ (o + r) 7), .int (σ (o + r) 8), .int (σ (o + r) 9), .int (σ (o + r) 10), .int (σ (o + r) 11), .int (σ (o + r) 12), .int (σ (o + r) 13), .int (σ (o + r) 14), .int (σ (o + r) 15)]).set 8 (.int x)) := by
  rw [wfT_0 h]
  simp [x_up]
theorem wpT_0_9 {cs : Nat → ClassId} {ad : Nat → Nat} {σ : xM} {o r : Nat} {x : Int32} (h : xt 0 o r) : wfT cs ad (x_up σ (o + r) 9 x) (o + r) = .inr (0, ([va_rf ((gr r 0).map (fun b => ad (o + b))), va_rf ((gr r 1).map (fun b => ad (o + b))), .int (σ (o + r) 2), .int (σ (o + r) 3), .int (σ (o + r) 4), .int (σ (o + r) 5), .int (σ (o + r) 6), .int (σ (o + r) 7), .int (σ (o + r) 8), .int (σ (o + r) 9), .int (σ (o + r) 10), .int (σ (o + r) 11), .int (σ (o + r) 12), .int (σ (o + r) 13), .int (σ (o + r) 14), .int (σ (o + r) 15)]).set 9 (.int x)) := by
  rw [wfT_0 h]
  simp [x_up]
theorem wpT_0_10 {cs : Nat → ClassId} {ad : Nat → Nat} {σ : xM} {o r : Nat} {x : Int32} (h : xt 0 o r) : wfT cs ad (x_up σ (o + r) 10 x) (o + r) = .inr (0, ([va_rf ((gr r 0).map (fun b => ad (o + b))), va_rf ((gr r 1).map (fun b => ad (o + b))), .int (σ (o + r) 2), .int (σ (o + r) 3), .int (σ (o + r) 4), .int (σ (o + r) 5), .int (σ (o + r) 6), .int (σ (o + r) 7), .int (σ (o + r) 8), .int (σ (o + r) 9), .int (σ (o + r) 10), .int (σ (o + r) 11), .int (σ (o + r) 12), .int (σ (o + r) 13), .int (σ (o + r) 14), .int (σ (o + r) 15)]).set 10 (.int x)) := by
  rw [wfT_0 h]
  simp [x_up]
theorem wpT_0_11 {cs : Nat → ClassId} {ad : Nat → Nat} {σ : xM} {o r : Nat} {x : Int32} (h : xt 0 o r) : wfT cs ad (x_up σ (o + r) 11 x) (o + r) = .inr (0, ([va_rf ((gr r 0).map (fun b => ad (o + b))), va_rf ((gr r 1).map (fun b => ad (o + b))), .int (σ (o + r) 2), .int (σ (o + r) 3), .int (σ (o + r) 4), .int (σ (o + r) 5), .int (σ (o + r) 6), .int (σ (o + r) 7), .int (σ (o + r) 8), .int (σ (o + r) 9), .int (σ (o + r) 10), .int (σ (o + r) 11), .int (σ (o + r) 12), .int (σ (o + r) 13), .int (σ (o + r) 14), .int (σ (o + r) 15)]).set 11 (.int x)) := by
  rw [wfT_0 h]
  simp [x_up]
theorem wpT_0_12 {cs : Nat → ClassId} {ad : Nat → Nat} {σ : xM} {o r : Nat} {x : Int32} (h : xt 0 o r) : wfT cs ad (x_up σ (o + r) 12 x) (o + r) = .inr (0, ([va_rf ((gr r 0).map (fun b => ad (o + b))), va_rf ((gr r 1).map (fun b => ad (o + b))), .int (σ (o + r) 2), .int (σ (o + r) 3), .int (σ (o + r) 4), .int (σ (o + r) 5), .int (σ (o + r) 6), .int (σ (o + r) 7), .int (σ (o + r) 8), .int (σ (o + r) 9), .int (σ (o + r) 10), .int (σ (o + r) 11), .int (σ (o + r) 12), .int (σ (o + r) 13), .int (σ (o + r) 14), .int (σ (o + r) 15)]).set 12 (.int x)) := by
  rw [wfT_0 h]
  simp [x_up]
theorem wpT_0_13 {cs : Nat → ClassId} {ad : Nat → Nat} {σ : xM} {o r : Nat} {x : Int32} (h : xt 0 o r) : wfT cs ad (x_up σ (o + r) 13 x) (o + r) = .inr (0, ([va_rf ((gr r 0).map (fun b => ad (o + b))), va_rf ((gr r 1).map (fun b => ad (o + b))), .int (σ (o + r) 2), .int (σ (o + r) 3), .int (σ (o + r) 4), .int (σ (o + r) 5), .int (σ (o + r) 6), .int (σ (o + r) 7), .int (σ (o + r) 8), .int (σ (o + r) 9), .int (σ (o + r) 10), .int (σ (o + r) 11), .int (σ (o + r) 12), .int (σ (o + r) 13), .int (σ (o + r) 14), .int (σ (o + r) 15)]).set 13 (.int x)) := by
  rw [wfT_0 h]
  simp [x_up]
theorem wpT_0_14 {cs : Nat → ClassId} {ad : Nat → Nat} {σ : xM} {o r : Nat} {x : Int32} (h : xt 0 o r) : wfT cs ad (x_up σ (o + r) 14 x) (o + r) = .inr (0, ([va_rf ((gr r 0).map (fun b => ad (o + b))), va_rf ((gr r 1).map (fun b => ad (o + b))), .int (σ (o + r) 2), .int (σ (o + r) 3), .int (σ (o + r) 4), .int (σ (o + r) 5), .int (σ (o + r) 6), .int (σ (o + r) 7), .int (σ (o + r) 8), .int (σ (o + r) 9), .int (σ (o + r) 10), .int (σ (o + r) 11), .int (σ (o + r) 12), .int (σ (o + r) 13), .int (σ (o + r) 14), .int (σ (o + r) 15)]).set 14 (.int x)) := by
  rw [wfT_0 h]
  simp [x_up]
theorem wpT_0_15 {cs : Nat → ClassId} {ad : Nat → Nat} {σ : xM} {o r : Nat} {x : Int32} (h : xt 0 o r) : wfT cs ad (x_up σ (o + r) 15 x) (o + r) = .inr (0, ([va_rf ((gr r 0).map (fun b => ad (o + b))), va_rf ((gr r 1).map (fun b => ad (o + b))), .int (σ (o + r) 2), .int (σ (o + r) 3), .int (σ (o + r) 4), .int (σ (o + r) 5), .int (σ (o + r) 6), .int (σ (o + r) 7), .int (σ (o + r) 8), .int (σ (o + r) 9), .int (σ (o + r) 10), .int (σ (o + r) 11), .int (σ (o + r) 12), .int (σ (o + r) 13), .int (σ (o + r) 14), .int (σ (o + r) 15)]).set 15 (.int x)) := by
  rw [wfT_0 h]
  simp [x_up]
theorem wfT_1 {cs : Nat → ClassId} {ad : Nat → Nat} {σ : xM} {o r : Nat} (h : xt 1 o r) : wfT cs ad σ (o + r) = .inr (1, [.int (σ (o + r) 0), .int (σ (o + r) 1), va_rf ((gr r 2).map (fun b => ad (o + b))), .int (σ (o + r) 3)]) := (wfT_sub h.1 h.2.1).trans (wfS_1 h.2.2)
theorem wpT_1_0 {cs : Nat → ClassId} {ad : Nat → Nat} {σ : xM} {o r : Nat} {x : Int32} (h : xt 1 o r) : wfT cs ad (x_up σ (o + r) 0 x) (o + r) = .inr (1, ([.int (σ (o + r) 0), .int (σ (o + r) 1), va_rf ((gr r 2).map (fun b => ad (o + b))), .int (σ (o + r) 3)]).set 0 (.int x)) := by
  rw [wfT_1 h]
  simp [x_up]
theorem wpT_1_1 {cs : Nat → ClassId} {ad : Nat → Nat} {σ : xM} {o r : Nat} {x : Int32} (h : xt 1 o r) : wfT cs ad (x_up σ (o + r) 1 x) (o + r) = .inr (1, ([.int (σ (o + r) 0), .int (σ (o + r) 1), va_rf ((gr r 2).map (fun b => ad (o + b))), .int (σ (o + r) 3)]).set 1 (.int x)) := by
  rw [wfT_1 h]
  simp [x_up]
theorem wpT_1_3 {cs : Nat → ClassId} {ad : Nat → Nat} {σ : xM} {o r : Nat} {x : Int32} (h : xt 1 o r) : wfT cs ad (x_up σ (o + r) 3 x) (o + r) = .inr (1, ([.int (σ (o + r) 0), .int (σ (o + r) 1), va_rf ((gr r 2).map (fun b => ad (o + b))), .int (σ (o + r) 3)]).set 3 (.int x)) := by
  rw [wfT_1 h]
  simp [x_up]
theorem wfT_2 {cs : Nat → ClassId} {ad : Nat → Nat} {σ : xM} {o r : Nat} (h : xt 2 o r) : wfT cs ad σ (o + r) = .inr (2, [va_rf ((gr r 0).map (fun b => ad (o + b))), va_rf ((gr r 1).map (fun b => ad (o + b))), va_rf ((gr r 2).map (fun b => ad (o + b))), va_rf ((gr r 3).map (fun b => ad (o + b))), .int (σ (o + r) 4), .int (σ (o + r) 5), .int (σ (o + r) 6), .int (σ (o + r) 7), .int (σ (o + r) 8), .int (σ (o + r) 9), .int (σ (o + r) 10), .int (σ (o + r) 11), .int (σ (o + r) 12)]) := (wfT_sub h.1 h.2.1).trans (wfS_2 h.2.2)
theorem wpT_2_4 {cs : Nat → ClassId} {ad : Nat → Nat} {σ : xM} {o r : Nat} {x : Int32} (h : xt 2 o r) : wfT cs ad (x_up σ (o + r) 4 x) (o + r) = .inr (2, ([va_rf ((gr r 0).map (fun b => ad (o + b))), va_rf ((gr r 1).map (fun b => ad (o + b))), va_rf ((gr r 2).map (fun b => ad (o + b))), va_rf ((gr r 3).map (fun b => ad (o + b))), .int (σ (o + r) 4), .int (σ (o + r) 5), .int (σ (o + r) 6), .int (σ (o + r) 7), .int (σ (o + r) 8), .int (σ (o + r) 9), .int (σ (o + r) 10), .int (σ (o + r) 11), .int (σ (o + r) 12)]).set 4 (.int x)) := by
  rw [wfT_2 h]
  simp [x_up]
theorem wpT_2_5 {cs : Nat → ClassId} {ad : Nat → Nat} {σ : xM} {o r : Nat} {x : Int32} (h : xt 2 o r) : wfT cs ad (x_up σ (o + r) 5 x) (o + r) = .inr (2, ([va_rf ((gr r 0).map (fun b => ad (o + b))), va_rf ((gr r 1).map (fun b => ad (o + b))), va_rf ((gr r 2).map (fun b => ad (o + b))), va_rf ((gr r 3).map (fun b => ad (o + b))), .int (σ (o + r) 4), .int (σ (o + r) 5), .int (σ (o + r) 6), .int (σ (o + r) 7), .int (σ (o + r) 8), .int (σ (o + r) 9), .int (σ (o + r) 10), .int (σ (o + r) 11), .int (σ (o + r) 12)]).set 5 (.int x)) := by
  rw [wfT_2 h]
  simp [x_up]
theorem wpT_2_6 {cs : Nat → ClassId} {ad : Nat → Nat} {σ : xM} {o r : Nat} {x : Int32} (h : xt 2 o r) : wfT cs ad (x_up σ (o + r) 6 x) (o + r) = .inr (2, ([va_rf ((gr r 0).map (fun b => ad (o + b))), va_rf ((gr r 1).map (fun b => ad (o + b))), va_rf ((gr r 2).map (fun b => ad (o + b))), va_rf ((gr r 3).map (fun b => ad (o + b))), .int (σ (o + r) 4), .int (σ (o + r) 5), .int (σ (o + r) 6), .int (σ (o + r) 7), .int (σ (o + r) 8), .int (σ (o + r) 9), .int (σ (o + r) 10), .int (σ (o + r) 11), .int (σ (o + r) 12)]).set 6 (.int x)) := by
  rw [wfT_2 h]
  simp [x_up]
theorem wpT_2_7 {cs : Nat → ClassId} {ad : Nat → Nat} {σ : xM} {o r : Nat} {x : Int32} (h : xt 2 o r) : wfT cs ad (x_up σ (o + r) 7 x) (o + r) = .inr (2, ([va_rf ((gr r 0).map (fun b => ad (o + b))), va_rf ((gr r 1).map (fun b => ad (o + b))), va_rf ((gr r 2).map (fun b => ad (o + b))), va_rf ((gr r 3).map (fun b => ad (o + b))), .int (σ (o + r) 4), .int (σ (o + r) 5), .int (σ (o + r) 6), .int (σ (o + r) 7), .int (σ (o + r) 8), .int (σ (o + r) 9), .int (σ (o + r) 10), .int (σ (o + r) 11), .int (σ (o + r) 12)]).set 7 (.int x)) := by
  rw [wfT_2 h]
  simp [x_up]
theorem wpT_2_8 {cs : Nat → ClassId} {ad : Nat → Nat} {σ : xM} {o r : Nat} {x : Int32} (h : xt 2 o r) : wfT cs ad (x_up σ (o + r) 8 x) (o + r) = .inr (2, ([va_rf ((gr r 0).map (fun b => ad (o + b))), va_rf ((gr r 1).map (fun b => ad (o + b))), va_rf ((gr r 2).map (fun b => ad (o + b))), va_rf ((gr r 3).map (fun b => ad (o + b))), .int (σ (o + r) 4), .int (σ (o + r) 5), .int (σ (o + r) 6), .int (σ (o + r) 7), .int (σ (o + r) 8), .int (σ (o + r) 9), .int (σ (o + r) 10), .int (σ (o + r) 11), .int (σ (o + r) 12)]).set 8 (.int x)) := by
  rw [wfT_2 h]
  simp [x_up]
theorem wpT_2_9 {cs : Nat → ClassId} {ad : Nat → Nat} {σ : xM} {o r : Nat} {x : Int32} (h : xt 2 o r) : wfT cs ad (x_up σ (o + r) 9 x) (o + r) = .inr (2, ([va_rf ((gr r 0).map (fun b => ad (o + b))), va_rf ((gr r 1).map (fun b => ad (o + b))), va_rf ((gr r 2).map (fun b => ad (o + b))), va_rf ((gr r 3).map (fun b => ad (o + b))), .int (σ (o + r) 4), .int (σ (o + r) 5), .int (σ (o + r) 6), .int (σ (o + r) 7), .int (σ (o + r) 8), .int (σ (o + r) 9), .int (σ (o + r) 10), .int (σ (o + r) 11), .int (σ (o + r) 12)]).set 9 (.int x)) := by
  rw [wfT_2 h]
  simp [x_up]
theorem wpT_2_10 {cs : Nat → ClassId} {ad : Nat → Nat} {σ : xM} {o r : Nat} {x : Int32} (h : xt 2 o r) : wfT cs ad (x_up σ (o + r) 10 x) (o + r) = .inr (2, ([va_rf ((gr r 0).map (fun b => ad (o + b))), va_rf ((gr r 1).map (fun b => ad (o + b))), va_rf ((gr r 2).map (fun b => ad (o + b))), va_rf ((gr r 3).map (fun b => ad (o + b))), .int (σ (o + r) 4), .int (σ (o + r) 5), .int (σ (o + r) 6), .int (σ (o + r) 7), .int (σ (o + r) 8), .int (σ (o + r) 9), .int (σ (o + r) 10), .int (σ (o + r) 11), .int (σ (o + r) 12)]).set 10 (.int x)) := by
  rw [wfT_2 h]
  simp [x_up]
theorem wpT_2_11 {cs : Nat → ClassId} {ad : Nat → Nat} {σ : xM} {o r : Nat} {x : Int32} (h : xt 2 o r) : wfT cs ad (x_up σ (o + r) 11 x) (o + r) = .inr (2, ([va_rf ((gr r 0).map (fun b => ad (o + b))), va_rf ((gr r 1).map (fun b => ad (o + b))), va_rf ((gr r 2).map (fun b => ad (o + b))), va_rf ((gr r 3).map (fun b => ad (o + b))), .int (σ (o + r) 4), .int (σ (o + r) 5), .int (σ (o + r) 6), .int (σ (o + r) 7), .int (σ (o + r) 8), .int (σ (o + r) 9), .int (σ (o + r) 10), .int (σ (o + r) 11), .int (σ (o + r) 12)]).set 11 (.int x)) := by
  rw [wfT_2 h]
  simp [x_up]
theorem wpT_2_12 {cs : Nat → ClassId} {ad : Nat → Nat} {σ : xM} {o r : Nat} {x : Int32} (h : xt 2 o r) : wfT cs ad (x_up σ (o + r) 12 x) (o + r) = .inr (2, ([va_rf ((gr r 0).map (fun b => ad (o + b))), va_rf ((gr r 1).map (fun b => ad (o + b))), va_rf ((gr r 2).map (fun b => ad (o + b))), va_rf ((gr r 3).map (fun b => ad (o + b))), .int (σ (o + r) 4), .int (σ (o + r) 5), .int (σ (o + r) 6), .int (σ (o + r) 7), .int (σ (o + r) 8), .int (σ (o + r) 9), .int (σ (o + r) 10), .int (σ (o + r) 11), .int (σ (o + r) 12)]).set 12 (.int x)) := by
  rw [wfT_2 h]
  simp [x_up]
theorem wfT_7 {cs : Nat → ClassId} {ad : Nat → Nat} {σ : xM} {o r : Nat} (h : xt 7 o r) : wfT cs ad σ (o + r) = .inl (cs 1, ln r, .inl (σ (o + r))) := (wfT_sub h.1 h.2.1).trans (wfS_7 h.2.2)
theorem wpT_7 {cs : Nat → ClassId} {ad : Nat → Nat} {σ : xM} {o r : Nat} {x : Int32} {j : Nat} (h : xt 7 o r) : wfT cs ad (x_up σ (o + r) j x) (o + r) = .inl (cs 1, ln r, .inl (upd (σ (o + r)) j x)) := by
  rw [wfT_7 h, x_up_row]
theorem wfT_8 {cs : Nat → ClassId} {ad : Nat → Nat} {σ : xM} {o r : Nat} (h : xt 8 o r) : wfT cs ad σ (o + r) = .inl (cs 2, 6, .inr (.inr (.inr (.inr (fun k => (gr r k).map (fun b => ad (o + b))))))) := (wfT_sub h.1 h.2.1).trans (wfS_8 h.2.2)
theorem wfT_9 {cs : Nat → ClassId} {ad : Nat → Nat} {σ : xM} {o r : Nat} (h : xt 9 o r) : wfT cs ad σ (o + r) = .inl (cs 3, 8, .inr (.inr (.inr (.inr (fun k => (gr r k).map (fun b => ad (o + b))))))) := (wfT_sub h.1 h.2.1).trans (wfS_9 h.2.2)
theorem tyT_0_0 {o r b : Nat} (h : xt 0 o r) (hg : gr r 0 = some b) : xt 1 o b := ⟨h.1, ty_0_0 h.2 hg⟩
theorem tyT_0_1 {o r b : Nat} (h : xt 0 o r) (hg : gr r 1 = some b) : xt 7 o b := ⟨h.1, ty_0_1 h.2 hg⟩
theorem tyT_1_2 {o r b : Nat} (h : xt 1 o r) (hg : gr r 2 = some b) : xt 7 o b := ⟨h.1, ty_1_2 h.2 hg⟩
theorem tyT_2_0 {o r b : Nat} (h : xt 2 o r) (hg : gr r 0 = some b) : xt 9 o b := ⟨h.1, ty_2_0 h.2 hg⟩
theorem tyT_2_1 {o r b : Nat} (h : xt 2 o r) (hg : gr r 1 = some b) : xt 1 o b := ⟨h.1, ty_2_1 h.2 hg⟩
theorem tyT_2_2 {o r b : Nat} (h : xt 2 o r) (hg : gr r 2 = some b) : xt 8 o b := ⟨h.1, ty_2_2 h.2 hg⟩
theorem tyT_2_3 {o r b : Nat} (h : xt 2 o r) (hg : gr r 3 = some b) : xt 1 o b := ⟨h.1, ty_2_3 h.2 hg⟩
theorem tyT_9 {o r b k : Nat} (h : xt 9 o r) (hg : gr r k = some b) : xt 1 o b := ⟨h.1, ty_9 h.2 hg⟩
theorem tyT_8 {o r b k : Nat} (h : xt 8 o r) (hg : gr r k = some b) : xt 0 o b := ⟨h.1, ty_8 h.2 hg⟩
theorem x_ldc_w {p : Program} {l : Launch} {e : Env} {R : Room} {s : State} {m : MethodId} {args : Array Value} {below : List Frame} {meth : Method} {c : Code} {D : va_G} {cl : List vw_C} {tys : List (ClassId × FieldType)} {A : Nat → Prop} {H0 : Heap} {n : Nat} {ad : Nat → Nat} {wf : xM → Nat → va_E} {cc : ByteArray} {nL kc ks : Nat} {own : String} {ret : Option FieldType} {Q : State → Prop} {σ : xM} {pc : Nat} {L : List (Nat × Value)} {st : List Value} (C0 : x_C p s m args meth c D cl tys A H0 n ad wf cc nL own ret) {i : Nat} {v : Int32} (hw : Cond.constant own i v ∈ lw_use) (d : decode cc pc = .ok (.ldc_w i, 3)) (K : x_W p l e R s m args below meth c D cl A H0 n ad wf nL kc ks Q σ (pc + 3) L (.int v :: st)) : x_W p l e R s m args below meth c D cl A H0 n ad wf nL kc ks Q σ pc L st :=
  fun H locs ls hl hP hS => lv_ldcw C0.1.1 C0.1.2.1 C0.1.2.2.2.1 (C0.1.2.2.2.2 _ hw) d (K H locs ls hl hP hS)
