/-! shape, flush *)  -/
theorem g348 {α : Type} {u v : α} : (if (348 : Int32) < 0 ∨ 2506 ≤ (348 : Int32).toNatClampNeg then u else v) = v := if_neg (by decide)
theorem g349 {α : Type} {u v : α} : (if (349 : Int32) < 0 ∨ 2506 ≤ (349 : Int32).toNatClampNeg then u else v) = v := if_neg (by decide)
theorem g350 {α : Type} {u v : α} : (if (350 : Int32) < 0 ∨ 2506 ≤ (350 : Int32).toNatClampNeg then u else v) = v := if_neg (by decide)
theorem g352 {α : Type} {u v : α} : (if (352 : Int32) < 0 ∨ 2506 ≤ (352 : Int32).toNatClampNeg then u else v) = v := if_neg (by decide)
theorem g353 {α : Type} {u v : α} : (if (353 : Int32) < 0 ∨ 2506 ≤ (353 : Int32).toNatClampNeg then u else v) = v := if_neg (by decide)
theorem g354 {α : Type} {u v : α} : (if (354 : Int32) < 0 ∨ 2506 ≤ (354 : Int32).toNatClampNeg then u else v) = v := if_neg (by decide)
theorem g355 {α : Type} {u v : α} : (if (355 : Int32) < 0 ∨ 2506 ≤ (355 : Int32).toNatClampNeg then u else v) = v := if_neg (by decide)
theorem g356 {α : Type} {u v : α} : (if (356 : Int32) < 0 ∨ 2506 ≤ (356 : Int32).toNatClampNeg then u else v) = v := if_neg (by decide)
theorem g357 {α : Type} {u v : α} : (if (357 : Int32) < 0 ∨ 2506 ≤ (357 : Int32).toNatClampNeg then u else v) = v := if_neg (by decide)
theorem t348 : ((348 : Int32).toNatClampNeg) = 348 := rfl
theorem t349 : ((349 : Int32).toNatClampNeg) = 349 := rfl
theorem t350 : ((350 : Int32).toNatClampNeg) = 350 := rfl
theorem t351 : ((351 : Int32).toNatClampNeg) = 351 := rfl
theorem t352 : ((352 : Int32).toNatClampNeg) = 352 := rfl
theorem t353 : ((353 : Int32).toNatClampNeg) = 353 := rfl
theorem t354 : ((354 : Int32).toNatClampNeg) = 354 := rfl
theorem t355 : ((355 : Int32).toNatClampNeg) = 355 := rfl
theorem t356 : ((356 : Int32).toNatClampNeg) = 356 := rfl
theorem t357 : ((357 : Int32).toNatClampNeg) = 357 := rfl
theorem z00 {α : Type} {u v : α} : (if (0 : Int32) = 0 then u else v) = u := if_pos rfl
theorem z10 {α : Type} {u v : α} : (if (1 : Int32) = 0 then u else v) = v := if_neg (by decide)
theorem x_up_pt {σ : xM} {r k : Nat} {v : Int32} (hr : r < 47) : x_up σ (4 + r) k v = x_pt 4 (x_up (x_sh 4 σ) r k v) σ := by
  funext i j
  simp only [x_up, x_pt, x_sh]
  by_cases c : 4 ≤ i ∧ i < 4 + 47
  · rw [if_pos c]
    by_cases d : i = 4 + r ∧ j = k
    · rw [if_pos d, if_pos (by omega)]
    · rw [if_neg d, if_neg (by omega), show 4 + (i - 4) = i by omega]
  · rw [if_neg c, if_neg (by omega)]
theorem x_pt_up {τ σ : xM} {r k : Nat} {v : Int32} (hr : r < 47) : x_up (x_pt 4 τ σ) (4 + r) k v = x_pt 4 (x_up τ r k v) σ := by
  funext i j
  simp only [x_up, x_pt]
  by_cases c : 4 ≤ i ∧ i < 4 + 47
  · rw [if_pos c, if_pos c]
    by_cases d : i = 4 + r ∧ j = k
    · rw [if_pos d, if_pos (by omega)]
    · rw [if_neg d, if_neg (by omega)]
  · rw [if_neg c, if_neg c, if_neg (by omega)]
theorem xr_up1 (μ : xM) (k : Nat) (v : Int32) : x_up μ 1 k v = xr μ (upd (μ 1) k v) := by
  rw [← xr_up, xr_self]
theorem Rel.gh {B : Nat} {σ μ : xM} {a : xA} (R : Rel B σ μ a) : CRep (x_sh 4 σ) (tla a (μ 1)) ∧ RRep (μ 1) (tla a (μ 1)) ∧ Inv B (tla a (μ 1)) := ⟨R.cr.tail tlC_lo, R.rr.tail, R.inv.tail tlC_lo⟩
theorem Rel.no {B B' : Nat} {σ μ : xM} {a : xA} (R : Rel B σ μ a) (hB : B ≤ B') (hb : B' < 2 ^ 30) (v : Int32) : OK2 B' (some (v, σ)) (some (v, μ)) := OK2.no R hB hb v
theorem Sz.em {a : xA} (z : Sz a) : Sz (wT a []) := ⟨z.1, Nat.zero_le _, z.2.2⟩
theorem Sz.C {a : xA} {C : Nat → Nat} (z : Sz a) (e : C 2 = aC a 2) : Sz (wC a C) := ⟨z.1, z.2.1, by show C 2 ≤ 6; rw [e]; exact z.2.2.1, fun h hh => z.2.2.2 h (by rw [← e]; exact hh)⟩
theorem CR.nil {τ : xM} {x cap c : Nat} {l : List xR} (h : CR τ x cap c l) : CR (x_up τ x 3 0) x cap c [] := ⟨by rw [x_up_off (by decide)]; exact h.1, by rw [x_up_off (by decide)]; exact h.2.1, by rw [x_up_at]; rfl, Nat.zero_le _, fun w r hw => by cases hw⟩
theorem Inv_shape {B s w : Nat} {b : xA} (I : Inv B b) (hS : ∀ k, aS b k = []) (s1 : 1 ≤ s) (s2 : s ≤ 8) (w1 : 1 ≤ w) (w2 : w ≤ 4) : Inv B (wC (wT b []) (va_up (va_up (aC b) 0 s) 1 w)) := by
  obtain ⟨IC, IS, IT, IH, IG, IL, hB⟩ := I
  refine ⟨⟨s1, s2, w1, w2, IC.2.2.2.2⟩, fun k => ?_, ⟨Nat.zero_le _, fun r hr => (List.not_mem_nil hr).elim, List.nodup_nil, fun s r q _ hq => (List.not_mem_nil hq).elim⟩, IH, IG, IL, hB⟩
  have e : aS (wC (wT b []) (va_up (va_up (aC b) 0 s) 1 w)) k = [] := hS k
  rw [e]
  exact ⟨fun _ => rfl, Nat.zero_le _, fun r hr => (List.not_mem_nil hr).elim, List.nodup_nil⟩
theorem sEmpty_nil {B : Nat} {b : xA} (I : Inv B b) (k : Nat) : aS (sEmpty 8 b) k = [] := by
  obtain ⟨h1, h2, h3⟩ := sEmpty_r b 8
  by_cases q : k < 8
  · exact h2 k q
  · rw [h1 k (by omega)]
    exact (I.2.1 k).1 (by have := I.1.2.1; omega)
theorem both_empty {B n : Nat} {σ μ : xM} {a : xA} (R : Rel B σ μ a) (hn : 400 < n) (hB : B + 30000 < 2 ^ 30) : ∃ τ' ρ' b, F_X2_throwAllOut n (x_sh 4 σ) = some (nI (sLines a 8), τ') ∧ F_X5_empty n μ = some (nI (sLines a 8), xr μ ρ') ∧ CRep τ' b ∧ RRep ρ' b ∧ Inv (B + 288) b ∧ (∀ k, aS b k = []) ∧ ∀ i, 9 ≤ i → aC b i = aC (tla a (μ 1)) i := by
  obtain ⟨g1, g2, g3⟩ := R.gh
  obtain ⟨τ', e1, c1⟩ := C_empty g1 g3 (by omega : 20 < n) (by omega)
  obtain ⟨ρ', e2, c2⟩ := R_empty g2 g3 (by omega : 20 < n) μ (by omega)
  rw [xr_self] at e2
  have es : ∀ k, sLines (tla a (μ 1)) k = sLines a k := by
    intro k
    induction k with
    | zero => rfl
    | succ k ih =>
      show sLines (tla a (μ 1)) k + _ = sLines a k + _
      rw [ih]
      rfl
  rw [es] at e1 e2
  exact ⟨τ', ρ', _, e1, e2, c1, c2, Inv_empty g3 (by omega) 8 (by decide), sEmpty_nil g3, fun i hi => (sEmpty_r _ 8).2.2 i (by omega)⟩
theorem M_shape {B n : Nat} {σ μ : xM} {a : xA} (R : Rel B σ μ a) (hn : 400 < n) (hB : B + 30000 < 2 ^ 30) (x y : Int32) : OK2 (B + 30000) (F_X4_shape n σ x y) (F_X5_shape n μ x y) := by
  have no := fun v => R.no (B' := B + 30000) (by omega) hB v
  unfold F_X4_shape F_X5_shape
  rcases io (x := x) (L := 1) (H := 8) 1 8 rfl rfl (by decide) (by decide) with ⟨o1, i1, s, s1, s2, rfl⟩ | ⟨o1, i1⟩
  · rcases io (x := y) (L := 1) (H := 4) 1 4 rfl rfl (by decide) (by decide) with ⟨o2, i2, w, w1, w2, rfl⟩ | ⟨o2, i2⟩
    · have eS : σ (4 + 0) 4 = nI (aC a 0) := R.cr.c 0 (by decide)
      have eW : σ (4 + 0) 5 = nI (aC a 1) := R.cr.c 1 (by decide)
      have fS : μ 1 349 = nI (aC a 0) := R.rr.c 0 (by decide)
      have fW : μ 1 350 = nI (aC a 1) := R.rr.c 1 (by decide)
      rw [o1, i1, o2, i2, z00, z00, z10, z10, g349, t349, g350, t350, eS, eW, fS, fW]
      have key : OK2 (B + 30000) (B_X4_shape_47 n σ (nI s) (nI w)) (B_X5_shape_49 n μ (nI s) (nI w)) := by
        obtain ⟨σ1, μ1, e1, e2, R1⟩ := R.rec hn
        obtain ⟨τ', ρ', b, f1, f2, c1, c2, I1, em, gg⟩ := both_empty R1 hn hB
        unfold B_X4_shape_47 B_X5_shape_49
        rw [e1, Option.bind_some, f1, Option.bind_some, e2, Option.bind_some, f2, Option.bind_some, g348, t348]
        rw [g349, t349, g350, t350]
        show OK2 _ (some (_, x_up (x_up (x_up (x_pt 4 τ' σ1) (4 + 18) 3 0) (4 + 0) 4 (nI s)) (4 + 0) 5 (nI w))) (some (_, x_up (x_up (x_up (xr μ1 ρ') 1 348 0) 1 349 (nI s)) 1 350 (nI w)))
        rw [x_pt_up (by decide), x_pt_up (by decide), x_pt_up (by decide), xr_up, xr_up, xr_up]
        have d1 : CRep (x_up τ' 18 3 0) (wT b ([] : List xR)) := c1.setT (fun b h1 h2 => x_up_row' h1) c1.2.2.1.nil
        have d2 := (d1.setC (i := 0) (v := s) (by decide)).setC (i := 1) (v := w) (by decide)
        have z := I1.sz
        have r1 : RRep (upd ρ' 348 0) (wT b []) := c2.setT z (fun i h1 h2 => upd_ne h1) (by rw [upd_eq]; rfl) (fun w r hw => by cases hw)
        have r2 := r1.setC z.em (i := 0) (v := s) (by decide) (by decide) (by decide)
        have r3 := r2.setC (Sz.C z.em rfl) (i := 1) (v := w) (by decide) (by decide) (by decide)
        refine ⟨_, _, _, _, rfl, rfl, R1.act (by omega) d2 r3 ((Inv_shape I1 em s1 s2 w1 w2).mono (by omega) hB) (fun i hi => ?_) (fun _ _ => rfl) rfl⟩
        show va_up (va_up (aC b) 0 s) 1 w i = _
        rw [va_up_off (by omega), va_up_off (by omega)]
        exact gg i hi
      by_cases q : nI s = nI (aC a 0)
      · rw [if_pos q, if_pos q.symm]
        by_cases q2 : nI w = nI (aC a 1)
        · rw [if_pos q2, if_pos q2.symm]
          exact no _
        · rw [if_neg q2, if_neg (fun e => q2 e.symm)]
          exact key
      · rw [if_neg q, if_neg (fun e => q e.symm)]
        exact key
    · rw [o1, i1, o2, i2, z00, z10, z10, z00]
      exact no _
  · rw [o1, i1, z10, z00]
    exact no _
theorem M_flush {B n : Nat} {σ μ : xM} {a : xA} (R : Rel B σ μ a) (hn : 400 < n) (hB : B + 30000 < 2 ^ 30) : OK2 (B + 30000) (F_X4_flush n σ) (F_X5_flush n μ) := by
  have no := fun v => R.no (B' := B + 30000) (by omega) hB v
  have e2 := R_lines R.rr.tail (by omega : 20 < n) μ
  rw [xr_self] at e2
  have es : sLines (tla a (μ 1)) 8 = sLines a 8 := rfl
  rw [es] at e2
  unfold F_X4_flush F_X5_flush
  rw [C_lines R.cr (by omega : 20 < n), e2, Option.bind_some, Option.bind_some]
  by_cases q : nI (sLines a 8) = 0
  · rw [if_pos q, if_pos q]
    exact no _
  · rw [if_neg q, if_neg q]
    obtain ⟨σ1, μ1, e1, e2, R1⟩ := R.rec hn
    obtain ⟨τ', ρ', b, f1, f2, c1, c2, I1, em, gg⟩ := both_empty R1 hn hB
    rw [e1, Option.bind_some, f1, Option.bind_some, e2, Option.bind_some, f2, Option.bind_some]
    exact ⟨_, _, _, _, rfl, rfl, R1.act (by omega) c1 c2 (I1.mono (by omega) hB) gg (fun _ _ => rfl) rfl⟩
