/-! the law from its entry *)  -/
theorem shX4_ad {cs : Nat → ClassId} {ad ad' : Nat → Nat} (h : ∀ x, x < 333 → ad' x = ad x) : ∀ c, c < 333 → shX4 cs ad c = shX4 cs ad' c := by
  intro c hc
  by_cases c0 : c = 0
  · rw [c0, shX4_0, shX4_0, h 1 (by decide), h 48 (by decide), h 95 (by decide), h 142 (by decide), h 331 (by decide)]
  · by_cases c1 : c = 142
    · rw [c1, shX4_r1, shX4_r1]
      congr 1
      funext j
      by_cases q : j < 4
      · rw [if_pos q, if_pos q, h _ (by omega)]
      · rw [if_neg q, if_neg q]
    · by_cases c2 : c < 142
      · obtain ⟨j, i, hi, rfl⟩ : ∃ j i, i < 47 ∧ c = 1 + 47 * j + i := ⟨(c - 1) / 47, (c - 1) % 47, Nat.mod_lt _ (by decide), by omega⟩
        rw [shX4_1 (by omega) hi, shX4_1 (by omega) hi]
        exact stS hi (fun x hx => h _ (by omega))
      · by_cases c3 : c < 331
        · obtain ⟨j, i, hi, rfl⟩ : ∃ j i, i < 47 ∧ c = 143 + 47 * j + i := ⟨(c - 143) / 47, (c - 143) % 47, Nat.mod_lt _ (by decide), by omega⟩
          rw [shX4_2 (by omega) hi, shX4_2 (by omega) hi]
          exact stS hi (fun x hx => h _ (by omega))
        · rcases (show c = 331 ∨ c = 332 by omega) with rfl | rfl
          · rw [shX4_331, shX4_331, h 332 (by decide)]
          · rfl
theorem perm_inj {i j : Nat} (h : perm i = perm j) : i = j := by
  have hi : i < 333 ∨ 333 ≤ i := by omega
  have hj : j < 333 ∨ 333 ≤ j := by omega
  rcases hi with hi | hi <;> rcases hj with hj | hj
  · rw [← iperm_perm hi, ← iperm_perm hj, h]
  · have := perm_lt hi
    rw [perm_hi hj] at h
    omega
  · have := perm_lt hj
    rw [perm_hi hi] at h
    omega
  · rw [perm_hi hi, perm_hi hj] at h
    exact h
theorem perm_337 {r : Nat} (h : r < 337) : perm r < 337 := by
  by_cases q : r < 333
  · have := perm_lt q
    omega
  · rw [perm_hi (by omega)]
    exact h
theorem wfL_perm {cs : Nat → ClassId} {ad : Nat → Nat} {w : Nat → va_E} (h1 : ∀ c, c < 333 → w c = shX4 cs ad c) (h2 : ∀ r, r < 4 → w (333 + r) = shX5 cs (fun a => ad (333 + a)) r) : ∀ r, r < 337 → wfL cs (fun x => ad (perm x)) (lam sT0 mu0) r = w (perm r) := by
  intro r hr
  by_cases q : r < 333
  · rw [wfL_T q, h1 _ (perm_lt q)]
    unfold shX4
    rw [iperm_perm q]
  · obtain ⟨x, rfl⟩ : ∃ x, r = 333 + x := ⟨r - 333, by omega⟩
    rw [wfL_R (by omega), perm_hi (by omega), h2 x (by omega)]
    unfold shX5
    congr 1
    funext a
    exact congrArg ad (perm_hi (by omega))
section LS
variable {p : Program} {l : Launch} {e : Env} {R : Room} {s : State} {m : MethodId} {args : Array Value} {below : List Frame} {meth : Method} {c : Code} {D : va_G} {cl : List vw_C} {tys : List (ClassId × FieldType)} {A : Nat → Prop} {H0 : Heap} {n : Nat} {ad ad' : Nat → Nat} {wf wf' : xM → Nat → va_E} {cc : ByteArray} {nL kc ks : Nat} {own : String} {ret : Option FieldType} {Q : State → Prop} {σ σ' : xM} {pc : Nat} {L : List (Nat × Value)} {st : List Value}
theorem x_perm (C0 : x_C p s m args meth c D cl tys A H0 n ad wf cc nL own ret) (hl : x_loc wf') (π : Nat → Nat) (h1 : ∀ r, r < n → π r < n) (h2 : ∀ i j, π i = π j → i = j) (ha : ∀ r, r < n → ad' r = ad (π r)) (hw : ∀ r, r < n → wf' σ' r = wf σ (π r)) (K : x_C p s m args meth c D cl tys A H0 n ad' wf' cc nL own ret → x_W p l e R s m args below meth c D cl A H0 n ad' wf' nL kc ks Q σ' pc L st) : x_W p l e R s m args below meth c D cl A H0 n ad wf nL kc ks Q σ pc L st := by
  have hD := C0.2.2.1 σ
  have hD' : va_D A (x_bl n ad' wf' σ') := ⟨fun i j x y hi hj hxy => by
    obtain ⟨ki, rfl⟩ := x_bl_mem hi
    obtain ⟨kj, rfl⟩ := x_bl_mem hj
    simp only at hxy
    rw [ha i ki, ha j kj] at hxy
    exact h2 i j (hD.1 _ _ _ _ (x_bl_get (h1 i ki)) (x_bl_get (h1 j kj)) hxy), fun k q hq => by
    obtain ⟨hk, rfl⟩ := x_bl_mem hq
    simp only
    rw [ha k hk]
    exact hD.2 _ _ (x_bl_get (h1 k hk))⟩
  refine fun H locs ls hl' hP hS => K (C0.of hl (fun σ1 => x_bl_D hD')) H locs ls hl' (fun k q hq => ?_) hS
  obtain ⟨hk, rfl⟩ := x_bl_mem hq
  have := hP _ _ (x_bl_get (h1 k hk))
  rw [ha k hk, hw k hk]
  exact this
end LS
theorem ra_prim {s : State} {args : Array Value} {t : FieldType} (hno : ∀ C, t ≠ .object C) (h : (Cond.arrayClass t).before args s = true) : ∃ cA, ArrOfT s cA t ∧ va_RA s cA t := by
  obtain ⟨cA, kA, comp, h1, h2, h3⟩ := Cond.arrayClass_spec h
  refine ⟨cA, fun n z => ⟨fun k h => (by cases h), kA, h2, comp, h3⟩, ?_⟩
  unfold va_RA
  cases t with
  | object C => exact absurd rfl (hno C)
  | _ => exact h1
theorem ra_ref {s : State} {C : String} (h : va_AO C s) : ∃ cA, ArrOfT s cA (.object C) ∧ va_RA s cA (.object C) := by
  obtain ⟨comp, cA, kA, h1, -, h2, h3, h4⟩ := Cond.arrayOver_spec h
  exact ⟨cA, fun n z => ⟨fun k h => (by cases h), kA, h2, comp, h3⟩, kA, comp, h2, h3, h1, h4⟩
theorem lw_over : Cond.arrayOver (FieldType.object RX0) ∈ lw_tbl ∧ Cond.arrayOver (FieldType.object RX1) ∈ lw_tbl ∧ Cond.arrayOver (FieldType.object RX2) ∈ lw_tbl := ⟨List.mem_of_getElem? (i := 128) (by decide +kernel), List.mem_of_getElem? (i := 101) (by decide +kernel), List.mem_of_getElem? (i := 262) (by decide +kernel)⟩
set_option maxRecDepth 8000 in
set_option maxHeartbeats 4000000 in
theorem whole_start {p : Program} {e : Env} {s : State} {m : MethodId} {below : List Frame} {meth : Method} {c : Code} (l : Launch) (hflags : l.flags = flags0) {b L : Nat} {xs : Nat → Int32} (hL : L ≤ 2560) (C0 : lw_At p s m meth c b L xs) : W p l e room_1 s m #[Value.ref b] below meth c s.heap [] 0 0 (lw_Z below #[Value.ref b] s) (entryFrame m ([Value.ref b] : List Value).toArray 4) := by
  obtain ⟨hx, hb, hr, hml, hown, hts, hX, hbl, hlocks, hgv⟩ := id C0
  have hN : x_N s := x_N_of hts
  have hu : ∀ w ∈ lw_use, w.before #[Value.ref b] s = true := fun w hw => hN _ w hw
  have hO : y_O s := ⟨va_AO.of (hts _ lw_over.1), va_AO.of (hts _ lw_over.2.1), va_AO.of (hts _ lw_over.2.2)⟩
  obtain ⟨c0, i0, k0⟩ := u_known (C := RX0) (T := TX0) (N := 16) (n := 16) hu inu0 (hu _ mw_129)
  obtain ⟨c1, i1, k1⟩ := u_known (C := RX1) (T := TX1) (N := 4) (n := 4) hu inu1 (hu _ mw_102)
  obtain ⟨c2, i2, k2⟩ := u_known (C := RX2) (T := TX2) (N := 13) (n := 13) hu inu2 (hu _ mw_95)
  obtain ⟨c3, i3, k3⟩ := u_known (C := RX3) (T := TX3) (N := 2) (n := 2) hu inu3 (hu _ mw_264)
  obtain ⟨c4, i4, k4⟩ := u_known (C := RX4) (T := TX4) (N := 7) (n := 7) hu inu4 (hu _ mw_87)
  obtain ⟨c5, i5, k5⟩ := u_known (C := RX5) (T := TX5) (N := 9) (n := 9) hu inu5 (hu _ mw_638)
  obtain ⟨dC, dI, hKc⟩ : ∃ (dC : Nat → ClassId) (dI : Nat → Nat → Nat), ∀ (k : Nat) (q : vw_C), vwCl[k]? = some q → u_Kn s q.1 q.2.1 q.2.2 (dC k) (dI k) := by
    refine ⟨fun k => if k = 0 then c0 else if k = 1 then c1 else if k = 2 then c2 else if k = 3 then c3 else if k = 4 then c4 else c5, fun k => if k = 0 then i0 else if k = 1 then i1 else if k = 2 then i2 else if k = 3 then i3 else if k = 4 then i4 else i5, ?_⟩
    intro k q hq
    match k, hq with
    | 0, hq => cases hq; exact k0
    | 1, hq => cases hq; exact k1
    | 2, hq => cases hq; exact k2
    | 3, hq => cases hq; exact k3
    | 4, hq => cases hq; exact k4
    | 5, hq => cases hq; exact k5
    | k + 6, hq => simp [vwCl] at hq
  obtain ⟨a0, a1, a2⟩ := ra_prim (t := .char) (fun _ h => by cases h) (hu _ mw_277)
  obtain ⟨b0, b1, b2⟩ := ra_prim (t := .int) (fun _ h => by cases h) (hu _ mw_126)
  obtain ⟨d0, d1, d2⟩ := ra_ref hO.1
  obtain ⟨e0, e1, e2⟩ := ra_ref hO.2.1
  obtain ⟨f0, f1, f2⟩ := ra_ref hO.2.2
  obtain ⟨cs, hcs⟩ : ∃ cs : Nat → ClassId, cs 0 = a0 ∧ cs 1 = b0 ∧ cs 2 = d0 ∧ cs 3 = e0 ∧ cs 4 = f0 := ⟨fun k => if k = 0 then a0 else if k = 1 then b0 else if k = 2 then d0 else if k = 3 then e0 else f0, rfl, rfl, rfl, rfl, rfl⟩
  obtain ⟨rfl, rfl, rfl, rfl, rfl⟩ := hcs
  have hK : va_K (dC, dI) vwCl (xtys cs) s := ⟨hKc, fun k q hq => by
    match k, hq with
    | 0, hq => cases hq; exact ⟨a1, a2⟩
    | 1, hq => cases hq; exact ⟨b1, b2⟩
    | 2, hq => cases hq; exact ⟨d1, d2⟩
    | 3, hq => cases hq; exact ⟨e1, e2⟩
    | 4, hq => cases hq; exact ⟨f1, f2⟩
    | k + 5, hq => simp [xtys] at hq⟩
  have hbA : ¬ (fun q : Nat => s.heap.size ≤ q) b := Nat.not_le.mpr hbl
  have hl := lv_entry ([.ref b]) (n := 4) (Nat.le_of_ble_eq_true rfl)
  rw [lg_entry_eq]
  generalize (lg_sl ([.ref b]) ++ List.replicate (4 - (lg_sl ([.ref b])).length) Slot.unset).toArray = ls at hl ⊢
  have hl : lv_has ls 4 [(0, .ref b)] := hl
  have C0 : x_C p s m #[Value.ref b] meth c (dC, dI) vwCl (xtys cs) (fun q : Nat => s.heap.size ≤ q) s.heap 0 (fun _ => 0) (y_k (fun _ => eX4)) cL_law 4 RL ret :=
    ⟨⟨hx, hb, hml, hown, hu⟩, hK, fun σ => ⟨fun i j p q h _ _ => absurd (x_bl_mem h).1 (Nat.not_lt_zero _), fun k q h => absurd (x_bl_mem h).1 (Nat.not_lt_zero _)⟩, fun q h => h, y_loc _, hlocks, hr, hN⟩
  suffices K : x_W p l e room_1 s m #[Value.ref b] below meth c (dC, dI) vwCl (fun q : Nat => s.heap.size ≤ q) s.heap 0 (fun _ => 0) (y_k (fun _ => eX4)) 4 0 0 (lw_Z below #[Value.ref b] s) x_z 0 [(0, .ref b)] [] from K s.heap [] ls hl (fun k q h => absurd (x_bl_mem h).1 (Nat.not_lt_zero _)) va_S.rf
  clear hl hK hKc k0 k1 k2 k3 k4 k5 a1 a2 b1 b2 d1 d2 e1 e2 f1 f2
  refine y_new C0 inu4 tyX4 tyX4_ok mw_86 mw_87 mw_78 (ci := 4) rfl (fs := [.null, .null, .null, .null, .null, .int 0, .int 0]) (fun j hj => by rcases (show j = 0 ∨ j = 1 ∨ j = 2 ∨ j = 3 ∨ j = 4 ∨ j = 5 ∨ j = 6 by omega) with rfl | rfl | rfl | rfl | rfl | rfl | rfl <;> rfl) ⟨Nat.le_of_ble_eq_true rfl, Nat.le_of_ble_eq_true rfl⟩ dL_law_0 (fun ad1 h1 C0 => ?_)
  obtain ⟨q0, f0⟩ : ∃ q, ad1 0 = q := ⟨_, rfl⟩
  refine x_top (v' := .ref q0) (congrArg Value.ref f0) ?_
  refine x_dup C0 dL_law_3 rfl ?_
  refine y_callI (As := []) C0 hO c_X4_init mw_88 mw_89 mw_78 mw_90 rfl hd_yX4_init ⟨rfl, rfl, Nat.le_of_ble_eq_true rfl, Nat.le_of_ble_eq_true rfl⟩ rfl ⟨Nat.le_of_ble_eq_true rfl, Nat.le_of_ble_eq_true rfl⟩ (Nat.le_of_ble_eq_true rfl) f0 va_up_eq (by decide) dL_law_4 (fun ad2 h2 g2 C0 => ?_)
  refine x_astore_n C0 (L' := [(1, .ref q0), (0, .ref b)]) dL_law_7 rfl (by decide) rfl ?_
  refine x_pc (pc' := 8) rfl ?_
  refine y_new C0 inu5 tyX5 tyX5_ok mw_637 mw_638 mw_84 (ci := 5) rfl (fs := [.null, .int 0, .int 0, .null, .int 0, .int 0, .int 0, .null, .int 0]) (fun j hj => by rcases (show j = 0 ∨ j = 1 ∨ j = 2 ∨ j = 3 ∨ j = 4 ∨ j = 5 ∨ j = 6 ∨ j = 7 ∨ j = 8 by omega) with rfl | rfl | rfl | rfl | rfl | rfl | rfl | rfl | rfl <;> rfl) ⟨Nat.le_of_ble_eq_true rfl, Nat.le_of_ble_eq_true rfl⟩ dL_law_8 (fun ad3 h3 C0 => ?_)
  obtain ⟨q3, f3⟩ : ∃ q, ad3 333 = q := ⟨_, rfl⟩
  refine x_top (v' := .ref q3) (congrArg Value.ref f3) ?_
  refine x_dup C0 dL_law_11 rfl ?_
  refine y_callI (As := []) C0 hO c_X5_init mw_639 mw_640 mw_84 mw_641 rfl hd_yX5_init ⟨rfl, rfl, Nat.le_of_ble_eq_true rfl, Nat.le_of_ble_eq_true rfl⟩ rfl ⟨Nat.le_of_ble_eq_true rfl, Nat.le_of_ble_eq_true rfl⟩ (Nat.le_of_ble_eq_true rfl) f3 va_up_eq (by decide) dL_law_12 (fun ad4 h4 g4 C0 => ?_)
  have ag : ∀ x, x < 333 → ad4 x = ad2 x := fun x hx => (h4 x (by omega)).trans (h3 x (by omega))
  refine x_astore_n C0 (L' := [(2, .ref q3), (1, .ref q0), (0, .ref b)]) dL_law_15 rfl (by decide) rfl ?_
  refine x_pc (pc' := 16) rfl ?_
  refine x_iconst C0 (v := nI (5 * 0)) dL_law_16 rfl ?_
  refine x_istore_n C0 (L' := [(3, .int (nI (5 * 0))), (2, .ref q3), (1, .ref q0), (0, .ref b)]) dL_law_17 rfl (by decide) rfl ?_
  refine x_pc (pc' := 18) rfl ?_
  have e0 : ad4 (perm 0) = q0 := (ag 0 (by decide)).trans g2
  have e3 : ad4 (perm 333) = q3 := g4
  refine x_eq (n' := 337) (kc' := 337) (ks' := 6045) rfl rfl rfl ?_
  refine x_perm (ad' := fun x => ad4 (perm x)) (wf' := wfL cs (fun x => ad4 (perm x))) (σ' := lam sT0 mu0) C0 wfL_loc perm (fun r hr => perm_337 hr) (fun i j h => perm_inj h) (fun r hr => rfl) (wfL_perm (fun x hx => ?_) (fun x hx => ?_)) (fun C0 => ?_)
  · simp only [y_k]
    rw [if_pos (by omega), va_up_off (by omega), if_neg (by omega), Nat.sub_zero, show (fun a => ad2 (0 + a)) = ad2 from funext (fun a => by rw [Nat.zero_add])]
    exact shX4_ad ag x hx
  · simp only [y_k]
    rw [if_neg (by omega), Nat.add_sub_cancel_left]
  · rw [← e0, ← e3]
    refine law_loop (ad := fun x => ad4 (perm x)) (n := 1000) C0 hX hbl hbA ⟨rfl, rfl, Nat.le_of_ble_eq_true rfl, Nat.le_of_ble_eq_true rfl⟩ (by decide) hL (fun σ μ i => ?_) (L + 1) 0 sT0 mu0 aI (by omega) (by omega) Rel_0
    refine x_iconst C0 (v := 1) dL_law_861 (by decide) ?_
    exact fun H locs ls hl hP hS => va_forget (fun q hq => hS.2.2 q hq) (W.widen (Nat.le_of_ble_eq_true rfl) (Nat.le_of_ble_eq_true rfl) (lw_ret hx hb hr hlocks dL_law_862))
