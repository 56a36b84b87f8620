/-! the law from its entry *)  -/
theorem perm_inj {i j : Nat} (h : perm i = perm j) : i = j := by
  have hi : i < 333 ∨ 333 ≤ i := by omega
  have hj : j < 333 ∨ 333 ≤ j := by omega
  rcases hi with hi | hi <;> rcases hj with hj | hj
  · rw [← iperm_perm hi, ← iperm_perm hj, h]
  · have := perm_lt hi
    rw [perm_hi hj] at h
    omega
  · have := perm_lt hj
    rw [perm_hi hi] at h
    omega
  · rw [perm_hi hi, perm_hi hj] at h
    exact h
section LS
variable {p : Program} {l : Launch} {e : Env} {R : Room} {s : State} {m : MethodId} {args : Array Value} {below : List Frame} {meth : Method} {c : Code} {D : va_G} {cl : List vw_C} {tys : List (ClassId × FieldType)} {A : Nat → Prop} {H0 : Heap} {n : Nat} {ad ad' : Nat → Nat} {wf wf' : xM → Nat → va_E} {cc : ByteArray} {nL kc ks : Nat} {own : String} {ret : Option FieldType} {Q : State → Prop} {σ σ' : xM} {pc : Nat} {L : List (Nat × Value)} {st : List Value}
theorem x_perm (C0 : x_C p s m args meth c D cl tys A H0 n ad wf cc nL own ret) (hl : x_loc wf') (π : Nat → Nat) (h1 : ∀ r, r < n → π r < n) (h2 : ∀ i j, π i = π j → i = j) (ha : ∀ r, r < n → ad' r = ad (π r)) (hw : ∀ r, r < n → wf' σ' r = wf σ (π r)) (K : x_C p s m args meth c D cl tys A H0 n ad' wf' cc nL own ret → x_W p l e R s m args below meth c D cl A H0 n ad' wf' nL kc ks Q σ' pc L st) : x_W p l e R s m args below meth c D cl A H0 n ad wf nL kc ks Q σ pc L st := by
  have hD := C0.2.2.1 σ
  have hD' : va_D A (x_bl n ad' wf' σ') := ⟨fun i j x y hi hj hxy => by
    obtain ⟨ki, rfl⟩ := x_bl_mem hi
    obtain ⟨kj, rfl⟩ := x_bl_mem hj
    simp only at hxy
    rw [ha i ki, ha j kj] at hxy
    exact h2 i j (hD.1 _ _ _ _ (x_bl_get (h1 i ki)) (x_bl_get (h1 j kj)) hxy), fun k q hq => by
    obtain ⟨hk, rfl⟩ := x_bl_mem hq
    simp only
    rw [ha k hk]
    exact hD.2 _ _ (x_bl_get (h1 k hk))⟩
  refine fun H locs ls hl' hP hS => K (C0.of hl (fun σ1 => x_bl_D hD')) H locs ls hl' (fun k q hq => ?_) hS
  obtain ⟨hk, rfl⟩ := x_bl_mem hq
  have := hP _ _ (x_bl_get (h1 k hk))
  rw [ha k hk, hw k hk]
  exact this
end LS
theorem ra_prim {s : State} {args : Array Value} {t : FieldType} (hno : ∀ C, t ≠ .object C) (h : (Cond.arrayClass t).before args s = true) : ∃ cA, ArrOfT s cA t ∧ va_RA s cA t := by
  obtain ⟨cA, kA, comp, h1, h2, h3⟩ := Cond.arrayClass_spec h
  refine ⟨cA, fun n z => ⟨fun k h => (by cases h), kA, h2, comp, h3⟩, ?_⟩
  unfold va_RA
  cases t with
  | object C => exact absurd rfl (hno C)
  | _ => exact h1
theorem ra_ref {s : State} {C : String} (h : va_AO C s) : ∃ cA, ArrOfT s cA (.object C) ∧ va_RA s cA (.object C) := by
  obtain ⟨comp, cA, kA, h1, -, h2, h3, h4⟩ := Cond.arrayOver_spec h
  exact ⟨cA, fun n z => ⟨fun k h => (by cases h), kA, h2, comp, h3⟩, kA, comp, h2, h3, h1, h4⟩
theorem lw_over : Cond.arrayOver (FieldType.object RX0) ∈ lw_tbl ∧ Cond.arrayOver (FieldType.object RX1) ∈ lw_tbl ∧ Cond.arrayOver (FieldType.object RX2) ∈ lw_tbl := ⟨List.mem_of_getElem? (i := 93) (by decide +kernel), List.mem_of_getElem? (i := 66) (by decide +kernel), List.mem_of_getElem? (i := 226) (by decide +kernel)⟩
set_option maxRecDepth 8000 in
set_option maxHeartbeats 4000000 in
theorem whole_start {p : Program} {e : Env} {s : State} {m : MethodId} {below : List Frame} {meth : Method} {c : Code} (l : Launch) (hflags : l.flags = flags0) {b L : Nat} {xs : Nat → Int32} (hL : L ≤ 260) (C0 : lw_At p s m meth c b L xs) : W p l e room_1 s m #[Value.ref b] below meth c s.heap [] 0 0 (lw_Z below #[Value.ref b] s) (entryFrame m ([Value.ref b] : List Value).toArray 8) := by
  obtain ⟨hx, hb, hr, hml, hown, hts, hX, hbl, hlocks, hgv⟩ := id C0
  have hN : x_N s := x_N_of hts
  have hu : ∀ w ∈ lw_use, w.before #[Value.ref b] s = true := fun w hw => hN _ w hw
  have hO : y_O s := ⟨va_AO.of (hts _ lw_over.1), va_AO.of (hts _ lw_over.2.1), va_AO.of (hts _ lw_over.2.2)⟩
  obtain ⟨c0, i0, k0⟩ := u_known (C := RX0) (T := TX0) (N := 16) (n := 16) hu inu0 (hu _ mw_94)
  obtain ⟨c1, i1, k1⟩ := u_known (C := RX1) (T := TX1) (N := 4) (n := 4) hu inu1 (hu _ mw_67)
  obtain ⟨c2, i2, k2⟩ := u_known (C := RX2) (T := TX2) (N := 13) (n := 13) hu inu2 (hu _ mw_60)
  obtain ⟨c3, i3, k3⟩ := u_known (C := RX3) (T := TX3) (N := 2) (n := 2) hu inu3 (hu _ mw_228)
  obtain ⟨c4, i4, k4⟩ := u_known (C := RX4) (T := TX4) (N := 7) (n := 7) hu inu4 (hu _ mw_52)
  obtain ⟨dC, dI, hKc⟩ : ∃ (dC : Nat → ClassId) (dI : Nat → Nat → Nat), ∀ (k : Nat) (q : vw_C), vwCl[k]? = some q → u_Kn s q.1 q.2.1 q.2.2 (dC k) (dI k) := by
    refine ⟨fun k => if k = 0 then c0 else if k = 1 then c1 else if k = 2 then c2 else if k = 3 then c3 else c4, fun k => if k = 0 then i0 else if k = 1 then i1 else if k = 2 then i2 else if k = 3 then i3 else i4, ?_⟩
    intro k q hq
    match k, hq with
    | 0, hq => cases hq; exact k0
    | 1, hq => cases hq; exact k1
    | 2, hq => cases hq; exact k2
    | 3, hq => cases hq; exact k3
    | 4, hq => cases hq; exact k4
    | k + 5, hq => simp [vwCl] at hq
  obtain ⟨a0, a1, a2⟩ := ra_prim (t := .char) (fun _ h => by cases h) (hu _ mw_241)
  obtain ⟨b0, b1, b2⟩ := ra_prim (t := .int) (fun _ h => by cases h) (hu _ mw_91)
  obtain ⟨d0, d1, d2⟩ := ra_ref hO.1
  obtain ⟨e0, e1, e2⟩ := ra_ref hO.2.1
  obtain ⟨f0, f1, f2⟩ := ra_ref hO.2.2
  obtain ⟨cs, hcs⟩ : ∃ cs : Nat → ClassId, cs 0 = a0 ∧ cs 1 = b0 ∧ cs 2 = d0 ∧ cs 3 = e0 ∧ cs 4 = f0 := ⟨fun k => if k = 0 then a0 else if k = 1 then b0 else if k = 2 then d0 else if k = 3 then e0 else f0, rfl, rfl, rfl, rfl, rfl⟩
  obtain ⟨rfl, rfl, rfl, rfl, rfl⟩ := hcs
  have hK : va_K (dC, dI) vwCl (xtys cs) s := ⟨hKc, fun k q hq => by
    match k, hq with
    | 0, hq => cases hq; exact ⟨a1, a2⟩
    | 1, hq => cases hq; exact ⟨b1, b2⟩
    | 2, hq => cases hq; exact ⟨d1, d2⟩
    | 3, hq => cases hq; exact ⟨e1, e2⟩
    | 4, hq => cases hq; exact ⟨f1, f2⟩
    | k + 5, hq => simp [xtys] at hq⟩
  have hbA : ¬ (fun q : Nat => s.heap.size ≤ q) b := Nat.not_le.mpr hbl
  have hl := lv_entry ([.ref b]) (n := 8) (Nat.le_of_ble_eq_true rfl)
  rw [lg_entry_eq]
  generalize (lg_sl ([.ref b]) ++ List.replicate (8 - (lg_sl ([.ref b])).length) Slot.unset).toArray = ls at hl ⊢
  have hl : lv_has ls 8 [(0, .ref b)] := hl
  have C0 : x_C p s m #[Value.ref b] meth c (dC, dI) vwCl (xtys cs) (fun q : Nat => s.heap.size ≤ q) s.heap 0 (fun _ => 0) (y_k (fun _ => eX4)) cL_law 8 RL ret :=
    ⟨⟨hx, hb, hml, hown, hu⟩, hK, fun σ => ⟨fun i j p q h _ _ => absurd (x_bl_mem h).1 (Nat.not_lt_zero _), fun k q h => absurd (x_bl_mem h).1 (Nat.not_lt_zero _)⟩, fun q h => h, y_loc _, hlocks, hr, hN⟩
  suffices K : x_W p l e room_1 s m #[Value.ref b] below meth c (dC, dI) vwCl (fun q : Nat => s.heap.size ≤ q) s.heap 0 (fun _ => 0) (y_k (fun _ => eX4)) 8 0 0 (lw_Z below #[Value.ref b] s) x_z 0 [(0, .ref b)] [] from K s.heap [] ls hl (fun k q h => absurd (x_bl_mem h).1 (Nat.not_lt_zero _)) va_S.rf
  clear hl hK hKc k0 k1 k2 k3 k4 a1 a2 b1 b2 d1 d2 e1 e2 f1 f2
  refine y_new C0 inu4 tyX4 tyX4_ok mw_51 mw_52 mw_44 (ci := 4) rfl (fs := [.null, .null, .null, .null, .null, .int 0, .int 0]) (fun j hj => by rcases (show j = 0 ∨ j = 1 ∨ j = 2 ∨ j = 3 ∨ j = 4 ∨ j = 5 ∨ j = 6 by omega) with rfl | rfl | rfl | rfl | rfl | rfl | rfl <;> rfl) ⟨Nat.le_of_ble_eq_true rfl, Nat.le_of_ble_eq_true rfl⟩ dL_law_0 (fun ad1 h1 C0 => ?_)
  obtain ⟨q0, f0⟩ : ∃ q, ad1 0 = q := ⟨_, rfl⟩
  refine x_top (v' := .ref q0) (congrArg Value.ref f0) ?_
  refine x_dup C0 dL_law_3 rfl ?_
  refine y_callI (As := []) C0 hO c_X4_init mw_53 mw_54 mw_44 mw_55 rfl hd_yX4_init ⟨rfl, rfl, Nat.le_of_ble_eq_true rfl, Nat.le_of_ble_eq_true rfl⟩ rfl ⟨Nat.le_of_ble_eq_true rfl, Nat.le_of_ble_eq_true rfl⟩ (Nat.le_of_ble_eq_true rfl) f0 va_up_eq (by decide) dL_law_4 (fun ad2 h2 g2 C0 => ?_)
  refine x_astore_n C0 (L' := [(1, .ref q0), (0, .ref b)]) dL_law_7 rfl (by decide) rfl ?_
  refine x_pc (pc' := 8) rfl ?_
  have e0 : ad2 (perm 0) = q0 := g2
  refine x_eq (n' := 333) (kc' := 333) (ks' := 3446) rfl rfl rfl ?_
  refine x_perm (ad' := fun x => ad2 (perm x)) (wf' := wfT cs (fun x => ad2 (perm x))) (σ' := sT0) C0 wfT_loc perm (fun r hr => perm_lt hr) (fun i j h => perm_inj h) (fun r hr => rfl) (fun r hr => ?_) (fun C0 => ?_)
  · have hp := perm_lt hr
    simp only [y_k]
    rw [if_neg (by omega), Nat.sub_zero, show (fun a => ad2 (0 + a)) = ad2 from funext (fun a => by rw [Nat.zero_add])]
    unfold shX4
    rw [iperm_perm hr]
  · rw [← e0]
    obtain ⟨σ', h⟩ := E_law PRel_0 (n := 1000) (by decide) (cfun L xs)
    exact w_L_law (ad := fun x => ad2 (perm x)) (n := 1000) C0 hX hbl hbA ⟨rfl, by omega⟩ (fun σ pc L9 d H locs ls hl hP hS => va_forget (fun q hq => hS.2.2 q hq) (W.widen (Nat.le_of_ble_eq_true rfl) (Nat.le_of_ble_eq_true rfl) (lw_ret hx hb hr hlocks d))) rfl h
