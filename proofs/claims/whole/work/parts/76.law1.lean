/-! the start: both new *)  -/
def aI : xA := (fun _ => [], [], fun _ _ => 0, fun _ => [], [], fun i => if i = 0 then 4 else if i = 1 then 2 else if i = 3 then 3 else 0)
theorem aI_inv : Inv 0 aI := ⟨⟨by decide, by decide, by decide, by decide, by decide, by decide, by decide⟩, fun s => ⟨fun _ => rfl, Nat.zero_le _, fun r hr => (List.not_mem_nil hr).elim, List.nodup_nil⟩, ⟨Nat.zero_le _, fun r hr => (List.not_mem_nil hr).elim, List.nodup_nil, fun s r q _ hq => (List.not_mem_nil hq).elim⟩, fun h hh => absurd hh (Nat.not_lt_zero _), fun h hh => absurd hh (Nat.not_lt_zero _), ⟨Nat.le_refl _, rfl, fun k r hk => by cases hk⟩, by decide⟩
theorem sI_c : ∀ i, i < 9 → sI 0 (4 + i) = nI (aC aI i) := by decide
theorem sI_g : ∀ h, h < 6 → sI (22 + 4 * h) 0 = nI 4 ∧ sI (22 + 4 * h) 1 = nI 4 ∧ sI (22 + 4 * h) 3 = nI 0 := by decide
theorem aI_cr : CRep sI aI := ⟨sI_c, fun s hs => by
    obtain ⟨-, -, e3, e4, e5, -⟩ := sI_S s hs
    exact ⟨e3, e4, e5, Nat.zero_le _, fun w r hw => by cases hw⟩, ⟨by decide, by decide, by decide, Nat.zero_le _, fun w r hw => by cases hw⟩, fun h hh => absurd hh (Nat.not_lt_zero _), fun h hh => by
    obtain ⟨e3, e4, e5⟩ := sI_g h hh
    exact ⟨e3, e4, e5, Nat.zero_le _, fun w r hw => by cases hw⟩, ⟨by decide, by decide, by decide, Nat.zero_le _, fun w r hw => by cases hw⟩⟩
theorem mu_c : ∀ i, i < 9 → mu0 1 (349 + i) = nI (aC aI i) := by decide
theorem mu_s : ∀ s, s < 8 → mu0 1 s = nI 0 := by decide
theorem aI_rr : RR0 (mu0 1) aI := ⟨mu_c, fun s hs => ⟨mu_s s hs, fun w r hw => by cases hw⟩, ⟨by decide, fun w r hw => by cases hw⟩, fun h hh => absurd hh (Nat.not_lt_zero _), fun k r hk => by cases hk⟩
theorem aI_6 {j : Nat} : CR6 (x_sh (4 + 47 * j) sT0) aI := CR6.low (τ := sI) ⟨aI_cr, by decide⟩ (fun r hr => sT0_S hr)
theorem Rel_0 : Rel 0 sT0 mu0 aI := by
  refine ⟨⟨(aI_6 (j := 0)).1, aI_rr, aI_inv⟩, ⟨fun _ => aI, fun k => 145 + 47 * k, 0, ⟨fun k hk => ⟨?_, ?_⟩, fun k j _ _ e => by simp only at e; omega⟩, fun k hk => absurd hk (Nat.not_lt_zero _), by decide, rfl, rfl⟩, ⟨aI, aI, 0, aI_6 (j := 1), aI_6 (j := 2), fun e => absurd e (by decide), by decide, rfl, rfl⟩, ⟨0, by decide, rfl, rfl, fun k hk => absurd hk (Nat.not_lt_zero _)⟩, rfl⟩
  · rcases (show k = 0 ∨ k = 1 ∨ k = 2 ∨ k = 3 by omega) with rfl | rfl | rfl | rfl <;> rfl
  · have := aI_6 (j := k + 3)
    rw [show 4 + 47 * (k + 3) = 145 + 47 * k by omega] at this
    exact this
/-! the law's block: the object's cells, then the check's *)  -/
def lam (σ μ : xM) : xM := fun r k => if r < 333 then σ r k else μ (r - 333) k
def wfL (cs : Nat → ClassId) (ad : Nat → Nat) (v : xM) (r : Nat) : va_E := if r < 333 then wfT cs ad v r else wfR cs (fun a => ad (333 + a)) (fun r k => v (333 + r) k) (r - 333)
theorem wfL_loc {cs : Nat → ClassId} {ad : Nat → Nat} : x_loc (wfL cs ad) := fun σ σ' r h => by
  unfold wfL
  by_cases q : r < 333
  · rw [if_pos q, if_pos q]
    exact wfT_loc σ σ' r h
  · rw [if_neg q, if_neg q]
    exact wfR_loc _ _ _ (fun k => by
      rw [show 333 + (r - 333) = r by omega]
      exact h k)
theorem wfL_T {cs : Nat → ClassId} {ad : Nat → Nat} {σ μ : xM} {r : Nat} (h : r < 333) : wfL cs ad (lam σ μ) r = wfT cs ad σ r := by
  unfold wfL
  rw [if_pos h]
  exact wfT_loc _ _ r (fun k => if_pos h)
theorem wfL_R {cs : Nat → ClassId} {ad : Nat → Nat} {σ μ : xM} {r : Nat} (h : r < 4) : wfL cs ad (lam σ μ) (333 + r) = wfR cs (fun a => ad (333 + a)) μ r := by
  unfold wfL
  rw [if_neg (by omega), Nat.add_sub_cancel_left]
  exact wfR_loc _ _ r (fun k => by
    show (if 333 + r < 333 then _ else _) = _
    rw [if_neg (by omega), Nat.add_sub_cancel_left])
theorem lam_T {σ σ' μ : xM} : ∀ r, r < 337 → (∀ i, i < 333 → i ≠ r) → ∀ k, lam σ μ r k = lam σ' μ r k := fun r hr h k => by
  have : ¬ r < 333 := fun q => h r q rfl
  simp only [lam, if_neg this]
theorem lam_R {σ μ μ' : xM} : ∀ r, r < 337 → (∀ i, i < 4 → 333 + i ≠ r) → ∀ k, lam σ μ r k = lam σ μ' r k := fun r hr h k => by
  have : r < 333 := by
    by_cases q : r < 333
    · exact q
    · exact absurd (show 333 + (r - 333) = r by omega) (h (r - 333) (by omega))
  simp only [lam, if_pos this]
section LR
variable {p : Program} {l : Launch} {e : Env} {R : Room} {s : State} {m : MethodId} {args : Array Value} {below : List Frame} {meth : Method} {c : Code} {D : va_G} {cl : List vw_C} {tys : List (ClassId × FieldType)} {A : Nat → Prop} {H0 : Heap} {n : Nat} {ad : Nat → Nat} {wf : xM → Nat → va_E} {cc : ByteArray} {nL kc ks : Nat} {own : String} {ret : Option FieldType} {Q : State → Prop} {σ : xM} {pc : Nat} {L : List (Nat × Value)} {st : List Value}
theorem x_sld (C0 : x_C p s m args meth c D cl tys A H0 n ad wf cc nL own ret) {b Ln : Nat} {xs : Nat → Int32} (hX : va_X b Ln xs s H0) (hbl : b < H0.size) (hbA : ¬ A b) {i : Int32} (hin : vp_in i Ln) (d : decode cc pc = .ok (.iaload, 1)) (K : x_W p l e R s m args below meth c D cl A H0 n ad wf nL kc ks Q σ (pc + 1) L (.int (xs i.toNatClampNeg) :: st)) : x_W p l e R s m args below meth c D cl A H0 n ad wf nL kc ks Q σ pc L (.int i :: .ref b :: st) :=
  fun H locs ls hl hP hS => va_sld C0.1.1 C0.1.2.1 hX hbl hbA hS hin d (K H locs ls hl hP hS)
theorem x_slen (C0 : x_C p s m args meth c D cl tys A H0 n ad wf cc nL own ret) {b Ln : Nat} {xs : Nat → Int32} (hX : va_X b Ln xs s H0) (hbl : b < H0.size) (hbA : ¬ A b) (d : decode cc pc = .ok (.arraylength, 1)) (K : x_W p l e R s m args below meth c D cl A H0 n ad wf nL kc ks Q σ (pc + 1) L (.int (nI Ln) :: st)) : x_W p l e R s m args below meth c D cl A H0 n ad wf nL kc ks Q σ pc L (.ref b :: st) :=
  fun H locs ls hl hP hS => va_slen C0.1.1 C0.1.2.1 hX hbl hbA hS d (K H locs ls hl hP hS)
theorem x_same (C0 : x_C p s m args meth c D cl tys A H0 n ad wf cc nL own ret) {v : Int32} {off : Int} {tgt : Nat} (d : decode cc pc = .ok (.if_icmp .eq off, 3)) (ht : (pc : Int) + off = (tgt : Int)) (K : x_W p l e R s m args below meth c D cl A H0 n ad wf nL kc ks Q σ tgt L st) : x_W p l e R s m args below meth c D cl A H0 n ad wf nL kc ks Q σ pc L (.int v :: .int v :: st) :=
  x_icmp_eq C0 d ht (a := ()) (b := ()) (res := ()) (by split <;> rfl) (fun _ _ => K) (fun h _ => absurd rfl h)
end LR
