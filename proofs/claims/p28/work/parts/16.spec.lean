/-! the cache as lists and numbers: sets, thrown-out lines, helpers' numbers, tables, log, counters -/
abbrev xA : Type := (Nat → List xR) × List xR × (Nat → Nat → Nat) × (Nat → List xR) × List xR × (Nat → Nat)
def aS (a : xA) : Nat → List xR := a.1
def aT (a : xA) : List xR := a.2.1
def aH (a : xA) : Nat → Nat → Nat := a.2.2.1
def aG (a : xA) : Nat → List xR := a.2.2.2.1
def aL (a : xA) : List xR := a.2.2.2.2.1
def aC (a : xA) : Nat → Nat := a.2.2.2.2.2
def wS (a : xA) (v : Nat → List xR) : xA := (v, a.2)
def wT (a : xA) (v : List xR) : xA := (a.1, v, a.2.2)
def wH (a : xA) (v : Nat → Nat → Nat) : xA := (a.1, a.2.1, v, a.2.2.2)
def wG (a : xA) (v : Nat → List xR) : xA := (a.1, a.2.1, a.2.2.1, v, a.2.2.2.2)
def wL (a : xA) (v : List xR) : xA := (a.1, a.2.1, a.2.2.1, a.2.2.2.1, v, a.2.2.2.2.2)
def wC (a : xA) (v : Nat → Nat) : xA := (a.1, a.2.1, a.2.2.1, a.2.2.2.1, a.2.2.2.2.1, v)
def hu (H : Nat → Nat → Nat) (h k v : Nat) : Nat → Nat → Nat := fun h' k' => if h' = h ∧ k' = k then v else H h' k'
theorem va_up_eq {α : Type} {f : Nat → α} {k : Nat} {v : α} : va_up f k v k = v := by simp [va_up]
theorem va_up_off {α : Type} {f : Nat → α} {k j : Nat} {v : α} (h : j ≠ k) : va_up f k v j = f j := by simp [va_up, h]
def row2 (x y : Int32) : xR := fun j => if j = 0 then x else y
def row3 (x y z : Int32) : xR := fun j => if j = 0 then x else if j = 1 then y else z
def row4 (x y z u : Int32) : xR := fun j => if j = 0 then x else if j = 1 then y else if j = 2 then z else u
def row5 (x y z u v : Int32) : xR := fun j => if j = 0 then x else if j = 1 then y else if j = 2 then z else if j = 3 then u else v
/-- the helper that a number names; none: a program -/
def bid (x : Int32) : Option Nat := if x = -100005 then none else some x.toNatClampNeg
def sHours (a : xA) (h m : Nat) : xA := wH a (hu (hu (hu (aH a) h 4 (aH a h 4 + m)) h 3 2) h 5 0)
def sVain (a : xA) (h : Nat) : xA := sHours (wH a (hu (aH a) h 8 (aH a h 8 + 1))) h (aH a h 2)
def sOut1 (a : xA) (s : Nat) (r : xR) (l : List xR) (by_ : Int32) : xA := wC (wT (wS a (va_up (aS a) s l)) (pushL 8 (aT a) ++ [row2 (r 0) by_])) (va_up (aC a) 8 (aC a 8 + 1))
def sOut (a : xA) (s : Nat) (by_ : Int32) : xA := match aS a s with
  | [] => a
  | r :: l => if r 2 = 1 then (match bid (r 1) with
    | none => sOut1 a s r l by_
    | some h => sVain (sOut1 a s r l by_) h) else sOut1 a s r l by_
def sPut (a : xA) (s l : Nat) (by_ : Int32) : xA := wS a (va_up (aS a) s (aS a s ++ [row3 (nI l) by_ (if by_ = -100005 then 0 else 1)]))
def sErase (a : xA) (l : Nat) : xA := wT a ((aT a).eraseIdx (kIdx (aT a) (nI l)))
def sFetch (a : xA) (l : Nat) (by_ : Int32) : xA := sPut (if (aS a (l % aC a 0)).length < aC a 1 then sErase a l else sOut (sErase a l) (l % aC a 0) by_) (l % aC a 0) l by_
def sHarm (a : xA) (h : Nat) : xA := sHours (wH a (hu (aH a) h 9 (aH a h 9 + 1))) h 2
def sPunish (a : xA) (l : Nat) : xA := match (aT a)[kIdx (aT a) (nI l)]? with
  | none => a
  | some r => match bid (r 1) with
    | none => a
    | some h => sHarm a h
def sUse (a : xA) (h : Nat) : xA := if aH a h 3 = 1 then (if aH a h 5 < 2 then wH a (hu (hu (hu (aH a) h 7 (aH a h 7 + 1)) h 5 0) h 3 0) else wH a (hu (hu (aH a) h 7 (aH a h 7 + 1)) h 5 (aH a h 5 - 1))) else wH a (hu (aH a) h 7 (aH a h 7 + 1))
def sHit (a : xA) (s w : Nat) (r : xR) : xA := wS a (va_up (aS a) s ((aS a s).eraseIdx w ++ [row3 (r 0) (r 1) 0]))
def sServe (a : xA) (l : Nat) : Nat × xA := match (aS a (l % aC a 0))[kIdx (aS a (l % aC a 0)) (nI l)]? with
  | none => (0, sFetch (sPunish a l) l (-100005))
  | some r => if r 2 = 1 then (match bid (r 1) with
    | none => (2, sHit a (l % aC a 0) (kIdx (aS a (l % aC a 0)) (nI l)) r)
    | some h => (2, sUse (sHit a (l % aC a 0) (kIdx (aS a (l % aC a 0)) (nI l)) r) h)) else (1, sHit a (l % aC a 0) (kIdx (aS a (l % aC a 0)) (nI l)) r)
def sWork1 (a : xA) (h : Nat) : xA := if aH a h 3 = 2 then (if aH a h 4 < 2 then wH a (hu (hu (hu (hu (hu (aH a) h 4 0) h 10 (aH a h 10 + 1)) h 3 1) h 5 (aC a 3)) h 12 (aH a h 12 + 1)) else wH a (hu (hu (aH a) h 4 (aH a h 4 - 1)) h 10 (aH a h 10 + 1))) else a
def sWork : Nat → xA → xA
  | 0, a => a
  | k + 1, a => sWork1 (sWork k a) k
/-- what a stride's row becomes: its step and trust -/
def sStride (line : Int32) (r : xR) : Int32 × Int32 :=
  let d := line - r 1
  if d = r 2 ∧ ¬ d = 0 then (r 2, if r 3 < 3 then r 3 + 1 else r 3)
  else (if (if 0 < r 3 then r 3 - 1 else r 3) = 0 then d else r 2, if 0 < r 3 then r 3 - 1 else r 3)
def sStream (line : Int32) (r : xR) : Int32 × Int32 :=
  let way : Int32 := if r 1 < line then 1 else -1
  (way, if way = r 2 then (if r 3 < 9 then r 3 + 1 else 9) else 1)
def sMove (a : xA) (h w : Nat) (r : xR) (line st tr : Int32) : xA := wG a (va_up (aG a) h ((aG a h).eraseIdx w ++ [row4 (r 0) line st tr]))
def sNew (a : xA) (h m : Nat) (p line : Int32) : xA := wG a (va_up (aG a) h (pushL m (aG a h) ++ [row4 p line 0 0]))
/-- the latest stream near a line: its place, the list's length if there is none -/
def nearB (line : Int32) (r : xR) : Bool := decide (¬ line - r 1 = 0 ∧ -4 ≤ line - r 1 ∧ line - r 1 ≤ 4)
def lastK (line : Int32) (G : List xR) : Nat → Option Nat
  | 0 => none
  | k + 1 => match G[k]? with
    | some r => if nearB line r then some k else lastK line G k
    | none => lastK line G k
def lastN (line : Int32) (G : List xR) : Option Nat := lastK line G G.length
/-- a helper learns; the step by which it asks (0: it asks for nothing) -/
def sLearn (a : xA) (h p l o : Nat) : Int32 × xA :=
  if aH a h 0 = 0 then (match (aG a h)[kIdx (aG a h) (nI p)]? with
    | none => (0, sNew a h 4 (nI p) (nI l))
    | some r => (if 1 < (sStride (nI l) r).2 then (sStride (nI l) r).1 else 0, sMove a h (kIdx (aG a h) (nI p)) r (nI l) (sStride (nI l) r).1 (sStride (nI l) r).2))
  else if aH a h 0 = 1 then (if o = 1 then (0, a) else match lastN (nI l) (aG a h) with
    | none => (0, sNew a h 3 (-100005) (nI l))
    | some w => match (aG a h)[w]? with
      | none => (0, a)
      | some r => (if 1 < (sStream (nI l) r).2 then (sStream (nI l) r).1 else 0, sMove a h w r (nI l) (sStream (nI l) r).1 (sStream (nI l) r).2))
  else (if o = 0 then 1 else 0, a)
def sReach (a : xA) (h : Nat) : Nat := if aH a h 3 = 0 then aH a h 1 else if aH a h 3 = 1 then 1 else 0
def okL (x : Int32) : Option Nat := if x < 0 ∨ 9999 < x then none else some x.toNatClampNeg
def askAt (l : Nat) (st : Int32) (k : Nat) : Option Nat := okL (nI l + nI (k + 1) * st)
def asks (l : Nat) (st : Int32) : Nat → List Nat
  | 0 => []
  | k + 1 => asks l st k ++ (askAt l st k).toList
def sFetch1 (h : Nat) (q : Nat × xA) (l : Nat) : Nat × xA := if kIdx (aS q.2 (l % aC q.2 0)) (nI l) < (aS q.2 (l % aC q.2 0)).length then q else (q.1 + 1, sFetch q.2 l (nI h))
def sFetches (a : xA) (h : Nat) (ls : List Nat) : Nat × xA := ls.foldl (sFetch1 h) (0, a)
def sAsk (a : xA) (h p l o : Nat) : List Nat := if (sLearn a h p l o).1 = 0 then [] else asks l (sLearn a h p l o).1 (sReach (sLearn a h p l o).2 h)
def sHelp (a : xA) (h p l o : Nat) : Nat × xA := ((sFetches (sLearn a h p l o).2 h (sAsk a h p l o)).1, wH (sFetches (sLearn a h p l o).2 h (sAsk a h p l o)).2 (hu (aH (sFetches (sLearn a h p l o).2 h (sAsk a h p l o)).2) h 6 (aH (sFetches (sLearn a h p l o).2 h (sAsk a h p l o)).2 h 6 + (sFetches (sLearn a h p l o).2 h (sAsk a h p l o)).1)))
def sHelps (p l o : Nat) : Nat → xA → Nat × xA
  | 0, a => (0, a)
  | k + 1, a => ((sHelps p l o k a).1 + (sHelp (sHelps p l o k a).2 k p l o).1, (sHelp (sHelps p l o k a).2 k p l o).2)
def sLog (a : xA) (p l o n : Nat) : xA := wC (wL a (pushL 12 (aL a) ++ [row5 (nI p) (nI l) (nI o) (nI n) (nI (aC a 4))])) (fun i => if i = 4 then aC a 4 + 1 else if i = 5 then (if o = 0 then aC a 5 else aC a 5 + 1) else if i = 6 then (if o = 2 then aC a 6 + 1 else aC a 6) else if i = 7 then aC a 7 + n else aC a i)
def sGo (a : xA) (p l : Nat) : Nat × xA := ((sServe (sWork (aC a 2) a) l).1, sLog (sHelps p l (sServe (sWork (aC a 2) a) l).1 (aC a 2) (sServe (sWork (aC a 2) a) l).2).2 p l (sServe (sWork (aC a 2) a) l).1 (sHelps p l (sServe (sWork (aC a 2) a) l).1 (aC a 2) (sServe (sWork (aC a 2) a) l).2).1)
def sWalk (p l : Nat) (st : Int32) : Nat → xA → Nat × xA
  | 0, a => (0, a)
  | k + 1, a => ((sWalk p l st k a).1 + (if (sGo (sWalk p l st k a).2 p (nI l + nI k * st).toNatClampNeg).1 = 0 then 0 else 1), (sGo (sWalk p l st k a).2 p (nI l + nI k * st).toNatClampNeg).2)
/-- all lines are thrown out -/
def sOuts (s : Nat) : Nat → xA → xA
  | 0, a => a
  | k + 1, a => sOut (sOuts s k a) s (-100005)
def sEmpty : Nat → xA → xA
  | 0, a => a
  | s + 1, a => sOuts s (aS (sEmpty s a) s).length (sEmpty s a)
def sLines (a : xA) : Nat → Nat
  | 0 => 0
  | s + 1 => sLines a s + (aS a s).length
/-! a State's cells hold it -/
def CRep (τ : xM) (a : xA) : Prop := (∀ i, i < 9 → τ 0 (4 + i) = nI (aC a i)) ∧ (∀ s, s < 8 → CR τ (2 + 2 * s) 4 3 (aS a s)) ∧ CR τ 18 8 2 (aT a) ∧ (∀ h, h < aC a 2 → ∀ k, k < 13 → τ (21 + 4 * h) (3 + k) = nI (aH a h k)) ∧ (∀ h, h < 6 → CR τ (22 + 4 * h) 4 4 (aG a h)) ∧ CR τ 45 12 5 (aL a)
def WF (τ τ' : xM) : Prop := ∀ h, h < 6 → τ' (24 + 4 * h) = τ (24 + 4 * h) ∧ τ' (21 + 4 * h) 2 = τ (21 + 4 * h) 2
theorem WF.rfl {τ : xM} : WF τ τ := fun _ _ => ⟨Eq.refl _, Eq.refl _⟩
theorem WF.trans {τ1 τ2 τ3 : xM} (h1 : WF τ1 τ2) (h2 : WF τ2 τ3) : WF τ1 τ3 := fun h hh => ⟨(h2 h hh).1.trans (h1 h hh).1, (h2 h hh).2.trans (h1 h hh).2⟩
theorem SF_S : ∀ s, s < 8 → SF (2 + 2 * s) 4 3 := by
  unfold SF
  decide
theorem SF_T : SF 18 8 2 := by
  unfold SF
  decide
theorem SF_G : ∀ h, h < 6 → SF (22 + 4 * h) 4 4 := by
  unfold SF
  decide
theorem SF_L : SF 45 12 5 := by
  unfold SF
  decide
theorem CR.fr {τ τ' : xM} {a cap c : Nat} {l : List xR} (h : CR τ a cap c l) (h0 : τ' a = τ a) (h1 : τ' (a + 1) = τ (a + 1)) : CR τ' a cap c l := h.other (fun k _ => by rw [h0]) h1
theorem CRep.setS {τ τ' : xM} {a : xA} {s : Nat} {l : List xR} (h : CRep τ a) (hs : s < 8) (fr : ∀ b, b ≠ 2 + 2 * s → b ≠ 2 + 2 * s + 1 → τ' b = τ b) (hc : CR τ' (2 + 2 * s) 4 3 l) : CRep τ' (wS a (va_up (aS a) s l)) := by
  refine ⟨fun i hi => by rw [fr 0 (by omega) (by omega)]; exact h.1 i hi, fun s' hs' => ?_, h.2.2.1.fr (fr _ (by omega) (by omega)) (fr _ (by omega) (by omega)), fun h9 hh k hk => by rw [fr _ (by omega) (by omega)]; exact h.2.2.2.1 h9 hh k hk, fun h9 hh => (h.2.2.2.2.1 h9 hh).fr (fr _ (by omega) (by omega)) (fr _ (by omega) (by omega)), h.2.2.2.2.2.fr (fr _ (by omega) (by omega)) (fr _ (by omega) (by omega))⟩
  show CR τ' (2 + 2 * s') 4 3 (va_up (aS a) s l s')
  by_cases q : s' = s
  · subst q
    rw [va_up_eq]
    exact hc
  · rw [va_up_off q]
    exact (h.2.1 s' hs').fr (fr _ (by omega) (by omega)) (fr _ (by omega) (by omega))
theorem CRep.setT {τ τ' : xM} {a : xA} {l : List xR} (h : CRep τ a) (fr : ∀ b, b ≠ 18 → b ≠ 18 + 1 → τ' b = τ b) (hc : CR τ' 18 8 2 l) : CRep τ' (wT a l) :=
  ⟨fun i hi => by rw [fr 0 (by omega) (by omega)]; exact h.1 i hi, fun s' hs' => (h.2.1 s' hs').fr (fr _ (by omega) (by omega)) (fr _ (by omega) (by omega)), hc, fun h9 hh k hk => by rw [fr _ (by omega) (by omega)]; exact h.2.2.2.1 h9 hh k hk, fun h9 hh => (h.2.2.2.2.1 h9 hh).fr (fr _ (by omega) (by omega)) (fr _ (by omega) (by omega)), h.2.2.2.2.2.fr (fr _ (by omega) (by omega)) (fr _ (by omega) (by omega))⟩
theorem CRep.setL {τ τ' : xM} {a : xA} {l : List xR} (h : CRep τ a) (hh6 : aC a 2 ≤ 6) (fr : ∀ b, b ≠ 45 → b ≠ 45 + 1 → τ' b = τ b) (hc : CR τ' 45 12 5 l) : CRep τ' (wL a l) :=
  ⟨fun i hi => by rw [fr 0 (by omega) (by omega)]; exact h.1 i hi, fun s' hs' => (h.2.1 s' hs').fr (fr _ (by omega) (by omega)) (fr _ (by omega) (by omega)), h.2.2.1.fr (fr _ (by omega) (by omega)) (fr _ (by omega) (by omega)), fun h9 hh k hk => by
    have hh' : h9 < aC a 2 := hh
    rw [fr _ (by omega) (by omega)]; exact h.2.2.2.1 h9 hh k hk, fun h9 hh => (h.2.2.2.2.1 h9 hh).fr (fr _ (by omega) (by omega)) (fr _ (by omega) (by omega)), hc⟩
theorem CRep.setG {τ τ' : xM} {a : xA} {h0 : Nat} {l : List xR} (h : CRep τ a) (hh6 : aC a 2 ≤ 6) (hs : h0 < 6) (fr : ∀ b, b ≠ 22 + 4 * h0 → b ≠ 22 + 4 * h0 + 1 → τ' b = τ b) (hc : CR τ' (22 + 4 * h0) 4 4 l) : CRep τ' (wG a (va_up (aG a) h0 l)) := by
  refine ⟨fun i hi => by rw [fr 0 (by omega) (by omega)]; exact h.1 i hi, fun s' hs' => (h.2.1 s' hs').fr (fr _ (by omega) (by omega)) (fr _ (by omega) (by omega)), h.2.2.1.fr (fr _ (by omega) (by omega)) (fr _ (by omega) (by omega)), fun h9 hh k hk => by rw [fr _ (by omega) (by omega)]; exact h.2.2.2.1 h9 hh k hk, fun h9 hh => ?_, h.2.2.2.2.2.fr (fr _ (by omega) (by omega)) (fr _ (by omega) (by omega))⟩
  show CR τ' (22 + 4 * h9) 4 4 (va_up (aG a) h0 l h9)
  by_cases q : h9 = h0
  · subst q
    rw [va_up_eq]
    exact hc
  · rw [va_up_off q]
    exact (h.2.2.2.2.1 h9 hh).fr (fr _ (by omega) (by omega)) (fr _ (by omega) (by omega))
theorem CRep.setH {τ : xM} {a : xA} {h0 k v : Nat} (h : CRep τ a) (hh6 : aC a 2 ≤ 6) (hs : h0 < aC a 2) (hk : k < 13) : CRep (x_up τ (21 + 4 * h0) (3 + k) (nI v)) (wH a (hu (aH a) h0 k v)) := by
  have fr : ∀ b, b ≠ 21 + 4 * h0 → x_up τ (21 + 4 * h0) (3 + k) (nI v) b = τ b := fun b hb => x_up_row' hb
  refine ⟨fun i hi => by rw [fr 0 (by omega)]; exact h.1 i hi, fun s' hs' => (h.2.1 s' hs').fr (fr _ (by omega)) (fr _ (by omega)), h.2.2.1.fr (fr _ (by omega)) (fr _ (by omega)), fun h9 hh k9 hk9 => ?_, fun h9 hh => (h.2.2.2.2.1 h9 hh).fr (fr _ (by omega)) (fr _ (by omega)), h.2.2.2.2.2.fr (fr _ (by omega)) (fr _ (by omega))⟩
  show x_up τ (21 + 4 * h0) (3 + k) (nI v) (21 + 4 * h9) (3 + k9) = nI (hu (aH a) h0 k v h9 k9)
  by_cases q : h9 = h0 ∧ k9 = k
  · obtain ⟨q1, q2⟩ := q
    subst q1
    subst q2
    simp [x_up, hu]
  · have q2 : ¬ (21 + 4 * h9 = 21 + 4 * h0 ∧ 3 + k9 = 3 + k) := fun e => q (by omega)
    simp only [x_up, if_neg q2, hu, if_neg q]
    exact h.2.2.2.1 h9 hh k9 hk9
theorem CRep.setC {τ : xM} {a : xA} {i v : Nat} (h : CRep τ a) (hi2 : i ≠ 2) : CRep (x_up τ 0 (4 + i) (nI v)) (wC a (va_up (aC a) i v)) := by
  have fr : ∀ b, b ≠ 0 → x_up τ 0 (4 + i) (nI v) b = τ b := fun b hb => x_up_row' hb
  have e2 : aC (wC a (va_up (aC a) i v)) 2 = aC a 2 := va_up_off (Ne.symm hi2)
  refine ⟨fun i' hi' => ?_, fun s' hs' => (h.2.1 s' hs').fr (fr _ (by omega)) (fr _ (by omega)), h.2.2.1.fr (fr _ (by omega)) (fr _ (by omega)), fun h9 hh k9 hk9 => by rw [fr _ (by omega)]; exact h.2.2.2.1 h9 (e2 ▸ hh) k9 hk9, fun h9 hh => (h.2.2.2.2.1 h9 hh).fr (fr _ (by omega)) (fr _ (by omega)), h.2.2.2.2.2.fr (fr _ (by omega)) (fr _ (by omega))⟩
  show x_up τ 0 (4 + i) (nI v) 0 (4 + i') = nI (va_up (aC a) i v i')
  by_cases q : i' = i
  · subst q
    rw [x_up_at, va_up_eq]
  · rw [x_up_off (by omega), va_up_off q]
    exact h.1 i' hi'
/-- places of the wishes don't count -/
theorem CRep.wish {τ τ' : xM} {a : xA} (h : CRep τ a) (h0 : τ' 0 = τ 0) (h1 : ∀ s, s < 8 → τ' (2 + 2 * s) = τ (2 + 2 * s) ∧ τ' (2 + 2 * s + 1) = τ (2 + 2 * s + 1)) (h2 : τ' 18 = τ 18 ∧ τ' 19 = τ 19) (h3 : ∀ h9, h9 < aC a 2 → ∀ k, k < 13 → τ' (21 + 4 * h9) (3 + k) = τ (21 + 4 * h9) (3 + k)) (h4 : ∀ h9, h9 < 6 → τ' (22 + 4 * h9) = τ (22 + 4 * h9) ∧ τ' (22 + 4 * h9 + 1) = τ (22 + 4 * h9 + 1)) (h5 : τ' 45 = τ 45 ∧ τ' 46 = τ 46) : CRep τ' a :=
  ⟨fun i hi => by rw [h0]; exact h.1 i hi, fun s hs => (h.2.1 s hs).fr (h1 s hs).1 (h1 s hs).2, h.2.2.1.fr h2.1 h2.2, fun h9 hh k hk => by rw [h3 h9 hh k hk]; exact h.2.2.2.1 h9 hh k hk, fun h9 hh => (h.2.2.2.2.1 h9 hh).fr (h4 h9 hh).1 (h4 h9 hh).2, h.2.2.2.2.2.fr h5.1 h5.2⟩
