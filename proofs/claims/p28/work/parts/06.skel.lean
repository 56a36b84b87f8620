/-! the blocks: a State's cells (S), the object's cells (T), the check's cells (R) -/
def kd (r : Nat) : Nat := if r = 0 then 2 else if r = 1 then 9 else if r < 20 then (if r % 2 = 0 then 1 else 7) else if r = 20 then 8 else if r < 45 then (if (r - 21) % 4 = 0 then 0 else if (r - 21) % 4 = 1 then 1 else 7) else if r = 45 then 1 else if r = 46 then 7 else 20
def gr (r k : Nat) : Option Nat :=
  if kd r = 2 then (if k = 0 then some 1 else if k = 1 then some 18 else if k = 2 then some 20 else if k = 3 then some 45 else none)
  else if kd r = 9 then (if k < 8 then some (2 + 2 * k) else none)
  else if kd r = 1 then (if k = 2 then some (r + 1) else none)
  else if kd r = 8 then (if k < 6 then some (21 + 4 * k) else none)
  else if kd r = 0 then (if k = 0 then some (r + 1) else if k = 1 then some (r + 3) else none)
  else none
def ln (r : Nat) : Nat := if r < 18 then 12 else if r = 19 then 16 else if r = 46 then 60 else if (r - 21) % 4 = 2 then 16 else 4
def xk (k r : Nat) : Prop := r < 47 ∧ kd r = k
def xtys (cs : Nat → ClassId) : List (ClassId × FieldType) := [(cs 0, .char), (cs 1, .int), (cs 2, .object RX0), (cs 3, .object RX1), (cs 4, .object RX2)]
def wfS (cs : Nat → ClassId) (ad : Nat → Nat) (σ : xM) (r : Nat) : va_E :=
  if kd r = 0 then .inr (0, [va_rf ((gr r 0).map ad), va_rf ((gr r 1).map ad), .int (σ r 2), .int (σ r 3), .int (σ r 4), .int (σ r 5), .int (σ r 6), .int (σ r 7), .int (σ r 8), .int (σ r 9), .int (σ r 10), .int (σ r 11), .int (σ r 12), .int (σ r 13), .int (σ r 14), .int (σ r 15)])
  else if kd r = 1 then .inr (1, [.int (σ r 0), .int (σ r 1), va_rf ((gr r 2).map ad), .int (σ r 3)])
  else if kd r = 2 then .inr (2, [va_rf ((gr r 0).map ad), va_rf ((gr r 1).map ad), va_rf ((gr r 2).map ad), va_rf ((gr r 3).map ad), .int (σ r 4), .int (σ r 5), .int (σ r 6), .int (σ r 7), .int (σ r 8), .int (σ r 9), .int (σ r 10), .int (σ r 11), .int (σ r 12)])
  else if kd r = 7 then .inl (cs 1, ln r, .inl (σ r))
  else if kd r = 8 then .inl (cs 2, 6, .inr (.inr (.inr (.inr (fun k => (gr r k).map ad)))))
  else if kd r = 9 then .inl (cs 3, 8, .inr (.inr (.inr (.inr (fun k => (gr r k).map ad)))))
  else .inr (0, [])
theorem wfS_0 {cs : Nat → ClassId} {ad : Nat → Nat} {σ : xM} {r : Nat} (h : kd r = 0) : wfS cs ad σ r = .inr (0, [va_rf ((gr r 0).map ad), va_rf ((gr r 1).map ad), .int (σ r 2), .int (σ r 3), .int (σ r 4), .int (σ r 5), .int (σ r 6), .int (σ r 7), .int (σ r 8), .int (σ r 9), .int (σ r 10), .int (σ r 11), .int (σ r 12), .int (σ r 13), .int (σ r 14), .int (σ r 15)]) := by
  unfold wfS
  rw [h]
  rfl
theorem wfS_1 {cs : Nat → ClassId} {ad : Nat → Nat} {σ : xM} {r : Nat} (h : kd r = 1) : wfS cs ad σ r = .inr (1, [.int (σ r 0), .int (σ r 1), va_rf ((gr r 2).map ad), .int (σ r 3)]) := by
  unfold wfS
  rw [h]
  rfl
theorem wfS_2 {cs : Nat → ClassId} {ad : Nat → Nat} {σ : xM} {r : Nat} (h : kd r = 2) : wfS cs ad σ r = .inr (2, [va_rf ((gr r 0).map ad), va_rf ((gr r 1).map ad), va_rf ((gr r 2).map ad), va_rf ((gr r 3).map ad), .int (σ r 4), .int (σ r 5), .int (σ r 6), .int (σ r 7), .int (σ r 8), .int (σ r 9), .int (σ r 10), .int (σ r 11), .int (σ r 12)]) := by
  unfold wfS
  rw [h]
  rfl
theorem wfS_7 {cs : Nat → ClassId} {ad : Nat → Nat} {σ : xM} {r : Nat} (h : kd r = 7) : wfS cs ad σ r = .inl (cs 1, ln r, .inl (σ r)) := by
  unfold wfS
  rw [h]
  rfl
theorem wfS_8 {cs : Nat → ClassId} {ad : Nat → Nat} {σ : xM} {r : Nat} (h : kd r = 8) : wfS cs ad σ r = .inl (cs 2, 6, .inr (.inr (.inr (.inr (fun k => (gr r k).map ad))))) := by
  unfold wfS
  rw [h]
  rfl
theorem wfS_9 {cs : Nat → ClassId} {ad : Nat → Nat} {σ : xM} {r : Nat} (h : kd r = 9) : wfS cs ad σ r = .inl (cs 3, 8, .inr (.inr (.inr (.inr (fun k => (gr r k).map ad))))) := by
  unfold wfS
  rw [h]
  rfl
theorem wfS_loc {cs : Nat → ClassId} {ad : Nat → Nat} : x_loc (wfS cs ad) := fun σ σ' r h => by
  have e : σ r = σ' r := funext h
  unfold wfS
  rw [e]
theorem wpS_0_2 {cs : Nat → ClassId} {ad : Nat → Nat} {σ : xM} {r : Nat} {x : Int32} (h : kd r = 0) : wfS cs ad (x_up σ r 2 x) r = .inr (0, ([va_rf ((gr r 0).map ad), va_rf ((gr r 1).map ad), .int (σ r 2), .int (σ r 3), .int (σ r 4), .int (σ r 5), .int (σ r 6), .int (σ r 7), .int (σ r 8), .int (σ r 9), .int (σ r 10), .int (σ r 11), .int (σ r 12), .int (σ r 13), .int (σ r 14), .int (σ r 15)]).set 2 (.int x)) := by
  rw [wfS_0 h]
  simp [x_up]
theorem wpS_0_3 {cs : Nat → ClassId} {ad : Nat → Nat} {σ : xM} {r : Nat} {x : Int32} (h : kd r = 0) : wfS cs ad (x_up σ r 3 x) r = .inr (0, ([va_rf ((gr r 0).map ad), va_rf ((gr r 1).map ad), .int (σ r 2), .int (σ r 3), .int (σ r 4), .int (σ r 5), .int (σ r 6), .int (σ r 7), .int (σ r 8), .int (σ r 9), .int (σ r 10), .int (σ r 11), .int (σ r 12), .int (σ r 13), .int (σ r 14), .int (σ r 15)]).set 3 (.int x)) := by
  rw [wfS_0 h]
  simp [x_up]
theorem wpS_0_4 {cs : Nat → ClassId} {ad : Nat → Nat} {σ : xM} {r : Nat} {x : Int32} (h : kd r = 0) : wfS cs ad (x_up σ r 4 x) r = .inr (0, ([va_rf ((gr r 0).map ad), va_rf ((gr r 1).map ad), .int (σ r 2), .int (σ r 3), .int (σ r 4), .int (σ r 5), .int (σ r 6), .int (σ r 7), .int (σ r 8), .int (σ r 9), .int (σ r 10), .int (σ r 11), .int (σ r 12), .int (σ r 13), .int (σ r 14), .int (σ r 15)]).set 4 (.int x)) := by
  rw [wfS_0 h]
  simp [x_up]
theorem wpS_0_5 {cs : Nat → ClassId} {ad : Nat → Nat} {σ : xM} {r : Nat} {x : Int32} (h : kd r = 0) : wfS cs ad (x_up σ r 5 x) r = .inr (0, ([va_rf ((gr r 0).map ad), va_rf ((gr r 1).map ad), .int (σ r 2), .int (σ r 3), .int (σ r 4), .int (σ r 5), .int (σ r 6), .int (σ r 7), .int (σ r 8), .int (σ r 9), .int (σ r 10), .int (σ r 11), .int (σ r 12), .int (σ r 13), .int (σ r 14), .int (σ r 15)]).set 5 (.int x)) := by
  rw [wfS_0 h]
  simp [x_up]
theorem wpS_0_6 {cs : Nat → ClassId} {ad : Nat → Nat} {σ : xM} {r : Nat} {x : Int32} (h : kd r = 0) : wfS cs ad (x_up σ r 6 x) r = .inr (0, ([va_rf ((gr r 0).map ad), va_rf ((gr r 1).map ad), .int (σ r 2), .int (σ r 3), .int (σ r 4), .int (σ r 5), .int (σ r 6), .int (σ r 7), .int (σ r 8), .int (σ r 9), .int (σ r 10), .int (σ r 11), .int (σ r 12), .int (σ r 13), .int (σ r 14), .int (σ r 15)]).set 6 (.int x)) := by
  rw [wfS_0 h]
  simp [x_up]
theorem wpS_0_7 {cs : Nat → ClassId} {ad : Nat → Nat} {σ : xM} {r : Nat} {x : Int32} (h : kd r = 0) : wfS cs ad (x_up σ r 7 x) r = .inr (0, ([va_rf ((gr r 0).map ad), va_rf ((gr r 1).map ad), .int (σ r 2), .int (σ r 3), .int (σ r 4), .int (σ r 5), .int (σ r 6), .int (σ r 7), .int (σ r 8), .int (σ r 9), .int (σ r 10), .int (σ r 11), .int (σ r 12), .int (σ r 13), .int (σ r 14), .int (σ r 15)]).set 7 (.int x)) := by
  rw [wfS_0 h]
  simp [x_up]
theorem wpS_0_8 {cs : Nat → ClassId} {ad : Nat → Nat} {σ : xM} {r : Nat} {x : Int32} (h : kd r = 0) : wfS cs ad (x_up σ r 8 x) r = .inr (0, ([va_rf ((gr r 0).map ad), va_rf ((gr r 1).map ad), .int (σ r 2), .int (σ r 3), .int (σ r 4), .int (σ r 5), .int (σ r 6), .int (σ r 7), .int (σ r 8), .int (σ r 9), .int (σ r 10), .int (σ r 11), .int (σ r 12), .int (σ r 13), .int (σ r 14), .int (σ r 15)]).set 8 (.int x)) := by
  rw [wfS_0 h]
  simp [x_up]
theorem wpS_0_9 {cs : Nat → ClassId} {ad : Nat → Nat} {σ : xM} {r : Nat} {x : Int32} (h : kd r = 0) : wfS cs ad (x_up σ r 9 x) r = .inr (0, ([va_rf ((gr r 0).map ad), va_rf ((gr r 1).map ad), .int (σ r 2), .int (σ r 3), .int (σ r 4), .int (σ r 5), .int (σ r 6), .int (σ r 7), .int (σ r 8), .int (σ r 9), .int (σ r 10), .int (σ r 11), .int (σ r 12), .int (σ r 13), .int (σ r 14), .int (σ r 15)]).set 9 (.int x)) := by
  rw [wfS_0 h]
  simp [x_up]
theorem wpS_0_10 {cs : Nat → ClassId} {ad : Nat → Nat} {σ : xM} {r : Nat} {x : Int32} (h : kd r = 0) : wfS cs ad (x_up σ r 10 x) r = .inr (0, ([va_rf ((gr r 0).map ad), va_rf ((gr r 1).map ad), .int (σ r 2), .int (σ r 3), .int (σ r 4), .int (σ r 5), .int (σ r 6), .int (σ r 7), .int (σ r 8), .int (σ r 9), .int (σ r 10), .int (σ r 11), .int (σ r 12), .int (σ r 13), .int (σ r 14), .int (σ r 15)]).set 10 (.int x)) := by
  rw [wfS_0 h]
  simp [x_up]
theorem wpS_0_11 {cs : Nat → ClassId} {ad : Nat → Nat} {σ : xM} {r : Nat} {x : Int32} (h : kd r = 0) : wfS cs ad (x_up σ r 11 x) r = .inr (0, ([va_rf ((gr r 0).map ad), va_rf ((gr r 1).map ad), .int (σ r 2), .int (σ r 3), .int (σ r 4), .int (σ r 5), .int (σ r 6), .int (σ r 7), .int (σ r 8), .int (σ r 9), .int (σ r 10), .int (σ r 11), .int (σ r 12), .int (σ r 13), .int (σ r 14), .int (σ r 15)]).set 11 (.int x)) := by
  rw [wfS_0 h]
  simp [x_up]
theorem wpS_0_12 {cs : Nat → ClassId} {ad : Nat → Nat} {σ : xM} {r : Nat} {x : Int32} (h : kd r = 0) : wfS cs ad (x_up σ r 12 x) r = .inr (0, ([va_rf ((gr r 0).map ad), va_rf ((gr r 1).map ad), .int (σ r 2), .int (σ r 3), .int (σ r 4), .int (σ r 5), .int (σ r 6), .int (σ r 7), .int (σ r 8), .int (σ r 9), .int (σ r 10), .int (σ r 11), .int (σ r 12), .int (σ r 13), .int (σ r 14), .int (σ r 15)]).set 12 (.int x)) := by
  rw [wfS_0 h]
  simp [x_up]
theorem wpS_0_13 {cs : Nat → ClassId} {ad : Nat → Nat} {σ : xM} {r : Nat} {x : Int32} (h : kd r = 0) : wfS cs ad (x_up σ r 13 x) r = .inr (0, ([va_rf ((gr r 0).map ad), va_rf ((gr r 1).map ad), .int (σ r 2), .int (σ r 3), .int (σ r 4), .int (σ r 5), .int (σ r 6), .int (σ r 7), .int (σ r 8), .int (σ r 9), .int (σ r 10), .int (σ r 11), .int (σ r 12), .int (σ r 13), .int (σ r 14), .int (σ r 15)]).set 13 (.int x)) := by
  rw [wfS_0 h]
  simp [x_up]
theorem wpS_0_14 {cs : Nat → ClassId} {ad : Nat → Nat} {σ : xM} {r : Nat} {x : Int32} (h : kd r = 0) : wfS cs ad (x_up σ r 14 x) r = .inr (0, ([va_rf ((gr r 0).map ad), va_rf ((gr r 1).map ad), .int (σ r 2), .int (σ r 3), .int (σ r 4), .int (σ r 5), .int (σ r 6), .int (σ r 7), .int (σ r 8), .int (σ r 9), .int (σ r 10), .int (σ r 11), .int (σ r 12), .int (σ r 13), .int (σ r 14), .int (σ r 15)]).set 14 (.int x)) := by
  rw [wfS_0 h]
  simp [x_up]
theorem wpS_0_15 {cs : Nat → ClassId} {ad : Nat → Nat} {σ : xM} {r : Nat} {x : Int32} (h : kd r = 0) : wfS cs ad (x_up σ r 15 x) r = .inr (0, ([va_rf ((gr r 0).map ad), va_rf ((gr r 1).map ad), .int (σ r 2), .int (σ r 3), .int (σ r 4), .int (σ r 5), .int (σ r 6), .int (σ r 7), .int (σ r 8), .int (σ r 9), .int (σ r 10), .int (σ r 11), .int (σ r 12), .int (σ r 13), .int (σ r 14), .int (σ r 15)]).set 15 (.int x)) := by
  rw [wfS_0 h]
  simp [x_up]
theorem wpS_1_0 {cs : Nat → ClassId} {ad : Nat → Nat} {σ : xM} {r : Nat} {x : Int32} (h : kd r = 1) : wfS cs ad (x_up σ r 0 x) r = .inr (1, ([.int (σ r 0), .int (σ r 1), va_rf ((gr r 2).map ad), .int (σ r 3)]).set 0 (.int x)) := by
  rw [wfS_1 h]
  simp [x_up]
theorem wpS_1_1 {cs : Nat → ClassId} {ad : Nat → Nat} {σ : xM} {r : Nat} {x : Int32} (h : kd r = 1) : wfS cs ad (x_up σ r 1 x) r = .inr (1, ([.int (σ r 0), .int (σ r 1), va_rf ((gr r 2).map ad), .int (σ r 3)]).set 1 (.int x)) := by
  rw [wfS_1 h]
  simp [x_up]
theorem wpS_1_3 {cs : Nat → ClassId} {ad : Nat → Nat} {σ : xM} {r : Nat} {x : Int32} (h : kd r = 1) : wfS cs ad (x_up σ r 3 x) r = .inr (1, ([.int (σ r 0), .int (σ r 1), va_rf ((gr r 2).map ad), .int (σ r 3)]).set 3 (.int x)) := by
  rw [wfS_1 h]
  simp [x_up]
theorem wpS_2_4 {cs : Nat → ClassId} {ad : Nat → Nat} {σ : xM} {r : Nat} {x : Int32} (h : kd r = 2) : wfS cs ad (x_up σ r 4 x) r = .inr (2, ([va_rf ((gr r 0).map ad), va_rf ((gr r 1).map ad), va_rf ((gr r 2).map ad), va_rf ((gr r 3).map ad), .int (σ r 4), .int (σ r 5), .int (σ r 6), .int (σ r 7), .int (σ r 8), .int (σ r 9), .int (σ r 10), .int (σ r 11), .int (σ r 12)]).set 4 (.int x)) := by
  rw [wfS_2 h]
  simp [x_up]
theorem wpS_2_5 {cs : Nat → ClassId} {ad : Nat → Nat} {σ : xM} {r : Nat} {x : Int32} (h : kd r = 2) : wfS cs ad (x_up σ r 5 x) r = .inr (2, ([va_rf ((gr r 0).map ad), va_rf ((gr r 1).map ad), va_rf ((gr r 2).map ad), va_rf ((gr r 3).map ad), .int (σ r 4), .int (σ r 5), .int (σ r 6), .int (σ r 7), .int (σ r 8), .int (σ r 9), .int (σ r 10), .int (σ r 11), .int (σ r 12)]).set 5 (.int x)) := by
  rw [wfS_2 h]
  simp [x_up]
theorem wpS_2_6 {cs : Nat → ClassId} {ad : Nat → Nat} {σ : xM} {r : Nat} {x : Int32} (h : kd r = 2) : wfS cs ad (x_up σ r 6 x) r = .inr (2, ([va_rf ((gr r 0).map ad), va_rf ((gr r 1).map ad), va_rf ((gr r 2).map ad), va_rf ((gr r 3).map ad), .int (σ r 4), .int (σ r 5), .int (σ r 6), .int (σ r 7), .int (σ r 8), .int (σ r 9), .int (σ r 10), .int (σ r 11), .int (σ r 12)]).set 6 (.int x)) := by
  rw [wfS_2 h]
  simp [x_up]
theorem wpS_2_7 {cs : Nat → ClassId} {ad : Nat → Nat} {σ : xM} {r : Nat} {x : Int32} (h : kd r = 2) : wfS cs ad (x_up σ r 7 x) r = .inr (2, ([va_rf ((gr r 0).map ad), va_rf ((gr r 1).map ad), va_rf ((gr r 2).map ad), va_rf ((gr r 3).map ad), .int (σ r 4), .int (σ r 5), .int (σ r 6), .int (σ r 7), .int (σ r 8), .int (σ r 9), .int (σ r 10), .int (σ r 11), .int (σ r 12)]).set 7 (.int x)) := by
  rw [wfS_2 h]
  simp [x_up]
theorem wpS_2_8 {cs : Nat → ClassId} {ad : Nat → Nat} {σ : xM} {r : Nat} {x : Int32} (h : kd r = 2) : wfS cs ad (x_up σ r 8 x) r = .inr (2, ([va_rf ((gr r 0).map ad), va_rf ((gr r 1).map ad), va_rf ((gr r 2).map ad), va_rf ((gr r 3).map ad), .int (σ r 4), .int (σ r 5), .int (σ r 6), .int (σ r 7), .int (σ r 8), .int (σ r 9), .int (σ r 10), .int (σ r 11), .int (σ r 12)]).set 8 (.int x)) := by
  rw [wfS_2 h]
  simp [x_up]
theorem wpS_2_9 {cs : Nat → ClassId} {ad : Nat → Nat} {σ : xM} {r : Nat} {x : Int32} (h : kd r = 2) : wfS cs ad (x_up σ r 9 x) r = .inr (2, ([va_rf ((gr r 0).map ad), va_rf ((gr r 1).map ad), va_rf ((gr r 2).map ad), va_rf ((gr r 3).map ad), .int (σ r 4), .int (σ r 5), .int (σ r 6), .int (σ r 7), .int (σ r 8), .int (σ r 9), .int (σ r 10), .int (σ r 11), .int (σ r 12)]).set 9 (.int x)) := by
  rw [wfS_2 h]
  simp [x_up]
theorem wpS_2_10 {cs : Nat → ClassId} {ad : Nat → Nat} {σ : xM} {r : Nat} {x : Int32} (h : kd r = 2) : wfS cs ad (x_up σ r 10 x) r = .inr (2, ([va_rf ((gr r 0).map ad), va_rf ((gr r 1).map ad), va_rf ((gr r 2).map ad), va_rf ((gr r 3).map ad), .int (σ r 4), .int (σ r 5), .int (σ r 6), .int (σ r 7), .int (σ r 8), .int (σ r 9), .int (σ r 10), .int (σ r 11), .int (σ r 12)]).set 10 (.int x)) := by
  rw [wfS_2 h]
  simp [x_up]
theorem wpS_2_11 {cs : Nat → ClassId} {ad : Nat → Nat} {σ : xM} {r : Nat} {x : Int32} (h : kd r = 2) : wfS cs ad (x_up σ r 11 x) r = .inr (2, ([va_rf ((gr r 0).map ad), va_rf ((gr r 1).map ad), va_rf ((gr r 2).map ad), va_rf ((gr r 3).map ad), .int (σ r 4), .int (σ r 5), .int (σ r 6), .int (σ r 7), .int (σ r 8), .int (σ r 9), .int (σ r 10), .int (σ r 11), .int (σ r 12)]).set 11 (.int x)) := by
  rw [wfS_2 h]
  simp [x_up]
theorem wpS_2_12 {cs : Nat → ClassId} {ad : Nat → Nat} {σ : xM} {r : Nat} {x : Int32} (h : kd r = 2) : wfS cs ad (x_up σ r 12 x) r = .inr (2, ([va_rf ((gr r 0).map ad), va_rf ((gr r 1).map ad), va_rf ((gr r 2).map ad), va_rf ((gr r 3).map ad), .int (σ r 4), .int (σ r 5), .int (σ r 6), .int (σ r 7), .int (σ r 8), .int (σ r 9), .int (σ r 10), .int (σ r 11), .int (σ r 12)]).set 12 (.int x)) := by
  rw [wfS_2 h]
  simp [x_up]
theorem wpS_7 {cs : Nat → ClassId} {ad : Nat → Nat} {σ : xM} {r : Nat} {x : Int32} {j : Nat} (h : kd r = 7) : wfS cs ad (x_up σ r j x) r = .inl (cs 1, ln r, .inl (upd (σ r) j x)) := by
  rw [wfS_7 h, x_up_row]
theorem ty_0_0_d : ∀ r, r < 47 → kd r = 0 → (gr r 0).all (fun b => decide (b < 47 ∧ kd b = 1)) = true := by decide
theorem ty_0_0 {r b : Nat} (h : xk 0 r) (hg : gr r 0 = some b) : xk 1 b := by
  have h1 := ty_0_0_d r h.1 h.2
  rw [hg] at h1
  show b < 47 ∧ kd b = 1
  exact of_decide_eq_true h1
theorem ty_0_1_d : ∀ r, r < 47 → kd r = 0 → (gr r 1).all (fun b => decide (b < 47 ∧ kd b = 7)) = true := by decide
theorem ty_0_1 {r b : Nat} (h : xk 0 r) (hg : gr r 1 = some b) : xk 7 b := by
  have h1 := ty_0_1_d r h.1 h.2
  rw [hg] at h1
  show b < 47 ∧ kd b = 7
  exact of_decide_eq_true h1
theorem ty_1_2_d : ∀ r, r < 47 → kd r = 1 → (gr r 2).all (fun b => decide (b < 47 ∧ kd b = 7)) = true := by decide
theorem ty_1_2 {r b : Nat} (h : xk 1 r) (hg : gr r 2 = some b) : xk 7 b := by
  have h1 := ty_1_2_d r h.1 h.2
  rw [hg] at h1
  show b < 47 ∧ kd b = 7
  exact of_decide_eq_true h1
theorem ty_2_0_d : ∀ r, r < 47 → kd r = 2 → (gr r 0).all (fun b => decide (b < 47 ∧ kd b = 9)) = true := by decide
theorem ty_2_0 {r b : Nat} (h : xk 2 r) (hg : gr r 0 = some b) : xk 9 b := by
  have h1 := ty_2_0_d r h.1 h.2
  rw [hg] at h1
  show b < 47 ∧ kd b = 9
  exact of_decide_eq_true h1
theorem ty_2_1_d : ∀ r, r < 47 → kd r = 2 → (gr r 1).all (fun b => decide (b < 47 ∧ kd b = 1)) = true := by decide
theorem ty_2_1 {r b : Nat} (h : xk 2 r) (hg : gr r 1 = some b) : xk 1 b := by
  have h1 := ty_2_1_d r h.1 h.2
  rw [hg] at h1
  show b < 47 ∧ kd b = 1
  exact of_decide_eq_true h1
theorem ty_2_2_d : ∀ r, r < 47 → kd r = 2 → (gr r 2).all (fun b => decide (b < 47 ∧ kd b = 8)) = true := by decide
theorem ty_2_2 {r b : Nat} (h : xk 2 r) (hg : gr r 2 = some b) : xk 8 b := by
  have h1 := ty_2_2_d r h.1 h.2
  rw [hg] at h1
  show b < 47 ∧ kd b = 8
  exact of_decide_eq_true h1
theorem ty_2_3_d : ∀ r, r < 47 → kd r = 2 → (gr r 3).all (fun b => decide (b < 47 ∧ kd b = 1)) = true := by decide
theorem ty_2_3 {r b : Nat} (h : xk 2 r) (hg : gr r 3 = some b) : xk 1 b := by
  have h1 := ty_2_3_d r h.1 h.2
  rw [hg] at h1
  show b < 47 ∧ kd b = 1
  exact of_decide_eq_true h1
theorem ty_9_d : ∀ r, r < 47 → kd r = 9 → ∀ k, k < 8 → (gr r k).all (fun b => decide (b < 47 ∧ kd b = 1)) = true := by decide
theorem ty_9 {r b k : Nat} (h : xk 9 r) (hg : gr r k = some b) : xk 1 b := by
  have hk : k < 8 := by
    unfold gr at hg
    rw [h.2] at hg
    by_cases hk : k < 8
    · exact hk
    · simp at hg
      omega
  have h1 := ty_9_d r h.1 h.2 k hk
  rw [hg] at h1
  show b < 47 ∧ kd b = 1
  exact of_decide_eq_true h1
theorem ty_8_d : ∀ r, r < 47 → kd r = 8 → ∀ k, k < 8 → (gr r k).all (fun b => decide (b < 47 ∧ kd b = 0)) = true := by decide
theorem ty_8 {r b k : Nat} (h : xk 8 r) (hg : gr r k = some b) : xk 0 b := by
  have hk : k < 8 := by
    unfold gr at hg
    rw [h.2] at hg
    by_cases hk : k < 8
    · exact hk
    · simp at hg
      omega
  have h1 := ty_8_d r h.1 h.2 k hk
  rw [hg] at h1
  show b < 47 ∧ kd b = 0
  exact of_decide_eq_true h1
theorem kS_0 : xk 2 0 := ⟨by decide, by decide⟩
theorem kS_1 : xk 9 1 := ⟨by decide, by decide⟩
theorem kS_2 : xk 1 2 := ⟨by decide, by decide⟩
theorem kS_3 : xk 7 3 := ⟨by decide, by decide⟩
theorem kS_4 : xk 1 4 := ⟨by decide, by decide⟩
theorem kS_5 : xk 7 5 := ⟨by decide, by decide⟩
theorem kS_6 : xk 1 6 := ⟨by decide, by decide⟩
theorem kS_7 : xk 7 7 := ⟨by decide, by decide⟩
theorem kS_8 : xk 1 8 := ⟨by decide, by decide⟩
theorem kS_9 : xk 7 9 := ⟨by decide, by decide⟩
theorem kS_10 : xk 1 10 := ⟨by decide, by decide⟩
theorem kS_11 : xk 7 11 := ⟨by decide, by decide⟩
theorem kS_12 : xk 1 12 := ⟨by decide, by decide⟩
theorem kS_13 : xk 7 13 := ⟨by decide, by decide⟩
theorem kS_14 : xk 1 14 := ⟨by decide, by decide⟩
theorem kS_15 : xk 7 15 := ⟨by decide, by decide⟩
theorem kS_16 : xk 1 16 := ⟨by decide, by decide⟩
theorem kS_17 : xk 7 17 := ⟨by decide, by decide⟩
theorem kS_18 : xk 1 18 := ⟨by decide, by decide⟩
theorem kS_19 : xk 7 19 := ⟨by decide, by decide⟩
theorem kS_20 : xk 8 20 := ⟨by decide, by decide⟩
theorem kS_21 : xk 0 21 := ⟨by decide, by decide⟩
theorem kS_22 : xk 1 22 := ⟨by decide, by decide⟩
theorem kS_23 : xk 7 23 := ⟨by decide, by decide⟩
theorem kS_24 : xk 7 24 := ⟨by decide, by decide⟩
theorem kS_25 : xk 0 25 := ⟨by decide, by decide⟩
theorem kS_26 : xk 1 26 := ⟨by decide, by decide⟩
theorem kS_27 : xk 7 27 := ⟨by decide, by decide⟩
theorem kS_28 : xk 7 28 := ⟨by decide, by decide⟩
theorem kS_29 : xk 0 29 := ⟨by decide, by decide⟩
theorem kS_30 : xk 1 30 := ⟨by decide, by decide⟩
theorem kS_31 : xk 7 31 := ⟨by decide, by decide⟩
theorem kS_32 : xk 7 32 := ⟨by decide, by decide⟩
theorem kS_33 : xk 0 33 := ⟨by decide, by decide⟩
theorem kS_34 : xk 1 34 := ⟨by decide, by decide⟩
theorem kS_35 : xk 7 35 := ⟨by decide, by decide⟩
theorem kS_36 : xk 7 36 := ⟨by decide, by decide⟩
theorem kS_37 : xk 0 37 := ⟨by decide, by decide⟩
theorem kS_38 : xk 1 38 := ⟨by decide, by decide⟩
theorem kS_39 : xk 7 39 := ⟨by decide, by decide⟩
theorem kS_40 : xk 7 40 := ⟨by decide, by decide⟩
theorem kS_41 : xk 0 41 := ⟨by decide, by decide⟩
theorem kS_42 : xk 1 42 := ⟨by decide, by decide⟩
theorem kS_43 : xk 7 43 := ⟨by decide, by decide⟩
theorem kS_44 : xk 7 44 := ⟨by decide, by decide⟩
theorem kS_45 : xk 1 45 := ⟨by decide, by decide⟩
theorem kS_46 : xk 7 46 := ⟨by decide, by decide⟩
def wfR (cs : Nat → ClassId) (ad : Nat → Nat) (σ : xM) (r : Nat) : va_E :=
  if r = 0 then .inr (5, [.ref (ad 1), .int (σ 0 1), .int (σ 0 2), .ref (ad 2), .int (σ 0 4), .int (σ 0 5), .int (σ 0 6), .ref (ad 3), .int (σ 0 8)])
  else if r = 1 then .inl (cs 1, 2506, .inl (σ 1))
  else if r = 2 then .inl (cs 1, 80, .inl (σ 2))
  else .inl (cs 1, 4, .inl (σ r))
theorem wfR_0 {cs : Nat → ClassId} {ad : Nat → Nat} {σ : xM} : wfR cs ad σ 0 = .inr (5, [.ref (ad 1), .int (σ 0 1), .int (σ 0 2), .ref (ad 2), .int (σ 0 4), .int (σ 0 5), .int (σ 0 6), .ref (ad 3), .int (σ 0 8)]) := rfl
theorem wfR_1 {cs : Nat → ClassId} {ad : Nat → Nat} {σ : xM} : wfR cs ad σ 1 = .inl (cs 1, 2506, .inl (σ 1)) := rfl
theorem wpR_1 {cs : Nat → ClassId} {ad : Nat → Nat} {σ : xM} {x : Int32} {j : Nat} : wfR cs ad (x_up σ 1 j x) 1 = .inl (cs 1, 2506, .inl (upd (σ 1) j x)) := by
  rw [wfR_1, x_up_row]
theorem wfR_2 {cs : Nat → ClassId} {ad : Nat → Nat} {σ : xM} : wfR cs ad σ 2 = .inl (cs 1, 80, .inl (σ 2)) := rfl
theorem wpR_2 {cs : Nat → ClassId} {ad : Nat → Nat} {σ : xM} {x : Int32} {j : Nat} : wfR cs ad (x_up σ 2 j x) 2 = .inl (cs 1, 80, .inl (upd (σ 2) j x)) := by
  rw [wfR_2, x_up_row]
theorem wfR_3 {cs : Nat → ClassId} {ad : Nat → Nat} {σ : xM} : wfR cs ad σ 3 = .inl (cs 1, 4, .inl (σ 3)) := rfl
theorem wpR_3 {cs : Nat → ClassId} {ad : Nat → Nat} {σ : xM} {x : Int32} {j : Nat} : wfR cs ad (x_up σ 3 j x) 3 = .inl (cs 1, 4, .inl (upd (σ 3) j x)) := by
  rw [wfR_3, x_up_row]
theorem wpR_0_1 {cs : Nat → ClassId} {ad : Nat → Nat} {σ : xM} {x : Int32} : wfR cs ad (x_up σ 0 1 x) 0 = .inr (5, ([.ref (ad 1), .int (σ 0 1), .int (σ 0 2), .ref (ad 2), .int (σ 0 4), .int (σ 0 5), .int (σ 0 6), .ref (ad 3), .int (σ 0 8)]).set 1 (.int x)) := by
  rw [wfR_0]
  simp [x_up]
theorem wpR_0_2 {cs : Nat → ClassId} {ad : Nat → Nat} {σ : xM} {x : Int32} : wfR cs ad (x_up σ 0 2 x) 0 = .inr (5, ([.ref (ad 1), .int (σ 0 1), .int (σ 0 2), .ref (ad 2), .int (σ 0 4), .int (σ 0 5), .int (σ 0 6), .ref (ad 3), .int (σ 0 8)]).set 2 (.int x)) := by
  rw [wfR_0]
  simp [x_up]
theorem wpR_0_4 {cs : Nat → ClassId} {ad : Nat → Nat} {σ : xM} {x : Int32} : wfR cs ad (x_up σ 0 4 x) 0 = .inr (5, ([.ref (ad 1), .int (σ 0 1), .int (σ 0 2), .ref (ad 2), .int (σ 0 4), .int (σ 0 5), .int (σ 0 6), .ref (ad 3), .int (σ 0 8)]).set 4 (.int x)) := by
  rw [wfR_0]
  simp [x_up]
theorem wpR_0_5 {cs : Nat → ClassId} {ad : Nat → Nat} {σ : xM} {x : Int32} : wfR cs ad (x_up σ 0 5 x) 0 = .inr (5, ([.ref (ad 1), .int (σ 0 1), .int (σ 0 2), .ref (ad 2), .int (σ 0 4), .int (σ 0 5), .int (σ 0 6), .ref (ad 3), .int (σ 0 8)]).set 5 (.int x)) := by
  rw [wfR_0]
  simp [x_up]
theorem wpR_0_6 {cs : Nat → ClassId} {ad : Nat → Nat} {σ : xM} {x : Int32} : wfR cs ad (x_up σ 0 6 x) 0 = .inr (5, ([.ref (ad 1), .int (σ 0 1), .int (σ 0 2), .ref (ad 2), .int (σ 0 4), .int (σ 0 5), .int (σ 0 6), .ref (ad 3), .int (σ 0 8)]).set 6 (.int x)) := by
  rw [wfR_0]
  simp [x_up]
theorem wpR_0_8 {cs : Nat → ClassId} {ad : Nat → Nat} {σ : xM} {x : Int32} : wfR cs ad (x_up σ 0 8 x) 0 = .inr (5, ([.ref (ad 1), .int (σ 0 1), .int (σ 0 2), .ref (ad 2), .int (σ 0 4), .int (σ 0 5), .int (σ 0 6), .ref (ad 3), .int (σ 0 8)]).set 8 (.int x)) := by
  rw [wfR_0]
  simp [x_up]
theorem wfR_loc {cs : Nat → ClassId} {ad : Nat → Nat} : x_loc (wfR cs ad) := fun σ σ' r h => by
  have e : σ r = σ' r := funext h
  unfold wfR
  by_cases h0 : r = 0
  · subst h0
    simp [e]
  · by_cases h1 : r = 1
    · subst h1
      simp [e]
    · by_cases h2 : r = 2
      · subst h2
        simp [e]
      · simp [h0, h1, h2, e]
def wf0 : xM → Nat → va_E := fun _ _ => .inr (0, [])
theorem wf0_loc : x_loc wf0 := fun _ _ _ _ => rfl
def m0 : xM := fun _ _ => 0
theorem x_rfv {o : Option Nat} : va_rf o = .null ∨ ∃ a, va_rf o = .ref a := by
  cases o with
  | none => exact Or.inl rfl
  | some a => exact Or.inr ⟨a, rfl⟩
theorem x_tI {x : Int32} {z : Int32} (h : ¬ x = z) : ¬ x.toInt = z.toInt := fun q => h (Int32.toInt_inj.mp q)
def jmax (x y : Int32) : Int32 := if x < y then y else x
def jmin (x y : Int32) : Int32 := if y < x then y else x
def jabs (x : Int32) : Int32 := if 0 ≤ x then x else 0 - x
theorem x_lk01 {x : Int32} {a b d : Int} (h0 : ¬ x = (0 : Int32)) (h1 : ¬ x = (1 : Int32)) : Op.lookupswitch.offset [(0, a), (1, b)] d x.toInt = d := by
  have e0 : ¬ (0 : Int) = x.toInt := fun q => x_tI h0 q.symm
  have e1 : ¬ (1 : Int) = x.toInt := fun q => x_tI h1 q.symm
  rw [Op.lookupswitch.offset_cons, if_neg e0, Op.lookupswitch.offset_cons, if_neg e1]
  rfl
theorem x_swo_2 {x : Int32} (h0 : ¬ x = (0 : Int32)) (h1 : ¬ x = (1 : Int32)) (h2 : ¬ x = (2 : Int32)) : x.toInt < 0 ∨ 2 < x.toInt := by
  have e0 : ¬ x.toInt = 0 := x_tI h0
  have e1 : ¬ x.toInt = 1 := x_tI h1
  have e2 : ¬ x.toInt = 2 := x_tI h2
  omega
theorem x_swo_4 {x : Int32} (h0 : ¬ x = (0 : Int32)) (h1 : ¬ x = (1 : Int32)) (h2 : ¬ x = (2 : Int32)) (h3 : ¬ x = (3 : Int32)) (h4 : ¬ x = (4 : Int32)) : x.toInt < 0 ∨ 4 < x.toInt := by
  have e0 : ¬ x.toInt = 0 := x_tI h0
  have e1 : ¬ x.toInt = 1 := x_tI h1
  have e2 : ¬ x.toInt = 2 := x_tI h2
  have e3 : ¬ x.toInt = 3 := x_tI h3
  have e4 : ¬ x.toInt = 4 := x_tI h4
  omega
theorem x_swo_5 {x : Int32} (h0 : ¬ x = (0 : Int32)) (h1 : ¬ x = (1 : Int32)) (h2 : ¬ x = (2 : Int32)) (h3 : ¬ x = (3 : Int32)) (h4 : ¬ x = (4 : Int32)) (h5 : ¬ x = (5 : Int32)) : x.toInt < 0 ∨ 5 < x.toInt := by
  have e0 : ¬ x.toInt = 0 := x_tI h0
  have e1 : ¬ x.toInt = 1 := x_tI h1
  have e2 : ¬ x.toInt = 2 := x_tI h2
  have e3 : ¬ x.toInt = 3 := x_tI h3
  have e4 : ¬ x.toInt = 4 := x_tI h4
  have e5 : ¬ x.toInt = 5 := x_tI h5
  omega
theorem x_swo_15 {x : Int32} (h0 : ¬ x = (0 : Int32)) (h1 : ¬ x = (1 : Int32)) (h2 : ¬ x = (2 : Int32)) (h3 : ¬ x = (3 : Int32)) (h4 : ¬ x = (4 : Int32)) (h5 : ¬ x = (5 : Int32)) (h6 : ¬ x = (6 : Int32)) (h7 : ¬ x = (7 : Int32)) (h8 : ¬ x = (8 : Int32)) (h9 : ¬ x = (9 : Int32)) (h10 : ¬ x = (10 : Int32)) (h11 : ¬ x = (11 : Int32)) (h12 : ¬ x = (12 : Int32)) (h13 : ¬ x = (13 : Int32)) (h14 : ¬ x = (14 : Int32)) (h15 : ¬ x = (15 : Int32)) : x.toInt < 0 ∨ 15 < x.toInt := by
  have e0 : ¬ x.toInt = 0 := x_tI h0
  have e1 : ¬ x.toInt = 1 := x_tI h1
  have e2 : ¬ x.toInt = 2 := x_tI h2
  have e3 : ¬ x.toInt = 3 := x_tI h3
  have e4 : ¬ x.toInt = 4 := x_tI h4
  have e5 : ¬ x.toInt = 5 := x_tI h5
  have e6 : ¬ x.toInt = 6 := x_tI h6
  have e7 : ¬ x.toInt = 7 := x_tI h7
  have e8 : ¬ x.toInt = 8 := x_tI h8
  have e9 : ¬ x.toInt = 9 := x_tI h9
  have e10 : ¬ x.toInt = 10 := x_tI h10
  have e11 : ¬ x.toInt = 11 := x_tI h11
  have e12 : ¬ x.toInt = 12 := x_tI h12
  have e13 : ¬ x.toInt = 13 := x_tI h13
  have e14 : ¬ x.toInt = 14 := x_tI h14
  have e15 : ¬ x.toInt = 15 := x_tI h15
  omega
theorem x_swo_16 {x : Int32} (h0 : ¬ x = (0 : Int32)) (h1 : ¬ x = (1 : Int32)) (h2 : ¬ x = (2 : Int32)) (h3 : ¬ x = (3 : Int32)) (h4 : ¬ x = (4 : Int32)) (h5 : ¬ x = (5 : Int32)) (h6 : ¬ x = (6 : Int32)) (h7 : ¬ x = (7 : Int32)) (h8 : ¬ x = (8 : Int32)) (h9 : ¬ x = (9 : Int32)) (h10 : ¬ x = (10 : Int32)) (h11 : ¬ x = (11 : Int32)) (h12 : ¬ x = (12 : Int32)) (h13 : ¬ x = (13 : Int32)) (h14 : ¬ x = (14 : Int32)) (h15 : ¬ x = (15 : Int32)) (h16 : ¬ x = (16 : Int32)) : x.toInt < 0 ∨ 16 < x.toInt := by
  have e0 : ¬ x.toInt = 0 := x_tI h0
  have e1 : ¬ x.toInt = 1 := x_tI h1
  have e2 : ¬ x.toInt = 2 := x_tI h2
  have e3 : ¬ x.toInt = 3 := x_tI h3
  have e4 : ¬ x.toInt = 4 := x_tI h4
  have e5 : ¬ x.toInt = 5 := x_tI h5
  have e6 : ¬ x.toInt = 6 := x_tI h6
  have e7 : ¬ x.toInt = 7 := x_tI h7
  have e8 : ¬ x.toInt = 8 := x_tI h8
  have e9 : ¬ x.toInt = 9 := x_tI h9
  have e10 : ¬ x.toInt = 10 := x_tI h10
  have e11 : ¬ x.toInt = 11 := x_tI h11
  have e12 : ¬ x.toInt = 12 := x_tI h12
  have e13 : ¬ x.toInt = 13 := x_tI h13
  have e14 : ¬ x.toInt = 14 := x_tI h14
  have e15 : ¬ x.toInt = 15 := x_tI h15
  have e16 : ¬ x.toInt = 16 := x_tI h16
  omega
theorem x_swo_24 {x : Int32} (h0 : ¬ x = (0 : Int32)) (h1 : ¬ x = (1 : Int32)) (h2 : ¬ x = (2 : Int32)) (h3 : ¬ x = (3 : Int32)) (h4 : ¬ x = (4 : Int32)) (h5 : ¬ x = (5 : Int32)) (h6 : ¬ x = (6 : Int32)) (h7 : ¬ x = (7 : Int32)) (h8 : ¬ x = (8 : Int32)) (h9 : ¬ x = (9 : Int32)) (h10 : ¬ x = (10 : Int32)) (h11 : ¬ x = (11 : Int32)) (h12 : ¬ x = (12 : Int32)) (h13 : ¬ x = (13 : Int32)) (h14 : ¬ x = (14 : Int32)) (h15 : ¬ x = (15 : Int32)) (h16 : ¬ x = (16 : Int32)) (h17 : ¬ x = (17 : Int32)) (h18 : ¬ x = (18 : Int32)) (h19 : ¬ x = (19 : Int32)) (h20 : ¬ x = (20 : Int32)) (h21 : ¬ x = (21 : Int32)) (h22 : ¬ x = (22 : Int32)) (h23 : ¬ x = (23 : Int32)) (h24 : ¬ x = (24 : Int32)) : x.toInt < 0 ∨ 24 < x.toInt := by
  have e0 : ¬ x.toInt = 0 := x_tI h0
  have e1 : ¬ x.toInt = 1 := x_tI h1
  have e2 : ¬ x.toInt = 2 := x_tI h2
  have e3 : ¬ x.toInt = 3 := x_tI h3
  have e4 : ¬ x.toInt = 4 := x_tI h4
  have e5 : ¬ x.toInt = 5 := x_tI h5
  have e6 : ¬ x.toInt = 6 := x_tI h6
  have e7 : ¬ x.toInt = 7 := x_tI h7
  have e8 : ¬ x.toInt = 8 := x_tI h8
  have e9 : ¬ x.toInt = 9 := x_tI h9
  have e10 : ¬ x.toInt = 10 := x_tI h10
  have e11 : ¬ x.toInt = 11 := x_tI h11
  have e12 : ¬ x.toInt = 12 := x_tI h12
  have e13 : ¬ x.toInt = 13 := x_tI h13
  have e14 : ¬ x.toInt = 14 := x_tI h14
  have e15 : ¬ x.toInt = 15 := x_tI h15
  have e16 : ¬ x.toInt = 16 := x_tI h16
  have e17 : ¬ x.toInt = 17 := x_tI h17
  have e18 : ¬ x.toInt = 18 := x_tI h18
  have e19 : ¬ x.toInt = 19 := x_tI h19
  have e20 : ¬ x.toInt = 20 := x_tI h20
  have e21 : ¬ x.toInt = 21 := x_tI h21
  have e22 : ¬ x.toInt = 22 := x_tI h22
  have e23 : ¬ x.toInt = 23 := x_tI h23
  have e24 : ¬ x.toInt = 24 := x_tI h24
  omega
