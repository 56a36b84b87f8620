def F_X1_holds (n : Nat) (σ : xM) (r : Nat) (x1 : Int32) (x2 : Int32) : Option Int32 :=
  if x1 < (0 : Int32) then (some (0 : Int32)) else (if x1 < (σ r 3) then (if x2 < (0 : Int32) then (some (0 : Int32)) else (if x2 < (σ r 1) then (some (1 : Int32)) else (some (0 : Int32)))) else (some (0 : Int32)))
def F_X1_get (n : Nat) (σ : xM) (r : Nat) (x1 : Int32) (x2 : Int32) : Option Int32 :=
  (F_X1_holds n σ r x1 x2).bind fun q1 => if q1 = (0 : Int32) then (some (-100005 : Int32)) else ((gr r 2).bind fun c2 => if ((x1 * (σ r 1)) + x2) < 0 ∨ ln c2 ≤ ((x1 * (σ r 1)) + x2).toNatClampNeg then none else some (σ c2 ((x1 * (σ r 1)) + x2).toNatClampNeg))
def F_X1_put (n : Nat) (σ : xM) (r : Nat) (x1 : Int32) (x2 : Int32) (x3 : Int32) : Option xM :=
  (F_X1_holds n σ r x1 x2).bind fun q1 => if q1 = (0 : Int32) then (some σ) else ((gr r 2).bind fun c2 => if ((x1 * (σ r 1)) + x2) < 0 ∨ ln c2 ≤ ((x1 * (σ r 1)) + x2).toNatClampNeg then none else let m3 := x_up σ c2 ((x1 * (σ r 1)) + x2).toNatClampNeg x3; some m3)
def B_X1_find_2 (n : Nat) (σ : xM) (r : Nat) : Nat → Int32 → Int32 → Option Int32
  | 0, _, _ => none
  | f + 1, l1, l2 => if l2 < (σ r 3) then ((gr r 2).bind fun c1 => if (l2 * (σ r 1)) < 0 ∨ ln c1 ≤ (l2 * (σ r 1)).toNatClampNeg then none else if (σ c1 (l2 * (σ r 1)).toNatClampNeg) = l1 then (some l2) else (B_X1_find_2 n σ r f l1 (l2 + (1 : Int32)))) else (some (-100005 : Int32))
def F_X1_find (n : Nat) (σ : xM) (r : Nat) (x1 : Int32) : Option Int32 :=
  B_X1_find_2 n σ r n x1 ((0 : Int32))
def B_X1_touch_40 (n : Nat) (r : Nat) (K15 : xM → Int32 → Int32 → Option xM) : Nat → xM → Int32 → Int32 → Int32 → Int32 → Option xM
  | 0, _, _, _, _, _ => none
  | f + 1, σ, l1, l2, l3, l4 => if (l4 + (1 : Int32)) < (σ r 3) then ((gr r 2).bind fun c2 => (gr r 2).bind fun c3 => if (((l4 + (1 : Int32)) * (σ r 1)) + l2) < 0 ∨ ln c3 ≤ (((l4 + (1 : Int32)) * (σ r 1)) + l2).toNatClampNeg then none else if ((l4 * (σ r 1)) + l2) < 0 ∨ ln c2 ≤ ((l4 * (σ r 1)) + l2).toNatClampNeg then none else let m4 := x_up σ c2 ((l4 * (σ r 1)) + l2).toNatClampNeg (σ c3 (((l4 + (1 : Int32)) * (σ r 1)) + l2).toNatClampNeg); B_X1_touch_40 n r K15 f m4 l1 l2 l3 (l4 + (1 : Int32))) else ((gr r 2).bind fun c5 => if ((((σ r 3) - (1 : Int32)) * (σ r 1)) + l2) < 0 ∨ ln c5 ≤ ((((σ r 3) - (1 : Int32)) * (σ r 1)) + l2).toNatClampNeg then none else let m6 := x_up σ c5 ((((σ r 3) - (1 : Int32)) * (σ r 1)) + l2).toNatClampNeg l3; K15 m6 l1 (l2 + (1 : Int32)))
def B_X1_touch_15 (n : Nat) (r : Nat) : Nat → xM → Int32 → Int32 → Option xM
  | 0, _, _, _ => none
  | f + 1, σ, l1, l2 => if l2 < (σ r 1) then ((gr r 2).bind fun c1 => if ((l1 * (σ r 1)) + l2) < 0 ∨ ln c1 ≤ ((l1 * (σ r 1)) + l2).toNatClampNeg then none else B_X1_touch_40 n r (fun σ l1 l2 => B_X1_touch_15 n r f σ l1 l2) n σ l1 l2 ((σ c1 ((l1 * (σ r 1)) + l2).toNatClampNeg)) l1) else (some σ)
def F_X1_touch (n : Nat) (σ : xM) (r : Nat) (x1 : Int32) : Option xM :=
  if x1 < (0 : Int32) then (some σ) else (if x1 < (σ r 3) then (B_X1_touch_15 n r n σ x1 ((0 : Int32))) else (some σ))
def F_X1_remove (n : Nat) (σ : xM) (r : Nat) (x1 : Int32) : Option xM :=
  if x1 < (0 : Int32) then (some σ) else (if x1 < (σ r 3) then ((F_X1_touch n σ r x1).bind fun q1 => let m2 := x_up q1 r 3 ((q1 r 3) - (1 : Int32)); some m2) else (some σ))
def B_X1_open_32 (n : Nat) (r : Nat) (σ : xM) : Option (Int32 × xM) :=
  (F_X1_touch n σ r (0 : Int32)).bind fun q2 => some (((q2 r 3) - (1 : Int32)), q2)
def F_X1_open (n : Nat) (σ : xM) (r : Nat) (x1 : Int32) : Option (Int32 × xM) :=
  if (σ r 3) < x1 then (if (σ r 3) < (σ r 0) then (let m1 := x_up σ r 3 ((σ r 3) + (1 : Int32)); some (((m1 r 3) - (1 : Int32)), m1)) else (B_X1_open_32 n r σ)) else (B_X1_open_32 n r σ)
def F_X0_begin (n : Nat) (σ : xM) (r : Nat) (x1 : Int32) (x2 : Int32) (x3 : Int32) : Option xM :=
  let m1 := x_up σ r 3 x1; let m2 := x_up m1 r 4 x2; let m3 := x_up m2 r 5 x3; let m4 := x_up m3 r 6 (0 : Int32); let m5 := x_up m4 r 7 (0 : Int32); let m6 := x_up m5 r 8 (0 : Int32); let m7 := x_up m6 r 9 (0 : Int32); let m8 := x_up m7 r 10 (0 : Int32); let m9 := x_up m8 r 11 (0 : Int32); let m10 := x_up m9 r 12 (0 : Int32); let m11 := x_up m10 r 13 (0 : Int32); let m12 := x_up m11 r 14 (0 : Int32); let m13 := x_up m12 r 15 (0 : Int32); let m14 := x_up m13 r 2 (0 : Int32); (gr r 0).bind fun c15 => let m16 := x_up m14 c15 3 (0 : Int32); some m16
def F_X0_reach (n : Nat) (σ : xM) (r : Nat) : Option Int32 :=
  if (σ r 6) = (0 : Int32) then (some (σ r 4)) else if (σ r 6) = (1 : Int32) then (some (1 : Int32)) else (some (0 : Int32))
def F_X0_sentence (n : Nat) (σ : xM) (r : Nat) (x1 : Int32) : Option xM :=
  let m1 := x_up σ r 7 ((σ r 7) + x1); let m2 := x_up m1 r 6 (2 : Int32); let m3 := x_up m2 r 8 (0 : Int32); some m3
def F_X0_workOneHour (n : Nat) (σ : xM) (r : Nat) (x1 : Int32) : Option xM :=
  if (σ r 6) = (2 : Int32) then (let m1 := x_up σ r 7 ((σ r 7) - (1 : Int32)); let m2 := x_up m1 r 13 ((m1 r 13) + (1 : Int32)); if (m2 r 7) < (1 : Int32) then (let m3 := x_up m2 r 6 (1 : Int32); let m4 := x_up m3 r 8 x1; let m5 := x_up m4 r 15 ((m4 r 15) + (1 : Int32)); some m5) else (some m2)) else (some σ)
def F_X0_lineWasUsed (n : Nat) (σ : xM) (r : Nat) : Option xM :=
  let m1 := x_up σ r 10 ((σ r 10) + (1 : Int32)); if (m1 r 6) = (1 : Int32) then (let m2 := x_up m1 r 8 ((m1 r 8) - (1 : Int32)); if (m2 r 8) < (1 : Int32) then (let m3 := x_up m2 r 8 (0 : Int32); let m4 := x_up m3 r 6 (0 : Int32); some m4) else (some m2)) else (some m1)
def F_X0_release (n : Nat) (σ : xM) (r : Nat) : Option (Int32 × xM) :=
  let m1 := x_up σ r 14 ((σ r 14) + (σ r 7)); let m2 := x_up m1 r 7 (0 : Int32); let m3 := x_up m2 r 8 (0 : Int32); let m4 := x_up m3 r 6 (0 : Int32); some ((σ r 7), m4)
def F_X0_addRow (n : Nat) (σ : xM) (r : Nat) (x1 : Int32) (x2 : Int32) (x3 : Int32) : Option xM :=
  (gr r 0).bind fun c1 => (F_X1_open n σ c1 x1).bind fun q2 => (gr r 0).bind fun c3 => (F_X1_put n q2.2 c3 q2.1 (0 : Int32) x2).bind fun q4 => (gr r 0).bind fun c5 => (F_X1_put n q4 c5 q2.1 (1 : Int32) x3).bind fun q6 => (gr r 0).bind fun c7 => (F_X1_put n q6 c7 q2.1 (2 : Int32) (0 : Int32)).bind fun q8 => (gr r 0).bind fun c9 => (F_X1_put n q8 c9 q2.1 (3 : Int32) (0 : Int32)).bind fun q10 => some q10
def F_X4_isOutside (x0 : Int32) (x1 : Int32) (x2 : Int32) : Int32 :=
  if x0 < x1 then ((1 : Int32)) else (if x2 < x0 then ((1 : Int32)) else ((0 : Int32)))
def B_X0_wish_67 (n : Nat) (r : Nat) (K8 : xM → Int32 → Int32 → Int32 → Int32 → Option xM) (σ : xM) (l1 : Int32) (l2 : Int32) (l3 : Int32) (l4 : Int32) : Option xM :=
  K8 σ l1 l2 l3 (l4 + (1 : Int32))
def B_X0_wish_8 (n : Nat) (r : Nat) : Nat → xM → Int32 → Int32 → Int32 → Int32 → Option xM
  | 0, _, _, _, _, _ => none
  | f + 1, σ, l1, l2, l3, l4 => if l3 < l4 then (some σ) else ((gr r 1).bind fun c2 => if (σ r 2) < (Int32.ofNat (ln c2)) then (if (F_X4_isOutside (l1 + (l4 * l2)) (0 : Int32) (9999 : Int32)) = (0 : Int32) then ((gr r 1).bind fun c3 => if (σ r 2) < 0 ∨ ln c3 ≤ (σ r 2).toNatClampNeg then none else let m4 := x_up σ c3 (σ r 2).toNatClampNeg (l1 + (l4 * l2)); let m5 := x_up m4 r 2 ((m4 r 2) + (1 : Int32)); B_X0_wish_67 n r (fun σ l1 l2 l3 l4 => B_X0_wish_8 n r f σ l1 l2 l3 l4) m5 l1 l2 l3 l4) else (B_X0_wish_67 n r (fun σ l1 l2 l3 l4 => B_X0_wish_8 n r f σ l1 l2 l3 l4) σ l1 l2 l3 l4)) else (some σ))
def F_X0_wish (n : Nat) (σ : xM) (r : Nat) (x1 : Int32) (x2 : Int32) : Option xM :=
  (F_X0_reach n σ r).bind fun q1 => B_X0_wish_8 n r n σ x1 x2 q1 ((1 : Int32))
def F_X0_updateRow (n : Nat) (σ : xM) (r : Nat) (x1 : Int32) (x2 : Int32) (x3 : Int32) (x4 : Int32) : Option xM :=
  (gr r 0).bind fun c1 => (F_X1_put n σ c1 x1 (1 : Int32) x2).bind fun q2 => (gr r 0).bind fun c3 => (F_X1_put n q2 c3 x1 (2 : Int32) x3).bind fun q4 => (gr r 0).bind fun c5 => (F_X1_put n q4 c5 x1 (3 : Int32) x4).bind fun q6 => (gr r 0).bind fun c7 => (F_X1_touch n q6 c7 x1).bind fun q8 => if x4 < (2 : Int32) then (some q8) else ((F_X0_wish n q8 r x2 x3).bind fun q9 => some q9)
def B_X0_learnStride_105 (n : Nat) (r : Nat) (σ : xM) (l2 : Int32) (l3 : Int32) (l5 : Int32) (l6 : Int32) : Option xM :=
  (F_X0_updateRow n σ r l3 l2 l5 l6).bind fun q10 => some q10
def B_X0_learnStride_103 (n : Nat) (r : Nat) (σ : xM) (l2 : Int32) (l3 : Int32) (l6 : Int32) (s0 : Int32) : Option xM :=
  B_X0_learnStride_105 n r σ l2 l3 s0 l6
def B_X0_learnStride_81 (n : Nat) (r : Nat) (σ : xM) (l2 : Int32) (l3 : Int32) (l4 : Int32) (l5 : Int32) (l6 : Int32) : Option xM :=
  if (jmax (0 : Int32) (l6 - (1 : Int32))) = (0 : Int32) then (B_X0_learnStride_103 n r σ l2 l3 ((jmax (0 : Int32) (l6 - (1 : Int32)))) (l4)) else (B_X0_learnStride_103 n r σ l2 l3 ((jmax (0 : Int32) (l6 - (1 : Int32)))) (l5))
def F_X0_learnStride (n : Nat) (σ : xM) (r : Nat) (x1 : Int32) (x2 : Int32) : Option xM :=
  (gr r 0).bind fun c1 => (F_X1_find n σ c1 x1).bind fun q2 => if q2 < (0 : Int32) then ((F_X0_addRow n σ r (4 : Int32) x1 x2).bind fun q3 => some q3) else ((gr r 0).bind fun c4 => (F_X1_get n σ c4 q2 (1 : Int32)).bind fun q5 => (gr r 0).bind fun c6 => (F_X1_get n σ c6 q2 (2 : Int32)).bind fun q7 => (gr r 0).bind fun c8 => (F_X1_get n σ c8 q2 (3 : Int32)).bind fun q9 => if (x2 - q5) = q7 then (if (x2 - q5) = (0 : Int32) then (B_X0_learnStride_81 n r σ x2 q2 ((x2 - q5)) q7 q9) else (B_X0_learnStride_105 n r σ x2 q2 q7 ((jmin (3 : Int32) (q9 + (1 : Int32)))))) else (B_X0_learnStride_81 n r σ x2 q2 ((x2 - q5)) q7 q9))
def B_X0_streamNear_41 (n : Nat) (σ : xM) (r : Nat) (K10 : Int32 → Int32 → Option Int32) (l1 : Int32) (l2 : Int32) : Option Int32 :=
  K10 l1 (l2 + (-1))
def B_X0_streamNear_10 (n : Nat) (σ : xM) (r : Nat) : Nat → Int32 → Int32 → Option Int32
  | 0, _, _ => none
  | f + 1, l1, l2 => if l2 < (0 : Int32) then (some (-100005 : Int32)) else ((gr r 0).bind fun c2 => (F_X1_get n σ c2 l2 (1 : Int32)).bind fun q3 => if (jabs (l1 - q3)) < (1 : Int32) then (B_X0_streamNear_41 n σ r (fun l1 l2 => B_X0_streamNear_10 n σ r f l1 l2) l1 l2) else (if (4 : Int32) < (jabs (l1 - q3)) then (B_X0_streamNear_41 n σ r (fun l1 l2 => B_X0_streamNear_10 n σ r f l1 l2) l1 l2) else (some l2)))
def F_X0_streamNear (n : Nat) (σ : xM) (r : Nat) (x1 : Int32) : Option Int32 :=
  (gr r 0).bind fun c1 => B_X0_streamNear_10 n σ r n x1 (((σ c1 3) - (1 : Int32)))
def B_X0_learnStream_72 (n : Nat) (r : Nat) (σ : xM) (l1 : Int32) (l2 : Int32) (l3 : Int32) (l4 : Int32) : Option xM :=
  (F_X0_updateRow n σ r l2 l1 l3 l4).bind fun q9 => some q9
def B_X0_learnStream_37 (n : Nat) (r : Nat) (σ : xM) (l1 : Int32) (l2 : Int32) (s0 : Int32) : Option xM :=
  (gr r 0).bind fun c5 => (F_X1_get n σ c5 l2 (2 : Int32)).bind fun q6 => if s0 = q6 then ((gr r 0).bind fun c7 => (F_X1_get n σ c7 l2 (3 : Int32)).bind fun q8 => B_X0_learnStream_72 n r σ l1 l2 s0 ((jmin (9 : Int32) (q8 + (1 : Int32))))) else (B_X0_learnStream_72 n r σ l1 l2 s0 ((1 : Int32)))
def F_X0_learnStream (n : Nat) (σ : xM) (r : Nat) (x1 : Int32) : Option xM :=
  (F_X0_streamNear n σ r x1).bind fun q1 => if q1 < (0 : Int32) then ((F_X0_addRow n σ r (3 : Int32) (-100005 : Int32) x1).bind fun q2 => some q2) else ((gr r 0).bind fun c3 => (F_X1_get n σ c3 q1 (1 : Int32)).bind fun q4 => if q4 < x1 then (B_X0_learnStream_37 n r σ x1 q1 ((1 : Int32))) else (B_X0_learnStream_37 n r σ x1 q1 ((-1 : Int32))))
def F_X0_learn (n : Nat) (σ : xM) (r : Nat) (x1 : Int32) (x2 : Int32) (x3 : Int32) : Option xM :=
  let m1 := x_up σ r 2 (0 : Int32); if (m1 r 3) = (0 : Int32) then ((F_X0_learnStride n m1 r x1 x2).bind fun q2 => some q2) else if (m1 r 3) = (1 : Int32) then (if x3 = (1 : Int32) then (some m1) else ((F_X0_learnStream n m1 r x2).bind fun q3 => some q3)) else (if x3 = (0 : Int32) then ((F_X0_wish n m1 r x2 (1 : Int32)).bind fun q4 => some q4) else (some m1))
def F_X0_wishAt (n : Nat) (σ : xM) (r : Nat) (x1 : Int32) : Option Int32 :=
  if x1 < (0 : Int32) then (some (-100005 : Int32)) else (if x1 < (σ r 2) then ((gr r 1).bind fun c1 => if x1 < (Int32.ofNat (ln c1)) then ((gr r 1).bind fun c2 => if x1 < 0 ∨ ln c2 ≤ x1.toNatClampNeg then none else some (σ c2 x1.toNatClampNeg)) else (some (-100005 : Int32))) else (some (-100005 : Int32)))
def B_X2_setAt_19 (n : Nat) (σ : xM) (s1 : Int32) : Option (Option Nat) :=
  if s1 < 0 ∨ 8 ≤ s1.toNatClampNeg then none else some (gr 1 s1.toNatClampNeg)
def F_X2_setAt (n : Nat) (σ : xM) (x1 : Int32) : Option (Option Nat) :=
  if (F_X4_isOutside x1 (0 : Int32) (7 : Int32)) = (0 : Int32) then (B_X2_setAt_19 n σ (x1)) else (B_X2_setAt_19 n σ ((0 : Int32)))
def B_X2_setOf_18 (n : Nat) (σ : xM) (s1 : Int32) : Option (Option Nat) :=
  (F_X2_setAt n σ s1).bind fun q1 => some q1
def F_X2_setOf (n : Nat) (σ : xM) (x1 : Int32) : Option (Option Nat) :=
  if (0 : Int32) < (σ 0 4) then (if (σ 0 4) = (0 : Int32) then none else B_X2_setOf_18 n σ ((x_rem x1 (σ 0 4)))) else (B_X2_setOf_18 n σ ((0 : Int32)))
def F_X2_helperAt (n : Nat) (σ : xM) (x1 : Int32) : Option (Option Nat) :=
  if (F_X4_isOutside x1 (0 : Int32) ((jmin (σ 0 6) (6 : Int32)) - (1 : Int32))) = (0 : Int32) then (if x1 < 0 ∨ 6 ≤ x1.toNatClampNeg then none else some (gr 20 x1.toNatClampNeg)) else (some none)
def F_X2_hire (n : Nat) (σ : xM) (x1 : Int32) (x2 : Int32) (x3 : Int32) : Option (Int32 × xM) :=
  if (F_X4_isOutside (σ 0 6) (0 : Int32) (5 : Int32)) = (0 : Int32) then (if (σ 0 6) < 0 ∨ 6 ≤ (σ 0 6).toNatClampNeg then none else (gr 20 (σ 0 6).toNatClampNeg).bind fun c1 => (F_X0_begin n σ c1 x1 x2 x3).bind fun q2 => let m3 := x_up q2 0 6 ((q2 0 6) + (1 : Int32)); some (((m3 0 6) - (1 : Int32)), m3)) else (some ((-100003 : Int32), σ))
def F_X2_punishThrower (n : Nat) (σ : xM) (x1 : Int32) : Option xM :=
  (F_X1_find n σ 18 x1).bind fun q1 => (F_X1_get n σ 18 q1 (1 : Int32)).bind fun q2 => (F_X2_helperAt n σ q2).bind fun q3 => x_opt q3 (some σ) (fun c4 => let m5 := x_up σ c4 12 ((σ c4 12) + (1 : Int32)); (F_X0_sentence n m5 c4 (2 : Int32)).bind fun q6 => some q6)
def B_X2_throwOldest_34 (n : Nat) (σ : xM) (a1 : Nat) (l2 : Int32) (l3 : Int32) (a4 : Nat) (s0 : Int32) : Option xM :=
  (F_X1_remove n σ a1 (0 : Int32)).bind fun q12 => (F_X1_open n q12 18 (8 : Int32)).bind fun q13 => (F_X1_put n q13.2 18 q13.1 (0 : Int32) l3).bind fun q14 => (F_X1_put n q14 18 q13.1 (1 : Int32) l2).bind fun q15 => let m16 := x_up q15 0 12 ((q15 0 12) + (1 : Int32)); if s0 = (0 : Int32) then (some m16) else (let m17 := x_up m16 a4 11 ((m16 a4 11) + (1 : Int32)); (F_X0_sentence n m17 a4 (m17 a4 5)).bind fun q18 => some q18)
def B_X2_throwOldest_34n4 (n : Nat) (σ : xM) (a1 : Nat) (l2 : Int32) (l3 : Int32) (s0 : Int32) : Option xM :=
  (F_X1_remove n σ a1 (0 : Int32)).bind fun q7 => (F_X1_open n q7 18 (8 : Int32)).bind fun q8 => (F_X1_put n q8.2 18 q8.1 (0 : Int32) l3).bind fun q9 => (F_X1_put n q9 18 q8.1 (1 : Int32) l2).bind fun q10 => let m11 := x_up q10 0 12 ((q10 0 12) + (1 : Int32)); if s0 = (0 : Int32) then (some m11) else (some m11)
def F_X2_throwOldest (n : Nat) (σ : xM) (a1 : Nat) (x2 : Int32) : Option xM :=
  (F_X1_get n σ a1 (0 : Int32) (0 : Int32)).bind fun q1 => (F_X1_get n σ a1 (0 : Int32) (1 : Int32)).bind fun q2 => (F_X2_helperAt n σ q2).bind fun q3 => x_opt q3 ((F_X1_get n σ a1 (0 : Int32) (2 : Int32)).bind fun q5 => if q5 = (1 : Int32) then (B_X2_throwOldest_34n4 n σ a1 x2 q1 ((1 : Int32))) else (B_X2_throwOldest_34n4 n σ a1 x2 q1 ((0 : Int32)))) (fun c4 => (F_X1_get n σ a1 (0 : Int32) (2 : Int32)).bind fun q6 => if q6 = (1 : Int32) then (B_X2_throwOldest_34 n σ a1 x2 q1 c4 ((1 : Int32))) else (B_X2_throwOldest_34 n σ a1 x2 q1 c4 ((0 : Int32))))
def B_X2_fetch_79 (n : Nat) (σ : xM) (b0 : Nat) (s1 : Int32) (s2 : Int32) (s3 : Int32) : Option xM :=
  (F_X1_put n σ b0 s1 s2 s3).bind fun q9 => some q9
def B_X2_fetch_38 (n : Nat) (σ : xM) (l1 : Int32) (l2 : Int32) (a3 : Nat) : Option xM :=
  (F_X1_open n σ a3 (σ 0 5)).bind fun q6 => (F_X1_put n q6.2 a3 q6.1 (0 : Int32) l1).bind fun q7 => (F_X1_put n q7 a3 q6.1 (1 : Int32) l2).bind fun q8 => if l2 = (-100005 : Int32) then (B_X2_fetch_79 n q8 a3 (q6.1) ((2 : Int32)) ((0 : Int32))) else (B_X2_fetch_79 n q8 a3 (q6.1) ((2 : Int32)) ((1 : Int32)))
def F_X2_fetch (n : Nat) (σ : xM) (x1 : Int32) (x2 : Int32) : Option xM :=
  (F_X1_find n σ 18 x1).bind fun q1 => (F_X1_remove n σ 18 q1).bind fun q2 => (F_X2_setOf n q2 x1).bind fun q3 => (q3).bind fun c4 => if (q2 c4 3) < (q2 0 5) then (B_X2_fetch_38 n q2 x1 x2 c4) else ((F_X2_throwOldest n q2 c4 x2).bind fun q5 => B_X2_fetch_38 n q5 x1 x2 c4)
def B_X2_serve_86 (n : Nat) (σ : xM) (l4 : Int32) : Option (Int32 × xM) :=
  if l4 = (0 : Int32) then (some ((1 : Int32), σ)) else (some ((2 : Int32), σ))
def B_X2_serve_45 (n : Nat) (σ : xM) (a2 : Nat) (l3 : Int32) (s0 : Int32) : Option (Int32 × xM) :=
  (F_X1_get n σ a2 l3 (1 : Int32)).bind fun q7 => (F_X2_helperAt n σ q7).bind fun q8 => x_opt q8 ((F_X1_put n σ a2 l3 (2 : Int32) (0 : Int32)).bind fun q10 => (F_X1_touch n q10 a2 l3).bind fun q11 => if s0 = (0 : Int32) then (B_X2_serve_86 n q11 s0) else (B_X2_serve_86 n q11 s0)) (fun c9 => (F_X1_put n σ a2 l3 (2 : Int32) (0 : Int32)).bind fun q12 => (F_X1_touch n q12 a2 l3).bind fun q13 => if s0 = (0 : Int32) then (B_X2_serve_86 n q13 s0) else ((F_X0_lineWasUsed n q13 c9).bind fun q14 => B_X2_serve_86 n q14 s0))
def F_X2_serve (n : Nat) (σ : xM) (x1 : Int32) : Option (Int32 × xM) :=
  (F_X2_setOf n σ x1).bind fun q1 => (q1).bind fun c2 => (F_X1_find n σ c2 x1).bind fun q3 => if q3 < (0 : Int32) then ((F_X2_punishThrower n σ x1).bind fun q4 => (F_X2_fetch n q4 x1 (-100005 : Int32)).bind fun q5 => some ((0 : Int32), q5)) else ((F_X1_get n σ c2 q3 (2 : Int32)).bind fun q6 => if q6 = (1 : Int32) then (B_X2_serve_45 n σ c2 q3 ((1 : Int32))) else (B_X2_serve_45 n σ c2 q3 ((0 : Int32))))
def B_X2_fetchWishes_54 (n : Nat) (K12 : xM → Int32 → Nat → Int32 → Int32 → Option (Int32 × xM)) (σ : xM) (l1 : Int32) (a2 : Nat) (l3 : Int32) (l4 : Int32) : Option (Int32 × xM) :=
  K12 σ l1 a2 l3 (l4 + (1 : Int32))
def B_X2_fetchWishes_12 (n : Nat) : Nat → xM → Int32 → Nat → Int32 → Int32 → Option (Int32 × xM)
  | 0, _, _, _, _, _ => none
  | f + 1, σ, l1, a2, l3, l4 => if l4 < (σ a2 2) then ((gr a2 1).bind fun c2 => if l4 < 0 ∨ ln c2 ≤ l4.toNatClampNeg then none else (F_X2_setOf n σ (σ c2 l4.toNatClampNeg)).bind fun q3 => (q3).bind fun c4 => (F_X1_find n σ c4 (σ c2 l4.toNatClampNeg)).bind fun q5 => if q5 < (0 : Int32) then ((F_X2_fetch n σ (σ c2 l4.toNatClampNeg) l1).bind fun q6 => B_X2_fetchWishes_54 n (fun σ l1 a2 l3 l4 => B_X2_fetchWishes_12 n f σ l1 a2 l3 l4) q6 l1 a2 (l3 + (1 : Int32)) l4) else (B_X2_fetchWishes_54 n (fun σ l1 a2 l3 l4 => B_X2_fetchWishes_12 n f σ l1 a2 l3 l4) σ l1 a2 l3 l4)) else (let m7 := x_up σ a2 9 ((σ a2 9) + l3); some (l3, m7))
def F_X2_fetchWishes (n : Nat) (σ : xM) (x1 : Int32) : Option (Int32 × xM) :=
  if x1 < 0 ∨ 6 ≤ x1.toNatClampNeg then none else (gr 20 x1.toNatClampNeg).bind fun c1 => B_X2_fetchWishes_12 n n σ x1 c1 ((0 : Int32)) ((0 : Int32))
def F_X2_writeLog (n : Nat) (σ : xM) (x1 : Int32) (x2 : Int32) (x3 : Int32) (x4 : Int32) : Option xM :=
  (F_X1_open n σ 45 (12 : Int32)).bind fun q1 => (F_X1_put n q1.2 45 q1.1 (0 : Int32) x1).bind fun q2 => (F_X1_put n q2 45 q1.1 (1 : Int32) x2).bind fun q3 => (F_X1_put n q3 45 q1.1 (2 : Int32) x3).bind fun q4 => (F_X1_put n q4 45 q1.1 (3 : Int32) x4).bind fun q5 => (F_X1_put n q5 45 q1.1 (4 : Int32) (q5 0 8)).bind fun q6 => some q6
def B_X2_perform_124 (n : Nat) (σ : xM) (l3 : Int32) : Option (Int32 × xM) :=
  if l3 = (2 : Int32) then (let m11 := x_up σ 0 10 ((σ 0 10) + (1 : Int32)); some (l3, m11)) else (some (l3, σ))
def B_X2_perform_41 (n : Nat) : Nat → xM → Int32 → Int32 → Int32 → Int32 → Int32 → Option (Int32 × xM)
  | 0, _, _, _, _, _, _ => none
  | f + 1, σ, l1, l2, l3, l4, l5 => if l5 < (σ 0 6) then (if l5 < 0 ∨ 6 ≤ l5.toNatClampNeg then none else (gr 20 l5.toNatClampNeg).bind fun c4 => (F_X0_learn n σ c4 l1 l2 l3).bind fun q5 => (F_X2_fetchWishes n q5 l5).bind fun q6 => B_X2_perform_41 n f q6.2 l1 l2 l3 ((l4 + q6.1)) (l5 + (1 : Int32))) else ((F_X2_writeLog n σ l1 l2 l3 l4).bind fun q7 => let m8 := x_up q7 0 8 ((q7 0 8) + (1 : Int32)); let m9 := x_up m8 0 11 ((m8 0 11) + l4); if l3 = (0 : Int32) then (B_X2_perform_124 n m9 l3) else (let m10 := x_up m9 0 9 ((m9 0 9) + (1 : Int32)); B_X2_perform_124 n m10 l3))
def B_X2_perform_2 (n : Nat) : Nat → xM → Int32 → Int32 → Int32 → Option (Int32 × xM)
  | 0, _, _, _, _ => none
  | f + 1, σ, l1, l2, l3 => if l3 < (σ 0 6) then (if l3 < 0 ∨ 6 ≤ l3.toNatClampNeg then none else (gr 20 l3.toNatClampNeg).bind fun c1 => (F_X0_workOneHour n σ c1 (σ 0 7)).bind fun q2 => B_X2_perform_2 n f q2 l1 l2 (l3 + (1 : Int32))) else ((F_X2_serve n σ l2).bind fun q3 => B_X2_perform_41 n n q3.2 l1 l2 (q3.1) ((0 : Int32)) ((0 : Int32)))
def F_X2_perform (n : Nat) (σ : xM) (x1 : Int32) (x2 : Int32) : Option (Int32 × xM) :=
  B_X2_perform_2 n n σ x1 x2 ((0 : Int32))
def B_X2_performWalk_30 (n : Nat) (K6 : xM → Int32 → Int32 → Int32 → Int32 → Int32 → Int32 → Option (Int32 × xM)) (σ : xM) (l1 : Int32) (l2 : Int32) (l3 : Int32) (l4 : Int32) (l5 : Int32) (l6 : Int32) : Option (Int32 × xM) :=
  K6 σ l1 l2 l3 l4 l5 (l6 + (1 : Int32))
def B_X2_performWalk_6 (n : Nat) : Nat → xM → Int32 → Int32 → Int32 → Int32 → Int32 → Int32 → Option (Int32 × xM)
  | 0, _, _, _, _, _, _, _ => none
  | f + 1, σ, l1, l2, l3, l4, l5, l6 => if l6 < l4 then ((F_X2_perform n σ l1 (l2 + (l6 * l3))).bind fun q1 => if q1.1 = (0 : Int32) then (B_X2_performWalk_30 n (fun σ l1 l2 l3 l4 l5 l6 => B_X2_performWalk_6 n f σ l1 l2 l3 l4 l5 l6) q1.2 l1 l2 l3 l4 l5 l6) else (B_X2_performWalk_30 n (fun σ l1 l2 l3 l4 l5 l6 => B_X2_performWalk_6 n f σ l1 l2 l3 l4 l5 l6) q1.2 l1 l2 l3 l4 (l5 + (1 : Int32)) l6)) else (some (l5, σ))
def F_X2_performWalk (n : Nat) (σ : xM) (x1 : Int32) (x2 : Int32) (x3 : Int32) (x4 : Int32) : Option (Int32 × xM) :=
  B_X2_performWalk_6 n n σ x1 x2 x3 x4 ((0 : Int32)) ((0 : Int32))
def B_X2_throwAllOut_23 (n : Nat) (K4 : xM → Int32 → Int32 → Option (Int32 × xM)) : Nat → xM → Int32 → Int32 → Int32 → Int32 → Option (Int32 × xM)
  | 0, _, _, _, _, _ => none
  | f + 1, σ, l1, l2, l3, l4 => if l4 < l3 then (if l2 < 0 ∨ 8 ≤ l2.toNatClampNeg then none else (gr 1 l2.toNatClampNeg).bind fun c2 => (F_X2_throwOldest n σ c2 (-100005 : Int32)).bind fun q3 => B_X2_throwAllOut_23 n K4 f q3 l1 l2 l3 (l4 + (1 : Int32))) else (K4 σ ((l1 + l3)) (l2 + (1 : Int32)))
def B_X2_throwAllOut_4 (n : Nat) : Nat → xM → Int32 → Int32 → Option (Int32 × xM)
  | 0, _, _, _ => none
  | f + 1, σ, l1, l2 => if l2 < (8 : Int32) then (if l2 < 0 ∨ 8 ≤ l2.toNatClampNeg then none else (gr 1 l2.toNatClampNeg).bind fun c1 => B_X2_throwAllOut_23 n (fun σ l1 l2 => B_X2_throwAllOut_4 n f σ l1 l2) n σ l1 l2 ((σ c1 3)) ((0 : Int32))) else (some (l1, σ))
def F_X2_throwAllOut (n : Nat) (σ : xM) : Option (Int32 × xM) :=
  B_X2_throwAllOut_4 n n σ ((0 : Int32)) ((0 : Int32))
def B_X2_linesInCache_4 (n : Nat) (σ : xM) : Nat → Int32 → Int32 → Option Int32
  | 0, _, _ => none
  | f + 1, l1, l2 => if l2 < (8 : Int32) then (if l2 < 0 ∨ 8 ≤ l2.toNatClampNeg then none else (gr 1 l2.toNatClampNeg).bind fun c1 => B_X2_linesInCache_4 n σ f ((l1 + (σ c1 3))) (l2 + (1 : Int32))) else (some l1)
def F_X2_linesInCache (n : Nat) (σ : xM) : Option Int32 :=
  B_X2_linesInCache_4 n σ n ((0 : Int32)) ((0 : Int32))
def B_X2_newLinesOf_62 (n : Nat) (σ : xM) (K4 : Int32 → Int32 → Int32 → Option Int32) (K13 : Int32 → Int32 → Int32 → Int32 → Option Int32) (l1 : Int32) (l2 : Int32) (l3 : Int32) (l4 : Int32) : Option Int32 :=
  K13 l1 l2 l3 (l4 + (1 : Int32))
def B_X2_newLinesOf_13 (n : Nat) (σ : xM) (K4 : Int32 → Int32 → Int32 → Option Int32) : Nat → Int32 → Int32 → Int32 → Int32 → Option Int32
  | 0, _, _, _, _ => none
  | f + 1, l1, l2, l3, l4 => if l3 < 0 ∨ 8 ≤ l3.toNatClampNeg then none else (gr 1 l3.toNatClampNeg).bind fun c1 => if l4 < (σ c1 3) then (if l3 < 0 ∨ 8 ≤ l3.toNatClampNeg then none else (gr 1 l3.toNatClampNeg).bind fun c2 => (F_X1_get n σ c2 l4 (2 : Int32)).bind fun q3 => if q3 = (1 : Int32) then (if l3 < 0 ∨ 8 ≤ l3.toNatClampNeg then none else (gr 1 l3.toNatClampNeg).bind fun c4 => (F_X1_get n σ c4 l4 (1 : Int32)).bind fun q5 => if q5 = l1 then (B_X2_newLinesOf_62 n σ K4 (fun l1 l2 l3 l4 => B_X2_newLinesOf_13 n σ K4 f l1 l2 l3 l4) l1 (l2 + (1 : Int32)) l3 l4) else (B_X2_newLinesOf_62 n σ K4 (fun l1 l2 l3 l4 => B_X2_newLinesOf_13 n σ K4 f l1 l2 l3 l4) l1 l2 l3 l4)) else (B_X2_newLinesOf_62 n σ K4 (fun l1 l2 l3 l4 => B_X2_newLinesOf_13 n σ K4 f l1 l2 l3 l4) l1 l2 l3 l4)) else (K4 l1 l2 (l3 + (1 : Int32)))
def B_X2_newLinesOf_4 (n : Nat) (σ : xM) : Nat → Int32 → Int32 → Int32 → Option Int32
  | 0, _, _, _ => none
  | f + 1, l1, l2, l3 => if l3 < (8 : Int32) then (B_X2_newLinesOf_13 n σ (fun l1 l2 l3 => B_X2_newLinesOf_4 n σ f l1 l2 l3) n l1 l2 l3 ((0 : Int32))) else (some l2)
def F_X2_newLinesOf (n : Nat) (σ : xM) (x1 : Int32) : Option Int32 :=
  B_X2_newLinesOf_4 n σ n x1 ((0 : Int32)) ((0 : Int32))
def B_X2_newLines_4 (n : Nat) (σ : xM) : Nat → Int32 → Int32 → Option Int32
  | 0, _, _ => none
  | f + 1, l1, l2 => if l2 < (σ 0 6) then ((F_X2_newLinesOf n σ l2).bind fun q1 => B_X2_newLines_4 n σ f ((l1 + q1)) (l2 + (1 : Int32))) else (some l1)
def F_X2_newLines (n : Nat) (σ : xM) : Option Int32 :=
  B_X2_newLines_4 n σ n ((0 : Int32)) ((0 : Int32))
def B_X2_allHours_4 (n : Nat) (σ : xM) : Nat → Int32 → Int32 → Option Int32
  | 0, _, _ => none
  | f + 1, l1, l2 => if l2 < (σ 0 6) then (if l2 < 0 ∨ 6 ≤ l2.toNatClampNeg then none else (gr 20 l2.toNatClampNeg).bind fun c1 => B_X2_allHours_4 n σ f ((l1 + (σ c1 7))) (l2 + (1 : Int32))) else (some l1)
def F_X2_allHours (n : Nat) (σ : xM) : Option Int32 :=
  B_X2_allHours_4 n σ n ((0 : Int32)) ((0 : Int32))
