/-! all numbers in one *)  -/
def fo (v : Nat → Int32) : Nat → Int64 → Int64
  | 0, s => s
  | k + 1, s => ((31 : Int64) * fo v k s) + (v k).toInt64
def f1 (a : xA) (k : Nat) : Int32 := if k = 14 then 0 else oC a k
def f2 (a : xA) : Nat → Int64 → Int64
  | 0, s => s
  | i + 1, s => fo (oL a i) 6 (f2 a i s)
def f3t (a : xA) (h k : Nat) : Int32 := oR (aG a h) (k / 4) (k % 4)
def f3 (a : xA) : Nat → Int64 → Int64
  | 0, s => s
  | h + 1, s => fo (f3t a h) 16 (fo (oH a h) 16 (f3 a h s))
def f4 (a : xA) (k : Nat) : Int32 := oG a (k / 4) (k % 4)
def allP (a : xA) : Int64 := fo (f4 a) 48 (f3 a (aC a 2) (f2 a 40 (fo (f1 a) 17 17)))
theorem div4 : ∀ k, k < 48 → nI k / (4 : Int32) = nI (k / 4) := by decide
theorem rem4 : ∀ k, k < 48 → x_rem (nI k) (4 : Int32) = nI (k % 4) := by decide
section E
variable {B n : Nat} {σ : xM} {a : xA} {tp sn : Option xA}
theorem A_1 (R : PRel B σ a tp sn) (hn : 400 < n) : ∀ (f i : Nat) (s : Int64), i ≤ 17 → 17 - i < f → B_L_all_6 n σ f (fo (f1 a) i s) (nI i) = B_L_all_43 n σ n (fo (f1 a) 17 s) 0 := by
  intro f
  induction f with
  | zero => intro i s _ h; omega
  | succ f ih =>
    intro i s hi hf
    show (if nI i < (17 : Int32) then _ else _) = _
    by_cases q : i < 17
    · rw [if_pos (show nI i < (17 : Int32) from nI_lt (b := 17) q (by omega)), ← ih (i + 1) s q (by omega)]
      by_cases q14 : i = 14
      · subst q14
        rfl
      · rw [if_neg (show ¬ nI i = (14 : Int32) from fun e => q14 ((nI_eq (b := 14) (by omega) (by omega)).mp e)), E_count R hn q q14, Option.bind_some]
        unfold B_L_all_32
        rw [nI_1]
        have e : f1 a i = oC a i := if_neg q14
        rw [← e]
        rfl
    · have e : i = 17 := by omega
      subst e
      rfl
theorem A_2i (R : PRel B σ a tp sn) (hn : 400 < n) {l : Nat} (hl : l < 10000) (K : Int64 → Int32 → Option Int64) : ∀ (f i : Nat) (s : Int64), i ≤ 6 → 6 - i < f → B_L_all_52 n σ K f (fo (oL a l) i s) (nI l) (nI i) = K (fo (oL a l) 6 s) (nI (l + 1)) := by
  intro f
  induction f with
  | zero => intro i s _ h; omega
  | succ f ih =>
    intro i s hi hf
    show (if nI i < (6 : Int32) then _ else _) = _
    by_cases q : i < 6
    · rw [if_pos (show nI i < (6 : Int32) from nI_lt (b := 6) q (by omega)), ← ih (i + 1) s q (by omega), E_line R hn hl q, Option.bind_some, nI_1]
      rfl
    · have e : i = 6 := by omega
      subst e
      show K _ (nI l + 1) = _
      rw [nI_1]
theorem A_2 (R : PRel B σ a tp sn) (hn : 400 < n) : ∀ (f i : Nat) (s : Int64), i ≤ 40 → 40 - i < f → B_L_all_43 n σ f (f2 a i s) (nI i) = B_L_all_88 n σ n (f2 a 40 s) 0 := by
  intro f
  induction f with
  | zero => intro i s _ h; omega
  | succ f ih =>
    intro i s hi hf
    show (if nI i < (40 : Int32) then _ else _) = _
    by_cases q : i < 40
    · rw [if_pos (show nI i < (40 : Int32) from nI_lt (b := 40) q (by omega)), ← ih (i + 1) s q (by omega)]
      exact A_2i R hn (by omega) _ n 0 (f2 a i s) (by omega) (by omega)
    · have e : i = 40 := by omega
      subst e
      rfl
theorem A_3i (R : PRel B σ a tp sn) (hn : 400 < n) {h : Nat} (hh : h < aC a 2) (K : Int64 → Int32 → Option Int64) : ∀ (f i : Nat) (s : Int64), i ≤ 16 → 16 - i < f → B_L_all_101 n σ K f (fo (oH a h) i s) (nI h) (nI i) = B_L_all_132 n σ K n (fo (oH a h) 16 s) (nI h) 0 := by
  intro f
  induction f with
  | zero => intro i s _ h; omega
  | succ f ih =>
    intro i s hi hf
    show (if nI i < (16 : Int32) then _ else _) = _
    by_cases q : i < 16
    · rw [if_pos (show nI i < (16 : Int32) from nI_lt (b := 16) q (by omega)), ← ih (i + 1) s q (by omega), E_helper R hn hh q, Option.bind_some, nI_1]
      rfl
    · have e : i = 16 := by omega
      subst e
      rfl
theorem A_3t (R : PRel B σ a tp sn) {h : Nat} (hh : h < aC a 2) (K : Int64 → Int32 → Option Int64) : ∀ (f i : Nat) (s : Int64), i ≤ 16 → 16 - i < f → B_L_all_132 n σ K f (fo (f3t a h) i s) (nI h) (nI i) = K (fo (f3t a h) 16 s) (nI (h + 1)) := by
  intro f
  induction f with
  | zero => intro i s _ h; omega
  | succ f ih =>
    intro i s hi hf
    show (if nI i < (16 : Int32) then _ else _) = _
    by_cases q : i < 16
    · rw [if_pos (show nI i < (16 : Int32) from nI_lt (b := 16) q (by omega)), ← ih (i + 1) s q (by omega), if_neg (by decide), if_neg (by decide), div4 i (by omega), rem4 i (by omega), E_table R hh (by omega) (Nat.mod_lt _ (by decide)), Option.bind_some, nI_1]
      rfl
    · have e : i = 16 := by omega
      subst e
      show K _ (nI h + 1) = _
      rw [nI_1]
theorem A_3 (R : PRel B σ a tp sn) (hn : 400 < n) : ∀ (f i : Nat) (s : Int64), i ≤ aC a 2 → aC a 2 - i < f → B_L_all_88 n σ f (f3 a i s) (nI i) = B_L_all_174 n σ n (f3 a (aC a 2) s) 0 := by
  intro f
  have h6 := R.h6
  induction f with
  | zero => intro i s _ h; omega
  | succ f ih =>
    intro i s hi hf
    show ((F_X4_count n σ (nI 10)).bind fun q3 => if nI i < q3 then _ else _) = _
    rw [E_count R hn (k := 10) (by decide) (by decide), Option.bind_some, show oC a 10 = nI (aC a 2) from rfl]
    by_cases q : i < aC a 2
    · rw [if_pos (nI_lt q (by omega)), ← ih (i + 1) s q (by omega)]
      exact (A_3i R hn q _ n 0 (f3 a i s) (by omega) (by omega)).trans (A_3t R q _ n 0 (fo (oH a i) 16 (f3 a i s)) (by omega) (by omega))
    · rw [if_neg (nI_nlt (by omega) (by omega)), show i = aC a 2 by omega]
theorem A_4 (R : PRel B σ a tp sn) : ∀ (f i : Nat) (s : Int64), i ≤ 48 → 48 - i < f → B_L_all_174 n σ f (fo (f4 a) i s) (nI i) = some (fo (f4 a) 48 s) := by
  intro f
  induction f with
  | zero => intro i s _ h; omega
  | succ f ih =>
    intro i s hi hf
    show (if nI i < (48 : Int32) then _ else _) = _
    by_cases q : i < 48
    · rw [if_pos (show nI i < (48 : Int32) from nI_lt (b := 48) q (by omega)), ← ih (i + 1) s q (by omega), if_neg (by decide), if_neg (by decide), div4 i q, rem4 i q, E_logged R (by omega) (by have := Nat.mod_lt i (show 0 < 4 by decide); omega), Option.bind_some, nI_1]
      rfl
    · have e : i = 48 := by omega
      subst e
      rfl
theorem E_all (R : PRel B σ a tp sn) (hn : 400 < n) : F_L_all n σ = some (allP a) := by
  have h6 := R.h6
  exact (A_1 R hn n 0 17 (by omega) (by omega)).trans ((A_2 R hn n 0 _ (by omega) (by omega)).trans ((A_3 R hn n 0 _ (by omega) (by omega)).trans (A_4 R n 0 _ (by omega) (by omega))))
end E
theorem lg_self (x : Int64) : lg_cmp x x = 0 := by simp [lg_cmp]
