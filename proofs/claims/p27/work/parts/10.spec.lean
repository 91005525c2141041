/-! the state of the system: the reference's fields and rows by their numbers (TX5): T k j; a field alone is T k 0 -/
abbrev wa_St : Type := Nat → Nat → Int
def wa_s (T : wa_St) (k j : Nat) (v : Int) : wa_St := fun a b => if a = k ∧ b = j then v else T a b
abbrev bI (P : Prop) [Decidable P] : Int := if P then 1 else 0
theorem bI_t {P : Prop} [Decidable P] (h : P) : bI P = 1 := if_pos h
theorem bI_f {P : Prop} [Decidable P] (h : ¬ P) : bI P = 0 := if_neg h
theorem bI_01 (P : Prop) [Decidable P] : bI P = 0 ∨ bI P = 1 := by by_cases h : P; exact Or.inr (bI_t h); exact Or.inl (bI_f h)
theorem wa_s_ne {T : wa_St} {k j a b : Nat} {v : Int} (h : ¬ (a = k ∧ b = j)) : wa_s T k j v a b = T a b := if_neg h
theorem wa_s_eq {T : wa_St} {k j : Nat} {v : Int} : wa_s T k j v k j = v := if_pos ⟨rfl, rfl⟩
theorem wa_s_eq' {T : wa_St} {k j b : Nat} {v : Int} (h : b = j) : wa_s T k j v k b = v := if_pos ⟨rfl, h⟩
theorem wa_s_nk {T : wa_St} {k j a b : Nat} {v : Int} (h : a ≠ k) : wa_s T k j v a b = T a b := if_neg (fun q => h q.1)
theorem wa_s_nj {T : wa_St} {k j a b : Nat} {v : Int} (h : b ≠ j) : wa_s T k j v a b = T a b := if_neg (fun q => h q.2)
-- the first of n places from i on at which p holds, as a number; -2 without one
def f_fnd (p : Nat → Bool) : Nat → Nat → Int
  | 0, _ => -2
  | n + 1, i => if p i = true then (i : Int) else f_fnd p n (i + 1)
-- the last of n places at which p holds; -1 without one
def f_last (p : Nat → Bool) : Nat → Int
  | 0 => -1
  | n + 1 => if p n = true then (n : Int) else f_last p n
-- at how many of n places p holds
def f_cnt (p : Nat → Bool) : Nat → Int
  | 0 => 0
  | n + 1 => f_cnt p n + bI (p n = true)
def f_find (T : wa_St) (lo inp ver : Int) : Int := f_fnd (fun l => decide (T 9 l = lo ∧ T 10 l = inp ∧ T 11 l = ver)) (T 12 0).toNat 0
abbrev f_isImage (T : wa_St) (i : Int) : Prop := 0 ≤ i ∧ i ≤ T 8 0 - 1
abbrev f_isBake (T : wa_St) (i : Int) : Prop := 0 ≤ i ∧ i ≤ T 21 0 - 1
abbrev f_hasBase (T : wa_St) (i : Nat) : Prop := T 4 i = -1 ∨ T 7 (T 4 i).toNat ≠ -1
def f_base (T : wa_St) (i : Nat) : Int := if T 4 i = -1 then -1 else T 14 (T 7 (T 4 i).toNat).toNat
-- n steps from place s on, beginning with z
def f_top (T : wa_St) : Nat → Nat → Int → Int
  | 0, _, z => z
  | n + 1, s, z => if z = -2 then -2 else f_top T n (s + 1) (f_find T z (T 5 s) (T 2 (T 5 s).toNat))
def f_topNow (T : wa_St) (i : Nat) : Int := f_top T (T 6 i).toNat (5 * i) (f_base T i)
abbrev f_alike (T : wa_St) (i : Nat) : Prop := T 7 i ≠ -1 ∧ f_topNow T i = T 14 (T 7 i).toNat
-- the image z and its forefathers, n at most
def f_fr (T : wa_St) : Nat → Int → Bool
  | 0, _ => true
  | n + 1, z => decide (z = -1) || (decide (f_hasBase T z.toNat ∧ f_alike T z.toNat) && f_fr T n (T 4 z.toNat))
def f_fresh (T : wa_St) (i : Nat) : Bool := f_fr T (i + 1) (i : Int)
def f_addL (T : wa_St) (z inp ver : Int) : wa_St := wa_s (wa_s (wa_s (wa_s T 9 (T 12 0).toNat z) 10 (T 12 0).toNat inp) 11 (T 12 0).toNat ver) 12 0 (T 12 0 + 1)
def f_mk : Nat → Nat → wa_St → Int → wa_St × Int
  | 0, _, T, z => (T, z)
  | n + 1, s, T, z => if f_find T z (T 5 s) (T 2 (T 5 s).toNat) = -2 then f_mk n (s + 1) (f_addL T z (T 5 s) (T 2 (T 5 s).toNat)) (T 12 0) else f_mk n (s + 1) T (f_find T z (T 5 s) (T 2 (T 5 s).toNat))
def f_newB (T : wa_St) (i : Nat) (z : Int) : wa_St :=
  let b := (T 21 0).toNat
  wa_s (wa_s (wa_s (wa_s (wa_s (wa_s (wa_s (wa_s (wa_s (wa_s (wa_s (wa_s T 13 b i) 14 b z) 15 b (T 1 0)) 16 b 0) 17 b 0) 18 b 0) 19 b 0) 20 (3 * b) (-1)) 20 (3 * b + 1) (-1)) 20 (3 * b + 2) (-1)) 7 i (T 21 0)) 21 0 (T 21 0 + 1)
def f_makes (T : wa_St) (i : Nat) : wa_St := f_newB (f_mk (T 6 i).toNat (5 * i) T (f_base T i)).1 i (f_mk (T 6 i).toNat (5 * i) T (f_base T i)).2
def f_run (T : wa_St) (b : Int) : Int := f_cnt (fun m => decide (T 28 m = b)) (T 29 0).toNat
abbrev f_old (T : wa_St) (b : Nat) : Prop := T 23 0 < T 1 0 - T 15 b
def f_can (T : wa_St) (i pl rg : Int) (b : Nat) : Bool := decide (T 13 b = i ∧ T 20 (3 * b + pl.toNat) ≠ -1 ∧ T 20 (3 * b + pl.toNat) ≤ T 1 0 ∧ T 17 b = 0 ∧ T 18 b = 0 ∧ ¬ f_old T b ∧ rg ≤ T 16 b)
def f_bakeFor (T : wa_St) (i pl rg : Int) : Int := f_last (f_can T i pl rg) (T 21 0).toNat
abbrev f_isRunning (T : wa_St) (m : Int) : Prop := (0 ≤ m ∧ m ≤ T 29 0 - 1) ∧ T 28 m.toNat ≠ -1
def f_next (T : wa_St) (m : Nat) : Int := f_bakeFor T (T 25 m) (T 26 m) (T 27 m)
def f_isOld (T : wa_St) (m : Nat) : Bool := decide (T 28 m ≠ -1 ∧ (T 17 (T 28 m).toNat ≠ 0 ∨ f_old T (T 28 m).toNat ∨ (f_next T m ≠ -1 ∧ f_next T m ≠ T 28 m)))
def f_ahead (T : wa_St) (m o : Nat) : Bool := if T 17 (T 28 m).toNat ≠ T 17 (T 28 o).toNat then decide (T 17 (T 28 m).toNat ≠ 0) else if T 15 (T 28 m).toNat ≠ T 15 (T 28 o).toNat then decide (T 15 (T 28 m).toNat < T 15 (T 28 o).toNat) else decide (m < o)
def f_rank (T : wa_St) (m : Nat) : Int := f_cnt (fun e => decide (e ≠ m) && f_isOld T e && f_ahead T e m) (T 29 0).toNat

/-- the law's own rows: parents, steps, greatest versions -/
def wl_C (cy : Nat → ClassId) (T : wa_St) : Nat → Option va_E := fun i => match i with
  | 0 => some (wa_aI (cy 0) 10 (T 0))
  | 1 => some (wa_aI (cy 0) 10 (T 1))
  | 2 => some (wa_aI (cy 0) 10 (T 2))
  | _ => none
/-- a number as a reference into a kind -/
def wa_op (ad : Nat → Nat → Nat) (kd : Nat) (z : Int) : Option Nat := if z < 0 then none else some (ad kd z.toNat)
/-- the class's object and what belongs to it alone: S is the state, X what the state doesn't say -/
def wx_fs (ad : Nat → Nat → Nat) (S : wa_St) : List Value := [.ref (ad 0 1), .ref (ad 0 5), .ref (ad 0 6), .ref (ad 0 7), .int (iI (S 8 0)), .ref (ad 0 8), .int (iI (S 21 0)), .ref (ad 0 9), .int (iI (S 29 0)), .int (iI (S 1 0)), .ref (ad 0 10), .int (iI (S 23 0)), .int (iI (S 24 0)), .ref (ad 0 11), .ref (ad 0 12), .ref (ad 0 13), .ref (ad 0 14)]
def wx_ls (ad : Nat → Nat → Nat) (S : wa_St) : List Value := [.ref (ad 0 2), .ref (ad 0 3), .ref (ad 0 4), .int (iI (S 12 0))]
def wx_in (ad : Nat → Nat → Nat) (kd : Nat) (n : Int) : Nat → Option Nat := fun j => if (j : Int) < n then some (ad kd j) else none
def wx_C0 (cy : Nat → ClassId) (ad : Nat → Nat → Nat) (S X : wa_St) : Nat → Option va_E := fun i => match i with
  | 0 => some (.inr (4, wx_fs ad S))
  | 1 => some (.inr (2, wx_ls ad S))
  | 2 => some (wa_aI (cy 0) 300 (X 2))
  | 3 => some (wa_aI (cy 0) 300 (X 3))
  | 4 => some (wa_aI (cy 0) 300 (X 4))
  | 5 => some (wa_aI (cy 0) 10 (S 2))
  | 6 => some (wa_aI (cy 0) 10 (S 3))
  | 7 => some (wa_aR (cy 3) 10 (wx_in ad 1 (S 8 0)))
  | 8 => some (wa_aR (cy 2) 60 (wx_in ad 3 (S 21 0)))
  | 9 => some (wa_aR (cy 4) 30 (wx_in ad 5 (S 29 0)))
  | 10 => some (wa_aI (cy 0) 3 (S 22))
  | 11 => some (wa_aR (cy 3) 10 (fun j => wa_op ad 1 (X 11 j)))
  | 12 => some (wa_aR (cy 3) 10 (fun j => wa_op ad 1 (X 12 j)))
  | 13 => some (wa_aI (cy 0) 50 (X 13))
  | 14 => some (wa_aR (cy 4) 30 (fun j => wa_op ad 5 (X 14 j)))
  | _ => none
def wx_fI (ad : Nat → Nat → Nat) (S X : wa_St) (i : Nat) : List Value := [.int (iI (i : Int)), va_rf (wa_op ad 1 (S 4 i)), .ref (ad 2 i), .int (iI (S 6 i)), va_rf (wa_op ad 3 (S 7 i)), .int (iI (X 20 i))]
def wx_fB (ad : Nat → Nat → Nat) (S : wa_St) (b : Nat) : List Value := [.int (iI (b : Int)), .ref (ad 1 (S 13 b).toNat), .int (iI (S 14 b)), .int (iI (S 15 b)), .ref (ad 4 b), .int (iI (S 16 b)), .int (iI (S 19 b)), .int (iI (S 17 b)), .int (iI (S 18 b))]
def wx_fM (ad : Nat → Nat → Nat) (S : wa_St) (m : Nat) : List Value := [.int (iI (m : Int)), .ref (ad 1 (S 25 m).toNat), .int (iI (S 26 m)), .int (iI (S 27 m)), va_rf (wa_op ad 3 (S 28 m))]
/-- the whole world: kind 0 the class's own cells, 1 images, 2 their inputs, 3 bakes, 4 their first days, 5 machines, 6 the law's rows -/
def wW (cy : Nat → ClassId) (ad : Nat → Nat → Nat) (S X T : wa_St) (_ : Int64) : wa_C := fun kd i => match kd with
  | 0 => wx_C0 cy ad S X i
  | 1 => if (i : Int) < S 8 0 then some (.inr (1, wx_fI ad S X i)) else none
  | 2 => if (i : Int) < S 8 0 then some (wa_aI (cy 0) 5 (fun j => S 5 (5 * i + j))) else none
  | 3 => if (i : Int) < S 21 0 then some (.inr (0, wx_fB ad S i)) else none
  | 4 => if (i : Int) < S 21 0 then some (wa_aI (cy 0) 3 (fun j => S 20 (3 * i + j))) else none
  | 5 => if (i : Int) < S 29 0 then some (.inr (3, wx_fM ad S i)) else none
  | 6 => wl_C cy T i
  | _ => none
