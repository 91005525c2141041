/-! how many bakes are to come: the class's way of it (laid by program) -/
def x_tc (S : wa_St) : Nat → Nat → Int
  | 0, _ => -1
  | n + 1, j => if j = n then f_top S (S 6 n).toNat (5 * n) (if S 4 n < 0 then -1 else x_tc S n (S 4 n).toNat) else x_tc S n j
def x_ct (S : wa_St) (j : Nat) : Int := x_tc S (j + 1) j
theorem x_tc_ct (S : wa_St) (j : Nat) : ∀ n, j < n → x_tc S n j = x_ct S j
  | 0, h => absurd h (Nat.not_lt_zero j)
  | n + 1, h => by
    by_cases q : j = n
    · subst q; rfl
    · simp only [x_tc]
      rw [if_neg q]
      exact x_tc_ct S j n (by omega)
theorem x_ct_eq {S : wa_St} {j : Nat} (h : S 4 j < (j : Int)) : x_ct S j = f_top S (S 6 j).toNat (5 * j) (if S 4 j < 0 then -1 else x_ct S (S 4 j).toNat) := by
  have key : x_ct S j = (if j = j then f_top S (S 6 j).toNat (5 * j) (if S 4 j < 0 then -1 else x_tc S j (S 4 j).toNat) else x_tc S j j) := rfl
  rw [key, if_pos rfl]
  by_cases q : S 4 j < 0
  · rw [if_pos q, if_pos q]
  · rw [if_neg q, if_neg q]
    congr 1
    exact x_tc_ct S _ j (by omega)
def x_nc (S : wa_St) (j : Nat) : Bool := decide (S 7 j < 0 ∨ S 14 (S 7 j).toNat ≠ x_ct S j)
