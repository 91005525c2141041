/-! what each call of the reference answers and does: k its exception's place, a the state behind it -/
def k_img (T : wa_St) (i : Int) : Int := if f_isImage T i then 0 else 1
def k_bk (T : wa_St) (i : Int) : Int := if f_isBake T i then 0 else 1
def k_bake (T : wa_St) (i : Int) : Int := if ¬ f_isImage T i then 1 else if ¬ f_hasBase T i.toNat ∨ (¬ f_alike T i.toNat ∧ T 21 0 = 60) then 2 else 0
def a_bake (T : wa_St) (i : Int) : wa_St := if f_alike (wa_s T 0 0 0) i.toNat then wa_s T 0 0 0 else f_makes (wa_s T 0 0 0) i.toNat
def k_test (T : wa_St) (b : Int) : Int := if ¬ f_isBake T b then 1 else if T 18 b.toNat ≠ 0 then 2 else 0
def a_test (T : wa_St) (b q : Int) : wa_St := wa_s (wa_s (wa_s T 0 0 0) 19 b.toNat (bI (T 19 b.toNat ≠ 0 ∨ q ≠ 0))) 17 b.toNat (bI (T 17 b.toNat ≠ 0 ∨ q = 0))
def k_hold (T : wa_St) (b : Int) : Int := if ¬ f_isBake T b then 1 else if T 18 b.toNat ≠ 0 ∨ T 17 b.toNat ≠ 0 then 2 else 0
def a_hold (T : wa_St) (b : Int) : wa_St := wa_s (wa_s T 0 0 0) 17 b.toNat 1
def k_raise (T : wa_St) (b : Int) : Int := if ¬ f_isBake T b then 1 else if T 18 b.toNat ≠ 0 ∨ T 17 b.toNat ≠ 0 ∨ T 16 b.toNat = 2 ∨ T 19 b.toNat = 0 then 2 else 0
def a_raise (T : wa_St) (b : Int) : wa_St := wa_s (wa_s (wa_s T 0 0 0) 16 b.toNat (T 16 b.toNat + 1)) 19 b.toNat 0
def k_copy (T : wa_St) (b q : Int) : Int := if ¬ f_isBake T b then 1 else if ¬ (0 ≤ q ∧ q ≤ 2) then 2 else if T 18 b.toNat ≠ 0 ∨ T 20 (3 * b.toNat + q.toNat) ≠ -1 then 3 else 0
def a_copy (T : wa_St) (b q : Int) : wa_St := wa_s (wa_s T 0 0 0) 20 (3 * b.toNat + q.toNat) (T 1 0 + T 22 q.toNat)
def k_rules (q d st kp : Int) : Int := if (0 ≤ q ∧ q ≤ 2) ∧ (0 ≤ d ∧ d ≤ 9) ∧ (0 ≤ st ∧ st ≤ 99) ∧ (0 ≤ kp ∧ kp ≤ 99) then 0 else 1
def a_rules (T : wa_St) (q d st kp : Int) : wa_St := wa_s (wa_s (wa_s (wa_s T 0 0 0) 22 q.toNat d) 23 0 st) 24 0 kp
def v_state (T : wa_St) (b : Nat) : Int := T 16 b + (if T 17 b ≠ 0 then 10 else 0) + (if f_old T b then 20 else 0) + (if T 18 b ≠ 0 then 40 else 0)
def k_start (T : wa_St) (i q r : Int) : Int := if ¬ f_isImage T i then 1 else if ¬ ((0 ≤ q ∧ q ≤ 2) ∧ (0 ≤ r ∧ r ≤ 2)) then 2 else if f_bakeFor T i q r = -1 ∨ T 29 0 = 30 then 3 else 0
def a_start (T : wa_St) (i q r : Int) : wa_St := wa_s (wa_s (wa_s (wa_s (wa_s (wa_s T 0 0 0) 25 (T 29 0).toNat i) 26 (T 29 0).toNat q) 27 (T 29 0).toNat r) 28 (T 29 0).toNat (f_bakeFor T i q r)) 29 0 (T 29 0 + 1)
def k_renew (T : wa_St) (u : Int) : Int := if ¬ f_isRunning T u then 1 else if f_next T u.toNat = -1 then 2 else 0
def a_renew (T : wa_St) (u : Int) : wa_St := wa_s (wa_s T 0 0 0) 28 u.toNat (f_next (wa_s T 0 0 0) u.toNat)
def k_stop (T : wa_St) (u : Int) : Int := if f_isRunning T u then 0 else 1
def a_stop (T : wa_St) (u : Int) : wa_St := wa_s (wa_s T 0 0 0) 28 u.toNat (-1)
def k_from (T : wa_St) (u : Int) : Int := if 0 ≤ u ∧ u ≤ T 29 0 - 1 then 0 else 1
def f_oldAt (T : wa_St) (q : Int) : Int := f_fnd (fun u => f_isOld T u && decide (f_rank T u = q)) (T 29 0).toNat 0
def k_oldAt (T : wa_St) (q : Int) : Int := if f_oldAt T q = -2 then 1 else 0
def k_pass (d : Int) : Int := if 1 ≤ d ∧ d ≤ 30 then 0 else 1
-- one look at the bakes, from place j on
def f_pin : Nat → Nat → wa_St → Int → wa_St × Int
  | 0, _, T, q => (T, q)
  | n + 1, j, T, q => if T 18 j = 0 ∧ T 24 0 < T 1 0 - T 15 j ∧ f_run T (j : Int) = 0 then f_pin n (j + 1) (wa_s T 18 j 1) (q + 1) else f_pin n (j + 1) T q
def f_pday (T : wa_St) (q : Int) : wa_St × Int := f_pin (T 21 0).toNat 0 (wa_s T 1 0 (T 1 0 + 1)) q
def f_pout : Nat → wa_St → Int → wa_St × Int
  | 0, T, q => (T, q)
  | n + 1, T, q => f_pout n (f_pday T q).1 (f_pday T q).2
