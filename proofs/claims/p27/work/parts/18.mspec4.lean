/-! what each call of the reference answers and does: k its exception's place, a the state behind it -/
def k_img (T : wa_St) (i : Int) : Int := if f_isImage T i then 0 else 1
def k_bk (T : wa_St) (i : Int) : Int := if f_isBake T i then 0 else 1
def k_bake (T : wa_St) (i : Int) : Int := if ¬ f_isImage T i then 1 else if ¬ f_hasBase T i.toNat ∨ (¬ f_alike T i.toNat ∧ T 21 0 = 60) then 2 else 0
def a_bake (T : wa_St) (i : Int) : wa_St := if f_alike (wa_s T 0 0 0) i.toNat then wa_s T 0 0 0 else f_makes (wa_s T 0 0 0) i.toNat
def k_test (T : wa_St) (b : Int) : Int := if ¬ f_isBake T b then 1 else if T 18 b.toNat ≠ 0 then 2 else 0
def a_test (T : wa_St) (b q : Int) : wa_St := wa_s (wa_s (wa_s T 0 0 0) 19 b.toNat (bI (T 19 b.toNat ≠ 0 ∨ q ≠ 0))) 17 b.toNat (bI (T 17 b.toNat ≠ 0 ∨ q = 0))
def k_hold (T : wa_St) (b : Int) : Int := if ¬ f_isBake T b then 1 else if T 18 b.toNat ≠ 0 ∨ T 17 b.toNat ≠ 0 then 2 else 0
def a_hold (T : wa_St) (b : Int) : wa_St := wa_s (wa_s T 0 0 0) 17 b.toNat 1
def k_raise (T : wa_St) (b : Int) : Int := if ¬ f_isBake T b then 1 else if T 18 b.toNat ≠ 0 ∨ T 17 b.toNat ≠ 0 ∨ T 16 b.toNat = 2 ∨ T 19 b.toNat = 0 then 2 else 0
def a_raise (T : wa_St) (b : Int) : wa_St := wa_s (wa_s (wa_s T 0 0 0) 16 b.toNat (T 16 b.toNat + 1)) 19 b.toNat 0
def k_copy (T : wa_St) (b q : Int) : Int := if ¬ f_isBake T b then 1 else if ¬ (0 ≤ q ∧ q ≤ 2) then 2 else if T 18 b.toNat ≠ 0 ∨ T 20 (3 * b.toNat + q.toNat) ≠ -1 then 3 else 0
def a_copy (T : wa_St) (b q : Int) : wa_St := wa_s (wa_s T 0 0 0) 20 (3 * b.toNat + q.toNat) (T 1 0 + T 22 q.toNat)
def k_rules (q d st kp : Int) : Int := if (0 ≤ q ∧ q ≤ 2) ∧ (0 ≤ d ∧ d ≤ 9) ∧ (0 ≤ st ∧ st ≤ 99) ∧ (0 ≤ kp ∧ kp ≤ 99) then 0 else 1
def a_rules (T : wa_St) (q d st kp : Int) : wa_St := wa_s (wa_s (wa_s (wa_s T 0 0 0) 22 q.toNat d) 23 0 st) 24 0 kp
def v_state (T : wa_St) (b : Nat) : Int := T 16 b + (if T 17 b ≠ 0 then 10 else 0) + (if f_old T b then 20 else 0) + (if T 18 b ≠ 0 then 40 else 0)
def k_start (T : wa_St) (i q r : Int) : Int := if ¬ f_isImage T i then 1 else if ¬ ((0 ≤ q ∧ q ≤ 2) ∧ (0 ≤ r ∧ r ≤ 2)) then 2 else if f_bakeFor T i q r = -1 ∨ T 29 0 = 30 then 3 else 0
def a_start (T : wa_St) (i q r : Int) : wa_St := wa_s (wa_s (wa_s (wa_s (wa_s (wa_s T 0 0 0) 25 (T 29 0).toNat i) 26 (T 29 0).toNat q) 27 (T 29 0).toNat r) 28 (T 29 0).toNat (f_bakeFor T i q r)) 29 0 (T 29 0 + 1)
def k_renew (T : wa_St) (u : Int) : Int := if ¬ f_isRunning T u then 1 else if f_next T u.toNat = -1 then 2 else 0
def a_renew (T : wa_St) (u : Int) : wa_St := wa_s (wa_s T 0 0 0) 28 u.toNat (f_next (wa_s T 0 0 0) u.toNat)
def k_stop (T : wa_St) (u : Int) : Int := if f_isRunning T u then 0 else 1
def a_stop (T : wa_St) (u : Int) : wa_St := wa_s (wa_s T 0 0 0) 28 u.toNat (-1)
def k_from (T : wa_St) (u : Int) : Int := if 0 ≤ u ∧ u ≤ T 29 0 - 1 then 0 else 1
def f_oldAt (T : wa_St) (q : Int) : Int := f_fnd (fun u => f_isOld T u && decide (f_rank T u = q)) (T 29 0).toNat 0
def k_oldAt (T : wa_St) (q : Int) : Int := if f_oldAt T q = -2 then 1 else 0
def k_pass (d : Int) : Int := if 1 ≤ d ∧ d ≤ 30 then 0 else 1
-- one look at the bakes, from place j on
def f_pin : Nat → Nat → wa_St → Int → wa_St × Int
  | 0, _, T, q => (T, q)
  | n + 1, j, T, q => if T 18 j = 0 ∧ T 24 0 < T 1 0 - T 15 j ∧ f_run T (j : Int) = 0 then f_pin n (j + 1) (wa_s T 18 j 1) (q + 1) else f_pin n (j + 1) T q
def f_pday (T : wa_St) (q : Int) : wa_St × Int := f_pin (T 21 0).toNat 0 (wa_s T 1 0 (T 1 0 + 1)) q
def f_pout : Nat → wa_St → Int → wa_St × Int
  | 0, T, q => (T, q)
  | n + 1, T, q => f_pout n (f_pday T q).1 (f_pday T q).2

theorem f_find_th (T : wa_St) (v x y z : Int) : f_find (wa_s T 0 0 v) x y z = f_find T x y z := rfl
theorem f_base_th (T : wa_St) (v : Int) (i : Nat) : f_base (wa_s T 0 0 v) i = f_base T i := rfl
theorem f_top_th (T : wa_St) (v : Int) : ∀ (n s : Nat) (z : Int), f_top (wa_s T 0 0 v) n s z = f_top T n s z
  | 0, _, _ => rfl
  | n + 1, s, z => by
    simp only [f_top]
    rw [f_top_th T v n]
    rfl
theorem f_topNow_th (T : wa_St) (v : Int) (i : Nat) : f_topNow (wa_s T 0 0 v) i = f_topNow T i := f_top_th T v _ _ _
theorem f_alike_th (T : wa_St) (v : Int) (i : Nat) : f_alike (wa_s T 0 0 v) i ↔ f_alike T i := by
  show T 7 i ≠ -1 ∧ f_topNow (wa_s T 0 0 v) i = T 14 (T 7 i).toNat ↔ _
  rw [f_topNow_th]
theorem f_fr_th (T : wa_St) (v : Int) : ∀ (n : Nat) (z : Int), f_fr (wa_s T 0 0 v) n z = f_fr T n z
  | 0, _ => rfl
  | n + 1, z => by
    have ih := f_fr_th T v n (T 4 z.toNat)
    have h2 := f_alike_th T v z.toNat
    show (decide (z = -1) || (decide (f_hasBase (wa_s T 0 0 v) z.toNat ∧ f_alike (wa_s T 0 0 v) z.toNat) && f_fr (wa_s T 0 0 v) n (T 4 z.toNat))) = (decide (z = -1) || (decide (f_hasBase T z.toNat ∧ f_alike T z.toNat) && f_fr T n (T 4 z.toNat)))
    rw [ih, show decide (f_hasBase (wa_s T 0 0 v) z.toNat ∧ f_alike (wa_s T 0 0 v) z.toNat) = decide (f_hasBase T z.toNat ∧ f_alike T z.toNat) from decide_eq_decide.mpr (and_congr Iff.rfl h2)]
theorem f_fresh_th (T : wa_St) (v : Int) (i : Nat) : f_fresh (wa_s T 0 0 v) i = f_fresh T i := f_fr_th T v _ _
theorem wf_17 {T : wa_St} (h : wf T) (j : Nat) {v : Int} (hv : 0 ≤ v ∧ v ≤ 1) : wf (wa_s T 17 j v) := by
  obtain ⟨hB, w8, w21, w12, w29, w4, w7, w6, w5, w13, w25, w26, w28, w14, w3, w17⟩ := h
  refine ⟨fun a b => ?_, w8, w21, w12, w29, w4, w7, w6, w5, w13, w25, w26, w28, w14, w3, fun b => ?_⟩
  · have := hB a b
    unfold wa_s
    split <;> omega
  · have := w17 b
    refine ⟨?_, this.2⟩
    unfold wa_s
    split <;> omega
theorem f_mk_inv {T : wa_St} : ∀ (n s : Nat) (T1 : wa_St) (z : Int), m_inv T n T1 z → m_inv T 0 (f_mk n s T1 z).1 (f_mk n s T1 z).2
  | 0, s, T1, z, h => h
  | n + 1, s, T1, z, h => by
    simp only [f_mk]
    have hw := h.2.1
    by_cases q : f_find T1 z (T1 5 s) (T1 2 (T1 5 s).toNat) = -2
    · rw [if_pos q]
      exact f_mk_inv n (s + 1) _ _ (h.made (hw.1 5 s) (hw.1 2 (T1 5 s).toNat))
    · rw [if_neg q]
      exact f_mk_inv n (s + 1) _ _ (h.found (by have := f_find_lt hw z (T1 5 s) (T1 2 (T1 5 s).toNat); omega))
theorem wf_newB {T : wa_St} (h : wf T) (h60 : T 21 0 < 60) {i : Nat} (hi : (i : Int) < T 8 0) {z : Int} (hz : -1 ≤ z ∧ z < T 12 0) : wf (f_newB T i z) := by
  obtain ⟨hB, w8, w21, w12, w29, w4, w7, w6, w5, w13, w25, w26, w28, w14, w3, w17⟩ := h
  have e : ∀ a b, a ≠ 13 ∧ a ≠ 14 ∧ a ≠ 15 ∧ a ≠ 16 ∧ a ≠ 17 ∧ a ≠ 18 ∧ a ≠ 19 ∧ a ≠ 20 ∧ a ≠ 7 ∧ a ≠ 21 → f_newB T i z a b = T a b := by
    intro a b ⟨h1, h2, h3, h4, h5, h6, h7, h8, h9, h10⟩
    simp only [f_newB, wa_s, h1, h2, h3, h4, h5, h6, h7, h8, h9, h10, false_and, if_false]
  have e21 : f_newB T i z 21 0 = T 21 0 + 1 := by simp [f_newB, wa_s]
  have e7 : ∀ j, f_newB T i z 7 j = if j = i then T 21 0 else T 7 j := by intro j; simp [f_newB, wa_s]
  have e13 : ∀ j, f_newB T i z 13 j = if j = (T 21 0).toNat then (i : Int) else T 13 j := by intro j; simp [f_newB, wa_s]
  have e14 : ∀ j, f_newB T i z 14 j = if j = (T 21 0).toNat then z else T 14 j := by intro j; simp [f_newB, wa_s]
  have e17 : ∀ j, f_newB T i z 17 j = if j = (T 21 0).toNat then 0 else T 17 j := by intro j; simp [f_newB, wa_s]
  have e18 : ∀ j, f_newB T i z 18 j = if j = (T 21 0).toNat then 0 else T 18 j := by intro j; simp [f_newB, wa_s]
  have e19 : ∀ j, f_newB T i z 19 j = if j = (T 21 0).toNat then 0 else T 19 j := by intro j; simp [f_newB, wa_s]
  have hi2 := Int.lt_of_lt_of_le hi w8.2
  refine ⟨fun a b => ?_, ?_, ?_, ?_, ?_, ?_, ?_, ?_, ?_, ?_, ?_, ?_, ?_, ?_, ?_, ?_⟩
  · have q := hB a b
    have q2 := hB 1 0
    simp only [f_newB, wa_s]
    repeat' split
    all_goals omega
  all_goals try rw [e21]
  all_goals try simp only [e 8 _ (by decide), e 12 _ (by decide), e 29 _ (by decide), e 4 _ (by decide), e 6 _ (by decide), e 5 _ (by decide), e 25 _ (by decide), e 26 _ (by decide), e 28 _ (by decide), e 3 _ (by decide), e7, e13, e14, e17, e18, e19]
  · exact w8
  · omega
  · exact w12
  · exact w29
  · exact w4
  · intro j hj; have := w7 j hj; split <;> omega
  · exact w6
  · exact w5
  · intro b hb; split
    · omega
    · have := w13 b (by omega); omega
  · exact w25
  · exact w26
  · intro m hm; have := w28 m hm; omega
  · intro b hb; split
    · omega
    · have := w14 b (by omega); omega
  · exact w3
  · intro b; have := w17 b; repeat' split
    all_goals omega
theorem wf_makes {T : wa_St} (h : wf T) {i : Nat} (hi : (i : Int) < T 8 0) (hb : f_hasBase T i) (h60 : T 21 0 < 60) (h295 : T 12 0 ≤ 295) : wf (f_makes T i) := by
  have h6 := h.2.2.2.2.2.2.2.1 i
  have key := f_mk_inv (T := T) (T 6 i).toNat (5 * i) T (f_base T i) ⟨fun _ _ _ _ _ _ => rfl, h, by omega, f_base_lt h hi hb⟩
  have e8 := key.1 8 0 (by decide) (by decide) (by decide) (by decide)
  have e21 := key.1 21 0 (by decide) (by decide) (by decide) (by decide)
  exact wf_newB key.2.1 (by rw [e21]; exact h60) (by rw [e8]; exact hi) key.2.2.2

theorem ho28 (T : wa_St) {v : Nat} (h : f_isOld T v = true) : T 28 v ≠ -1 := (decide_eq_true_eq.mp h).1
def p_inv (T : wa_St) (k : Nat) (T1 : wa_St) : Prop := wf T1 ∧ T1 21 0 = T 21 0 ∧ T1 1 0 + k ≤ 99999
def p_inv2 (T1 T2 : wa_St) : Prop := wf T2 ∧ T2 21 0 = T1 21 0 ∧ T2 1 0 = T1 1 0 + 1
theorem wf_day {T : wa_St} (h : wf T) {v : Int} (hv : -2 ≤ v ∧ v ≤ 100000) : wf (wa_s T 1 0 v) := by
  obtain ⟨hB, w8, w21, w12, w29, w4, w7, w6, w5, w13, w25, w26, w28, w14, w3, w17⟩ := h
  refine ⟨fun a b => ?_, w8, w21, w12, w29, w4, w7, w6, w5, w13, w25, w26, w28, w14, w3, w17⟩
  have := hB a b
  unfold wa_s
  split <;> omega
theorem wf_18 {T : wa_St} (h : wf T) (j : Nat) : wf (wa_s T 18 j 1) := by
  obtain ⟨hB, w8, w21, w12, w29, w4, w7, w6, w5, w13, w25, w26, w28, w14, w3, w17⟩ := h
  refine ⟨fun a b => ?_, w8, w21, w12, w29, w4, w7, w6, w5, w13, w25, w26, w28, w14, w3, fun b => ?_⟩
  · have := hB a b
    unfold wa_s
    split <;> omega
  · have := w17 b
    refine ⟨this.1, ?_, this.2.2⟩
    unfold wa_s
    split <;> omega
theorem p_inv2.of {T T1 : wa_St} {k : Nat} (h : p_inv T (k + 1) T1) : p_inv2 T1 (wa_s T1 1 0 (T1 1 0 + 1)) := by
  have hb := h.1.1 1 0
  have h2 := h.2.2
  exact ⟨wf_day h.1 (by omega), rfl, rfl⟩
theorem p_inv2.set {T1 T2 : wa_St} (h : p_inv2 T1 T2) (j : Nat) : p_inv2 T1 (wa_s T2 18 j 1) := ⟨wf_18 h.1 j, h.2.1, h.2.2⟩
theorem p_inv.next {T T1 T2 : wa_St} {k : Nat} (h : p_inv T (k + 1) T1) (h2 : p_inv2 T1 T2) : p_inv T k T2 := ⟨h2.1, h2.2.1.trans h.2.1, by have := h.2.2; have := h2.2.2; omega⟩
