/-! what the reference needs of its state so that it never leaves a row; what each call does to the state -/
def wf (T : wa_St) : Prop := (∀ k j, -2 ≤ T k j ∧ T k j ≤ 100000) ∧ (0 ≤ T 8 0 ∧ T 8 0 ≤ 10) ∧ (0 ≤ T 21 0 ∧ T 21 0 ≤ 60) ∧ (0 ≤ T 12 0 ∧ T 12 0 ≤ 300) ∧ (0 ≤ T 29 0 ∧ T 29 0 ≤ 30) ∧ (∀ i : Nat, (i : Int) < T 8 0 → -1 ≤ T 4 i ∧ T 4 i < i) ∧ (∀ i : Nat, (i : Int) < T 8 0 → -1 ≤ T 7 i ∧ T 7 i < T 21 0) ∧ (∀ i, 0 ≤ T 6 i ∧ T 6 i ≤ 5) ∧ (∀ j, 0 ≤ T 5 j ∧ T 5 j ≤ 9) ∧ (∀ b : Nat, (b : Int) < T 21 0 → 0 ≤ T 13 b ∧ T 13 b < T 8 0) ∧ (∀ m : Nat, (m : Int) < T 29 0 → 0 ≤ T 25 m ∧ T 25 m < T 8 0) ∧ (∀ m : Nat, (m : Int) < T 29 0 → 0 ≤ T 26 m ∧ T 26 m ≤ 2) ∧ (∀ m : Nat, (m : Int) < T 29 0 → -1 ≤ T 28 m ∧ T 28 m < T 21 0) ∧ (∀ b : Nat, (b : Int) < T 21 0 → -1 ≤ T 14 b ∧ T 14 b < T 12 0) ∧ (∀ j, 0 ≤ T 3 j) ∧ (∀ b, (0 ≤ T 17 b ∧ T 17 b ≤ 1) ∧ (0 ≤ T 18 b ∧ T 18 b ≤ 1) ∧ (0 ≤ T 19 b ∧ T 19 b ≤ 1))
theorem wf_th {T : wa_St} (h : wf T) {k : Int} (hk : 0 ≤ k ∧ k ≤ 3) : wf (wa_s T 0 0 k) := by
  obtain ⟨hB, h⟩ := h
  refine ⟨fun a b => ?_, h⟩
  by_cases q : a = 0 ∧ b = 0
  · rw [show wa_s T 0 0 k a b = k from if_pos q]; omega
  · rw [wa_s_ne q]; exact hB a b
theorem f_fnd_rng (p : Nat → Bool) : ∀ n i, -2 ≤ f_fnd p n i ∧ f_fnd p n i < (n : Int) + i
  | 0, i => by simp only [f_fnd]; omega
  | n + 1, i => by
    have ih := f_fnd_rng p n (i + 1)
    simp only [f_fnd]
    split <;> omega
theorem f_find_rng {T : wa_St} (h : wf T) (a b c : Int) : -2 ≤ f_find T a b c ∧ f_find T a b c ≤ 300 := by
  have := f_fnd_rng (fun l => decide (T 9 l = a ∧ T 10 l = b ∧ T 11 l = c)) (T 12 0).toNat 0
  obtain ⟨-, -, -, h2, -⟩ := h
  unfold f_find
  omega
theorem f_base_rng {T : wa_St} (h : wf T) (i : Nat) : -2 ≤ f_base T i ∧ f_base T i ≤ 100000 := by
  unfold f_base
  split
  · omega
  · exact h.1 _ _
theorem f_top_rng {T : wa_St} (h : wf T) : ∀ (n s : Nat) (z : Int), (-2 ≤ z ∧ z ≤ 100000) → -2 ≤ f_top T n s z ∧ f_top T n s z ≤ 100000
  | 0, s, z, hz => hz
  | n + 1, s, z, hz => by
    simp only [f_top]
    split
    · omega
    · have := f_find_rng h z (T 5 s) (T 2 (T 5 s).toNat)
      exact f_top_rng h n (s + 1) _ (by omega)
theorem f_topNow_rng {T : wa_St} (h : wf T) (i : Nat) : -2 ≤ f_topNow T i ∧ f_topNow T i ≤ 100000 := f_top_rng h _ _ _ (f_base_rng h i)
theorem f_top_m2 (T : wa_St) : ∀ n s, f_top T n s (-2) = -2
  | 0, _ => rfl
  | n + 1, s => by simp [f_top]
theorem f_cnt_rng (p : Nat → Bool) : ∀ n, 0 ≤ f_cnt p n ∧ f_cnt p n ≤ n
  | 0 => by simp only [f_cnt]; omega
  | n + 1 => by
    have ih := f_cnt_rng p n
    have := bI_01 (p n = true)
    simp only [f_cnt]
    omega
theorem f_last_rng (p : Nat → Bool) : ∀ n, -1 ≤ f_last p n ∧ f_last p n < n
  | 0 => by simp only [f_last]; omega
  | n + 1 => by
    have ih := f_last_rng p n
    simp only [f_last]
    split <;> omega
theorem f_run_rng {T : wa_St} (h : wf T) (b : Int) : 0 ≤ f_run T b ∧ f_run T b ≤ 30 := by
  have := f_cnt_rng (fun m => decide (T 28 m = b)) (T 29 0).toNat
  obtain ⟨-, -, -, -, h1, -⟩ := h
  unfold f_run
  omega
theorem f_bakeFor_rng {T : wa_St} (h : wf T) (i pl rg : Int) : -1 ≤ f_bakeFor T i pl rg ∧ f_bakeFor T i pl rg < 60 := by
  have := f_last_rng (f_can T i pl rg) (T 21 0).toNat
  obtain ⟨-, -, h1, -⟩ := h
  unfold f_bakeFor
  omega
theorem f_bakeFor_lt {T : wa_St} (h : wf T) (i pl rg : Int) : f_bakeFor T i pl rg < T 21 0 := by
  have := f_last_rng (f_can T i pl rg) (T 21 0).toNat
  obtain ⟨-, -, h1, -⟩ := h
  unfold f_bakeFor
  omega
/-- a call that may be refused: k is the place of its exception, 0 for none -/
def o_s (T : wa_St) (k : Int) (act : wa_St) : wa_St := if k = 0 then act else wa_s T 0 0 k
def o_v (k v : Int) : Int := if k = 0 then v else 0
def k_add (T : wa_St) (q : Int) : Int := if ¬ (-1 ≤ q ∧ q ≤ T 8 0 - 1) then 1 else if T 8 0 = 10 then 2 else 0
def a_add (T : wa_St) (q : Int) : wa_St := wa_s (wa_s (wa_s (wa_s T 0 0 0) 4 (T 8 0).toNat q) 7 (T 8 0).toNat (-1)) 8 0 (T 8 0 + 1)
def k_step (T : wa_St) (i q : Int) : Int := if ¬ f_isImage T i then 1 else if ¬ (0 ≤ q ∧ q ≤ 9) then 2 else if T 6 i.toNat = 5 then 3 else 0
def a_step (T : wa_St) (i q : Int) : wa_St := wa_s (wa_s (wa_s T 0 0 0) 5 (5 * i.toNat + (T 6 i.toNat).toNat) q) 6 i.toNat (T 6 i.toNat + 1)
def k_change (T : wa_St) (i q : Int) : Int := if (0 ≤ i ∧ i ≤ 9) ∧ (q = -1 ∨ (0 ≤ q ∧ q ≤ T 3 i.toNat - 1)) then 0 else 1
def a_change (T : wa_St) (i q : Int) : wa_St := if q = -1 then wa_s (wa_s (wa_s T 0 0 0) 3 i.toNat (T 3 i.toNat + 1)) 2 i.toNat (T 3 i.toNat + 1) else wa_s (wa_s (wa_s T 0 0 0) 3 i.toNat (T 3 i.toNat + 0)) 2 i.toNat q
