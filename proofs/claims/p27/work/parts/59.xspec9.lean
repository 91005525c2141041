/-! the world after a machine is made (laid by program) -/
theorem wa_op_ad1 {ad : Nat → Nat → Nat} {k b q : Nat} {z : Int} (h : z < (b : Int)) : wa_op (wa_ad ad k b q) k z = wa_op ad k z := by
  unfold wa_op
  split
  · rfl
  · have hn : z.toNat ≠ b := by omega
    simp [wa_ad, hn]
theorem wx_allocM {cy : Nat → ClassId} {ad : Nat → Nat → Nat} {S X T : wa_St} {o : Int64} (hxr : xr S X) {n q : Nat} (hn : S 29 0 = (n : Int)) (i pl rg : Int) (hi : 0 ≤ i) (hb : 0 ≤ f_bakeFor S i pl rg) {BL : va_E} :
    ∀ (kd j : Nat) (e2 : va_E), wW cy (wa_ad ad 5 n q) (a_start S i pl rg) X T o kd j = some e2 → (wa_ad ad 5 n q) kd j = (wa_ad ad 5 n q) kd j ∧ ∃ e1 : va_E,
      (wa_up (wa_up (wa_up (wa_up (wW cy ad S X T o) 5 n BL) 5 n (.inr (3, [.int (iI (n : Int)), va_rf (some (ad 1 i.toNat)), .int (iI pl), .int (iI rg), va_rf (some (ad 3 (f_bakeFor S i pl rg).toNat))]))) 0 9 (wa_aR (cy 4) 30 (va_up (wx_in ad 5 (S 29 0)) n (some q)))) 0 0 (.inr (4, (wx_fs ad S).set 8 (.int (iI (S 29 0 + 1)))))) kd j = some e1 ∧ wa_cg e1 e2 := by
  intro kd j e2 h
  refine ⟨rfl, ?_⟩
  have hnt : (S 29 0).toNat = n := by omega
  have hx15 := hxr.2.2.2.2.2.2.1
  match kd, h with
  | 0, h =>
    match j, h with
    | 0, h => exact ⟨_, rfl, Or.inl (Option.some.inj h)⟩
    | 1, h => exact ⟨_, rfl, Or.inl (Option.some.inj h)⟩
    | 2, h => exact ⟨_, rfl, Or.inl (Option.some.inj h)⟩
    | 3, h => exact ⟨_, rfl, Or.inl (Option.some.inj h)⟩
    | 4, h => exact ⟨_, rfl, Or.inl (Option.some.inj h)⟩
    | 5, h => exact ⟨_, rfl, Or.inl (Option.some.inj h)⟩
    | 6, h => exact ⟨_, rfl, Or.inl (Option.some.inj h)⟩
    | 7, h => exact ⟨_, rfl, Or.inl (Option.some.inj h)⟩
    | 8, h => exact ⟨_, rfl, Or.inl (Option.some.inj h)⟩
    | 9, h =>
      refine ⟨_, rfl, ?_⟩
      rw [← Option.some.inj h]
      refine Or.inr (Or.inr ⟨_, _, _, _, rfl, rfl, fun x hx => ?_⟩)
      have e29 : a_start S i pl rg 29 0 = S 29 0 + 1 := wa_s_eq
      rw [e29]
      by_cases hxn : x = n
      · subst hxn
        rw [va_up_self, wx_in_s (by omega)]
        simp [wa_ad]
      · rw [va_up_ne _ _ hxn]
        by_cases hlt : (x : Int) < S 29 0
        · rw [wx_in_s hlt, wx_in_s (by omega)]
          simp [wa_ad, hxn]
        · rw [wx_in_n (by omega), wx_in_n (by omega)]
    | 10, h => exact ⟨_, rfl, Or.inl (Option.some.inj h)⟩
    | 11, h => exact ⟨_, rfl, Or.inl (Option.some.inj h)⟩
    | 12, h => exact ⟨_, rfl, Or.inl (Option.some.inj h)⟩
    | 13, h => exact ⟨_, rfl, Or.inl (Option.some.inj h)⟩
    | 14, h =>
      refine ⟨_, rfl, ?_⟩
      rw [← Option.some.inj h]
      exact Or.inr (Or.inr ⟨_, _, _, _, rfl, rfl, fun x hx => (wa_op_ad1 (by have := hx15 x; omega)).symm⟩)
    | m + 15, h => cases h
  | 1, h => exact ⟨e2, h, Or.inl rfl⟩
  | 2, h => exact ⟨e2, h, Or.inl rfl⟩
  | 3, h => exact ⟨e2, h, Or.inl rfl⟩
  | 4, h => exact ⟨e2, h, Or.inl rfl⟩
  | 5, h =>
    have hlt := (wx_lt h).1
    have he := (wx_lt h).2
    have e29 : a_start S i pl rg 29 0 = S 29 0 + 1 := wa_s_eq
    rw [e29] at hlt
    subst he
    by_cases hjn : j = n
    · subst hjn
      refine ⟨_, wa_up_s _ _ _ _, Or.inl ?_⟩
      have q25 : a_start S i pl rg 25 j = i := by simp [a_start, wa_s, hnt]
      have q26 : a_start S i pl rg 26 j = pl := by simp [a_start, wa_s, hnt]
      have q27 : a_start S i pl rg 27 j = rg := by simp [a_start, wa_s, hnt]
      have q28 : a_start S i pl rg 28 j = f_bakeFor S i pl rg := by simp [a_start, wa_s, hnt]
      simp only [wx_fM, q25, q26, q27, q28, wa_op_s hb]
      rfl
    · have hlt5 : (j : Int) < S 29 0 := by omega
      refine ⟨.inr (3, wx_fM ad S j), ?_, Or.inl ?_⟩
      · simp [wa_up, hjn]
        exact wW_5 hlt5
      · have q25 : a_start S i pl rg 25 j = S 25 j := by simp [a_start, wa_s, hnt, hjn]
        have q26 : a_start S i pl rg 26 j = S 26 j := by simp [a_start, wa_s, hnt, hjn]
        have q27 : a_start S i pl rg 27 j = S 27 j := by simp [a_start, wa_s, hnt, hjn]
        have q28 : a_start S i pl rg 28 j = S 28 j := by simp [a_start, wa_s, hnt, hjn]
        simp only [wx_fM, q25, q26, q27, q28]
        rfl
  | 6, h => exact ⟨e2, h, Or.inl rfl⟩
  | 7, h => exact ⟨e2, h, Or.inl rfl⟩
  | m + 8, h => cases h
