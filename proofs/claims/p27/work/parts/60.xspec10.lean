/-! the world after an image is made (laid by program) -/
theorem wx_allocI {cy : Nat → ClassId} {ad : Nat → Nat → Nat} {S X T : wa_St} {o : Int64} (hwf : wf S) (hxr : xr S X) {n q r : Nat} (hn : S 8 0 = (n : Int)) (z : Int) (hz : -1 ≤ z ∧ z < S 8 0) (h6 : S 6 n = 0) (h5 : ∀ j, j < 5 → S 5 (5 * n + j) = 0) {BL : va_E} :
    ∀ (kd j : Nat) (e2 : va_E), wW cy (wa_ad (wa_ad ad 1 n q) 2 n r) (a_add S z) (wa_s X 20 n 0) T o kd j = some e2 → (wa_ad (wa_ad ad 1 n q) 2 n r) kd j = (wa_ad (wa_ad ad 1 n q) 2 n r) kd j ∧ ∃ e1 : va_E,
      (wa_up (wa_up (wa_up (wa_up (wa_up (wW cy ad S X T o) 1 n BL) 2 n (wa_aI (cy 0) 5 (fun _ => 0))) 1 n (.inr (1, [.int (iI (n : Int)), va_rf (wa_op ad 1 z), .ref r, .int 0, .null, .int 0]))) 0 7 (wa_aR (cy 3) 10 (va_up (wx_in ad 1 (S 8 0)) n (some q)))) 0 0 (.inr (4, (wx_fs ad S).set 4 (.int (iI (S 8 0 + 1)))))) kd j = some e1 ∧ wa_cg e1 e2 := by
  intro kd j e2 h
  refine ⟨rfl, ?_⟩
  have hnt : (S 8 0).toNat = n := by omega
  obtain ⟨hSB, w8, w21, w12, w29, w4, w7, w6, w5, w13, w25, w26, w28, w14, w3, wf17⟩ := id hwf
  obtain ⟨hx1, hXB, hx11, hx12, hx13, hx14, hx15, hx16⟩ := id hxr
  match kd, h with
  | 0, h =>
    match j, h with
    | 0, h => exact ⟨_, rfl, Or.inl (Option.some.inj h)⟩
    | 1, h => exact ⟨_, rfl, Or.inl (Option.some.inj h)⟩
    | 2, h => exact ⟨_, rfl, Or.inl (Option.some.inj h)⟩
    | 3, h => exact ⟨_, rfl, Or.inl (Option.some.inj h)⟩
    | 4, h => exact ⟨_, rfl, Or.inl (Option.some.inj h)⟩
    | 5, h => exact ⟨_, rfl, Or.inl (Option.some.inj h)⟩
    | 6, h => exact ⟨_, rfl, Or.inl (Option.some.inj h)⟩
    | 7, h =>
      refine ⟨_, rfl, ?_⟩
      rw [← Option.some.inj h]
      refine Or.inr (Or.inr ⟨_, _, _, _, rfl, rfl, fun x hx => ?_⟩)
      have e8 : a_add S z 8 0 = S 8 0 + 1 := wa_s_eq
      rw [e8]
      by_cases hxn : x = n
      · subst hxn
        rw [va_up_self, wx_in_s (by omega)]
        simp [wa_ad]
      · rw [va_up_ne _ _ hxn]
        by_cases hlt : (x : Int) < S 8 0
        · rw [wx_in_s hlt, wx_in_s (by omega)]
          simp [wa_ad, hxn]
        · rw [wx_in_n (by omega), wx_in_n (by omega)]
    | 8, h => exact ⟨_, rfl, Or.inl (Option.some.inj h)⟩
    | 9, h => exact ⟨_, rfl, Or.inl (Option.some.inj h)⟩
    | 10, h => exact ⟨_, rfl, Or.inl (Option.some.inj h)⟩
    | 11, h =>
      refine ⟨_, rfl, ?_⟩
      rw [← Option.some.inj h]
      exact Or.inr (Or.inr ⟨_, _, _, _, rfl, rfl, fun x hx => (wa_op_ad (by have := hx11 x; omega) (by decide) rfl).symm⟩)
    | 12, h =>
      refine ⟨_, rfl, ?_⟩
      rw [← Option.some.inj h]
      exact Or.inr (Or.inr ⟨_, _, _, _, rfl, rfl, fun x hx => (wa_op_ad (by have := hx14 x; omega) (by decide) rfl).symm⟩)
    | 13, h => exact ⟨_, rfl, Or.inl (Option.some.inj h)⟩
    | 14, h => exact ⟨_, rfl, Or.inl (Option.some.inj h)⟩
    | m + 15, h => cases h
  | 1, h =>
    have hlt := (wx_lt h).1
    have he := (wx_lt h).2
    have e8 : a_add S z 8 0 = S 8 0 + 1 := wa_s_eq
    rw [e8] at hlt
    subst he
    by_cases hjn : j = n
    · subst hjn
      refine ⟨.inr (1, [.int (iI (j : Int)), va_rf (wa_op ad 1 z), .ref r, .int 0, .null, .int 0]), wa_up_s _ _ _ _, Or.inl ?_⟩
      have q4 : a_add S z 4 j = z := by simp [a_add, wa_s, hnt]
      have q6 : a_add S z 6 j = 0 := by simp [a_add, wa_s, h6]
      have q7 : a_add S z 7 j = -1 := by simp [a_add, wa_s, hnt]
      have ea : wa_op (wa_ad (wa_ad ad 1 j q) 2 j r) 1 z = wa_op ad 1 z := wa_op_ad (by omega) (by decide) rfl
      have g0 : (0 : Int32) = iI 0 := iI_0
      simp only [wx_fI, q4, q6, q7, ea, g0, wa_s_eq]
      simp [wa_ad]
      rfl
    · have hlt8 : (j : Int) < S 8 0 := by omega
      refine ⟨.inr (1, wx_fI ad S X j), ?_, Or.inl ?_⟩
      · simp [wa_up, hjn]
        exact wW_1 hlt8
      · have q4 : a_add S z 4 j = S 4 j := by simp [a_add, wa_s, hnt, hjn]
        have q6 : a_add S z 6 j = S 6 j := by simp [a_add, wa_s]
        have q7 : a_add S z 7 j = S 7 j := by simp [a_add, wa_s, hnt, hjn]
        have q5 := w4 j hlt8
        have ea : wa_op (wa_ad (wa_ad ad 1 n q) 2 n r) 1 (S 4 j) = wa_op ad 1 (S 4 j) := wa_op_ad (by omega) (by decide) rfl
        have er : wa_ad (wa_ad ad 1 n q) 2 n r 2 j = ad 2 j := by simp [wa_ad, hjn]
        simp only [wx_fI, q4, q6, q7, ea, er, wa_s_nj hjn]
        rfl
  | 2, h =>
    have hlt := (wx_lt h).1
    have he := (wx_lt h).2
    have e8 : a_add S z 8 0 = S 8 0 + 1 := wa_s_eq
    rw [e8] at hlt
    subst he
    by_cases hjn : j = n
    · subst hjn
      refine ⟨wa_aI (cy 0) 5 (fun _ => 0), wa_up_s _ _ _ _, Or.inr (Or.inl ⟨_, _, _, _, rfl, rfl, fun x hx => ?_⟩)⟩
      have := h5 x hx
      simp [a_add, wa_s, this]
    · have hlt8 : (j : Int) < S 8 0 := by omega
      refine ⟨wa_aI (cy 0) 5 (fun x => S 5 (5 * j + x)), ?_, Or.inl rfl⟩
      simp [wa_up, hjn]
      exact wW_2 hlt8
  | 3, h =>
    have hlt := (wx_lt h).1
    have he := (wx_lt h).2
    have hlt : (j : Int) < S 21 0 := hlt
    subst he
    have q13 := w13 j hlt
    refine ⟨.inr (0, wx_fB ad S j), wW_3 (cy := cy) (X := X) (T := T) (o := o) hlt, Or.inl ?_⟩
    have e13 : a_add S z 13 j = S 13 j := by simp [a_add, wa_s]
    have hne : ¬ ((S 13 j).toNat = n) := by omega
    have er : wa_ad (wa_ad ad 1 n q) 2 n r 1 (S 13 j).toNat = ad 1 (S 13 j).toNat := by simp [wa_ad, hne]
    simp only [wx_fB, e13, er]
    rfl
  | 4, h => exact ⟨e2, h, Or.inl rfl⟩
  | 5, h =>
    have hlt := (wx_lt h).1
    have he := (wx_lt h).2
    have hlt : (j : Int) < S 29 0 := hlt
    subst he
    have q25 := w25 j hlt
    refine ⟨.inr (3, wx_fM ad S j), wW_5 (cy := cy) (X := X) (T := T) (o := o) hlt, Or.inl ?_⟩
    have e25 : a_add S z 25 j = S 25 j := by simp [a_add, wa_s]
    have hne : ¬ ((S 25 j).toNat = n) := by omega
    have er : wa_ad (wa_ad ad 1 n q) 2 n r 1 (S 25 j).toNat = ad 1 (S 25 j).toNat := by simp [wa_ad, hne]
    simp only [wx_fM, e25, er]
    rfl
  | 6, h => exact ⟨e2, h, Or.inl rfl⟩
  | 7, h => exact ⟨e2, h, Or.inl rfl⟩
  | m + 8, h => cases h
