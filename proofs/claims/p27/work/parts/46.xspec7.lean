/-! the world after a bake is made (laid by program) -/
/-- what was, stands where it stood -/
def x_ext (S : wa_St) (ad ad' : Nat → Nat → Nat) : Prop := (∀ i, ad' 0 i = ad 0 i) ∧ (∀ i : Nat, (i : Int) < S 8 0 → ad' 1 i = ad 1 i ∧ ad' 2 i = ad 2 i) ∧ (∀ i : Nat, (i : Int) < S 21 0 → ad' 3 i = ad 3 i ∧ ad' 4 i = ad 4 i) ∧ (∀ i : Nat, (i : Int) < S 29 0 → ad' 5 i = ad 5 i) ∧ (∀ i, ad' 6 i = ad 6 i) ∧ (∀ i, ad' 7 i = ad 7 i)
theorem x_ext.rf (S : wa_St) (ad : Nat → Nat → Nat) : x_ext S ad ad := ⟨fun _ => rfl, fun _ _ => ⟨rfl, rfl⟩, fun _ _ => ⟨rfl, rfl⟩, fun _ _ => rfl, fun _ => rfl, fun _ => rfl⟩
theorem x_ext.trans {S S' : wa_St} {ad ad' ad'' : Nat → Nat → Nat} (h : x_ext S ad ad') (h' : x_ext S' ad' ad'') (h8 : S 8 0 ≤ S' 8 0) (h21 : S 21 0 ≤ S' 21 0) (h29 : S 29 0 ≤ S' 29 0) : x_ext S ad ad'' :=
  ⟨fun i => (h'.1 i).trans (h.1 i), fun i hi => ⟨((h'.2.1 i (by omega)).1).trans (h.2.1 i hi).1, ((h'.2.1 i (by omega)).2).trans (h.2.1 i hi).2⟩, fun i hi => ⟨((h'.2.2.1 i (by omega)).1).trans (h.2.2.1 i hi).1, ((h'.2.2.1 i (by omega)).2).trans (h.2.2.1 i hi).2⟩, fun i hi => (h'.2.2.2.1 i (by omega)).trans (h.2.2.2.1 i hi), fun i => (h'.2.2.2.2.1 i).trans (h.2.2.2.2.1 i), fun i => (h'.2.2.2.2.2 i).trans (h.2.2.2.2.2 i)⟩
theorem wa_op_ad {ad : Nat → Nat → Nat} {k k' b b' q q' : Nat} {kd : Nat} {z : Int} (h : z < (b : Int)) (h' : kd ≠ k') (hb : kd = k) : wa_op (wa_ad (wa_ad ad k b q) k' b' q') kd z = wa_op ad kd z := by
  unfold wa_op
  split
  · rfl
  · have hn : z.toNat ≠ b := by omega
    subst hb
    simp [wa_ad, hn, h']
def x_bkf (ad : Nat → Nat → Nat) (b i u9 : Nat) (tz dz : Int) : List Value := [.int (iI (b : Int)), va_rf (some (ad 1 i)), .int (iI tz), .int (iI dz), .ref u9, .int 0, .int 0, .int 0, .int 0]
def x_R3 : Nat → Int := wa_g (wa_g (wa_g (fun _ => 0) 0 (-1)) 1 (-1)) 2 (-1)
theorem f_newB_o {S : wa_St} {i : Nat} {z : Int} {a b : Nat} (h : a ≠ 13 ∧ a ≠ 14 ∧ a ≠ 15 ∧ a ≠ 16 ∧ a ≠ 17 ∧ a ≠ 18 ∧ a ≠ 19 ∧ a ≠ 20 ∧ a ≠ 7 ∧ a ≠ 21) : f_newB S i z a b = S a b := by
  obtain ⟨h1, h2, h3, h4, h5, h6, h7, h8, h9, h10⟩ := h
  unfold f_newB
  simp [wa_s, h1, h2, h3, h4, h5, h6, h7, h8, h9, h10]
theorem wx_allocB {cy : Nat → ClassId} {ad : Nat → Nat → Nat} {S X T : wa_St} {o : Int64} (hwf : wf S) {b i q u9 : Nat} (hb : S 21 0 = (b : Int)) (hi : (i : Int) < S 8 0) (tz : Int) {BL : va_E} {r0 : va_E} :
    ∀ (kd j : Nat) (e2 : va_E), wW cy (wa_ad (wa_ad ad 3 b q) 4 b u9) (f_newB S i tz) X T o kd j = some e2 → (wa_ad (wa_ad ad 3 b q) 4 b u9) kd j = (wa_ad (wa_ad ad 3 b q) 4 b u9) kd j ∧ ∃ e1 : va_E,
      (wa_up (wa_up (wa_up (wa_up (wa_up (wa_up (wa_up (wW cy ad S X T o) 3 b BL) 4 b r0) 3 b (.inr (0, x_bkf ad b i u9 tz (S 1 0)))) 4 b (wa_aI (cy 0) 3 x_R3)) 0 8 (wa_aR (cy 2) 60 (va_up (wx_in ad 3 (S 21 0)) b (some q)))) 0 0 (.inr (4, (wx_fs ad S).set 6 (.int (iI (S 21 0 + 1)))))) 1 i (.inr (1, (wx_fI ad S X i).set 4 (va_rf (some q))))) kd j = some e1 ∧ wa_cg e1 e2 := by
  intro kd j e2 h
  refine ⟨rfl, ?_⟩
  obtain ⟨hSB, w8, w21, w12, w29, w4, w7, w6, w5, w13, w25, w26, w28, w14, w3, wf17⟩ := id hwf
  have hbt : (S 21 0).toNat = b := by omega
  match kd, h with
  | 0, h =>
    match j, h with
    | 0, h => exact ⟨_, rfl, Or.inl (Option.some.inj h)⟩
    | 1, h => exact ⟨_, rfl, Or.inl (Option.some.inj h)⟩
    | 2, h => exact ⟨_, rfl, Or.inl (Option.some.inj h)⟩
    | 3, h => exact ⟨_, rfl, Or.inl (Option.some.inj h)⟩
    | 4, h => exact ⟨_, rfl, Or.inl (Option.some.inj h)⟩
    | 5, h => exact ⟨_, rfl, Or.inl (Option.some.inj h)⟩
    | 6, h => exact ⟨_, rfl, Or.inl (Option.some.inj h)⟩
    | 7, h => exact ⟨_, rfl, Or.inl (Option.some.inj h)⟩
    | 8, h =>
      refine ⟨_, rfl, ?_⟩
      rw [← Option.some.inj h]
      refine Or.inr (Or.inr ⟨_, _, _, _, rfl, rfl, fun x hx => ?_⟩)
      have e21 : f_newB S i tz 21 0 = S 21 0 + 1 := wa_s_eq
      rw [e21]
      by_cases hxb : x = b
      · subst hxb
        rw [va_up_self, wx_in_s (by omega)]
        simp [wa_ad]
      · rw [va_up_ne _ _ hxb]
        by_cases hlt : (x : Int) < S 21 0
        · rw [wx_in_s hlt, wx_in_s (by omega)]
          simp [wa_ad, hxb]
        · rw [wx_in_n (by omega), wx_in_n (by omega)]
    | 9, h => exact ⟨_, rfl, Or.inl (Option.some.inj h)⟩
    | 10, h => exact ⟨_, rfl, Or.inl (Option.some.inj h)⟩
    | 11, h => exact ⟨_, rfl, Or.inl (Option.some.inj h)⟩
    | 12, h => exact ⟨_, rfl, Or.inl (Option.some.inj h)⟩
    | 13, h => exact ⟨_, rfl, Or.inl (Option.some.inj h)⟩
    | 14, h => exact ⟨_, rfl, Or.inl (Option.some.inj h)⟩
    | n + 15, h => cases h
  | 1, h =>
    have hlt := (wx_lt h).1
    have he := (wx_lt h).2
    have hlt : (j : Int) < S 8 0 := hlt
    subst he
    by_cases hji : j = i
    · subst hji
      refine ⟨_, wa_up_s _ _ _ _, Or.inl ?_⟩
      have e7 : f_newB S j tz 7 j = S 21 0 := by simp [f_newB, wa_s]
      have e4 : f_newB S j tz 4 j = S 4 j := f_newB_o (by decide)
      have e6 : f_newB S j tz 6 j = S 6 j := f_newB_o (by decide)
      have ea : wa_op (wa_ad (wa_ad ad 3 b q) 4 b u9) 3 (S 21 0) = some q := by
        rw [wa_op_s (by omega), hbt]; simp [wa_ad]
      simp only [wx_fI, e7, e4, e6, ea]
      rfl
    · refine ⟨.inr (1, wx_fI ad S X j), (wa_up_n (fun g => hji g.2)).trans (wW_1 (cy := cy) (T := T) (o := o) hlt), Or.inl ?_⟩
      have e7 : f_newB S i tz 7 j = S 7 j := by simp [f_newB, wa_s, hji]
      have e4 : f_newB S i tz 4 j = S 4 j := f_newB_o (by decide)
      have e6 : f_newB S i tz 6 j = S 6 j := f_newB_o (by decide)
      have q7 := w7 j hlt
      have ea : wa_op (wa_ad (wa_ad ad 3 b q) 4 b u9) 3 (S 7 j) = wa_op ad 3 (S 7 j) := wa_op_ad (by omega) (by decide) rfl
      simp only [wx_fI, e7, e4, e6, ea]
      rfl
  | 2, h =>
    have hlt := (wx_lt h).1
    have he := (wx_lt h).2
    exact ⟨e2, h, Or.inl rfl⟩
  | 3, h =>
    have hlt := (wx_lt h).1
    have he := (wx_lt h).2
    have e21 : f_newB S i tz 21 0 = S 21 0 + 1 := wa_s_eq
    rw [e21] at hlt
    subst he
    by_cases hjb : j = b
    · subst hjb
      refine ⟨.inr (0, x_bkf ad j i u9 tz (S 1 0)), wa_up_s _ _ _ _, Or.inl ?_⟩
      have g0 : (0 : Int32) = iI 0 := iI_0
      simp only [x_bkf, wx_fB, f_newB, hbt, g0]
      simp [wa_s, wa_ad]
      rfl
    · have hlt3 : (j : Int) < S 21 0 := by omega
      refine ⟨.inr (0, wx_fB ad S j), ?_, Or.inl ?_⟩
      · simp [wa_up, hjb]
        exact wW_3 hlt3
      · simp [wx_fB, f_newB, hbt, wa_s, wa_ad, hjb]
  | 4, h =>
    have hlt := (wx_lt h).1
    have he := (wx_lt h).2
    have e21 : f_newB S i tz 21 0 = S 21 0 + 1 := wa_s_eq
    rw [e21] at hlt
    subst he
    by_cases hjb : j = b
    · subst hjb
      refine ⟨wa_aI (cy 0) 3 x_R3, wa_up_s _ _ _ _, Or.inr (Or.inl ⟨_, _, _, _, rfl, rfl, fun x hx => ?_⟩)⟩
      match x, hx with
      | 0, _ => simp [f_newB, hbt, wa_s, x_R3, wa_g]
      | 1, _ => simp [f_newB, hbt, wa_s, x_R3, wa_g]
      | 2, _ => simp [f_newB, hbt, wa_s, x_R3, wa_g]
    · have hlt3 : (j : Int) < S 21 0 := by omega
      refine ⟨wa_aI (cy 0) 3 (fun x => S 20 (3 * j + x)), ?_, Or.inr (Or.inl ⟨_, _, _, _, rfl, rfl, fun x hx => ?_⟩)⟩
      · simp [wa_up, hjb]
        exact wW_4 hlt3
      · have g1 : ¬ (3 * j + x = 3 * b) := by omega
        have g2 : ¬ (3 * j + x = 3 * b + 1) := by omega
        have g3 : ¬ (3 * j + x = 3 * b + 2) := by omega
        simp [f_newB, hbt, wa_s, g1, g2, g3]
  | 5, h =>
    have hlt := (wx_lt h).1
    have he := (wx_lt h).2
    have hlt : (j : Int) < S 29 0 := hlt
    subst he
    have q28 := w28 j hlt
    have ea : wa_op (wa_ad (wa_ad ad 3 b q) 4 b u9) 3 (S 28 j) = wa_op ad 3 (S 28 j) := wa_op_ad (by omega) (by decide) rfl
    refine ⟨.inr (3, wx_fM ad S j), wW_5 (cy := cy) (X := X) (T := T) (o := o) hlt, Or.inl ?_⟩
    have e28 : f_newB S i tz 28 j = S 28 j := f_newB_o (by decide)
    have e25 : f_newB S i tz 25 j = S 25 j := f_newB_o (by decide)
    have e26 : f_newB S i tz 26 j = S 26 j := f_newB_o (by decide)
    have e27 : f_newB S i tz 27 j = S 27 j := f_newB_o (by decide)
    simp only [wx_fM, e28, e25, e26, e27, ea]
    rfl
  | 6, h => exact ⟨e2, h, Or.inl rfl⟩
  | 7, h => exact ⟨e2, h, Or.inl rfl⟩
  | n + 8, h => cases h
def x_make (S : wa_St) (i : Nat) : wa_St := f_newB (f_mk (S 6 i).toNat (5 * i) S (x_begin S i)).1 i (f_mk (S 6 i).toNat (5 * i) S (x_begin S i)).2
def x_bn (S : wa_St) (z : Int) : wa_St := if 0 ≤ z ∧ x_needs S z.toNat ∧ S 21 0 < 60 then x_make S z.toNat else S
theorem xr_same {S S' X : wa_St} (h : xr S X) (e : ∀ a b, a = 8 ∨ a = 9 ∨ a = 10 ∨ a = 11 ∨ a = 12 ∨ a = 29 → S' a b = S a b) : xr S' X := by
  obtain ⟨h1, h2, h3, h4, h5, h6, h7, h8⟩ := h
  have e12 := e 12 0 (by decide)
  have e8 := e 8 0 (by decide)
  have e29 := e 29 0 (by decide)
  refine ⟨fun j hj => ?_, h2, fun j => ?_, fun j hj => ?_, fun j => ?_, fun j => ?_, fun j => ?_, fun j hj => ?_⟩
  · rw [e 9 j (by decide), e 10 j (by decide), e 11 j (by decide)]; exact h1 j (by omega)
  · rw [e8]; exact h3 j
  · exact h4 j (by omega)
  · rw [e 9 j (by decide)]; exact h5 j
  · rw [e8]; exact h6 j
  · rw [e29]; exact h7 j
  · rw [e 9 j (by decide)]; exact h8 j (by omega)
theorem x_begin_lt {S : wa_St} (h : wf S) {i : Nat} (hi : (i : Int) < S 8 0) : -1 ≤ x_begin S i ∧ x_begin S i < S 12 0 := by
  obtain ⟨hSB, w8, w21, w12, w29, w4, w7, w6, w5, w13, w25, w26, w28, w14, w3, wf17⟩ := h
  unfold x_begin
  have q4 := w4 i hi
  split
  · omega
  · have q7 := w7 (S 4 i).toNat (by omega)
    have := w14 (S 7 (S 4 i).toNat).toNat (by omega)
    omega
/-- the end of a method that makes: another map of places, and what the class keeps for itself -/
abbrev wx_P (A : Nat → Prop) (cy : Nat → ClassId) (ad : Nat → Nat → Nat) (T : wa_St) (o : Int64) (S S' : wa_St) : (Nat → Nat → Nat) × wa_St → Prop := fun u => xr S' u.2 ∧ wa_wj A u.1 (wW cy u.1 S' u.2 T o) ∧ x_ext S ad u.1
abbrev wx_B (D : va_G) (cy : Nat → ClassId) (T : wa_St) (o : Int64) (S' : wa_St) : (Nat → Nat → Nat) × wa_St → Heap → Prop := fun u H => wa_wd D u.1 (wW cy u.1 S' u.2 T o) H
