/-! pure: the invariant of a run; what one call of both sides leaves (laid by program) -/
theorem ws_0 {T : wa_St} (h : wf T) (j : Nat) {v : Int} (hv : -2 ≤ v ∧ v ≤ 100000) : wf (wa_s T 0 j v) := by
  obtain ⟨hB, w8, w21, w12, w29, w4, w7, w6, w5, w13, w25, w26, w28, w14, w3, w17⟩ := h
  refine ⟨wa_sB hB hv, w8, w21, w12, w29, w4, w7, w6, w5, w13, w25, w26, w28, w14, w3, w17⟩
theorem ws_1 {T : wa_St} (h : wf T) (j : Nat) {v : Int} (hv : -2 ≤ v ∧ v ≤ 100000) : wf (wa_s T 1 j v) := by
  obtain ⟨hB, w8, w21, w12, w29, w4, w7, w6, w5, w13, w25, w26, w28, w14, w3, w17⟩ := h
  refine ⟨wa_sB hB hv, w8, w21, w12, w29, w4, w7, w6, w5, w13, w25, w26, w28, w14, w3, w17⟩
theorem ws_2 {T : wa_St} (h : wf T) (j : Nat) {v : Int} (hv : -2 ≤ v ∧ v ≤ 100000) : wf (wa_s T 2 j v) := by
  obtain ⟨hB, w8, w21, w12, w29, w4, w7, w6, w5, w13, w25, w26, w28, w14, w3, w17⟩ := h
  refine ⟨wa_sB hB hv, w8, w21, w12, w29, w4, w7, w6, w5, w13, w25, w26, w28, w14, w3, w17⟩
theorem ws_15 {T : wa_St} (h : wf T) (j : Nat) {v : Int} (hv : -2 ≤ v ∧ v ≤ 100000) : wf (wa_s T 15 j v) := by
  obtain ⟨hB, w8, w21, w12, w29, w4, w7, w6, w5, w13, w25, w26, w28, w14, w3, w17⟩ := h
  refine ⟨wa_sB hB hv, w8, w21, w12, w29, w4, w7, w6, w5, w13, w25, w26, w28, w14, w3, w17⟩
theorem ws_16 {T : wa_St} (h : wf T) (j : Nat) {v : Int} (hv : -2 ≤ v ∧ v ≤ 100000) : wf (wa_s T 16 j v) := by
  obtain ⟨hB, w8, w21, w12, w29, w4, w7, w6, w5, w13, w25, w26, w28, w14, w3, w17⟩ := h
  refine ⟨wa_sB hB hv, w8, w21, w12, w29, w4, w7, w6, w5, w13, w25, w26, w28, w14, w3, w17⟩
theorem ws_20 {T : wa_St} (h : wf T) (j : Nat) {v : Int} (hv : -2 ≤ v ∧ v ≤ 100000) : wf (wa_s T 20 j v) := by
  obtain ⟨hB, w8, w21, w12, w29, w4, w7, w6, w5, w13, w25, w26, w28, w14, w3, w17⟩ := h
  refine ⟨wa_sB hB hv, w8, w21, w12, w29, w4, w7, w6, w5, w13, w25, w26, w28, w14, w3, w17⟩
theorem ws_22 {T : wa_St} (h : wf T) (j : Nat) {v : Int} (hv : -2 ≤ v ∧ v ≤ 100000) : wf (wa_s T 22 j v) := by
  obtain ⟨hB, w8, w21, w12, w29, w4, w7, w6, w5, w13, w25, w26, w28, w14, w3, w17⟩ := h
  refine ⟨wa_sB hB hv, w8, w21, w12, w29, w4, w7, w6, w5, w13, w25, w26, w28, w14, w3, w17⟩
theorem ws_23 {T : wa_St} (h : wf T) (j : Nat) {v : Int} (hv : -2 ≤ v ∧ v ≤ 100000) : wf (wa_s T 23 j v) := by
  obtain ⟨hB, w8, w21, w12, w29, w4, w7, w6, w5, w13, w25, w26, w28, w14, w3, w17⟩ := h
  refine ⟨wa_sB hB hv, w8, w21, w12, w29, w4, w7, w6, w5, w13, w25, w26, w28, w14, w3, w17⟩
theorem ws_24 {T : wa_St} (h : wf T) (j : Nat) {v : Int} (hv : -2 ≤ v ∧ v ≤ 100000) : wf (wa_s T 24 j v) := by
  obtain ⟨hB, w8, w21, w12, w29, w4, w7, w6, w5, w13, w25, w26, w28, w14, w3, w17⟩ := h
  refine ⟨wa_sB hB hv, w8, w21, w12, w29, w4, w7, w6, w5, w13, w25, w26, w28, w14, w3, w17⟩
theorem ws_27 {T : wa_St} (h : wf T) (j : Nat) {v : Int} (hv : -2 ≤ v ∧ v ≤ 100000) : wf (wa_s T 27 j v) := by
  obtain ⟨hB, w8, w21, w12, w29, w4, w7, w6, w5, w13, w25, w26, w28, w14, w3, w17⟩ := h
  refine ⟨wa_sB hB hv, w8, w21, w12, w29, w4, w7, w6, w5, w13, w25, w26, w28, w14, w3, w17⟩
theorem ws_3 {T : wa_St} (h : wf T) (j : Nat) {v : Int} (hv : -2 ≤ v ∧ v ≤ 100000) (h0 : 0 ≤ v) : wf (wa_s T 3 j v) := by
  obtain ⟨hB, w8, w21, w12, w29, w4, w7, w6, w5, w13, w25, w26, w28, w14, w3, w17⟩ := h
  refine ⟨wa_sB hB hv, w8, w21, w12, w29, w4, w7, w6, w5, w13, w25, w26, w28, w14, ?_, w17⟩
  · intro i; have := w3 i; unfold wa_s; split <;> omega
theorem ws_5 {T : wa_St} (h : wf T) (j : Nat) {v : Int} (hv : -2 ≤ v ∧ v ≤ 100000) (h0 : 0 ≤ v ∧ v ≤ 9) : wf (wa_s T 5 j v) := by
  obtain ⟨hB, w8, w21, w12, w29, w4, w7, w6, w5, w13, w25, w26, w28, w14, w3, w17⟩ := h
  refine ⟨wa_sB hB hv, w8, w21, w12, w29, w4, w7, w6, ?_, w13, w25, w26, w28, w14, w3, w17⟩
  · intro i; have := w5 i; unfold wa_s; split <;> omega
theorem ws_6 {T : wa_St} (h : wf T) (j : Nat) {v : Int} (hv : -2 ≤ v ∧ v ≤ 100000) (h0 : 0 ≤ v ∧ v ≤ 5) : wf (wa_s T 6 j v) := by
  obtain ⟨hB, w8, w21, w12, w29, w4, w7, w6, w5, w13, w25, w26, w28, w14, w3, w17⟩ := h
  refine ⟨wa_sB hB hv, w8, w21, w12, w29, w4, w7, ?_, w5, w13, w25, w26, w28, w14, w3, w17⟩
  · intro i; have := w6 i; unfold wa_s; split <;> omega
theorem ws_26 {T : wa_St} (h : wf T) (j : Nat) {v : Int} (hv : -2 ≤ v ∧ v ≤ 100000) (h0 : 0 ≤ v ∧ v ≤ 2) : wf (wa_s T 26 j v) := by
  obtain ⟨hB, w8, w21, w12, w29, w4, w7, w6, w5, w13, w25, w26, w28, w14, w3, w17⟩ := h
  refine ⟨wa_sB hB hv, w8, w21, w12, w29, w4, w7, w6, w5, w13, w25, ?_, w28, w14, w3, w17⟩
  · intro i hi; have := w26 i hi; unfold wa_s; split <;> omega
theorem ws_25 {T : wa_St} (h : wf T) (j : Nat) {v : Int} (hv : -2 ≤ v ∧ v ≤ 100000) (h0 : 0 ≤ v ∧ v < T 8 0) : wf (wa_s T 25 j v) := by
  obtain ⟨hB, w8, w21, w12, w29, w4, w7, w6, w5, w13, w25, w26, w28, w14, w3, w17⟩ := h
  refine ⟨wa_sB hB hv, w8, w21, w12, w29, w4, w7, w6, w5, w13, ?_, w26, w28, w14, w3, w17⟩
  · intro i hi; have q := w25 i hi; have e : wa_s T 25 j v 8 0 = T 8 0 := rfl; rw [e]; unfold wa_s; split <;> omega
theorem ws_28 {T : wa_St} (h : wf T) (j : Nat) {v : Int} (hv : -2 ≤ v ∧ v ≤ 100000) (h0 : -1 ≤ v ∧ v < T 21 0) : wf (wa_s T 28 j v) := by
  obtain ⟨hB, w8, w21, w12, w29, w4, w7, w6, w5, w13, w25, w26, w28, w14, w3, w17⟩ := h
  refine ⟨wa_sB hB hv, w8, w21, w12, w29, w4, w7, w6, w5, w13, w25, w26, ?_, w14, w3, w17⟩
  · intro i hi; have q := w28 i hi; have e : wa_s T 28 j v 21 0 = T 21 0 := rfl; rw [e]; unfold wa_s; split <;> omega
theorem ws_4 {T : wa_St} (h : wf T) (j : Nat) {v : Int} (hv : -2 ≤ v ∧ v ≤ 100000) (h0 : T 8 0 ≤ (j : Int)) : wf (wa_s T 4 j v) := by
  obtain ⟨hB, w8, w21, w12, w29, w4, w7, w6, w5, w13, w25, w26, w28, w14, w3, w17⟩ := h
  refine ⟨wa_sB hB hv, w8, w21, w12, w29, ?_, w7, w6, w5, w13, w25, w26, w28, w14, w3, w17⟩
  · intro i hi; have hi : (i : Int) < T 8 0 := hi; have q := w4 i hi; rw [wa_s_nj (by omega)]; exact q
theorem ws_7 {T : wa_St} (h : wf T) (j : Nat) {v : Int} (hv : -2 ≤ v ∧ v ≤ 100000) (h0 : T 8 0 ≤ (j : Int)) : wf (wa_s T 7 j v) := by
  obtain ⟨hB, w8, w21, w12, w29, w4, w7, w6, w5, w13, w25, w26, w28, w14, w3, w17⟩ := h
  refine ⟨wa_sB hB hv, w8, w21, w12, w29, w4, ?_, w6, w5, w13, w25, w26, w28, w14, w3, w17⟩
  · intro i hi; have hi : (i : Int) < T 8 0 := hi; have q := w7 i hi; rw [wa_s_nj (by omega)]; exact q
theorem ws_17 {T : wa_St} (h : wf T) (j : Nat) {v : Int} (hv : -2 ≤ v ∧ v ≤ 100000) (h0 : 0 ≤ v ∧ v ≤ 1) : wf (wa_s T 17 j v) := by
  obtain ⟨hB, w8, w21, w12, w29, w4, w7, w6, w5, w13, w25, w26, w28, w14, w3, w17⟩ := h
  refine ⟨wa_sB hB hv, w8, w21, w12, w29, w4, w7, w6, w5, w13, w25, w26, w28, w14, w3, ?_⟩
  · intro b; have := w17 b; unfold wa_s; refine ⟨?_, ?_, ?_⟩ <;> (split <;> omega)
theorem ws_18 {T : wa_St} (h : wf T) (j : Nat) {v : Int} (hv : -2 ≤ v ∧ v ≤ 100000) (h0 : 0 ≤ v ∧ v ≤ 1) : wf (wa_s T 18 j v) := by
  obtain ⟨hB, w8, w21, w12, w29, w4, w7, w6, w5, w13, w25, w26, w28, w14, w3, w17⟩ := h
  refine ⟨wa_sB hB hv, w8, w21, w12, w29, w4, w7, w6, w5, w13, w25, w26, w28, w14, w3, ?_⟩
  · intro b; have := w17 b; unfold wa_s; refine ⟨?_, ?_, ?_⟩ <;> (split <;> omega)
theorem ws_19 {T : wa_St} (h : wf T) (j : Nat) {v : Int} (hv : -2 ≤ v ∧ v ≤ 100000) (h0 : 0 ≤ v ∧ v ≤ 1) : wf (wa_s T 19 j v) := by
  obtain ⟨hB, w8, w21, w12, w29, w4, w7, w6, w5, w13, w25, w26, w28, w14, w3, w17⟩ := h
  refine ⟨wa_sB hB hv, w8, w21, w12, w29, w4, w7, w6, w5, w13, w25, w26, w28, w14, w3, ?_⟩
  · intro b; have := w17 b; unfold wa_s; refine ⟨?_, ?_, ?_⟩ <;> (split <;> omega)
theorem ws_8n {T : wa_St} (h : wf T) (h10 : T 8 0 < 10) (h4 : -1 ≤ T 4 (T 8 0).toNat ∧ T 4 (T 8 0).toNat < T 8 0) (h7 : -1 ≤ T 7 (T 8 0).toNat ∧ T 7 (T 8 0).toNat < T 21 0) : wf (wa_s T 8 0 (T 8 0 + 1)) := by
  obtain ⟨hB, w8, w21, w12, w29, w4, w7, w6, w5, w13, w25, w26, w28, w14, w3, w17⟩ := h
  have e : wa_s T 8 0 (T 8 0 + 1) 8 0 = T 8 0 + 1 := wa_s_eq
  refine ⟨wa_sB hB (by omega), by rw [e]; omega, w21, w12, w29, fun i hi => ?_, fun i hi => ?_, w6, w5, fun b hb => ?_, fun m hm => ?_, w26, w28, w14, w3, w17⟩
  · rw [e] at hi
    show -1 ≤ T 4 i ∧ T 4 i < (i : Int)
    by_cases q : (i : Int) < T 8 0
    · exact w4 i q
    · have e2 : i = (T 8 0).toNat := by omega
      rw [e2]; omega
  · rw [e] at hi
    show -1 ≤ T 7 i ∧ T 7 i < T 21 0
    by_cases q : (i : Int) < T 8 0
    · exact w7 i q
    · have e2 : i = (T 8 0).toNat := by omega
      rw [e2]; exact h7
  · rw [e]
    have q := w13 b hb
    show 0 ≤ T 13 b ∧ T 13 b < T 8 0 + 1
    omega
  · rw [e]
    have q := w25 m hm
    show 0 ≤ T 25 m ∧ T 25 m < T 8 0 + 1
    omega
theorem ws_29n {T : wa_St} (h : wf T) (h30 : T 29 0 < 30) (h25 : 0 ≤ T 25 (T 29 0).toNat ∧ T 25 (T 29 0).toNat < T 8 0) (h26 : 0 ≤ T 26 (T 29 0).toNat ∧ T 26 (T 29 0).toNat ≤ 2) (h28 : -1 ≤ T 28 (T 29 0).toNat ∧ T 28 (T 29 0).toNat < T 21 0) : wf (wa_s T 29 0 (T 29 0 + 1)) := by
  obtain ⟨hB, w8, w21, w12, w29, w4, w7, w6, w5, w13, w25, w26, w28, w14, w3, w17⟩ := h
  have e : wa_s T 29 0 (T 29 0 + 1) 29 0 = T 29 0 + 1 := wa_s_eq
  refine ⟨wa_sB hB (by omega), w8, w21, w12, by rw [e]; omega, w4, w7, w6, w5, w13, fun i hi => ?_, fun i hi => ?_, fun i hi => ?_, w14, w3, w17⟩
  all_goals rw [e] at hi
  · show 0 ≤ T 25 i ∧ T 25 i < T 8 0
    by_cases q : (i : Int) < T 29 0
    · exact w25 i q
    · rw [show i = (T 29 0).toNat by omega]; exact h25
  · show 0 ≤ T 26 i ∧ T 26 i ≤ 2
    by_cases q : (i : Int) < T 29 0
    · exact w26 i q
    · rw [show i = (T 29 0).toNat by omega]; exact h26
  · show -1 ≤ T 28 i ∧ T 28 i < T 21 0
    by_cases q : (i : Int) < T 29 0
    · exact w28 i q
    · rw [show i = (T 29 0).toNat by omega]; exact h28
theorem wf_eqx {S R : wa_St} (h : wf S) (he : eqx R S) (h0 : ∀ b, -2 ≤ R 0 b ∧ R 0 b ≤ 100000) (h30 : ∀ b, -2 ≤ R 30 b ∧ R 30 b ≤ 100000) (h31 : ∀ b, -2 ≤ R 31 b ∧ R 31 b ≤ 100000) : wf R := by
  obtain ⟨hB, w⟩ := h
  refine ⟨fun a b => ?_, ?_⟩
  · by_cases a0 : a = 0
    · rw [a0]; exact h0 b
    · by_cases a1 : a = 30
      · rw [a1]; exact h30 b
      · by_cases a2 : a = 31
        · rw [a2]; exact h31 b
        · rw [he a b a0 a1 a2]; exact hB a b
  · simp only [fun b => he 8 b (by decide) (by decide) (by decide), fun b => he 21 b (by decide) (by decide) (by decide), fun b => he 12 b (by decide) (by decide) (by decide), fun b => he 29 b (by decide) (by decide) (by decide), fun b => he 4 b (by decide) (by decide) (by decide), fun b => he 7 b (by decide) (by decide) (by decide), fun b => he 6 b (by decide) (by decide) (by decide), fun b => he 5 b (by decide) (by decide) (by decide), fun b => he 13 b (by decide) (by decide) (by decide), fun b => he 25 b (by decide) (by decide) (by decide), fun b => he 26 b (by decide) (by decide) (by decide), fun b => he 28 b (by decide) (by decide) (by decide), fun b => he 14 b (by decide) (by decide) (by decide), fun b => he 3 b (by decide) (by decide) (by decide), fun b => he 17 b (by decide) (by decide) (by decide), fun b => he 18 b (by decide) (by decide) (by decide), fun b => he 19 b (by decide) (by decide) (by decide)]
    exact w
/-- what holds after n calls -/
def gi (n : Nat) (T : wa_St) : Prop := wf T ∧ lu T ∧ T 12 0 ≤ 5 * T 21 0 ∧ (∀ i : Nat, (i : Int) < T 8 0 → 0 ≤ T 7 i → (wz T (T 14 (T 7 i).toNat)).length ≤ 5 * (i + 1)) ∧ (∀ j : Nat, T 8 0 ≤ (j : Int) → T 6 j = 0) ∧ (∀ j : Nat, 5 * T 8 0 ≤ (j : Int) → T 5 j = 0) ∧ (∀ b, 0 ≤ T 16 b ∧ T 16 b ≤ 2) ∧ (∀ u, 0 ≤ T 27 u ∧ T 27 u ≤ 2) ∧ (∀ j, 0 ≤ T 22 j ∧ T 22 j ≤ 9) ∧ (0 ≤ T 1 0 ∧ T 1 0 ≤ 30 * (n : Int)) ∧ (∀ j, T 3 j ≤ (n : Int))
theorem wl_same {T T1 : wa_St} (h9 : ∀ j, T1 9 j = T 9 j) (h10 : ∀ j, T1 10 j = T 10 j) (h11 : ∀ j, T1 11 j = T 11 j) : ∀ n z, wl T1 n z = wl T n z := by
  intro n
  induction n with
  | zero => intro z; rfl
  | succ n ih =>
    intro z
    show (if z < 0 then [] else wl T1 n (T1 9 z.toNat) ++ [(T1 10 z.toNat, T1 11 z.toNat)]) = (if z < 0 then [] else wl T n (T 9 z.toNat) ++ [(T 10 z.toNat, T 11 z.toNat)])
    rw [h9, h10, h11, ih]
theorem gi.mk {n : Nat} {T T' : wa_St} (h : gi n T) (hwf : wf T') (e : ∀ a b, a = 9 ∨ a = 10 ∨ a = 11 ∨ a = 12 ∨ a = 14 ∨ a = 21 → T' a b = T a b) (h7 : ∀ i : Nat, (i : Int) < T' 8 0 → 0 ≤ T' 7 i → (i : Int) < T 8 0 ∧ T' 7 i = T 7 i) (h6 : ∀ j : Nat, T' 8 0 ≤ (j : Int) → T' 6 j = 0) (h5 : ∀ j : Nat, 5 * T' 8 0 ≤ (j : Int) → T' 5 j = 0) (h16 : ∀ b, 0 ≤ T' 16 b ∧ T' 16 b ≤ 2) (h27 : ∀ u, 0 ≤ T' 27 u ∧ T' 27 u ≤ 2) (h22 : ∀ j, 0 ≤ T' 22 j ∧ T' 22 j ≤ 9) (h1 : 0 ≤ T' 1 0 ∧ T' 1 0 ≤ T 1 0 + 30) (h3 : ∀ j, T' 3 j ≤ (n : Int) + 1) : gi (n + 1) T' := by
  obtain ⟨g0, g1, g2, g3, g4, g5, g6, g7, g8, g9, g10⟩ := h
  have e9 : ∀ b, T' 9 b = T 9 b := fun b => e 9 b (by omega)
  have e10 : ∀ b, T' 10 b = T 10 b := fun b => e 10 b (by omega)
  have e11 : ∀ b, T' 11 b = T 11 b := fun b => e 11 b (by omega)
  have e12 : ∀ b, T' 12 b = T 12 b := fun b => e 12 b (by omega)
  have e14 : ∀ b, T' 14 b = T 14 b := fun b => e 14 b (by omega)
  have e21 : ∀ b, T' 21 b = T 21 b := fun b => e 21 b (by omega)
  refine ⟨hwf, ?_, by rw [e12, e21]; exact g2, fun i hi h0 => ?_, h6, h5, h16, h27, h22, ⟨h1.1, by omega⟩, fun j => by have := h3 j; omega⟩
  · unfold lu
    simp only [e9, e10, e11, e12]
    exact g1
  · obtain ⟨q1, q2⟩ := h7 i hi h0
    rw [q2] at h0 ⊢
    rw [e14, show wz T' (T 14 (T 7 i).toNat) = wz T (T 14 (T 7 i).toNat) from wl_same e9 e10 e11 _ _]
    exact g3 i q1 h0
/-- a change of other things only -/
theorem gi.mk2 {n : Nat} {T T' : wa_St} (h : gi n T) (hwf : wf T') (e : ∀ a b, a = 5 ∨ a = 6 ∨ a = 7 ∨ a = 8 ∨ a = 9 ∨ a = 10 ∨ a = 11 ∨ a = 12 ∨ a = 14 ∨ a = 21 → T' a b = T a b) (h16 : ∀ b, 0 ≤ T' 16 b ∧ T' 16 b ≤ 2) (h27 : ∀ u, 0 ≤ T' 27 u ∧ T' 27 u ≤ 2) (h22 : ∀ j, 0 ≤ T' 22 j ∧ T' 22 j ≤ 9) (h1 : 0 ≤ T' 1 0 ∧ T' 1 0 ≤ T 1 0 + 30) (h3 : ∀ j, T' 3 j ≤ (n : Int) + 1) : gi (n + 1) T' := by
  have e8 : T' 8 0 = T 8 0 := e 8 0 (by omega)
  exact h.mk hwf (fun a b ha => e a b (by omega)) (fun i hi h0 => ⟨by omega, e 7 i (by omega)⟩) (fun j hj => (e 6 j (by omega)).trans (h.2.2.2.2.1 j (by omega))) (fun j hj => (e 5 j (by omega)).trans (h.2.2.2.2.2.1 j (by omega))) h16 h27 h22 h1 h3
theorem gi.th {n : Nat} {T : wa_St} (h : gi n T) {k : Int} (hk : 0 ≤ k ∧ k ≤ 3) : gi (n + 1) (wa_s T 0 0 k) := by
  obtain ⟨g0, g1, g2, g3, g4, g5, g6, g7, g8, g9, g10⟩ := id h
  refine h.mk2 (ws_0 g0 0 (by omega)) (fun a b ha => wa_s_nk (by omega)) g6 g7 g8 ⟨g9.1, ?_⟩ (fun j => ?_)
  · show T 1 0 ≤ T 1 0 + 30; omega
  · show T 3 j ≤ _; have := g10 j; omega
/-- what of a state the class's world shows -/
def rl (S T : wa_St) : Prop := (∀ a b, a = 1 ∨ a = 2 ∨ a = 3 ∨ a = 4 ∨ a = 5 ∨ a = 6 ∨ a = 7 ∨ a = 8 ∨ a = 22 ∨ a = 23 ∨ a = 24 ∨ a = 25 ∨ a = 26 ∨ a = 27 ∨ a = 28 ∨ a = 29 → S a b = T a b) ∧ S 12 0 = T 12 0 ∧ S 21 0 = T 21 0 ∧ (∀ a (b : Nat), 13 ≤ a → a ≤ 19 → (b : Int) < S 21 0 → S a b = T a b) ∧ (∀ b : Nat, (b : Int) < 3 * S 21 0 → S 20 b = T 20 b)
theorem rl.of {S T : wa_St} (h : eqx S T) : rl S T := ⟨fun a b ha => h a b (by omega) (by omega) (by omega), h 12 0 (by decide) (by decide) (by decide), h 21 0 (by decide) (by decide) (by decide), fun a b ha ha2 _ => h a b (by omega) (by omega) (by omega), fun b _ => h 20 b (by decide) (by decide) (by decide)⟩
theorem xr.eqx {S T X : wa_St} (h : xr S X) (he : eqx S T) : xr T X := xr_same h (fun a b ha => (he a b (by omega) (by omega) (by omega)).symm)
/-- one call: k its place, S1 the class's state behind it, T1 the reference's -/
def pk (n : Nat) (S1 T1 : wa_St) (k : Int) : Prop := T1 0 0 = k ∧ rl S1 T1 ∧ gi (n + 1) T1 ∧ ∀ X, xr S1 X → xr T1 X
def o_x (k : Int) (S act : wa_St) : wa_St := if k = 0 then act else S
theorem pk.q {n : Nat} {T : wa_St} (h : gi n T) {k : Int} (hk : 0 ≤ k ∧ k ≤ 3) : pk n T (wa_s T 0 0 k) k := ⟨wa_s_eq, rl.of (eqx.th T 0 k), h.th hk, fun _ hx => hx.eqx (eqx.th T 0 k)⟩
theorem pk.o {n : Nat} {T aS aT : wa_St} (h : gi n T) {k : Int} (hk : 0 ≤ k ∧ k ≤ 3) (ha : k = 0 → aT 0 0 = 0 ∧ eqx aS aT ∧ gi (n + 1) aT) : pk n (o_x k T aS) (o_s T k aT) k := by
  unfold o_x o_s
  by_cases q : k = 0
  · rw [if_pos q, if_pos q]
    obtain ⟨a1, a2, a3⟩ := ha q
    exact ⟨by rw [a1, q], rl.of a2, a3, fun _ hx => hx.eqx a2⟩
  · rw [if_neg q, if_neg q]
    exact pk.q h hk
/-- .. the same change on both sides -/
theorem pk.s {n : Nat} {T a : wa_St} (h : gi n T) {k : Int} (hk : 0 ≤ k ∧ k ≤ 3) (ha : k = 0 → a 0 0 = 0 ∧ gi (n + 1) a) : pk n (o_x k T a) (o_s T k a) k := pk.o h hk (fun q => ⟨(ha q).1, eqx.rf a, (ha q).2⟩)
