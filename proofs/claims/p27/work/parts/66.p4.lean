/-! pure: days one by one, and all at once -/
/-- what a bake's going asks on a day -/
abbrev go (T : wa_St) (d : Int) (b : Nat) : Bool := decide (T 18 b = 0 ∧ T 24 0 < d - T 15 b ∧ f_run T (b : Int) = 0)
/-- how many of n places from i on -/
def f_ct (p : Nat → Bool) : Nat → Nat → Int
  | 0, _ => 0
  | n + 1, i => bI (p i = true) + f_ct p n (i + 1)
theorem f_ct_congr {p q : Nat → Bool} : ∀ n i, (∀ v, i ≤ v → v < i + n → p v = q v) → f_ct p n i = f_ct q n i := by
  intro n
  induction n with
  | zero => intro i _; rfl
  | succ n ih =>
    intro i h
    show bI (p i = true) + f_ct p n (i + 1) = bI (q i = true) + f_ct q n (i + 1)
    rw [h i (by omega) (by omega), ih (i + 1) (fun v h1 h2 => h v (by omega) (by omega))]
theorem f_ct_add {p q r : Nat → Bool} : ∀ n i, (∀ v, i ≤ v → v < i + n → bI (r v = true) = bI (p v = true) + bI (q v = true)) → f_ct r n i = f_ct p n i + f_ct q n i := by
  intro n
  induction n with
  | zero => intro i _; rfl
  | succ n ih =>
    intro i h
    have e := ih (i + 1) (fun v h1 h2 => h v (by omega) (by omega))
    have e2 := h i (by omega) (by omega)
    show bI (r i = true) + f_ct r n (i + 1) = (bI (p i = true) + f_ct p n (i + 1)) + (bI (q i = true) + f_ct q n (i + 1))
    omega
theorem f_run_18 (T : wa_St) (j : Nat) (v : Int) (b : Int) : f_run (wa_s T 18 j v) b = f_run T b := rfl
theorem f_run_1 (T : wa_St) (j : Nat) (v : Int) (b : Int) : f_run (wa_s T 1 j v) b = f_run T b := rfl
theorem f_run_0 (T : wa_St) (j : Nat) (v : Int) (b : Int) : f_run (wa_s T 0 j v) b = f_run T b := rfl
theorem f_pin_eq : ∀ (n j : Nat) (T : wa_St) (q : Int), (∀ a b, (f_pin n j T q).1 a b = if a = 18 ∧ j ≤ b ∧ b < j + n ∧ go T (T 1 0) b = true then 1 else T a b) ∧ (f_pin n j T q).2 = q + f_ct (go T (T 1 0)) n j := by
  intro n
  induction n with
  | zero =>
    intro j T q
    refine ⟨fun a b => ?_, by show q = q + 0; omega⟩
    rw [if_neg (by omega)]
    rfl
  | succ n ih =>
    intro j T q
    by_cases c : T 18 j = 0 ∧ T 24 0 < T 1 0 - T 15 j ∧ f_run T (j : Int) = 0
    · have e : f_pin (n + 1) j T q = f_pin n (j + 1) (wa_s T 18 j 1) (q + 1) := if_pos c
      obtain ⟨i1, i2⟩ := ih (j + 1) (wa_s T 18 j 1) (q + 1)
      have hg : ∀ v : Nat, j + 1 ≤ v → go (wa_s T 18 j 1) (T 1 0) v = go T (T 1 0) v := by
        intro v hv
        show decide (wa_s T 18 j 1 18 v = 0 ∧ T 24 0 < T 1 0 - T 15 v ∧ f_run T (v : Int) = 0) = decide (T 18 v = 0 ∧ T 24 0 < T 1 0 - T 15 v ∧ f_run T (v : Int) = 0)
        rw [wa_s_nj (by omega)]
      have hj : go T (T 1 0) j = true := decide_eq_true c
      refine ⟨fun a b => ?_, ?_⟩
      · rw [e, i1]
        show (if a = 18 ∧ j + 1 ≤ b ∧ b < j + 1 + n ∧ go (wa_s T 18 j 1) (T 1 0) b = true then 1 else wa_s T 18 j 1 a b) = _
        by_cases h1 : a = 18 ∧ b = j
        · obtain ⟨rfl, rfl⟩ := h1
          rw [if_neg (by omega), if_pos ⟨rfl, by omega, by omega, hj⟩, wa_s_eq]
        · rw [wa_s_ne h1]
          by_cases h2 : a = 18 ∧ j + 1 ≤ b ∧ b < j + 1 + n ∧ go (wa_s T 18 j 1) (T 1 0) b = true
          · rw [if_pos h2, if_pos ⟨h2.1, by omega, by omega, by rw [← hg b h2.2.1]; exact h2.2.2.2⟩]
          · rw [if_neg h2, if_neg]
            intro h3
            exact h2 ⟨h3.1, by omega, by omega, by rw [hg b (by omega)]; exact h3.2.2.2⟩
      · rw [e, i2]
        show q + 1 + f_ct (go (wa_s T 18 j 1) (T 1 0)) n (j + 1) = q + (bI (go T (T 1 0) j = true) + f_ct (go T (T 1 0)) n (j + 1))
        rw [bI_t hj, f_ct_congr n (j + 1) (fun v h1 _ => hg v h1)]
        omega
    · have e : f_pin (n + 1) j T q = f_pin n (j + 1) T q := if_neg c
      obtain ⟨i1, i2⟩ := ih (j + 1) T q
      have hj : ¬ go T (T 1 0) j = true := fun h => c (of_decide_eq_true h)
      refine ⟨fun a b => ?_, ?_⟩
      · rw [e, i1]
        by_cases h2 : a = 18 ∧ j + 1 ≤ b ∧ b < j + 1 + n ∧ go T (T 1 0) b = true
        · rw [if_pos h2, if_pos ⟨h2.1, by omega, by omega, h2.2.2.2⟩]
        · rw [if_neg h2, if_neg]
          intro h3
          by_cases g : b = j
          · rw [g] at h3; exact hj h3.2.2.2
          · exact h2 ⟨h3.1, by omega, by omega, h3.2.2.2⟩
      · rw [e, i2]
        show q + f_ct (go T (T 1 0)) n (j + 1) = q + (bI (go T (T 1 0) j = true) + f_ct (go T (T 1 0)) n (j + 1))
        rw [bI_f hj]
        omega
/-- a look on a day and another on a later one are the later one alone -/
theorem f_pin2 {N : Nat} {T : wa_St} {q : Int} {D D2 : Int} (hD : D ≤ D2) : f_pin N 0 (wa_s (f_pin N 0 (wa_s T 1 0 D) q).1 1 0 D2) (f_pin N 0 (wa_s T 1 0 D) q).2 = f_pin N 0 (wa_s T 1 0 D2) q := by
  obtain ⟨a1, a2⟩ := f_pin_eq N 0 (wa_s T 1 0 D) q
  obtain ⟨b1, b2⟩ := f_pin_eq N 0 (wa_s T 1 0 D2) q
  generalize f_pin N 0 (wa_s T 1 0 D) q = A at *
  obtain ⟨c1, c2⟩ := f_pin_eq N 0 (wa_s A.1 1 0 D2) A.2
  have eD : ∀ v, go (wa_s T 1 0 D) (wa_s T 1 0 D 1 0) v = go T D v := fun v => by rw [wa_s_eq]; rfl
  have eD2 : ∀ v, go (wa_s T 1 0 D2) (wa_s T 1 0 D2 1 0) v = go T D2 v := fun v => by rw [wa_s_eq]; rfl
  have hmon : ∀ v, go T D v = true → go T D2 v = true := fun v h => by
    have h := of_decide_eq_true h
    exact decide_eq_true ⟨h.1, by omega, h.2.2⟩
  have hA : ∀ a b, a ≠ 18 → A.1 a b = wa_s T 1 0 D a b := fun a b h => by rw [a1, if_neg (fun g => h g.1)]
  have hrun : ∀ b, f_run A.1 b = f_run T b := by
    intro b
    unfold f_run
    rw [hA 29 0 (by decide)]
    congr 1
    funext m
    rw [hA 28 m (by decide)]
    rfl
  have eA : ∀ v, v < N → go (wa_s A.1 1 0 D2) (wa_s A.1 1 0 D2 1 0) v = (go T D2 v && !(go T D v)) := by
    intro v hv
    rw [wa_s_eq]
    show decide (A.1 18 v = 0 ∧ A.1 24 0 < D2 - A.1 15 v ∧ f_run A.1 (v : Int) = 0) = _
    rw [hrun, hA 24 0 (by decide), hA 15 v (by decide), a1 18 v, eD]
    show decide ((if (18 : Nat) = 18 ∧ 0 ≤ v ∧ v < 0 + N ∧ go T D v = true then 1 else T 18 v) = 0 ∧ T 24 0 < D2 - T 15 v ∧ f_run T (v : Int) = 0) = _
    by_cases g : go T D v = true
    · rw [if_pos ⟨rfl, by omega, by omega, g⟩, g, decide_eq_false (fun h => absurd h.1 (by decide))]
      simp
    · rw [if_neg (fun h => g h.2.2.2)]
      have : go T D v = false := by cases h : go T D v with | true => exact absurd h g | false => rfl
      rw [this]
      simp
  refine Prod.ext ?_ ?_
  · funext a b
    rw [c1, b1]
    by_cases ha : a = 18
    · subst ha
      by_cases hb : b < N
      · rw [eA b hb, eD2]
        by_cases g2 : go T D2 b = true
        · rw [if_pos (show (18 : Nat) = 18 ∧ 0 ≤ b ∧ b < 0 + N ∧ go T D2 b = true from ⟨rfl, by omega, by omega, g2⟩)]
          by_cases g : go T D b = true
          · rw [if_neg (by rw [g]; simp), wa_s_nk (by decide), a1, eD, if_pos ⟨rfl, by omega, by omega, g⟩]
          · rw [if_pos ⟨rfl, by omega, by omega, by rw [g2, Bool.eq_false_iff.mpr g]; rfl⟩]
        · have g : ¬ go T D b = true := fun h => g2 (hmon b h)
          rw [if_neg (fun h => g2 ((Bool.and_eq_true _ _).mp h.2.2.2).1), if_neg (fun h => g2 h.2.2.2), wa_s_nk (by decide), a1, eD, if_neg (fun h => g h.2.2.2)]
          rfl
      · rw [if_neg (by omega), if_neg (by omega), wa_s_nk (by decide), a1, if_neg (by omega)]
        rfl
    · rw [if_neg (fun h => ha h.1), if_neg (fun h => ha h.1)]
      by_cases h1 : a = 1 ∧ b = 0
      · obtain ⟨rfl, rfl⟩ := h1
        rw [wa_s_eq, wa_s_eq]
      · rw [wa_s_ne h1, wa_s_ne h1, hA a b ha, wa_s_ne h1]
  · rw [c2, b2, a2]
    rw [f_ct_congr N 0 (fun v _ _ => eD v), f_ct_congr N 0 (fun v _ _ => eD2 v)]
    rw [f_ct_congr N 0 (p := go (wa_s A.1 1 0 D2) (wa_s A.1 1 0 D2 1 0)) (q := fun v => go T D2 v && !(go T D v)) (fun v _ h => eA v (by omega))]
    rw [f_ct_add (p := go T D) (q := fun v => go T D2 v && !(go T D v)) (r := go T D2) N 0 (fun v _ _ => ?_)]
    · omega
    · by_cases g2 : go T D2 v = true
      · by_cases g : go T D v = true
        · rw [bI_t g2, bI_t g, bI_f (by rw [g]; simp)]; rfl
        · rw [bI_t g2, bI_f g, bI_t (by rw [g2, Bool.eq_false_iff.mpr g]; rfl)]; rfl
      · rw [bI_f g2, bI_f (fun h => g2 (hmon v h)), bI_f (by rw [Bool.eq_false_iff.mpr g2]; simp)]; rfl
theorem f_pout_eq {N : Nat} : ∀ (d : Nat) (T : wa_St) (q : Int), (T 21 0).toNat = N → f_pout (d + 1) T q = f_pin N 0 (wa_s T 1 0 (T 1 0 + ((d + 1 : Nat) : Int))) q := by
  intro d
  induction d with
  | zero =>
    intro T q hN
    show f_pin (T 21 0).toNat 0 (wa_s T 1 0 (T 1 0 + 1)) q = _
    rw [hN]
    rfl
  | succ d ih =>
    intro T q hN
    have e : f_pday T q = f_pin N 0 (wa_s T 1 0 (T 1 0 + 1)) q := by unfold f_pday; rw [hN]
    have a1 := (f_pin_eq N 0 (wa_s T 1 0 (T 1 0 + 1)) q).1
    show f_pout (d + 1) (f_pday T q).1 (f_pday T q).2 = _
    rw [ih _ _ (by rw [e, a1 21 0, if_neg (by omega)]; exact hN), e]
    have e1 : (f_pin N 0 (wa_s T 1 0 (T 1 0 + 1)) q).1 1 0 = T 1 0 + 1 := by rw [a1 1 0, if_neg (by omega), wa_s_eq]
    rw [e1, show T 1 0 + 1 + ((d + 1 : Nat) : Int) = T 1 0 + ((d + 1 + 1 : Nat) : Int) from by omega]
    exact f_pin2 (by omega)
theorem eqx.run {T T1 : wa_St} (h : eqx T T1) (b : Int) : f_run T b = f_run T1 b := by
  unfold f_run
  rw [h 29 0 (by decide) (by decide) (by decide)]
  congr 1
  funext m
  rw [h 28 m (by decide) (by decide) (by decide)]
theorem eqx.pin {T T1 : wa_St} (h : eqx T T1) (n j : Nat) (q : Int) : eqx (f_pin n j T q).1 (f_pin n j T1 q).1 ∧ (f_pin n j T q).2 = (f_pin n j T1 q).2 := by
  have hg : ∀ v, go T (T 1 0) v = go T1 (T1 1 0) v := by
    intro v
    unfold go
    rw [h 18 v (by decide) (by decide) (by decide), h 24 0 (by decide) (by decide) (by decide), h 1 0 (by decide) (by decide) (by decide), h 15 v (by decide) (by decide) (by decide), h.run]
  obtain ⟨a1, a2⟩ := f_pin_eq n j T q
  obtain ⟨b1, b2⟩ := f_pin_eq n j T1 q
  refine ⟨fun a b h0 h1 h2 => ?_, by rw [a2, b2, f_ct_congr n j (fun v _ _ => hg v)]⟩
  rw [a1, b1, hg, h a b h0 h1 h2]
/-- pass: the class's way is the reference's -/
theorem pass_eq {T : wa_St} {d : Int} (hd : 1 ≤ d) : eqx (f_pin (T 21 0).toNat 0 (wa_s T 1 0 (T 1 0 + d)) 0).1 (f_pout d.toNat (wa_s T 0 0 0) 0).1 ∧ (f_pin (T 21 0).toNat 0 (wa_s T 1 0 (T 1 0 + d)) 0).2 = (f_pout d.toNat (wa_s T 0 0 0) 0).2 := by
  obtain ⟨n, hn⟩ : ∃ n : Nat, d.toNat = n + 1 := ⟨d.toNat - 1, by omega⟩
  rw [hn, f_pout_eq n (wa_s T 0 0 0) 0 rfl]
  rw [show (wa_s T 0 0 0) 1 0 + ((n + 1 : Nat) : Int) = T 1 0 + d from by rw [wa_s_nk (by decide)]; omega]
  exact ((eqx.th T 0 0).s _ _ _).pin _ _ _
