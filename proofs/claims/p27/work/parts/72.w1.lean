/-! pure: what the law's looks at images and machines rest on -/
/-- no machine runs from a bake that is gone -/
def mg (T : wa_St) : Prop := ∀ m : Nat, (m : Int) < T 29 0 → T 28 m ≠ -1 → T 18 (T 28 m).toNat = 0
theorem x_W_ex {S : wa_St} (hwf : wf S) : ∀ (jx : Nat), (jx : Int) ≤ S 29 0 → ∃ (cx : Nat) (Y : wa_St), x_W S jx cx Y := by
  intro jx
  induction jx with
  | zero => intro _; exact ⟨0, fun _ _ => 0, rfl, fun a ha => absurd ha (Nat.not_lt_zero a), fun a b _ hb => absurd hb (Nat.not_lt_zero b), fun u hu => absurd hu (Nat.not_lt_zero u)⟩
  | succ jx ih =>
    intro hj
    obtain ⟨cx, X, h⟩ := ih (by omega)
    by_cases ho : f_isOld S jx = true
    · refine ⟨cx + 1, _, h.ins hwf (by omega) ho (x_insP.of (X0 := fun _ j => if j ≤ x_ps S X jx cx then X 14 j else X 14 (j - 1)) rfl (fun j hj => ?_) (fun j h1 h2 => ?_))⟩
      · show (if j ≤ x_ps S X jx cx then X 14 j else X 14 (j - 1)) = X 14 j
        rw [if_pos (by omega)]
      · show (if j + 1 ≤ x_ps S X jx cx then X 14 (j + 1) else X 14 (j + 1 - 1)) = X 14 j
        rw [if_neg (by omega), Nat.add_sub_cancel]
    · exact ⟨cx, X, h.no ho⟩
/-- the machines that have to be renewed, in their order: c of them, V their places -/
def ol (T : wa_St) (c : Nat) (V : Nat → Nat) : Prop := (c : Int) = f_cnt (f_isOld T) (T 29 0).toNat ∧ (∀ q : Nat, q < c → f_oldAt T (q : Int) = (V q : Int) ∧ (V q : Int) < T 29 0 ∧ f_isOld T (V q) = true) ∧ (∀ q q', q < q' → q' < c → f_ahead T (V q) (V q') = true) ∧ (∀ u : Nat, (u : Int) < T 29 0 → f_isOld T u = true → ∃ q, q < c ∧ V q = u)
theorem ol_ex {T : wa_St} (hwf : wf T) : ∃ (c : Nat) (V : Nat → Nat), ol T c V := by
  have w29 := hwf.2.2.2.2.1
  obtain ⟨c, Y, h⟩ := x_W_ex hwf (T 29 0).toNat (by omega)
  refine ⟨c, fun q => (Y 14 q).toNat, h.1, fun q hq => ?_, fun q q' h1 h2 => h.2.2.1 q q' h1 h2, fun u hu ho => ?_⟩
  · have h2 := h.2.1 q hq
    refine ⟨(h.oldAt hwf hq).trans ?_, ?_, h2.2.2⟩
    · show Y 14 q = (((Y 14 q).toNat : Nat) : Int); omega
    · show (((Y 14 q).toNat : Nat) : Int) < T 29 0; omega
  · obtain ⟨a, ha, e⟩ := h.2.2.2 u (by omega) ho
    exact ⟨a, ha, by show (Y 14 a).toNat = u; omega⟩
theorem ol.inj {T : wa_St} {c : Nat} {V : Nat → Nat} (h : ol T c V) {q q' : Nat} (hq : q < c) (hq' : q' < c) (e : V q = V q') : q = q' := by
  rcases Nat.lt_trichotomy q q' with g | g | g
  · have := h.2.2.1 q q' g hq'; rw [e] at this; exact absurd this (f_ahead_irr _)
  · exact g
  · have := h.2.2.1 q' q g hq; rw [e] at this; exact absurd this (f_ahead_irr _)
theorem ol.held {T : wa_St} {c : Nat} {V : Nat → Nat} (h : ol T c V) {q : Nat} (hq : q + 1 < c) (hh : T 17 (T 28 (V (q + 1))).toNat ≠ 0) : T 17 (T 28 (V q)).toNat ≠ 0 := by
  have g := h.2.2.1 q (q + 1) (by omega) hq
  unfold f_ahead at g
  split at g
  · exact of_decide_eq_true g
  · rename_i g2
    rw [Decidable.not_not.mp g2]
    exact hh
theorem ol.le {T : wa_St} {c : Nat} {V : Nat → Nat} (h : ol T c V) (hwf : wf T) : (c : Int) ≤ T 29 0 ∧ (c : Int) ≤ 30 := by
  have w29 := hwf.2.2.2.2.1
  have := f_cnt_rng (f_isOld T) (T 29 0).toNat
  have := h.1
  omega
theorem k_oldAt_0 {T : wa_St} {c : Nat} {V : Nat → Nat} (h : ol T c V) {q : Nat} (hq : q < c) : k_oldAt T (q : Int) = 0 := by
  unfold k_oldAt
  rw [(h.2.1 q hq).1, if_neg (by omega)]
-- a bake's state
theorem vs_t {n : Nat} {T : wa_St} (h : gi n T) (b : Nat) : (0 ≤ v_state T b ∧ v_state T b ≤ 72) ∧ v_state T b % 10 = T 16 b ∧ v_state T b / 10 % 2 = T 17 b ∧ (40 ≤ v_state T b ↔ T 18 b ≠ 0) ∧ (v_state T b < 10 ↔ T 17 b = 0 ∧ ¬ f_old T b ∧ T 18 b = 0) ∧ (0 ≤ T 16 b ∧ T 16 b ≤ 2) ∧ (0 ≤ T 17 b ∧ T 17 b ≤ 1) ∧ (0 ≤ T 18 b ∧ T 18 b ≤ 1) := by
  have h16 := h.2.2.2.2.2.2.1 b
  have h17 := h.1.2.2.2.2.2.2.2.2.2.2.2.2.2.2.2 b
  have h1 := h17.1
  have h2 := h17.2.1
  have e : v_state T b = T 16 b + (if T 17 b ≠ 0 then 10 else 0) + (if f_old T b then 20 else 0) + (if T 18 b ≠ 0 then 40 else 0) := rfl
  have key : ∀ x y z w : Int, x = 0 ∨ x = 10 → y = 0 ∨ y = 20 → z = 0 ∨ z = 40 → (x = 10 ↔ T 17 b ≠ 0) → (y = 20 ↔ T 23 0 < T 1 0 - T 15 b) → (z = 40 ↔ T 18 b ≠ 0) → w = T 16 b + x + y + z → (0 ≤ w ∧ w ≤ 72) ∧ w % 10 = T 16 b ∧ w / 10 % 2 = T 17 b ∧ (40 ≤ w ↔ T 18 b ≠ 0) ∧ (w < 10 ↔ T 17 b = 0 ∧ ¬ (T 23 0 < T 1 0 - T 15 b) ∧ T 18 b = 0) := by
    intro x y z w hx hy hz ex ey ez ew
    refine ⟨⟨by omega, by omega⟩, by omega, by omega, ⟨fun _ => by omega, fun _ => by omega⟩, ⟨fun _ => ⟨by omega, by omega, by omega⟩, fun _ => by omega⟩⟩
  obtain ⟨k1, k2, k3, k4, k5⟩ := key (if T 17 b ≠ 0 then 10 else 0) (if f_old T b then 20 else 0) (if T 18 b ≠ 0 then 40 else 0) (v_state T b) (by split <;> omega) (by split <;> omega) (by split <;> omega) (by split <;> omega) (by split <;> omega) (by split <;> omega) e
  exact ⟨k1, k2, k3, k4, k5, h16, h1, h2⟩
-- images: what is fresh
theorem im_fr {n : Nat} {T : wa_St} (h : gi n T) {i : Int} (h0 : -1 ≤ i) (hi : i < T 8 0) : x_frs T 10 i = true ↔ fs T 10 i := frs_fs h.1 h.2.1 10 i h0 hi (by have := h.1.2.1; omega)
theorem im_md {n : Nat} {T : wa_St} (h : gi n T) {i : Int} (h0 : -1 ≤ i) (hi : i < T 8 0) : x_mds T 10 i = true ↔ fs T 10 i := mds_fs h.1 h.2.1 (l50 h) 10 i h0 hi (by have := h.1.2.1; omega)
theorem fs_own {n : Nat} {T : wa_St} (h : gi n T) {i : Nat} (hi : (i : Int) < T 8 0) : fs T 10 (i : Int) ↔ gd T (i : Int) ∧ fs T 10 (T 4 i) := by
  have w8 := h.1.2.1
  have w4 := wf_pa h.1 i hi
  show ((i : Int) < 0 ∨ (gd T (i : Int) ∧ fs T 9 (T 4 (i : Int).toNat))) ↔ _
  rw [Int.toNat_natCast, fs_eq (wf_pa h.1) 9 10 (T 4 i) (by omega) (by omega) (by omega)]
  exact ⟨fun q => q.resolve_left (by omega), Or.inr⟩
theorem im_par {n : Nat} {T : wa_St} (h : gi n T) {i : Nat} (hi : (i : Int) < T 8 0) (hf : x_frs T 10 (i : Int) = true) : 0 ≤ T 7 i ∧ x_frs T 10 (T 4 i) = true := by
  have w4 := wf_pa h.1 i hi
  have w8 := h.1.2.1
  obtain ⟨q1, q2⟩ := (fs_own h hi).mp ((im_fr h (by omega) hi).mp hf)
  exact ⟨by have := q1.1; rwa [Int.toNat_natCast] at this, (im_fr h (by omega) (by omega)).mpr q2⟩
theorem frs_neg {T : wa_St} {z : Int} (h : z < 0) (n : Nat) : x_frs T n z = true := by
  cases n with
  | zero => rfl
  | succ n =>
    show (decide (z < 0) || _) = true
    rw [decide_eq_true h, Bool.true_or]
theorem frs_none {T : wa_St} {i : Nat} (h : T 7 i < 0) : x_frs T 10 (i : Int) = false := by
  show (decide ((i : Int) < 0) || (decide (¬ x_needs T (i : Int).toNat) && _)) = false
  rw [Int.toNat_natCast, decide_eq_false (by omega), decide_eq_false (fun q => q (Or.inl h))]
  rfl
