/-! bakeAll of the reference -/
def f_cp : Nat → Nat → wa_St → wa_St
  | 0, _, T => T
  | n + 1, j, T => f_cp n (j + 1) (wa_s T 31 j (T 7 j))
def f_rs : Nat → Nat → wa_St → wa_St
  | 0, _, T => T
  | n + 1, j, T => f_rs n (j + 1) (wa_s T 7 j (T 31 j))
def f_jn (T : wa_St) (i e : Int) : wa_St × Int := f_jo i (T 8 0).toNat 0 T e
def f_bl : Nat → Nat → wa_St → Int → wa_St × Bool
  | 0, _, T, _ => (T, true)
  | n + 1, a, T, e =>
    if (a : Int) < e then
      if f_fresh T (T 30 a).toNat = true then f_bl n (a + 1) (f_jn T (T 30 a) e).1 (f_jn T (T 30 a) e).2
      else if T 21 0 < 60 then f_bl n (a + 1) (f_jn (f_makes T (T 30 a).toNat) (T 30 a) e).1 (f_jn (f_makes T (T 30 a).toNat) (T 30 a) e).2
      else ((f_jn T (T 30 a) e).1, false)
    else (T, true)
def f_all (T : wa_St) : wa_St × Bool := f_bl 10 0 (f_jn (f_cp (T 8 0).toNat 0 T) (-1) 0).1 (f_jn (f_cp (T 8 0).toNat 0 T) (-1) 0).2
def k_all (T : wa_St) : Int := if (f_all T).2 = true then 0 else 1
def s_all (T : wa_St) : wa_St := if (f_all T).2 = true then wa_s (f_all T).1 0 0 0 else f_rs (T 8 0).toNat 0 (wa_s (wa_s (wa_s (f_all T).1 0 0 1) 21 0 (T 21 0)) 12 0 (T 12 0))
def v_all (T : wa_St) : Int := if (f_all T).2 = true then (f_all T).1 21 0 - T 21 0 else 0
theorem wf_30 {T T1 : wa_St} (h : wf T) {c : Nat} (hc : c = 30 ∨ c = 31) (h1 : ∀ a b, a ≠ c → T1 a b = T a b) (h2 : ∀ a b, -2 ≤ T1 a b ∧ T1 a b ≤ 100000) : wf T1 := by
  obtain ⟨hB, h⟩ := h
  refine ⟨h2, ?_⟩
  have e : ∀ a, a ≠ 30 ∧ a ≠ 31 → ∀ b, T1 a b = T a b := fun a ha b => h1 a b (by omega)
  simp only [e 8 (by decide), e 21 (by decide), e 12 (by decide), e 29 (by decide), e 4 (by decide), e 7 (by decide), e 6 (by decide), e 5 (by decide), e 13 (by decide), e 25 (by decide), e 26 (by decide), e 28 (by decide), e 14 (by decide), e 3 (by decide), e 17 (by decide), e 18 (by decide), e 19 (by decide)]
  exact h
def b_inv (n8 : Int) (a : Nat) (T : wa_St) (e : Int) : Prop := wf T ∧ T 12 0 ≤ 5 * T 21 0 ∧ T 8 0 = n8 ∧ (a : Int) ≤ e ∧ (∀ j : Nat, (j : Int) < e → 0 ≤ T 30 j ∧ T 30 j < T 8 0) ∧ (∀ j j' : Nat, (j : Int) < e → (j' : Int) < e → T 30 j = T 30 j' → j = j') ∧ (∀ j : Nat, (j : Int) < e → T 4 (T 30 j).toNat = -1 ∨ ∃ b : Nat, b < a ∧ T 4 (T 30 j).toNat = T 30 b) ∧ (∀ b : Nat, b < a → T 7 (T 30 b).toNat ≠ -1)
theorem b_inv.pre {n8 : Int} {a : Nat} {T : wa_St} {e : Int} (h : b_inv n8 a T e) (ha : (a : Int) < e) : j_pre T (T 30 a) e := by
  obtain ⟨h1, h2, h3, h4, h5, h6, h7, h8⟩ := h
  refine ⟨by omega, fun j hj => ⟨(h5 j hj).1, (h5 j hj).2, fun g => ?_⟩, h6⟩
  have ha' := h5 a ha
  rcases h7 j hj with q | ⟨b, hb, q⟩
  · omega
  · have := h6 a b ha (by omega) (by omega)
    omega
theorem b_inv.base {n8 : Int} {a : Nat} {T : wa_St} {e : Int} (h : b_inv n8 a T e) (ha : (a : Int) < e) : f_hasBase T (T 30 a).toNat := by
  obtain ⟨h1, h2, h3, h4, h5, h6, h7, h8⟩ := h
  rcases h7 a ha with q | ⟨b, hb, q⟩
  · exact Or.inl q
  · right
    rw [q]
    exact h8 b hb
theorem b_inv.join {n8 : Int} {a : Nat} {T : wa_St} {e : Int} (h : b_inv n8 a T e) (ha : (a : Int) < e) (hn : T 7 (T 30 a).toNat ≠ -1) : b_inv n8 (a + 1) (f_jn T (T 30 a) e).1 (f_jn T (T 30 a) e).2 := by
  have hp := f_jo_post h.1 (h.pre ha)
  obtain ⟨h1, h2, h3, h4, h5, h6, h7, h8⟩ := h
  change j_inv T (T 30 a) e (T 8 0).toNat (f_jn T (T 30 a) e).1 (f_jn T (T 30 a) e).2 at hp
  generalize (f_jn T (T 30 a) e).1 = T1 at hp ⊢
  generalize (f_jn T (T 30 a) e).2 = q at hp ⊢
  obtain ⟨p1, p2, p3, p4, p5, p6, p7, p8⟩ := hp
  have e8 := p1 8 0 (by decide)
  have e12 := p1 12 0 (by decide)
  have e21 := p1 21 0 (by decide)
  refine ⟨wf_30 h1 (Or.inl rfl) p1 p2, by omega, by omega, by omega, fun j hj => ?_, p5, fun j hj => ?_, fun b hb => ?_⟩
  · have := p4 j hj; omega
  · rw [p1 4 _ (by decide)]
    by_cases g : (j : Int) < e
    · rw [p6 j g]
      rcases h7 j g with q | ⟨b, hb, q⟩
      · exact Or.inl q
      · exact Or.inr ⟨b, by omega, by rw [p6 b (by omega)]; exact q⟩
    · right
      exact ⟨a, by omega, by rw [p6 a ha]; exact p7 j (by omega) hj⟩
  · rw [p1 7 _ (by decide), p6 b (by omega)]
    by_cases g : b = a
    · subst g; exact hn
    · exact h8 b (by omega)
theorem f_makes_keep {T : wa_St} (h : wf T) {i : Nat} (hi : (i : Int) < T 8 0) (hb : f_hasBase T i) (h295 : T 12 0 ≤ 295) : (∀ a b, a ≠ 9 → a ≠ 10 → a ≠ 11 → a ≠ 12 → a ≠ 13 → a ≠ 14 → a ≠ 15 → a ≠ 16 → a ≠ 17 → a ≠ 18 → a ≠ 19 → a ≠ 20 → a ≠ 7 → a ≠ 21 → f_makes T i a b = T a b) ∧ (∀ b, f_makes T i 7 b = if b = i then T 21 0 else T 7 b) ∧ f_makes T i 21 0 = T 21 0 + 1 ∧ f_makes T i 12 0 ≤ T 12 0 + 5 := by
  have h6 := h.2.2.2.2.2.2.2.1 i
  have key := f_mk_inv (T := T) (T 6 i).toNat (5 * i) T (f_base T i) ⟨fun _ _ _ _ _ _ => rfl, h, by omega, f_base_lt h hi hb⟩
  have e21 := key.1 21 0 (by decide) (by decide) (by decide) (by decide)
  have h12 : ∀ (n s : Nat) (T1 : wa_St) (z : Int), (f_mk n s T1 z).1 12 0 ≤ T1 12 0 + n := by
    intro n
    induction n with
    | zero => intro s T1 z; simp only [f_mk]; omega
    | succ n ih =>
      intro s T1 z
      simp only [f_mk]
      split
      · have := ih (s + 1) (f_addL T1 z (T1 5 s) (T1 2 (T1 5 s).toNat)) (T1 12 0)
        have e : f_addL T1 z (T1 5 s) (T1 2 (T1 5 s).toNat) 12 0 = T1 12 0 + 1 := by unfold f_addL; exact wa_s_eq
        omega
      · have := ih (s + 1) T1 (f_find T1 z (T1 5 s) (T1 2 (T1 5 s).toNat))
        omega
  refine ⟨fun a b h1 h2 h3 h4 h5 h6 h7 h8 h9 h10 h11 h12 h13 h14 => ?_, fun b => ?_, ?_, ?_⟩
  · unfold f_makes
    simp only [f_newB, wa_s, h5, h6, h7, h8, h9, h10, h11, h12, h13, h14, false_and, if_false]
    exact key.1 a b h1 h2 h3 h4
  · unfold f_makes
    simp only [f_newB]
    simp [wa_s]
    rw [e21, key.1 7 b (by decide) (by decide) (by decide) (by decide)]
  · unfold f_makes
    simp only [f_newB]
    simp [wa_s]
    exact e21
  · have := h12 (T 6 i).toNat (5 * i) T (f_base T i)
    unfold f_makes
    simp only [f_newB]
    simp [wa_s]
    omega
theorem b_inv.made {n8 : Int} {a : Nat} {T : wa_St} {e : Int} (h : b_inv n8 a T e) (ha : (a : Int) < e) (h60 : T 21 0 < 60) : b_inv n8 a (f_makes T (T 30 a).toNat) e ∧ f_makes T (T 30 a).toNat 30 a = T 30 a ∧ f_makes T (T 30 a).toNat 7 (T 30 a).toNat ≠ -1 := by
  have hb := h.base ha
  obtain ⟨h1, h2, h3, h4, h5, h6, h7, h8⟩ := h
  have ha' := h5 a ha
  have hi : (((T 30 a).toNat : Nat) : Int) < T 8 0 := by omega
  obtain ⟨k1, k2, k3, k4⟩ := f_makes_keep h1 hi hb (by omega)
  have w := wf_makes h1 hi hb h60 (by omega)
  have w21 := h1.2.2.1
  have e8 := k1 8 0 (by decide) (by decide) (by decide) (by decide) (by decide) (by decide) (by decide) (by decide) (by decide) (by decide) (by decide) (by decide) (by decide) (by decide)
  have e30 := fun b => k1 30 b (by decide) (by decide) (by decide) (by decide) (by decide) (by decide) (by decide) (by decide) (by decide) (by decide) (by decide) (by decide) (by decide) (by decide)
  have e4 := fun b => k1 4 b (by decide) (by decide) (by decide) (by decide) (by decide) (by decide) (by decide) (by decide) (by decide) (by decide) (by decide) (by decide) (by decide) (by decide)
  refine ⟨⟨w, by omega, by omega, h4, fun j hj => ?_, fun j j' hj hj' q => ?_, fun j hj => ?_, fun b hb => ?_⟩, e30 a, ?_⟩
  · rw [e30, e8]; exact h5 j hj
  · rw [e30, e30] at q; exact h6 j j' hj hj' q
  · rw [e30, e4]
    rcases h7 j hj with q | ⟨b, hb, q⟩
    · exact Or.inl q
    · exact Or.inr ⟨b, hb, by rw [e30]; exact q⟩
  · rw [e30, k2]
    have := h8 b hb
    split <;> omega
  · rw [k2, if_pos rfl]; omega
theorem b_inv.le {n8 : Int} {a : Nat} {T : wa_St} {e : Int} (h : b_inv n8 a T e) : e ≤ T 8 0 := by
  have w8 := h.1.2.1
  have := f_hole (T 8 0) e (fun j => T 30 j) h.2.2.2.2.1 h.2.2.2.2.2.1 (by have := h.2.2.2.1; omega)
  omega
theorem f_fresh_7 {T : wa_St} {i : Nat} (h : f_fresh T i = true) : T 7 i ≠ -1 := by
  unfold f_fresh at h
  simp only [f_fr, Int.toNat_natCast, Bool.or_eq_true, Bool.and_eq_true, decide_eq_true_eq] at h
  rcases h with h | h
  · omega
  · exact h.1.2.1
theorem b_inv.first {T : wa_St} (h : wf T) (h5 : T 12 0 ≤ 5 * T 21 0) : b_inv (T 8 0) 0 (f_jn T (-1) 0).1 (f_jn T (-1) 0).2 := by
  have hp := f_jo_post (i := -1) (e := 0) h ⟨Int.le_refl 0, fun j hj => by omega, fun j j' hj => by omega⟩
  change j_inv T (-1) 0 (T 8 0).toNat (f_jn T (-1) 0).1 (f_jn T (-1) 0).2 at hp
  generalize (f_jn T (-1) 0).1 = T1 at hp ⊢
  generalize (f_jn T (-1) 0).2 = q at hp ⊢
  obtain ⟨p1, p2, p3, p4, p5, p6, p7, p8⟩ := hp
  have e8 := p1 8 0 (by decide)
  have e12 := p1 12 0 (by decide)
  have e21 := p1 21 0 (by decide)
  refine ⟨wf_30 h (Or.inl rfl) p1 p2, by omega, e8, by omega, fun j hj => ?_, p5, fun j hj => ?_, fun b hb => absurd hb (Nat.not_lt_zero b)⟩
  · have := p4 j hj; omega
  · left
    rw [p1 4 _ (by decide)]
    exact p7 j (by omega) hj
def c_inv (T T1 : wa_St) : Prop := (∀ a b, a ≠ 31 → T1 a b = T a b) ∧ (∀ a b, -2 ≤ T1 a b ∧ T1 a b ≤ 100000)
theorem c_inv.set {T T1 : wa_St} (h : c_inv T T1) (j : Nat) : c_inv T (wa_s T1 31 j (T1 7 j)) := by
  refine ⟨fun a b hab => by rw [wa_s_nk hab]; exact h.1 a b hab, fun a b => ?_⟩
  have := h.2 a b
  have := h.2 7 j
  unfold wa_s
  split <;> omega

theorem wa_sB {T : wa_St} (h : ∀ a b, -2 ≤ T a b ∧ T a b ≤ 100000) {k j : Nat} {v : Int} (hv : -2 ≤ v ∧ v ≤ 100000) : ∀ a b, -2 ≤ wa_s T k j v a b ∧ wa_s T k j v a b ≤ 100000 := by
  intro a b
  have := h a b
  unfold wa_s
  split <;> omega
