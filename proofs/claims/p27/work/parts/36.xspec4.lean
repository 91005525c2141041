/-! the class's line of images (laid by program) -/
def x_v (S X : wa_St) : wa_St := fun a b => if a = 30 then X 11 b else S a b
theorem x_v_s {S X : wa_St} (j : Nat) (v : Int) : x_v S (wa_s X 11 j v) = wa_s (x_v S X) 30 j v := by
  funext a b
  unfold x_v wa_s
  by_cases q : a = 30
  · subst q; simp
  · simp [q]
theorem x_v_B {S X : wa_St} (hS : ∀ k j, -2 ≤ S k j ∧ S k j ≤ 100000) (hX : ∀ k j, -2 ≤ X k j ∧ X k j ≤ 100000) : ∀ a b, -2 ≤ x_v S X a b ∧ x_v S X a b ≤ 100000 := by
  intro a b
  unfold x_v
  split
  · exact hX 11 b
  · exact hS a b
theorem wf_v {S X : wa_St} (h : wf S) (hX : ∀ k j, -2 ≤ X k j ∧ X k j ≤ 100000) : wf (x_v S X) := wf_30 h (Or.inl rfl) (fun a b ha => if_neg ha) (x_v_B h.1 hX)
theorem wx_qq {ad : Nat → Nat → Nat} {S : wa_St} (h : wx_inj ad S) {z z' : Int} (hz : -1 ≤ z ∧ z < S 8 0) (hz' : -1 ≤ z' ∧ z' < S 8 0) : wa_op ad 1 z = wa_op ad 1 z' ↔ z = z' := by
  by_cases q' : z' < 0
  · rw [wa_op_n q']
    by_cases q : z < 0
    · rw [wa_op_n q]; exact ⟨fun _ => (by omega), fun _ => rfl⟩
    · rw [wa_op_s (by omega)]; exact ⟨fun e => (by cases e), fun e => (by omega)⟩
  · rw [wa_op_s (z := z') (by omega)]
    have := wx_op_eq2 h hz (b := z'.toNat) (by omega)
    rw [this]
    constructor <;> intro e <;> omega
def f_ln : Nat → Nat → wa_St → Int → wa_St × Int
  | 0, _, T, e => (T, e)
  | n + 1, a, T, e => if (a : Int) < e then f_ln n (a + 1) (f_jn T (T 30 a) e).1 (f_jn T (T 30 a) e).2 else (T, e)
def f_lna (T : wa_St) : wa_St × Int := f_ln 10 0 (f_jn T (-1) 0).1 (f_jn T (-1) 0).2
def l_inv (T0 : wa_St) (a : Nat) (T : wa_St) (e : Int) : Prop := (∀ x b, x ≠ 30 → T x b = T0 x b) ∧ wf T ∧ (0 ≤ e ∧ e ≤ T 8 0) ∧ (∀ j : Nat, (j : Int) < e → 0 ≤ T 30 j ∧ T 30 j < T 8 0) ∧ (∀ j j' : Nat, (j : Int) < e → (j' : Int) < e → T 30 j = T 30 j' → j = j') ∧ (∀ j : Nat, (j : Int) < e → T 4 (T 30 j).toNat = -1 ∨ ∃ b : Nat, b < a ∧ (b : Int) < e ∧ T 4 (T 30 j).toNat = T 30 b)
theorem l_inv.pre {T0 : wa_St} {a : Nat} {T : wa_St} {e : Int} (h : l_inv T0 a T e) (ha : (a : Int) < e) : j_pre T (T 30 a) e := by
  obtain ⟨h1, h2, h3, h4, h5, h6⟩ := h
  refine ⟨h3.1, fun j hj => ⟨(h4 j hj).1, (h4 j hj).2, fun g => ?_⟩, h5⟩
  have ha' := h4 a ha
  rcases h6 j hj with q | ⟨b, hb, hbe, q⟩
  · omega
  · have := h5 b a hbe ha (by rw [← q, g])
    omega
theorem l_inv.join {T0 : wa_St} {a : Nat} {T : wa_St} {e : Int} (h : l_inv T0 a T e) (ha : (a : Int) < e) : l_inv T0 (a + 1) (f_jn T (T 30 a) e).1 (f_jn T (T 30 a) e).2 := by
  have hp := f_jo_post h.2.1 (h.pre ha)
  have hle := j_inv.le hp (by have := h.2.1.2.1; omega)
  obtain ⟨h1, h2, h3, h4, h5, h6⟩ := h
  change j_inv T (T 30 a) e (T 8 0).toNat (f_jn T (T 30 a) e).1 (f_jn T (T 30 a) e).2 at hp
  change (f_jn T (T 30 a) e).2 ≤ T 8 0 at hle
  generalize (f_jn T (T 30 a) e).1 = T1 at hp ⊢
  generalize (f_jn T (T 30 a) e).2 = q at hp hle ⊢
  obtain ⟨p1, p2, p3, p4, p5, p6, p7, p8⟩ := hp
  have e8 := p1 8 0 (by decide)
  refine ⟨fun x b hx => (p1 x b hx).trans (h1 x b hx), wf_30 h2 (Or.inl rfl) p1 p2, by omega, fun j hj => ?_, p5, fun j hj => ?_⟩
  · have := p4 j hj; omega
  · rw [p1 4 _ (by decide)]
    by_cases g : (j : Int) < e
    · rw [p6 j g]
      rcases h6 j g with q | ⟨b, hb, hbe, q⟩
      · exact Or.inl q
      · exact Or.inr ⟨b, by omega, by omega, by rw [p6 b hbe]; exact q⟩
    · right
      exact ⟨a, by omega, by omega, by rw [p6 a ha]; exact p7 j (by omega) hj⟩
theorem l_inv.first {T : wa_St} (h : wf T) : l_inv T 0 (f_jn T (-1) 0).1 (f_jn T (-1) 0).2 := by
  have hp := f_jo_post (i := -1) (e := 0) h ⟨Int.le_refl 0, fun j hj => by omega, fun j j' hj => by omega⟩
  have hle := j_inv.le hp (by have := h.2.1; omega)
  change j_inv T (-1) 0 (T 8 0).toNat (f_jn T (-1) 0).1 (f_jn T (-1) 0).2 at hp
  change (f_jn T (-1) 0).2 ≤ T 8 0 at hle
  generalize (f_jn T (-1) 0).1 = T1 at hp ⊢
  generalize (f_jn T (-1) 0).2 = q at hp hle ⊢
  obtain ⟨p1, p2, p3, p4, p5, p6, p7, p8⟩ := hp
  have e8 := p1 8 0 (by decide)
  refine ⟨p1, wf_30 h (Or.inl rfl) p1 p2, by omega, fun j hj => ?_, p5, fun j hj => ?_⟩
  · have := p4 j hj; omega
  · left
    rw [p1 4 _ (by decide)]
    exact p7 j (by omega) hj
