/-! joins and makes: what they keep (fb_holes is pasted from kit/laws/COUNTS) -/
theorem fb_holes : ∀ (m n : Nat) (f : Nat → Nat), (∀ i, i < n → f i < m) → (∀ i j, i < j → j < n → f i ≠ f j) → n ≤ m := by
  intro m
  induction m with
  | zero =>
    intro n f h1 _
    rcases Nat.eq_zero_or_pos n with h | h
    · omega
    · exact absurd (h1 0 h) (Nat.not_lt_zero _)
  | succ m ih =>
    intro n f h1 h2
    by_cases hx : ∃ i, i < n ∧ f i = m
    · obtain ⟨a, ha, hfa⟩ := hx
      have hg := ih (n - 1) (fun i => if i < a then f i else f (i + 1)) (by
        intro i hi
        by_cases q : i < a
        · simp only [if_pos q]
          have b1 := h1 i (by omega)
          have b2 := h2 i a q ha
          omega
        · simp only [if_neg q]
          have b1 := h1 (i + 1) (by omega)
          have b2 := h2 a (i + 1) (by omega) (by omega)
          omega) (by
        intro i j hij hj
        by_cases q : i < a
        · by_cases r : j < a
          · simp only [if_pos q, if_pos r]
            exact h2 i j hij (by omega)
          · simp only [if_pos q, if_neg r]
            exact h2 i (j + 1) (by omega) (by omega)
        · have r : ¬ j < a := by omega
          simp only [if_neg q, if_neg r]
          exact h2 (i + 1) (j + 1) (by omega) (by omega))
      omega
    · have hg := ih n f (fun i hi => by
        have b1 := h1 i hi
        have b2 : f i ≠ m := fun e => hx ⟨i, hi, e⟩
        omega) h2
      omega
/-- two of them in one place -/

def f_jo (i : Int) : Nat → Nat → wa_St → Int → wa_St × Int
  | 0, _, T, q => (T, q)
  | n + 1, j, T, q => if T 4 j = i then f_jo i n (j + 1) (wa_s T 30 q.toNat (j : Int)) (q + 1) else f_jo i n (j + 1) T q
def j_inv (T : wa_St) (i e : Int) (jx : Nat) (T1 : wa_St) (q : Int) : Prop := (∀ a b, a ≠ 30 → T1 a b = T a b) ∧ (∀ a b, -2 ≤ T1 a b ∧ T1 a b ≤ 100000) ∧ (0 ≤ e ∧ e ≤ q) ∧ (∀ j : Nat, (j : Int) < q → 0 ≤ T1 30 j ∧ T1 30 j < T 8 0 ∧ (T 4 (T1 30 j).toNat = i → T1 30 j < jx)) ∧ (∀ j j' : Nat, (j : Int) < q → (j' : Int) < q → T1 30 j = T1 30 j' → j = j') ∧ (∀ j : Nat, (j : Int) < e → T1 30 j = T 30 j) ∧ (∀ j : Nat, e ≤ j → (j : Int) < q → T 4 (T1 30 j).toNat = i) ∧ (∀ k : Nat, k < jx → T 4 k = i → ∃ j : Nat, e ≤ j ∧ (j : Int) < q ∧ T1 30 j = (k : Int))
theorem j_inv.no {T : wa_St} {i e : Int} {jx : Nat} {T1 : wa_St} {q : Int} (h : j_inv T i e jx T1 q) (hn : T 4 jx ≠ i) : j_inv T i e (jx + 1) T1 q := by
  obtain ⟨h1, h2, h3, h4, h5, h6, h7, h8⟩ := h
  refine ⟨h1, h2, h3, fun j hj => ?_, h5, h6, h7, fun k hk hi => ?_⟩
  · obtain ⟨a, b, c⟩ := h4 j hj
    exact ⟨a, b, fun g => by have := c g; omega⟩
  · by_cases g : k = jx
    · subst g; exact absurd hi hn
    · exact h8 k (by omega) hi
theorem f_hole (n : Int) (q : Int) (f : Nat → Int) (h1 : ∀ j : Nat, (j : Int) < q → 0 ≤ f j ∧ f j < n) (h2 : ∀ j j' : Nat, (j : Int) < q → (j' : Int) < q → f j = f j' → j = j') (hq : 0 ≤ q) : q ≤ n ∨ q = 0 := by
  have := fb_holes n.toNat q.toNat (fun j => (f j).toNat) (fun j hj => by show (f j).toNat < n.toNat; have := h1 j (by omega); omega) (fun a b hab hb => by
    show (f a).toNat ≠ (f b).toNat
    intro e
    have ha := h1 a (by omega)
    have hb' := h1 b (by omega)
    have := h2 a b (by omega) (by omega) (by omega)
    omega)
  omega
theorem j_inv.lt {T : wa_St} {i e : Int} {jx : Nat} {T1 : wa_St} {q : Int} (h : j_inv T i e jx T1 q) (hm : T 4 jx = i) (hj : (jx : Int) < T 8 0) : q + 1 ≤ T 8 0 := by
  obtain ⟨h1, h2, h3, h4, h5, -⟩ := h
  have key : ∀ j : Nat, (j : Int) < q → T1 30 j ≠ (jx : Int) := by
    intro j hjq e
    obtain ⟨a, b, c⟩ := h4 j hjq
    rw [e] at c
    have := c (by rw [Int.toNat_natCast]; exact hm)
    omega
  have := f_hole (T 8 0) (q + 1) (fun j => if (j : Int) < q then T1 30 j else (jx : Int)) (fun j hjn => by
    show 0 ≤ (if (j : Int) < q then T1 30 j else (jx : Int)) ∧ (if (j : Int) < q then T1 30 j else (jx : Int)) < _
    by_cases g : (j : Int) < q
    · rw [if_pos g]; have := h4 j g; omega
    · rw [if_neg g]; omega) (fun a b ha hb e => by
    replace e : (if (a : Int) < q then T1 30 a else (jx : Int)) = (if (b : Int) < q then T1 30 b else (jx : Int)) := e
    by_cases ga : (a : Int) < q <;> by_cases gb : (b : Int) < q
    · rw [if_pos ga, if_pos gb] at e; exact h5 a b ga gb e
    · rw [if_pos ga, if_neg gb] at e; exact absurd e (key a ga)
    · rw [if_neg ga, if_pos gb] at e; exact absurd e.symm (key b gb)
    · omega) (by omega)
  omega
theorem j_inv.yes {T : wa_St} {i e : Int} {jx : Nat} {T1 : wa_St} {q : Int} (h : j_inv T i e jx T1 q) (hm : T 4 jx = i) (hj : (jx : Int) < T 8 0) (hs : jx < 1000) : j_inv T i e (jx + 1) (wa_s T1 30 q.toNat (jx : Int)) (q + 1) := by
  have hlt := h.lt hm hj
  obtain ⟨h1, h2, h3, h4, h5, h6, h7, h8⟩ := h
  have key : ∀ j : Nat, (j : Int) < q → T1 30 j ≠ (jx : Int) := by
    intro j hjq e
    obtain ⟨a, b, c⟩ := h4 j hjq
    rw [e] at c
    have := c (by rw [Int.toNat_natCast]; exact hm)
    omega
  refine ⟨fun a b hab => by rw [wa_s_nk hab]; exact h1 a b hab, fun a b => ?_, by omega, fun j hj' => ?_, fun j j' hjq hjq' e => ?_, fun j hje => ?_, fun j hje hjq => ?_, fun k hk hi => ?_⟩
  · by_cases g : a = 30 ∧ b = q.toNat
    · rw [show wa_s T1 30 q.toNat (jx : Int) a b = (jx : Int) from if_pos g]; omega
    · rw [wa_s_ne g]; exact h2 a b
  · by_cases g : j = q.toNat
    · rw [wa_s_eq' g]; exact ⟨by omega, hj, fun _ => by omega⟩
    · rw [wa_s_nj g]
      obtain ⟨a, b, c⟩ := h4 j (by omega)
      exact ⟨a, b, fun g => by have := c g; omega⟩
  · by_cases g : j = q.toNat <;> by_cases g' : j' = q.toNat
    · omega
    · rw [wa_s_eq' g, wa_s_nj g'] at e
      exact absurd e.symm (key j' (by omega))
    · rw [wa_s_nj g, wa_s_eq' g'] at e
      exact absurd e (key j (by omega))
    · rw [wa_s_nj g, wa_s_nj g'] at e
      exact h5 j j' (by omega) (by omega) e
  · rw [wa_s_nj (by omega)]; exact h6 j hje
  · by_cases g : j = q.toNat
    · rw [wa_s_eq' g, Int.toNat_natCast]; exact hm
    · rw [wa_s_nj g]; exact h7 j hje (by omega)
  · by_cases g : k = jx
    · subst g; exact ⟨q.toNat, by omega, by omega, wa_s_eq⟩
    · obtain ⟨j, a, b, c⟩ := h8 k (by omega) hi
      exact ⟨j, a, by omega, by rw [wa_s_nj (by omega)]; exact c⟩
/-- the line before the children of i join it -/
def j_pre (T : wa_St) (i e : Int) : Prop := 0 ≤ e ∧ (∀ j : Nat, (j : Int) < e → 0 ≤ T 30 j ∧ T 30 j < T 8 0 ∧ T 4 (T 30 j).toNat ≠ i) ∧ (∀ j j' : Nat, (j : Int) < e → (j' : Int) < e → T 30 j = T 30 j' → j = j')
theorem j_pre.inv {T : wa_St} {i e : Int} (hB : ∀ a b, -2 ≤ T a b ∧ T a b ≤ 100000) (h : j_pre T i e) : j_inv T i e 0 T e :=
  ⟨fun _ _ _ => rfl, hB, ⟨h.1, Int.le_refl _⟩, fun j hj => ⟨(h.2.1 j hj).1, (h.2.1 j hj).2.1, fun g => absurd g (h.2.1 j hj).2.2⟩, h.2.2, fun _ _ => rfl, fun j h1 h2 => by omega, fun k hk => absurd hk (Nat.not_lt_zero k)⟩
theorem f_jo_inv {T : wa_St} {i e : Int} : ∀ (n jx : Nat) (T1 : wa_St) (q : Int), jx + n = (T 8 0).toNat → jx + n < 1000 → j_inv T i e jx T1 q → j_inv T i e (jx + n) (f_jo i n jx T1 q).1 (f_jo i n jx T1 q).2
  | 0, jx, T1, q, _, _, h => h
  | n + 1, jx, T1, q, hn, hs, h => by
    simp only [f_jo]
    have e4 := h.1 4 jx (by decide)
    by_cases g : T1 4 jx = i
    · rw [if_pos g]
      have := f_jo_inv n (jx + 1) _ _ (by omega) (by omega) (h.yes (by rw [← e4]; exact g) (by omega) (by omega))
      rw [show jx + (n + 1) = jx + 1 + n by omega]
      exact this
    · rw [if_neg g]
      have := f_jo_inv n (jx + 1) _ _ (by omega) (by omega) (h.no (by rw [← e4]; exact g))
      rw [show jx + (n + 1) = jx + 1 + n by omega]
      exact this
/-- the line behind it -/
theorem f_jo_post {T : wa_St} {i e : Int} (hwf : wf T) (h : j_pre T i e) : j_inv T i e (T 8 0).toNat (f_jo i (T 8 0).toNat 0 T e).1 (f_jo i (T 8 0).toNat 0 T e).2 := by
  have w8 := hwf.2.1
  have := f_jo_inv (T 8 0).toNat 0 T e (by omega) (by omega) (h.inv hwf.1)
  rw [Nat.zero_add] at this
  exact this
theorem j_inv.le {T : wa_St} {i e : Int} {jx : Nat} {T1 : wa_St} {q : Int} (h : j_inv T i e jx T1 q) (h8 : 0 ≤ T 8 0) : q ≤ T 8 0 := by
  have := f_hole (T 8 0) q (fun j => T1 30 j) (fun j hj => ⟨(h.2.2.2.1 j hj).1, (h.2.2.2.1 j hj).2.1⟩) h.2.2.2.2.1 (by have := h.2.2.1; omega)
  omega
-- makes
theorem wf_addL {T : wa_St} (h : wf T) (hl : T 12 0 < 300) {z inp ver : Int} (rz : -1 ≤ z ∧ z < T 12 0) (ri : -2 ≤ inp ∧ inp ≤ 100000) (rv : -2 ≤ ver ∧ ver ≤ 100000) : wf (f_addL T z inp ver) := by
  obtain ⟨hB, w8, w21, w12, w29, w4, w7, w6, w5, w13, w25, w26, w28, w14, w3, w17⟩ := h
  have hk : ∀ a b, a ≠ 9 → a ≠ 10 → a ≠ 11 → a ≠ 12 → f_addL T z inp ver a b = T a b := by
    intro a b h1 h2 h3 h4
    unfold f_addL
    rw [wa_s_nk h4, wa_s_nk h3, wa_s_nk h2, wa_s_nk h1]
  have h12 : f_addL T z inp ver 12 0 = T 12 0 + 1 := by unfold f_addL; exact wa_s_eq
  have e := fun a b (q : a ≠ 9 ∧ a ≠ 10 ∧ a ≠ 11 ∧ a ≠ 12) => hk a b q.1 q.2.1 q.2.2.1 q.2.2.2
  refine ⟨fun a b => ?_, ?_, ?_, ?_, ?_, ?_, ?_, ?_, ?_, ?_, ?_, ?_, ?_, ?_, ?_, ?_⟩
  · unfold f_addL wa_s
    have := hB a b
    split
    · omega
    · split
      · omega
      · split
        · omega
        · split <;> omega
  all_goals try rw [h12]
  all_goals try simp only [e 8 _ (by decide), e 21 _ (by decide), e 29 _ (by decide), e 4 _ (by decide), e 7 _ (by decide), e 6 _ (by decide), e 5 _ (by decide), e 13 _ (by decide), e 25 _ (by decide), e 26 _ (by decide), e 28 _ (by decide), e 14 _ (by decide), e 3 _ (by decide), e 17 _ (by decide), e 18 _ (by decide), e 19 _ (by decide)]
  all_goals first | assumption | (clear hk e; omega) | exact fun b hb => by have := w14 b hb; omega

theorem f_find_lt {T : wa_St} (h : wf T) (a b c : Int) : f_find T a b c < T 12 0 ∧ (f_find T a b c = -2 ∨ 0 ≤ f_find T a b c) := by
  have key : ∀ (p : Nat → Bool) (n i : Nat), (f_fnd p n i = -2 ∨ (0 ≤ f_fnd p n i ∧ f_fnd p n i < (n : Int) + i)) := by
    intro p n
    induction n with
    | zero => intro i; exact Or.inl rfl
    | succ n ih =>
      intro i
      simp only [f_fnd]
      split
      · exact Or.inr ⟨by omega, by omega⟩
      · rcases ih (i + 1) with h | h
        · exact Or.inl h
        · exact Or.inr ⟨h.1, by omega⟩
  obtain ⟨-, -, -, h2, -⟩ := h
  have := key (fun l => decide (T 9 l = a ∧ T 10 l = b ∧ T 11 l = c)) (T 12 0).toNat 0
  unfold f_find
  omega
theorem f_base_lt {T : wa_St} (h : wf T) {i : Nat} (hi : (i : Int) < T 8 0) (hh : f_hasBase T i) : -1 ≤ f_base T i ∧ f_base T i < T 12 0 := by
  obtain ⟨hB, w8, w21, w12, w29, w4, w7, w6, w5, w13, w25, w26, w28, w14, w3, w17⟩ := h
  unfold f_base
  have a4 := w4 i hi
  split
  · omega
  · rename_i q
    have a7 := w7 (T 4 i).toNat (by omega)
    have a7' := hh.resolve_left q
    have := w14 (T 7 (T 4 i).toNat).toNat (by omega)
    omega
def m_inv (T : wa_St) (n : Nat) (T1 : wa_St) (z : Int) : Prop := (∀ a b, a ≠ 9 → a ≠ 10 → a ≠ 11 → a ≠ 12 → T1 a b = T a b) ∧ wf T1 ∧ T1 12 0 + n ≤ 300 ∧ (-1 ≤ z ∧ z < T1 12 0)
theorem m_inv.found {T : wa_St} {n : Nat} {T1 : wa_St} {z x : Int} (h : m_inv T (n + 1) T1 z) (hx : 0 ≤ x ∧ x < T1 12 0) : m_inv T n T1 x := ⟨h.1, h.2.1, by have := h.2.2.1; omega, by omega⟩
theorem m_inv.made {T : wa_St} {n : Nat} {T1 : wa_St} {z : Int} (h : m_inv T (n + 1) T1 z) {inp ver : Int} (ri : -2 ≤ inp ∧ inp ≤ 100000) (rv : -2 ≤ ver ∧ ver ≤ 100000) : m_inv T n (f_addL T1 z inp ver) (T1 12 0) := by
  have h12 : f_addL T1 z inp ver 12 0 = T1 12 0 + 1 := by unfold f_addL; exact wa_s_eq
  have hr := h.2.1.2.2.2.1
  refine ⟨fun a b h1 h2 h3 h4 => ?_, wf_addL h.2.1 (by have := h.2.2.1; omega) h.2.2.2 ri rv, by rw [h12]; have := h.2.2.1; omega, by rw [h12]; omega⟩
  unfold f_addL
  rw [wa_s_nk h4, wa_s_nk h3, wa_s_nk h2, wa_s_nk h1]
  exact h.1 a b h1 h2 h3 h4
