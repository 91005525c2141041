/-! pure: the line of images -/
theorem f_jo_o (i : Int) : ∀ (n j : Nat) (T : wa_St) (q : Int) (a b : Nat), a ≠ 30 → (f_jo i n j T q).1 a b = T a b := by
  intro n
  induction n with
  | zero => intro j T q a b _; rfl
  | succ n ih =>
    intro j T q a b ha
    by_cases g : T 4 j = i
    · have e : f_jo i (n + 1) j T q = f_jo i n (j + 1) (wa_s T 30 q.toNat (j : Int)) (q + 1) := if_pos g
      rw [e, ih _ _ _ _ _ ha, wa_s_nk ha]
    · have e : f_jo i (n + 1) j T q = f_jo i n (j + 1) T q := if_neg g
      rw [e, ih _ _ _ _ _ ha]
theorem f_jo_B (i : Int) : ∀ (n j : Nat) (T : wa_St) (q : Int), j + n < 1000 → (∀ b, -2 ≤ T 30 b ∧ T 30 b ≤ 100000) → ∀ b, -2 ≤ (f_jo i n j T q).1 30 b ∧ (f_jo i n j T q).1 30 b ≤ 100000 := by
  intro n
  induction n with
  | zero => intro j T q _ h; exact h
  | succ n ih =>
    intro j T q hj h
    by_cases g : T 4 j = i
    · have e : f_jo i (n + 1) j T q = f_jo i n (j + 1) (wa_s T 30 q.toNat (j : Int)) (q + 1) := if_pos g
      rw [e]
      refine ih _ _ _ (by omega) (fun b => ?_)
      unfold wa_s
      split
      · omega
      · exact h b
    · have e : f_jo i (n + 1) j T q = f_jo i n (j + 1) T q := if_neg g
      rw [e]
      exact ih _ _ _ (by omega) h
theorem f_jo_same (i : Int) : ∀ (n j : Nat) (R N : wa_St) (q : Int), (∀ b, R 4 b = N 4 b) → 0 ≤ q → (∀ b : Nat, (b : Int) < q → R 30 b = N 30 b) → (f_jo i n j R q).2 = (f_jo i n j N q).2 ∧ ∀ b : Nat, (b : Int) < (f_jo i n j N q).2 → (f_jo i n j R q).1 30 b = (f_jo i n j N q).1 30 b := by
  intro n
  induction n with
  | zero => intro j R N q _ _ h; exact ⟨rfl, h⟩
  | succ n ih =>
    intro j R N q h4 hq h
    by_cases g : N 4 j = i
    · have e : f_jo i (n + 1) j N q = f_jo i n (j + 1) (wa_s N 30 q.toNat (j : Int)) (q + 1) := if_pos g
      have e2 : f_jo i (n + 1) j R q = f_jo i n (j + 1) (wa_s R 30 q.toNat (j : Int)) (q + 1) := if_pos (by rw [h4]; exact g)
      rw [e, e2]
      refine ih _ _ _ _ (fun b => by rw [wa_s_nk (by decide), wa_s_nk (by decide)]; exact h4 b) (by omega) (fun b hb => ?_)
      unfold wa_s
      by_cases g2 : b = q.toNat
      · rw [if_pos ⟨rfl, g2⟩, if_pos ⟨rfl, g2⟩]
      · rw [if_neg (fun k => g2 k.2), if_neg (fun k => g2 k.2)]; exact h b (by omega)
    · have e : f_jo i (n + 1) j N q = f_jo i n (j + 1) N q := if_neg g
      have e2 : f_jo i (n + 1) j R q = f_jo i n (j + 1) R q := if_neg (by rw [h4]; exact g)
      rw [e, e2]
      exact ih _ _ _ _ h4 hq h
/-- the line: every root is in, and every child of those that have come out -/
def li (T0 : wa_St) (a : Nat) (N : wa_St) (e : Int) : Prop := l_inv T0 a N e ∧ (∀ k : Nat, (k : Int) < T0 8 0 → T0 4 k = -1 → ∃ b : Nat, (b : Int) < e ∧ N 30 b = (k : Int)) ∧ (∀ c : Nat, c < a → (c : Int) < e → ∀ k : Nat, (k : Int) < T0 8 0 → T0 4 k = N 30 c → ∃ b : Nat, (b : Int) < e ∧ N 30 b = (k : Int))
theorem li.first {T : wa_St} (h : wf T) : li T 0 (f_jn T (-1) 0).1 (f_jn T (-1) 0).2 := by
  have hp : j_pre T (-1) 0 := ⟨Int.le_refl _, fun j hj => by omega, fun j j' hj => by omega⟩
  have q := f_jo_post h hp
  obtain ⟨q1, q2, q3, q4, q5, q6, q7, q8⟩ := q
  refine ⟨l_inv.first h, fun k hk h4 => ?_, fun c hc => by omega⟩
  obtain ⟨j, j1, j2, j3⟩ := q8 k (by omega) h4
  exact ⟨j, j2, j3⟩
theorem li.join {T0 : wa_St} {a : Nat} {N : wa_St} {e : Int} (h : li T0 a N e) (ha : (a : Int) < e) : li T0 (a + 1) (f_jn N (N 30 a) e).1 (f_jn N (N 30 a) e).2 ∧ e ≤ (f_jn N (N 30 a) e).2 ∧ ∀ b : Nat, (b : Int) < e → (f_jn N (N 30 a) e).1 30 b = N 30 b := by
  obtain ⟨h0, h1, h2⟩ := h
  have q := f_jo_post h0.2.1 (h0.pre ha)
  obtain ⟨q1, q2, q3, q4, q5, q6, q7, q8⟩ := q
  have hN : ∀ x b, x ≠ 30 → N x b = T0 x b := h0.1
  refine ⟨⟨h0.join ha, fun k hk h4 => ?_, fun c hc hce k hk h4 => ?_⟩, q3.2, q6⟩
  · obtain ⟨b, b1, b2⟩ := h1 k hk h4
    exact ⟨b, by have := q3.2; exact Int.lt_of_lt_of_le b1 this, (q6 b b1).trans b2⟩
  · by_cases g : c < a
    · have e1 := q6 c (by omega)
      obtain ⟨b, b1, b2⟩ := h2 c g (by omega) k hk (h4.trans e1)
      exact ⟨b, by have := q3.2; exact Int.lt_of_lt_of_le b1 this, (q6 b b1).trans b2⟩
    · have e0 : c = a := by omega
      rw [e0] at h4
      have e1 := q6 a ha
      have e8 := hN 8 0 (by decide)
      obtain ⟨j, j1, j2, j3⟩ := q8 k (by omega) ((hN 4 k (by decide)).trans (h4.trans e1))
      exact ⟨j, j2, j3⟩
theorem ln_post {T0 : wa_St} : ∀ (n a : Nat) (N : wa_St) (e : Int), a + n = 10 → li T0 a N e → e ≤ (f_ln n a N e).2 ∧ (∀ b : Nat, (b : Int) < e → (f_ln n a N e).1 30 b = N 30 b) ∧ ∃ a2 : Nat, (f_ln n a N e).2 ≤ (a2 : Int) ∧ li T0 a2 (f_ln n a N e).1 (f_ln n a N e).2 := by
  intro n
  induction n with
  | zero =>
    intro a N e hn h
    have h3 := h.1.2.2.1
    have h8 := h.1.2.1.2.1
    exact ⟨Int.le_refl _, fun _ _ => rfl, a, by show e ≤ (a : Int); omega, h⟩
  | succ n ih =>
    intro a N e hn h
    by_cases ha : (a : Int) < e
    · have eq : f_ln (n + 1) a N e = f_ln n (a + 1) (f_jn N (N 30 a) e).1 (f_jn N (N 30 a) e).2 := if_pos ha
      obtain ⟨j1, j2, j3⟩ := h.join ha
      obtain ⟨i1, i2, i3⟩ := ih (a + 1) _ _ (by omega) j1
      rw [eq]
      exact ⟨Int.le_trans j2 i1, fun b hb => (i2 b (Int.lt_of_lt_of_le hb j2)).trans (j3 b hb), i3⟩
    · have eq : f_ln (n + 1) a N e = (N, e) := if_neg ha
      rw [eq]
      exact ⟨Int.le_refl _, fun _ _ => rfl, a, by show e ≤ (a : Int); omega, h⟩
/-- at its end every image stands in the line -/
theorem li.all {T0 : wa_St} {a : Nat} {N : wa_St} {e : Int} (h : li T0 a N e) (he : e ≤ (a : Int)) (hp : pa T0) : ∀ (n k : Nat), k < n → (k : Int) < T0 8 0 → ∃ b : Nat, (b : Int) < e ∧ N 30 b = (k : Int) := by
  obtain ⟨h0, h1, h2⟩ := h
  intro n
  induction n with
  | zero => intro k hk; omega
  | succ n ih =>
    intro k hk h8
    have q := hp k h8
    by_cases g : T0 4 k = -1
    · exact h1 k h8 g
    · obtain ⟨b, b1, b2⟩ := ih (T0 4 k).toNat (by omega) (by omega)
      exact h2 b (by omega) b1 k h8 (by omega)
/-! which images need a bake, told ahead -/
theorem ct_wz {T : wa_St} (hwf : wf T) (h : lu T) : ∀ (n : Nat) (z : Int), z < (n : Int) → 0 ≤ z → z < T 8 0 → (x_ct T z.toNat = -2 ∨ (-1 ≤ x_ct T z.toNat ∧ x_ct T z.toNat < T 12 0)) ∧ ∀ y : Int, (-1 ≤ y ∧ y < T 12 0) → (x_ct T z.toNat = y ↔ wz T y = gz T z) := by
  intro n
  induction n with
  | zero => intro z hn h0; omega
  | succ n ih =>
    intro z hn h0 hz
    have w12 := hwf.2.2.2.1
    have b := wf_pa hwf z.toNat (by omega)
    rw [x_ct_eq b.2, gz_pos (wf_pa hwf) h0 hz]
    by_cases q : T 4 z.toNat < 0
    · rw [if_pos q]
      refine ⟨f_top_lt _ _ _ (Or.inl (by omega)), fun y hy => ?_⟩
      rw [top_wz h _ _ _ _ (by omega) hy, wz_neg T (z := -1) (by decide), gz_neg T q]
    · rw [if_neg q]
      obtain ⟨i1, i2⟩ := ih (T 4 z.toNat) (by omega) (by omega) (by omega)
      rcases i1 with i1 | i1
      · rw [i1, f_top_m2]
        refine ⟨Or.inl rfl, fun y hy => ⟨fun g => by omega, fun g => ?_⟩⟩
        obtain ⟨l, hl, hl2⟩ := wz_pre' h hy g
        have := (i2 l hl).mpr hl2
        omega
      · refine ⟨f_top_lt _ _ _ (Or.inl i1), fun y hy => ?_⟩
        rw [top_wz h _ _ _ _ i1 hy, (i2 _ i1).mp rfl]
theorem nc_gd {T : wa_St} (hwf : wf T) (h : lu T) {z : Int} (h0 : 0 ≤ z) (hz : z < T 8 0) : x_nc T z.toNat = true ↔ ¬ gd T z := by
  obtain ⟨-, c⟩ := ct_wz hwf h (z.toNat + 1) z (by omega) h0 hz
  unfold x_nc
  rw [decide_eq_true_iff]
  constructor
  · intro g1 g2
    rcases g1 with q | q
    · have := g2.1; omega
    · exact q ((c _ (top_rng hwf (by omega) g2.1).1).mpr g2.2).symm
  · intro g
    by_cases h7 : T 7 z.toNat < 0
    · exact Or.inl h7
    · refine Or.inr (fun q => g ⟨by omega, (c _ (top_rng hwf (by omega) (by omega)).1).mp q.symm⟩)
theorem f_cnt_perm {n : Nat} {Y : Nat → Nat} : ∀ (a : Nat) (p : Nat → Bool), (∀ b, b < a → Y b < n) → (∀ b b', b < a → b' < a → Y b = Y b' → b = b') → (∀ e, e < n → p e = true → ∃ b, b < a ∧ Y b = e) → f_cnt (fun b => p (Y b)) a = f_cnt p n := by
  intro a
  induction a with
  | zero =>
    intro p _ _ h3
    exact (f_cnt_0 n (fun e he hp => by obtain ⟨b, hb, _⟩ := h3 e he hp; omega)).symm
  | succ a ih =>
    intro p h1 h2 h3
    have i := ih (fun e => p e && decide (e ≠ Y a)) (fun b hb => h1 b (by omega)) (fun b b' hb hb' => h2 b b' (by omega) (by omega)) (fun e he hp => by
      rw [Bool.and_eq_true, decide_eq_true_iff] at hp
      obtain ⟨b, hb, hbe⟩ := h3 e he hp.1
      by_cases g : b = a
      · rw [g] at hbe; exact absurd hbe.symm hp.2
      · exact ⟨b, by omega, hbe⟩)
    have e1 : f_cnt (fun b => p (Y b) && decide (Y b ≠ Y a)) a = f_cnt (fun b => p (Y b)) a := f_cnt_congr a (fun b hb => by
      show (p (Y b) && decide (Y b ≠ Y a)) = p (Y b)
      rw [decide_eq_true (show Y b ≠ Y a from fun g => by have := h2 b a (by omega) (by omega) g; omega), Bool.and_true])
    show f_cnt (fun b => p (Y b)) a + bI (p (Y a) = true) = f_cnt p n
    by_cases g : p (Y a) = true
    · rw [f_cnt_rm g n (h1 a (by omega)), ← i, e1, bI_t g]
    · rw [bI_f g, ← e1, i, Int.add_zero]
      exact f_cnt_congr n (fun e _ => by
        by_cases g2 : e = Y a
        · rw [g2, Bool.eq_false_iff.mpr g]; rfl
        · rw [decide_eq_true g2, Bool.and_true])
theorem f_cnt_mono (p : Nat → Bool) : ∀ (n m : Nat), n ≤ m → f_cnt p n ≤ f_cnt p m := by
  intro n m h
  induction m with
  | zero => rw [show n = 0 by omega]; exact Int.le_refl _
  | succ m ih =>
    by_cases g : n = m + 1
    · rw [g]; exact Int.le_refl _
    · have := ih (by omega)
      have b := bI_01 (p m = true)
      show f_cnt p n ≤ f_cnt p m + bI (p m = true)
      omega
