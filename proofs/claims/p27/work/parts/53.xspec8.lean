/-! the machines that wait, by their ranks (laid by program) -/
theorem f_fnd_none {p : Nat → Bool} : ∀ (n i : Nat), (∀ v, i ≤ v → v < i + n → ¬ p v = true) → f_fnd p n i = -2
  | 0, _, _ => rfl
  | n + 1, i, h => by
    simp only [f_fnd]
    rw [if_neg (h i (by omega) (by omega))]
    exact f_fnd_none n (i + 1) (fun v h1 h2 => h v (by omega) (by omega))
theorem f_fnd_one {p : Nat → Bool} {u : Nat} (hu : p u = true) : ∀ (n i : Nat), i ≤ u → u < i + n → (∀ v, i ≤ v → v < i + n → p v = true → v = u) → f_fnd p n i = (u : Int)
  | 0, i, h1, h2, _ => by omega
  | n + 1, i, h1, h2, h => by
    simp only [f_fnd]
    by_cases q : p i = true
    · rw [if_pos q, h i (by omega) (by omega) q]
    · rw [if_neg q]
      have hne : i ≠ u := fun e => q (e ▸ hu)
      exact f_fnd_one hu n (i + 1) (by omega) (by omega) (fun v a b g => h v (by omega) (by omega) g)
theorem f_cnt_congr {p q : Nat → Bool} : ∀ n, (∀ e, e < n → p e = q e) → f_cnt p n = f_cnt q n
  | 0, _ => rfl
  | n + 1, h => by
    simp only [f_cnt]
    rw [f_cnt_congr n (fun e he => h e (by omega)), h n (by omega)]
theorem f_cnt_rm {p : Nat → Bool} {u : Nat} (hu : p u = true) : ∀ n, u < n → f_cnt p n = f_cnt (fun e => p e && decide (e ≠ u)) n + 1
  | 0, h => absurd h (Nat.not_lt_zero u)
  | n + 1, h => by
    simp only [f_cnt]
    by_cases q : u = n
    · subst q
      have e1 : f_cnt p u = f_cnt (fun e => p e && decide (e ≠ u)) u := f_cnt_congr u (fun e he => by
        have : decide (e ≠ u) = true := decide_eq_true (by omega)
        rw [this, Bool.and_true])
      rw [e1, bI_t hu, bI_f (by simp)]
      omega
    · rw [f_cnt_rm hu n (by omega)]
      have : (p n && decide (n ≠ u)) = p n := by
        have : decide (n ≠ u) = true := decide_eq_true (by omega)
        rw [this, Bool.and_true]
      simp only [this]
      omega
theorem f_cnt_0 {p : Nat → Bool} : ∀ n, (∀ e, e < n → ¬ p e = true) → f_cnt p n = 0
  | 0, _ => rfl
  | n + 1, h => by
    simp only [f_cnt]
    rw [f_cnt_0 n (fun e he => h e (by omega)), bI_f (h n (by omega))]
    rfl
theorem f_cnt_list {Y : Nat → Nat} {n : Nat} : ∀ (a : Nat) (p : Nat → Bool), (∀ b, b < a → Y b < n ∧ p (Y b) = true) → (∀ b b', b < a → b' < a → Y b = Y b' → b = b') → (∀ e, e < n → p e = true → ∃ b, b < a ∧ Y b = e) → f_cnt p n = (a : Int)
  | 0, p, _, _, h3 => f_cnt_0 n (fun e he hp => by obtain ⟨b, hb, -⟩ := h3 e he hp; omega)
  | a + 1, p, h1, h2, h3 => by
    obtain ⟨g1, g2⟩ := h1 a (by omega)
    rw [f_cnt_rm g2 n g1, f_cnt_list a (fun e => p e && decide (e ≠ Y a)) (fun b hb => ?_) (fun b b' hb hb' => h2 b b' (by omega) (by omega)) (fun e he hp => ?_)]
    · rfl
    · obtain ⟨k1, k2⟩ := h1 b (by omega)
      refine ⟨k1, ?_⟩
      rw [k2, Bool.true_and]
      exact decide_eq_true (fun e => by have := h2 b a (by omega) (by omega) e; omega)
    · rw [Bool.and_eq_true] at hp
      obtain ⟨b, hb, e1⟩ := h3 e he hp.1
      refine ⟨b, ?_, e1⟩
      have := of_decide_eq_true hp.2
      by_cases q : b = a
      · subst q; exact absurd e1.symm this
      · omega
theorem f_ahead_irr {S : wa_St} (m : Nat) : ¬ f_ahead S m m = true := by
  unfold f_ahead
  simp
theorem x_W.rank {S : wa_St} (hwf : wf S) {cx : Nat} {Y : wa_St} (h : x_W S (S 29 0).toNat cx Y) {a : Nat} (ha : a < cx) : f_rank S (Y 14 a).toNat = (a : Int) := by
  obtain ⟨h1, h2, h3, h4⟩ := h
  have h17 : ∀ b, 0 ≤ S 17 b ∧ S 17 b ≤ 1 := fun b => (hwf.2.2.2.2.2.2.2.2.2.2.2.2.2.2.2 b).1
  have inj : ∀ b b', b < cx → b' < cx → (Y 14 b).toNat = (Y 14 b').toNat → b = b' := by
    intro b b' hb hb' e
    rcases Nat.lt_trichotomy b b' with q | q | q
    · have := h3 b b' q hb'; rw [e] at this; exact absurd this (f_ahead_irr _)
    · exact q
    · have := h3 b' b q hb; rw [e] at this; exact absurd this (f_ahead_irr _)
  unfold f_rank
  refine f_cnt_list (Y := fun b => (Y 14 b).toNat) a _ (fun b hb => ?_) (fun b b' hb hb' e => inj b b' (by omega) (by omega) e) (fun e he hp => ?_)
  · have q := h2 b (by omega)
    refine ⟨by omega, ?_⟩
    rw [q.2.2, h3 b a hb ha]
    simp only [Bool.and_true]
    exact decide_eq_true (fun e => by have := inj b a (by omega) ha e; omega)
  · simp only [Bool.and_eq_true] at hp
    obtain ⟨⟨p1, p2⟩, p3⟩ := hp
    obtain ⟨b, hb, e1⟩ := h4 e he p2
    refine ⟨b, ?_, by show (Y 14 b).toNat = e; omega⟩
    have e2 : (Y 14 b).toNat = e := by omega
    rcases Nat.lt_trichotomy b a with q | q | q
    · exact q
    · subst q; exact absurd e2.symm (of_decide_eq_true p1)
    · have g := h3 a b q hb
      rw [e2] at g
      exact absurd (f_ahead_tr h17 g p3) (f_ahead_irr _)
theorem x_W.oldAt {S : wa_St} (hwf : wf S) {cx : Nat} {Y : wa_St} (h : x_W S (S 29 0).toNat cx Y) {q : Nat} (hq : q < cx) : f_oldAt S (q : Int) = Y 14 q := by
  have h2 := h.2.1 q hq
  have hr := h.rank hwf hq
  unfold f_oldAt
  rw [f_fnd_one (u := (Y 14 q).toNat) (by rw [h2.2.2, hr]; simp) _ 0 (by omega) (by omega) (fun v _ hv hp => ?_)]
  · omega
  · simp only [Bool.and_eq_true, decide_eq_true_eq] at hp
    obtain ⟨b, hb, e1⟩ := h.2.2.2 v (by omega) hp.1
    have hrb := h.rank hwf hb
    rw [show (Y 14 b).toNat = v by omega, hp.2] at hrb
    have : b = q := by omega
    subst this
    omega
theorem x_W.oldAtN {S : wa_St} (hwf : wf S) {cx : Nat} {Y : wa_St} (h : x_W S (S 29 0).toNat cx Y) {q : Int} (hq : ¬ (0 ≤ q ∧ q < (cx : Int))) : f_oldAt S q = -2 := by
  unfold f_oldAt
  refine f_fnd_none _ 0 (fun v _ hv hp => hq ?_)
  simp only [Bool.and_eq_true, decide_eq_true_eq] at hp
  obtain ⟨b, hb, e1⟩ := h.2.2.2 v (by omega) hp.1
  have hrb := h.rank hwf hb
  rw [show (Y 14 b).toNat = v by omega, hp.2] at hrb
  omega
theorem wf_20 {S : wa_St} (h : wf S) (j : Nat) {v : Int} (hv : -2 ≤ v ∧ v ≤ 100000) : wf (wa_s S 20 j v) := by
  obtain ⟨hB, h⟩ := h
  refine ⟨fun a b => ?_, h⟩
  by_cases q : a = 20 ∧ b = j
  · rw [show wa_s S 20 j v a b = v from if_pos q]; exact hv
  · rw [wa_s_ne q]; exact hB a b
-- the image z and its forefathers, n at most: none needs a bake
def x_frs (S : wa_St) : Nat → Int → Bool
  | 0, _ => true
  | n + 1, z => decide (z < 0) || (decide (¬ x_needs S z.toNat) && x_frs S n (S 4 z.toNat))
def x_mds (S : wa_St) : Nat → Int → Bool
  | 0, _ => true
  | n + 1, z => decide (z < 0) || (decide (x_made S z.toNat) && x_mds S n (S 4 z.toNat))
