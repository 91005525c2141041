/-! the class's list of machines that wait (laid by program) -/
def x_ps (S X : wa_St) (u : Nat) : Nat → Nat
  | 0 => 0
  | n + 1 => if x_ah S (S 28 u) (X 14 n) then x_ps S X u n else n + 1
theorem x_ps_le (S X : wa_St) (u : Nat) : ∀ n, x_ps S X u n ≤ n
  | 0 => Nat.le_refl 0
  | n + 1 => by
    have := x_ps_le S X u n
    simp only [x_ps]
    split <;> omega
def x_insP (S X : wa_St) (u n : Nat) (Y : wa_St) : Prop := (∀ j, j < x_ps S X u n → Y 14 j = X 14 j) ∧ Y 14 (x_ps S X u n) = (u : Int) ∧ (∀ j, x_ps S X u n ≤ j → j < n → Y 14 (j + 1) = X 14 j)
theorem x_insP.of {S X X0 : wa_St} {u n pz : Nat} (hp : pz = x_ps S X u n) (h1 : ∀ j, j < pz → X0 14 j = X 14 j) (h2 : ∀ j, pz ≤ j → j < n → X0 14 (j + 1) = X 14 j) : x_insP S X u n (wa_s X0 14 pz (u : Int)) := by
  subst hp
  refine ⟨fun j hj => ?_, wa_s_eq, fun j hj hn => ?_⟩
  · rw [wa_s_nj (by omega)]; exact h1 j hj
  · rw [wa_s_nj (by omega)]; exact h2 j hj hn
def x_W (S : wa_St) (jx cx : Nat) (Y : wa_St) : Prop := (cx : Int) = f_cnt (f_isOld S) jx ∧ (∀ a, a < cx → 0 ≤ Y 14 a ∧ Y 14 a < (jx : Int) ∧ f_isOld S (Y 14 a).toNat = true) ∧ (∀ a b, a < b → b < cx → f_ahead S (Y 14 a).toNat (Y 14 b).toNat = true) ∧ (∀ u : Nat, u < jx → f_isOld S u = true → ∃ a, a < cx ∧ Y 14 a = (u : Int))
theorem x_W.no {S : wa_St} {jx cx : Nat} {Y : wa_St} (h : x_W S jx cx Y) (hn : ¬ f_isOld S jx = true) : x_W S (jx + 1) cx Y := by
  refine ⟨?_, fun a ha => ?_, h.2.2.1, fun u hu ho => ?_⟩
  · simp only [f_cnt]; rw [bI_f hn]; have := h.1; omega
  · have := h.2.1 a ha; exact ⟨this.1, by omega, this.2.2⟩
  · by_cases q : u = jx
    · subst q; exact absurd ho hn
    · exact h.2.2.2 u (by omega) ho
theorem f_ahead_lt {S : wa_St} {m v : Nat} (hv : v < m) : f_ahead S m v = true ↔ x_ahead S (S 28 m).toNat (S 28 v).toNat := by
  unfold f_ahead
  constructor
  · intro h
    by_cases q : S 17 (S 28 m).toNat ≠ S 17 (S 28 v).toNat
    · rw [if_pos q] at h; exact Or.inl ⟨q, of_decide_eq_true h⟩
    · rw [if_neg q] at h
      by_cases q2 : S 15 (S 28 m).toNat ≠ S 15 (S 28 v).toNat
      · rw [if_pos q2] at h
        have h1 := of_decide_eq_true h
        exact Or.inr ⟨by omega, h1⟩
      · rw [if_neg q2] at h
        have := of_decide_eq_true h
        omega
  · intro h
    by_cases q : S 17 (S 28 m).toNat ≠ S 17 (S 28 v).toNat
    · rw [if_pos q]; exact decide_eq_true (by omega)
    · rw [if_neg q, if_pos (by omega)]; exact decide_eq_true (by omega)
theorem f_ahead_tr {S : wa_St} (h17 : ∀ b, 0 ≤ S 17 b ∧ S 17 b ≤ 1) {a b d : Nat} (h1 : f_ahead S a b = true) (h2 : f_ahead S b d = true) : f_ahead S a d = true := by
  have a1 := h17 (S 28 a).toNat
  have a2 := h17 (S 28 b).toNat
  have a3 := h17 (S 28 d).toNat
  unfold f_ahead at *
  generalize S 17 (S 28 a).toNat = x at *
  generalize S 17 (S 28 b).toNat = y at *
  generalize S 17 (S 28 d).toNat = z at *
  generalize S 15 (S 28 a).toNat = x' at *
  generalize S 15 (S 28 b).toNat = y' at *
  generalize S 15 (S 28 d).toNat = z' at *
  split at h1 <;> (try split at h1) <;> split at h2 <;> (try split at h2) <;> (split <;> (try split)) <;> simp only [decide_eq_true_eq] at * <;> omega
theorem f_ahead_not {S : wa_St} (h17 : ∀ b, 0 ≤ S 17 b ∧ S 17 b ≤ 1) {m v : Nat} (hv : v < m) (h : ¬ f_ahead S m v = true) : f_ahead S v m = true := by
  have a1 := h17 (S 28 m).toNat
  have a2 := h17 (S 28 v).toNat
  unfold f_ahead at *
  generalize S 17 (S 28 m).toNat = x at *
  generalize S 17 (S 28 v).toNat = y at *
  generalize S 15 (S 28 m).toNat = x' at *
  generalize S 15 (S 28 v).toNat = y' at *
  split at h <;> (try split at h) <;> (split <;> (try split)) <;> simp only [decide_eq_true_eq] at * <;> omega
theorem x_ah_iff {S : wa_St} {u : Nat} {v : Nat} (hu : f_isOld S u = true) (hv : f_isOld S v = true) (hwf : wf S) (hu2 : (u : Int) < S 29 0) (hv2 : (v : Int) < S 29 0) (hlt : v < u) : x_ah S (S 28 u) (v : Int) ↔ f_ahead S u v = true := by
  rw [f_ahead_lt hlt]
  have w28 := hwf.2.2.2.2.2.2.2.2.2.2.2.2.1
  have q1 := w28 u hu2
  have q2 := w28 v hv2
  have r1 := ho28 S hu
  have r2 := ho28 S hv
  show (0 ≤ S 28 u ∧ 0 ≤ (v : Int) ∧ 0 ≤ S 28 (Int.toNat (v : Int)) ∧ x_ahead S (S 28 u).toNat (S 28 (Int.toNat (v : Int))).toNat) ↔ _
  rw [Int.toNat_natCast]
  exact ⟨fun h => h.2.2.2, fun h => ⟨by omega, by omega, by omega, h⟩⟩
theorem x_ps_spec {S X : wa_St} {u : Nat} : ∀ n, (∀ j, x_ps S X u n ≤ j → j < n → x_ah S (S 28 u) (X 14 j)) ∧ (∀ j, j + 1 = x_ps S X u n → ¬ x_ah S (S 28 u) (X 14 j))
  | 0 => ⟨fun j _ h => absurd h (Nat.not_lt_zero j), fun j h => by simp [x_ps] at h⟩
  | n + 1 => by
    have ih := x_ps_spec (S := S) (X := X) (u := u) n
    have hle := x_ps_le S X u n
    simp only [x_ps]
    by_cases q : x_ah S (S 28 u) (X 14 n)
    · rw [if_pos q]
      refine ⟨fun j h1 h2 => ?_, ih.2⟩
      by_cases e : j = n
      · subst e; exact q
      · exact ih.1 j h1 (by omega)
    · rw [if_neg q]
      refine ⟨fun j h1 h2 => by omega, fun j h => ?_⟩
      have : j = n := by omega
      subst this; exact q
theorem x_W.ins {S : wa_St} {jx cx : Nat} {X Y : wa_St} (hwf : wf S) (hjx : (jx : Int) < S 29 0) (h : x_W S jx cx X) (ho : f_isOld S jx = true) (hi : x_insP S X jx cx Y) : x_W S (jx + 1) (cx + 1) Y := by
  obtain ⟨h1, h2, h3, h4⟩ := h
  obtain ⟨i1, i2, i3⟩ := hi
  have hps := x_ps_spec (S := S) (X := X) (u := jx) cx
  have hle := x_ps_le S X jx cx
  have h17 : ∀ b, 0 ≤ S 17 b ∧ S 17 b ≤ 1 := fun b => (hwf.2.2.2.2.2.2.2.2.2.2.2.2.2.2.2 b).1
  generalize x_ps S X jx cx = pz at *
  have old : ∀ a, a < cx → ∃ v : Nat, X 14 a = (v : Int) ∧ v < jx ∧ f_isOld S v = true := by
    intro a ha
    have := h2 a ha
    exact ⟨(X 14 a).toNat, by omega, by omega, this.2.2⟩
  have isah : ∀ a, a < cx → (x_ah S (S 28 jx) (X 14 a) ↔ f_ahead S jx (X 14 a).toNat = true) := by
    intro a ha
    obtain ⟨v, e, hv, hov⟩ := old a ha
    rw [e, Int.toNat_natCast]
    exact x_ah_iff ho hov hwf hjx (by omega) hv
  -- those from pz on are behind, those before are ahead
  have beh : ∀ a, pz ≤ a → a < cx → f_ahead S jx (X 14 a).toNat = true := fun a h5 h6 => (isah a h6).mp (hps.1 a h5 h6)
  have ahd : ∀ a, a < pz → f_ahead S (X 14 a).toNat jx = true := by
    intro a ha
    obtain ⟨v, e, hv, hov⟩ := old (pz - 1) (by omega)
    have hl : f_ahead S (X 14 (pz - 1)).toNat jx = true := by
      have hn := hps.2 (pz - 1) (by omega)
      rw [isah (pz - 1) (by omega)] at hn
      rw [e, Int.toNat_natCast] at hn ⊢
      exact f_ahead_not h17 hv hn
    by_cases q : a = pz - 1
    · rw [q]; exact hl
    · exact f_ahead_tr h17 (h3 a (pz - 1) (by omega) (by omega)) hl
  have val : ∀ a, a < cx + 1 → (a < pz ∧ Y 14 a = X 14 a) ∨ (a = pz ∧ Y 14 a = (jx : Int)) ∨ (pz < a ∧ Y 14 a = X 14 (a - 1)) := by
    intro a ha
    by_cases q : a < pz
    · exact Or.inl ⟨q, i1 a q⟩
    · by_cases q2 : a = pz
      · subst q2; exact Or.inr (Or.inl ⟨rfl, i2⟩)
      · have := i3 (a - 1) (by omega) (by omega)
        rw [show a - 1 + 1 = a by omega] at this
        exact Or.inr (Or.inr ⟨by omega, this⟩)
  refine ⟨?_, fun a ha => ?_, fun a b hab hb => ?_, fun u hu hou => ?_⟩
  · simp only [f_cnt]; rw [bI_t ho]; omega
  · rcases val a ha with ⟨q, e⟩ | ⟨q, e⟩ | ⟨q, e⟩
    · rw [e]; have := h2 a (by omega); exact ⟨this.1, by omega, this.2.2⟩
    · rw [e, Int.toNat_natCast]; exact ⟨by omega, by omega, ho⟩
    · rw [e]; have := h2 (a - 1) (by omega); exact ⟨this.1, by omega, this.2.2⟩
  · rcases val a (by omega) with ⟨q, e⟩ | ⟨q, e⟩ | ⟨q, e⟩ <;> rcases val b hb with ⟨q', e'⟩ | ⟨q', e'⟩ | ⟨q', e'⟩
    · rw [e, e']; exact h3 a b hab (by omega)
    · rw [e, e', Int.toNat_natCast]; exact ahd a q
    · rw [e, e']; exact f_ahead_tr h17 (ahd a q) (beh (b - 1) (by omega) (by omega))
    · omega
    · omega
    · rw [e, e', Int.toNat_natCast]; exact beh (b - 1) (by omega) (by omega)
    · omega
    · omega
    · rw [e, e']; exact h3 (a - 1) (b - 1) (by omega) (by omega)
  · by_cases q : u = jx
    · subst q; exact ⟨pz, by omega, i2⟩
    · obtain ⟨a, ha, e⟩ := h4 u (by omega) hou
      by_cases q2 : a < pz
      · exact ⟨a, by omega, by rw [i1 a q2]; exact e⟩
      · exact ⟨a + 1, by omega, by rw [i3 a (by omega) ha]; exact e⟩
