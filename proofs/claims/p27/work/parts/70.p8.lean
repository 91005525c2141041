/-! pure: what each call leaves -/
/-- what a new bake leaves and brings, whatever its parent -/
def mk0 (T T' : wa_St) (z : Int) : Prop := lu T' ∧ ex T T' ∧ T' 12 0 ≤ T 12 0 + 5 ∧ T' 21 0 = T 21 0 + 1 ∧ (∀ b, T' 7 b = if b = z.toNat then T 21 0 else T 7 b) ∧ (∀ a b, a ≠ 9 → a ≠ 10 → a ≠ 11 → a ≠ 12 → a ≠ 13 → a ≠ 14 → a ≠ 15 → a ≠ 16 → a ≠ 17 → a ≠ 18 → a ≠ 19 → a ≠ 20 → a ≠ 7 → a ≠ 21 → T' a b = T a b) ∧ (∀ a (b : Nat), 13 ≤ a → a ≤ 19 → (b : Int) < T 21 0 → T' a b = T a b) ∧ (∀ b : Nat, (b : Int) < 3 * T 21 0 → T' 20 b = T 20 b) ∧ (0 ≤ T' 7 z.toNat ∧ wz T' (T' 14 (T' 7 z.toNat).toNat) = wz T (f_base T z.toNat) ++ stl T (T 6 z.toNat).toNat (5 * z.toNat)) ∧ (∀ b, 0 ≤ T 16 b ∧ T 16 b ≤ 2 → 0 ≤ T' 16 b ∧ T' 16 b ≤ 2)
theorem mk0.of {T : wa_St} (hwf : wf T) (h : lu T) {z : Int} (h0 : 0 ≤ z) (hz : z < T 8 0) (hb : f_hasBase T z.toNat) (h295 : T 12 0 ≤ 295) : mk0 T (f_makes T z.toNat) z := by
  have w12 := hwf.2.2.2.1
  have w21 := hwf.2.2.1
  have br := f_base_lt hwf (i := z.toNat) (by omega) hb
  obtain ⟨k1, k2, k3, k4⟩ := f_makes_keep hwf (i := z.toNat) (by omega) hb h295
  obtain ⟨i1, i2, i3, i4⟩ := mk_wz (T := T) (T 6 z.toNat).toNat (5 * z.toNat) T (f_base T z.toNat) ⟨fun _ _ _ _ _ _ => rfl, h, w12.1, ex.rf T⟩ br
  have eM : f_makes T z.toNat = f_newB (f_mk (T 6 z.toNat).toNat (5 * z.toNat) T (f_base T z.toNat)).1 z.toNat (f_mk (T 6 z.toNat).toNat (5 * z.toNat) T (f_base T z.toNat)).2 := rfl
  have e21 : (f_mk (T 6 z.toNat).toNat (5 * z.toNat) T (f_base T z.toNat)).1 21 0 = T 21 0 := i1.1 21 0 (by decide) (by decide) (by decide) (by decide)
  have e16 : ∀ b, (f_mk (T 6 z.toNat).toNat (5 * z.toNat) T (f_base T z.toNat)).1 16 b = T 16 b := fun b => i1.1 16 b (by decide) (by decide) (by decide) (by decide)
  have e13 : ∀ a b, 13 ≤ a → a ≤ 20 → (f_mk (T 6 z.toNat).toNat (5 * z.toNat) T (f_base T z.toNat)).1 a b = T a b := fun a b h1 h2 => i1.1 a b (by omega) (by omega) (by omega) (by omega)
  generalize hM : f_makes T z.toNat = T' at *
  generalize hS1 : (f_mk (T 6 z.toNat).toNat (5 * z.toNat) T (f_base T z.toNat)).1 = S1 at *
  generalize ht : (f_mk (T 6 z.toNat).toNat (5 * z.toNat) T (f_base T z.toNat)).2 = t at *
  have o9 : ∀ a b, a = 9 ∨ a = 10 ∨ a = 11 ∨ a = 12 → T' a b = S1 a b := by
    intro a b ha
    rw [eM]
    exact f_newB_o (by omega)
  have hex : ex S1 T' := ⟨by rw [o9 12 0 (by omega)]; omega, fun j _ => ⟨o9 9 j (by omega), o9 10 j (by omega), o9 11 j (by omega)⟩⟩
  have hlu : lu T' := by
    unfold lu
    simp only [o9 9 _ (Or.inl rfl), o9 10 _ (Or.inr (Or.inl rfl)), o9 11 _ (Or.inr (Or.inr (Or.inl rfl))), o9 12 _ (Or.inr (Or.inr (Or.inr rfl)))]
    exact i1.2.1
  have e14 : T' 14 (T 21 0).toNat = t := by rw [eM]; simp [f_newB, wa_s, e21]
  refine ⟨hlu, i1.2.2.2.trans hex, k4, k3, k2, fun a b h9 h10 h11 h12 h13 h14 h15 h16 h17 h18 h19 h20 h7 h21 => k1 a b h9 h10 h11 h12 h13 h14 h15 h16 h17 h18 h19 h20 h7 h21, fun a b ha ha2 hb2 => ?_, fun b hb2 => ?_, ⟨?_, ?_⟩, fun b hb2 => ?_⟩
  · have q := e13 a b ha (by omega)
    rw [eM, ← q]
    have hbn : b ≠ (S1 21 0).toNat := by rw [e21]; omega
    unfold f_newB wa_s
    simp only [hbn, and_false, if_false]
    rw [if_neg (by omega), if_neg (by omega), if_neg (by omega), if_neg (by omega), if_neg (by omega)]
  · have q := e13 20 b (by omega) (by omega)
    rw [eM, ← q]
    unfold f_newB wa_s
    rw [e21]
    rw [if_neg (by omega), if_neg (by omega), if_neg (by omega), if_neg (by omega), if_neg (by omega), if_neg (by omega), if_neg (by omega), if_neg (by omega), if_neg (by omega), if_neg (by omega), if_neg (by omega), if_neg (by omega)]
  · rw [k2, if_pos rfl]; exact w21.1
  · rw [k2, if_pos rfl, e14, wz_ex i1.2.1 hex i3.2, i4]
  · have q16 : f_newB S1 z.toNat t 16 b = if b = (S1 21 0).toNat then 0 else S1 16 b := by simp [f_newB, wa_s]
    rw [eM, q16, e16]
    split
    · omega
    · exact hb2
theorem mk0.top {T T' : wa_St} {z : Int} (hwf : wf T) (h : lu T) (m : mk0 T T' z) {y : Nat} (hy : (y : Int) < T 8 0) (hne : y ≠ z.toNat) (h7 : 0 ≤ T 7 y) : T' 7 y = T 7 y ∧ T' 14 (T 7 y).toNat = T 14 (T 7 y).toNat ∧ wz T' (T 14 (T 7 y).toNat) = wz T (T 14 (T 7 y).toNat) := by
  have r := top_rng hwf hy h7
  refine ⟨?_, m.2.2.2.2.2.2.1 14 _ (by omega) (by omega) (by omega), wz_ex h m.2.1 r.1.2⟩
  rw [m.2.2.2.2.1, if_neg hne]
theorem gi.makes {n : Nat} {T : wa_St} (h : gi n T) {z : Int} (h0 : 0 ≤ z) (hz : z < T 8 0) (hb : f_hasBase T z.toNat) (h60 : T 21 0 < 60) : gi n (f_makes T z.toNat) := by
  obtain ⟨g0, g1, g2, g3, g4, g5, g6, g7, g8, g9, g10⟩ := h
  have m := mk0.of g0 g1 h0 hz hb (by omega)
  obtain ⟨m1, m2, m3, m4, m5, m6, m7, m8, m9, m10⟩ := id m
  have o : ∀ a b, a = 1 ∨ a = 3 ∨ a = 5 ∨ a = 6 ∨ a = 8 ∨ a = 22 ∨ a = 27 → f_makes T z.toNat a b = T a b := fun a b ha => m6 a b (by omega) (by omega) (by omega) (by omega) (by omega) (by omega) (by omega) (by omega) (by omega) (by omega) (by omega) (by omega) (by omega) (by omega)
  refine ⟨wf_makes g0 (by omega) hb h60 (by omega), m1, by omega, fun i hi h7 => ?_, fun j hj => ?_, fun j hj => ?_, fun b => m10 b (g6 b), fun u => ?_, fun j => ?_, ?_, fun j => ?_⟩
  · rw [o 8 0 (by omega)] at hi
    by_cases q : i = z.toNat
    · rw [q, m9.2, List.length_append, stl_len]
      have w6 := g0.2.2.2.2.2.2.2.1 z.toNat
      have b := wf_pa g0 z.toNat (by omega)
      by_cases q4 : T 4 z.toNat = -1
      · have e : f_base T z.toNat = -1 := if_pos q4
        rw [e, wz_neg T (by decide)]
        show 0 + (T 6 z.toNat).toNat ≤ _
        omega
      · have e : f_base T z.toNat = T 14 (T 7 (T 4 z.toNat).toNat).toNat := if_neg q4
        have w7 := g0.2.2.2.2.2.2.1 (T 4 z.toNat).toNat (by omega)
        have k := g3 (T 4 z.toNat).toNat (by omega) (by have := hb.resolve_left q4; omega)
        rw [e]
        omega
    · rw [m5, if_neg q] at h7
      obtain ⟨t1, t2, t3⟩ := m.top g0 g1 hi q h7
      rw [t1, t2, t3]
      exact g3 i hi h7
  · rw [o 8 0 (by omega)] at hj; rw [o 6 j (by omega)]; exact g4 j hj
  · rw [o 8 0 (by omega)] at hj; rw [o 5 j (by omega)]; exact g5 j hj
  · rw [o 27 u (by omega)]; exact g7 u
  · rw [o 22 j (by omega)]; exact g8 j
  · rw [o 1 0 (by omega)]; exact g9
  · rw [o 3 j (by omega)]; exact g10 j
theorem gi.geqx {n : Nat} {S R : wa_St} (h : gi n S) (he : eqx S R) (hwf : wf R) : gi n R := by
  obtain ⟨g0, g1, g2, g3, g4, g5, g6, g7, g8, g9, g10⟩ := h
  have o : ∀ a b, a ≠ 0 → a ≠ 30 → a ≠ 31 → R a b = S a b := fun a b h0 h1 h2 => (he a b h0 h1 h2).symm
  have e8 : R 8 0 = S 8 0 := o 8 0 (by decide) (by decide) (by decide)
  refine ⟨hwf, he.elu g1, by rw [o 12 0 (by decide) (by decide) (by decide), o 21 0 (by decide) (by decide) (by decide)]; exact g2, fun i hi h7 => ?_, fun j hj => ?_, fun j hj => ?_, fun b => ?_, fun u => ?_, fun j => ?_, ?_, fun j => ?_⟩
  · rw [o 7 i (by decide) (by decide) (by decide)] at h7 ⊢
    rw [o 14 _ (by decide) (by decide) (by decide), ← he.ewz]
    exact g3 i (by omega) h7
  · rw [o 6 j (by decide) (by decide) (by decide)]; exact g4 j (by omega)
  · rw [o 5 j (by decide) (by decide) (by decide)]; exact g5 j (by omega)
  · rw [o 16 b (by decide) (by decide) (by decide)]; exact g6 b
  · rw [o 27 u (by decide) (by decide) (by decide)]; exact g7 u
  · rw [o 22 j (by decide) (by decide) (by decide)]; exact g8 j
  · rw [o 1 0 (by decide) (by decide) (by decide)]; exact g9
  · rw [o 3 j (by decide) (by decide) (by decide)]; exact g10 j
theorem pk_add {n : Nat} {T : wa_St} (h : gi n T) (q : Int) : pk n (o_x (k_add T q) T (a_add T q)) (o_s T (k_add T q) (a_add T q)) (k_add T q) := by
  have w8 := h.1.2.1
  have w21 := h.1.2.2.1
  have hk : 0 ≤ k_add T q ∧ k_add T q ≤ 3 := by unfold k_add; (repeat' split); all_goals omega
  refine pk.s h hk (fun k0 => ⟨rfl, ?_⟩)
  have c : (-1 ≤ q ∧ q ≤ T 8 0 - 1) ∧ T 8 0 ≠ 10 := by
    unfold k_add at k0
    by_cases a : ¬ (-1 ≤ q ∧ q ≤ T 8 0 - 1)
    · rw [if_pos a] at k0; omega
    · rw [if_neg a] at k0
      by_cases b : T 8 0 = 10
      · rw [if_pos b] at k0; omega
      · exact ⟨by omega, b⟩
  have wf1 : wf (wa_s (wa_s (wa_s T 0 0 0) 4 (T 8 0).toNat q) 7 (T 8 0).toNat (-1)) := ws_7 (ws_4 (ws_0 h.1 0 (by decide)) (T 8 0).toNat (by omega) (show T 8 0 ≤ ((T 8 0).toNat : Int) by omega)) (T 8 0).toNat (by decide) (show T 8 0 ≤ ((T 8 0).toNat : Int) by omega)
  have e7 : wa_s (wa_s (wa_s T 0 0 0) 4 (T 8 0).toNat q) 7 (T 8 0).toNat (-1) 7 (T 8 0).toNat = -1 := wa_s_eq
  have e4 : wa_s (wa_s (wa_s T 0 0 0) 4 (T 8 0).toNat q) 7 (T 8 0).toNat (-1) 4 (T 8 0).toNat = q := (wa_s_nk (by decide)).trans wa_s_eq
  have wf2 : wf (a_add T q) := ws_8n wf1 (show T 8 0 < 10 by omega) ⟨by show -1 ≤ wa_s (wa_s (wa_s T 0 0 0) 4 (T 8 0).toNat q) 7 (T 8 0).toNat (-1) 4 (T 8 0).toNat; rw [e4]; exact c.1.1, by show wa_s (wa_s (wa_s T 0 0 0) 4 (T 8 0).toNat q) 7 (T 8 0).toNat (-1) 4 (T 8 0).toNat < T 8 0; rw [e4]; omega⟩ ⟨by show -1 ≤ wa_s (wa_s (wa_s T 0 0 0) 4 (T 8 0).toNat q) 7 (T 8 0).toNat (-1) 7 (T 8 0).toNat; rw [e7]; decide, by show wa_s (wa_s (wa_s T 0 0 0) 4 (T 8 0).toNat q) 7 (T 8 0).toNat (-1) 7 (T 8 0).toNat < T 21 0; rw [e7]; omega⟩
  have e8 : a_add T q 8 0 = T 8 0 + 1 := wa_s_eq
  refine h.mk wf2 (fun a b ha => by rcases ha with rfl | rfl | rfl | rfl | rfl | rfl <;> rfl) (fun i hi h0 => ?_) (fun j hj => ?_) (fun j hj => ?_) h.2.2.2.2.2.2.1 h.2.2.2.2.2.2.2.1 h.2.2.2.2.2.2.2.2.1 ⟨h.2.2.2.2.2.2.2.2.2.1.1, show T 1 0 ≤ T 1 0 + 30 by omega⟩ (fun j => by have := h.2.2.2.2.2.2.2.2.2.2 j; show T 3 j ≤ _; omega)
  · rw [e8] at hi
    by_cases g : i = (T 8 0).toNat
    · exfalso
      have e : a_add T q 7 i = -1 := (wa_s_nk (by decide)).trans (wa_s_eq' g)
      omega
    · exact ⟨by omega, (wa_s_nk (by decide)).trans (wa_s_nj g)⟩
  · rw [e8] at hj
    exact h.2.2.2.2.1 j (by omega)
  · rw [e8] at hj
    exact h.2.2.2.2.2.1 j (by omega)
theorem pk_step {n : Nat} {T : wa_St} (h : gi n T) (i q : Int) : pk n (o_x (k_step T i q) T (a_step T i q)) (o_s T (k_step T i q) (a_step T i q)) (k_step T i q) := by
  have w8 := h.1.2.1
  have hk : 0 ≤ k_step T i q ∧ k_step T i q ≤ 3 := by unfold k_step; (repeat' split); all_goals omega
  refine pk.s h hk (fun k0 => ⟨rfl, ?_⟩)
  have w6 := h.1.2.2.2.2.2.2.2.1 i.toNat
  have c : f_isImage T i ∧ (0 ≤ q ∧ q ≤ 9) ∧ T 6 i.toNat ≠ 5 := by
    unfold k_step at k0
    by_cases a : ¬ f_isImage T i
    · rw [if_pos a] at k0; omega
    · rw [if_neg a] at k0
      by_cases b : ¬ (0 ≤ q ∧ q ≤ 9)
      · rw [if_pos b] at k0; omega
      · rw [if_neg b] at k0
        by_cases d : T 6 i.toNat = 5
        · rw [if_pos d] at k0; omega
        · exact ⟨Decidable.not_not.mp a, by omega, d⟩
  have wf2 : wf (a_step T i q) := ws_6 (ws_5 (ws_0 h.1 0 (by decide)) _ (by omega) c.2.1) _ (by omega) (by omega)
  refine h.mk wf2 (fun a b ha => by rcases ha with rfl | rfl | rfl | rfl | rfl | rfl <;> rfl) (fun i hi h0 => ⟨hi, rfl⟩) (fun j hj => ?_) (fun j hj => ?_) h.2.2.2.2.2.2.1 h.2.2.2.2.2.2.2.1 h.2.2.2.2.2.2.2.2.1 ⟨h.2.2.2.2.2.2.2.2.2.1.1, show T 1 0 ≤ T 1 0 + 30 by omega⟩ (fun j => by have := h.2.2.2.2.2.2.2.2.2.2 j; show T 3 j ≤ _; omega)
  · have hj : T 8 0 ≤ (j : Int) := hj
    have e : a_step T i q 6 j = T 6 j := wa_s_nj (by omega)
    rw [e]
    exact h.2.2.2.2.1 j hj
  · have hj : 5 * T 8 0 ≤ (j : Int) := hj
    have e : a_step T i q 5 j = T 5 j := (wa_s_nk (by decide)).trans (wa_s_nj (by omega))
    rw [e]
    exact h.2.2.2.2.2.1 j hj
theorem pk_change {n : Nat} {T : wa_St} (h : gi n T) (hn : n ≤ 600) (i q : Int) : pk n (o_x (k_change T i q) T (a_change T i q)) (o_s T (k_change T i q) (a_change T i q)) (k_change T i q) := by
  have hk : 0 ≤ k_change T i q ∧ k_change T i q ≤ 3 := by unfold k_change; split <;> omega
  have g3 := h.2.2.2.2.2.2.2.2.2.2 i.toNat
  have w3 := h.1.2.2.2.2.2.2.2.2.2.2.2.2.2.2.1 i.toNat
  refine pk.s h hk (fun k0 => ?_)
  have c : (0 ≤ i ∧ i ≤ 9) ∧ (q = -1 ∨ (0 ≤ q ∧ q ≤ T 3 i.toNat - 1)) := by
    unfold k_change at k0
    by_cases a : (0 ≤ i ∧ i ≤ 9) ∧ (q = -1 ∨ (0 ≤ q ∧ q ≤ T 3 i.toNat - 1))
    · exact a
    · rw [if_neg a] at k0; omega
  have fin : ∀ (v w : Int), (0 ≤ v ∧ v ≤ (n : Int) + 1) → (0 ≤ w ∧ w ≤ 100000) → (wa_s (wa_s (wa_s T 0 0 0) 3 i.toNat v) 2 i.toNat w) 0 0 = 0 ∧ gi (n + 1) (wa_s (wa_s (wa_s T 0 0 0) 3 i.toNat v) 2 i.toNat w) := by
    intro v w hv hw
    refine ⟨rfl, h.mk2 (ws_2 (ws_3 (ws_0 h.1 0 (by decide)) _ (by omega) hv.1) _ (by omega)) (fun a b ha => by rcases ha with rfl | rfl | rfl | rfl | rfl | rfl | rfl | rfl | rfl | rfl <;> rfl) h.2.2.2.2.2.2.1 h.2.2.2.2.2.2.2.1 h.2.2.2.2.2.2.2.2.1 ⟨h.2.2.2.2.2.2.2.2.2.1.1, show T 1 0 ≤ T 1 0 + 30 by omega⟩ (fun j => ?_)⟩
    have g3 := h.2.2.2.2.2.2.2.2.2.2 j
    have e : wa_s (wa_s (wa_s T 0 0 0) 3 i.toNat v) 2 i.toNat w 3 j = if j = i.toNat then v else T 3 j := by simp [wa_s]
    rw [e]
    split <;> omega
  unfold a_change
  by_cases g : q = -1
  · rw [if_pos g]; exact fin _ _ (by omega) (by omega)
  · rw [if_neg g]; exact fin _ _ (by omega) (by omega)
theorem v_change {T : wa_St} (i q : Int) : a_change T i q 2 i.toNat = if q = -1 then T 3 i.toNat + 1 else q := by
  unfold a_change
  by_cases g : q = -1
  · rw [if_pos g, if_pos g]; exact wa_s_eq
  · rw [if_neg g, if_neg g]; exact wa_s_eq
theorem k_img_r (T : wa_St) (i : Int) : 0 ≤ k_img T i ∧ k_img T i ≤ 3 := by unfold k_img; split <;> omega
theorem k_bk_r (T : wa_St) (i : Int) : 0 ≤ k_bk T i ∧ k_bk T i ≤ 3 := by unfold k_bk; split <;> omega
theorem k_from_r (T : wa_St) (i : Int) : 0 ≤ k_from T i ∧ k_from T i ≤ 3 := by unfold k_from; split <;> omega
theorem k_oldAt_r (T : wa_St) (i : Int) : 0 ≤ k_oldAt T i ∧ k_oldAt T i ≤ 3 := by unfold k_oldAt; split <;> omega
/-- a change that touches none of the things that gi names but by their bounds -/
theorem gi.mk3 {n : Nat} {T T' : wa_St} (h : gi n T) (hwf : wf T') (e : ∀ a b, a = 1 ∨ a = 3 ∨ a = 5 ∨ a = 6 ∨ a = 7 ∨ a = 8 ∨ a = 9 ∨ a = 10 ∨ a = 11 ∨ a = 12 ∨ a = 14 ∨ a = 16 ∨ a = 21 ∨ a = 22 ∨ a = 27 → T' a b = T a b) : gi (n + 1) T' := by
  obtain ⟨g0, g1, g2, g3, g4, g5, g6, g7, g8, g9, g10⟩ := id h
  refine h.mk2 hwf (fun a b ha => e a b (by omega)) (fun b => by rw [e 16 b (by omega)]; exact g6 b) (fun u => by rw [e 27 u (by omega)]; exact g7 u) (fun j => by rw [e 22 j (by omega)]; exact g8 j) ?_ (fun j => ?_)
  · rw [e 1 0 (by omega)]; omega
  · rw [e 3 j (by omega)]; have := g10 j; omega
theorem pk_test {n : Nat} {T : wa_St} (h : gi n T) (b q : Int) : pk n (o_x (k_test T b) T (a_test T b q)) (o_s T (k_test T b) (a_test T b q)) (k_test T b) := by
  have hk : 0 ≤ k_test T b ∧ k_test T b ≤ 3 := by unfold k_test; (repeat' split); all_goals omega
  refine pk.s h hk (fun k0 => ⟨rfl, ?_⟩)
  have b1 := bI_01 (T 19 b.toNat ≠ 0 ∨ q ≠ 0)
  have b2 := bI_01 (T 17 b.toNat ≠ 0 ∨ q = 0)
  exact h.mk3 (ws_17 (ws_19 (ws_0 h.1 0 (by decide)) _ (by omega) (by omega)) _ (by omega) (by omega)) (fun a b ha => by rcases ha with rfl | rfl | rfl | rfl | rfl | rfl | rfl | rfl | rfl | rfl | rfl | rfl | rfl | rfl | rfl <;> rfl)
theorem pk_hold {n : Nat} {T : wa_St} (h : gi n T) (b : Int) : pk n (o_x (k_hold T b) T (a_hold T b)) (o_s T (k_hold T b) (a_hold T b)) (k_hold T b) := by
  have hk : 0 ≤ k_hold T b ∧ k_hold T b ≤ 3 := by unfold k_hold; (repeat' split); all_goals omega
  refine pk.s h hk (fun k0 => ⟨rfl, ?_⟩)
  exact h.mk3 (ws_17 (ws_0 h.1 0 (by decide)) _ (by omega) (by omega)) (fun a b ha => by rcases ha with rfl | rfl | rfl | rfl | rfl | rfl | rfl | rfl | rfl | rfl | rfl | rfl | rfl | rfl | rfl <;> rfl)
theorem pk_raise {n : Nat} {T : wa_St} (h : gi n T) (b : Int) : pk n (o_x (k_raise T b) T (a_raise T b)) (o_s T (k_raise T b) (a_raise T b)) (k_raise T b) := by
  have hk : 0 ≤ k_raise T b ∧ k_raise T b ≤ 3 := by unfold k_raise; (repeat' split); all_goals omega
  refine pk.s h hk (fun k0 => ⟨rfl, ?_⟩)
  obtain ⟨g0, g1, g2, g3, g4, g5, g6, g7, g8, g9, g10⟩ := id h
  have c : T 16 b.toNat ≠ 2 := by
    intro q
    unfold k_raise at k0
    by_cases a : ¬ f_isBake T b
    · rw [if_pos a] at k0; omega
    · rw [if_neg a, if_pos (Or.inr (Or.inr (Or.inl q)))] at k0; omega
  have g6b := g6 b.toNat
  refine h.mk2 (ws_19 (ws_16 (ws_0 h.1 0 (by decide)) _ (by omega)) _ (by omega) (by omega)) (fun a b ha => by rcases ha with rfl | rfl | rfl | rfl | rfl | rfl | rfl | rfl | rfl | rfl <;> rfl) (fun j => ?_) g7 g8 ⟨g9.1, show T 1 0 ≤ T 1 0 + 30 by omega⟩ (fun j => by have := g10 j; show T 3 j ≤ _; omega)
  have e : a_raise T b 16 j = if j = b.toNat then T 16 b.toNat + 1 else T 16 j := by simp [a_raise, wa_s]
  have g6j := g6 j
  rw [e]
  split <;> omega
theorem pk_copy {n : Nat} {T : wa_St} (h : gi n T) (hn : n ≤ 600) (b q : Int) : pk n (o_x (k_copy T b q) T (a_copy T b q)) (o_s T (k_copy T b q) (a_copy T b q)) (k_copy T b q) := by
  have hk : 0 ≤ k_copy T b q ∧ k_copy T b q ≤ 3 := by unfold k_copy; (repeat' split); all_goals omega
  refine pk.s h hk (fun k0 => ⟨rfl, ?_⟩)
  obtain ⟨g0, g1, g2, g3, g4, g5, g6, g7, g8, g9, g10⟩ := id h
  have g8q := g8 q.toNat
  exact h.mk3 (ws_20 (ws_0 h.1 0 (by decide)) _ (by omega)) (fun a b ha => by rcases ha with rfl | rfl | rfl | rfl | rfl | rfl | rfl | rfl | rfl | rfl | rfl | rfl | rfl | rfl | rfl <;> rfl)
theorem pk_rules {n : Nat} {T : wa_St} (h : gi n T) (q d st kp : Int) : pk n (o_x (k_rules q d st kp) T (a_rules T q d st kp)) (o_s T (k_rules q d st kp) (a_rules T q d st kp)) (k_rules q d st kp) := by
  have hk : 0 ≤ k_rules q d st kp ∧ k_rules q d st kp ≤ 3 := by unfold k_rules; split <;> omega
  refine pk.s h hk (fun k0 => ⟨rfl, ?_⟩)
  obtain ⟨g0, g1, g2, g3, g4, g5, g6, g7, g8, g9, g10⟩ := id h
  have c : (0 ≤ q ∧ q ≤ 2) ∧ (0 ≤ d ∧ d ≤ 9) ∧ (0 ≤ st ∧ st ≤ 99) ∧ (0 ≤ kp ∧ kp ≤ 99) := by
    unfold k_rules at k0
    by_cases a : (0 ≤ q ∧ q ≤ 2) ∧ (0 ≤ d ∧ d ≤ 9) ∧ (0 ≤ st ∧ st ≤ 99) ∧ (0 ≤ kp ∧ kp ≤ 99)
    · exact a
    · rw [if_neg a] at k0; omega
  refine h.mk2 (ws_24 (ws_23 (ws_22 (ws_0 h.1 0 (by decide)) _ (by omega)) _ (by omega)) _ (by omega)) (fun a b ha => by rcases ha with rfl | rfl | rfl | rfl | rfl | rfl | rfl | rfl | rfl | rfl <;> rfl) g6 g7 (fun j => ?_) ⟨g9.1, show T 1 0 ≤ T 1 0 + 30 by omega⟩ (fun j => by have := g10 j; show T 3 j ≤ _; omega)
  have e : a_rules T q d st kp 22 j = if j = q.toNat then d else T 22 j := by simp [a_rules, wa_s]
  have g8j := g8 j
  rw [e]
  split <;> omega
theorem pk_start {n : Nat} {T : wa_St} (h : gi n T) (i q r : Int) : pk n (o_x (k_start T i q r) T (a_start T i q r)) (o_s T (k_start T i q r) (a_start T i q r)) (k_start T i q r) := by
  have hk : 0 ≤ k_start T i q r ∧ k_start T i q r ≤ 3 := by unfold k_start; (repeat' split); all_goals omega
  refine pk.s h hk (fun k0 => ⟨rfl, ?_⟩)
  obtain ⟨g0, g1, g2, g3, g4, g5, g6, g7, g8, g9, g10⟩ := id h
  have w8 := g0.2.1
  have w29 := g0.2.2.2.2.1
  have w21 := g0.2.2.1
  have bf := f_bakeFor_rng3 g0 i q r
  have c : f_isImage T i ∧ ((0 ≤ q ∧ q ≤ 2) ∧ (0 ≤ r ∧ r ≤ 2)) ∧ ¬ (f_bakeFor T i q r = -1 ∨ T 29 0 = 30) := by
    unfold k_start at k0
    by_cases a : ¬ f_isImage T i
    · rw [if_pos a] at k0; omega
    · rw [if_neg a] at k0
      by_cases b : ¬ ((0 ≤ q ∧ q ≤ 2) ∧ (0 ≤ r ∧ r ≤ 2))
      · rw [if_pos b] at k0; omega
      · rw [if_neg b] at k0
        by_cases d : f_bakeFor T i q r = -1 ∨ T 29 0 = 30
        · rw [if_pos d] at k0; omega
        · exact ⟨Decidable.not_not.mp a, by omega, d⟩
  have wf1 : wf (wa_s (wa_s (wa_s (wa_s (wa_s T 0 0 0) 25 (T 29 0).toNat i) 26 (T 29 0).toNat q) 27 (T 29 0).toNat r) 28 (T 29 0).toNat (f_bakeFor T i q r)) := ws_28 (ws_27 (ws_26 (ws_25 (ws_0 g0 0 (by decide)) _ (by omega) (show 0 ≤ i ∧ i < T 8 0 by omega)) _ (by omega) (by omega)) _ (by omega)) _ (by omega) (show -1 ≤ f_bakeFor T i q r ∧ f_bakeFor T i q r < T 21 0 by omega)
  have e25 : (wa_s (wa_s (wa_s (wa_s (wa_s T 0 0 0) 25 (T 29 0).toNat i) 26 (T 29 0).toNat q) 27 (T 29 0).toNat r) 28 (T 29 0).toNat (f_bakeFor T i q r)) 25 (T 29 0).toNat = i := by simp [wa_s]
  have e26 : (wa_s (wa_s (wa_s (wa_s (wa_s T 0 0 0) 25 (T 29 0).toNat i) 26 (T 29 0).toNat q) 27 (T 29 0).toNat r) 28 (T 29 0).toNat (f_bakeFor T i q r)) 26 (T 29 0).toNat = q := by simp [wa_s]
  have e28 : (wa_s (wa_s (wa_s (wa_s (wa_s T 0 0 0) 25 (T 29 0).toNat i) 26 (T 29 0).toNat q) 27 (T 29 0).toNat r) 28 (T 29 0).toNat (f_bakeFor T i q r)) 28 (T 29 0).toNat = f_bakeFor T i q r := by simp [wa_s]
  have e29 : (wa_s (wa_s (wa_s (wa_s (wa_s T 0 0 0) 25 (T 29 0).toNat i) 26 (T 29 0).toNat q) 27 (T 29 0).toNat r) 28 (T 29 0).toNat (f_bakeFor T i q r)) 29 0 = T 29 0 := by simp [wa_s]
  have e8 : (wa_s (wa_s (wa_s (wa_s (wa_s T 0 0 0) 25 (T 29 0).toNat i) 26 (T 29 0).toNat q) 27 (T 29 0).toNat r) 28 (T 29 0).toNat (f_bakeFor T i q r)) 8 0 = T 8 0 := by simp [wa_s]
  have e21 : (wa_s (wa_s (wa_s (wa_s (wa_s T 0 0 0) 25 (T 29 0).toNat i) 26 (T 29 0).toNat q) 27 (T 29 0).toNat r) 28 (T 29 0).toNat (f_bakeFor T i q r)) 21 0 = T 21 0 := by simp [wa_s]
  have wf2 : wf (a_start T i q r) := by
    have q9 := ws_29n wf1 (by rw [e29]; omega) (by rw [e29, e25, e8]; omega) (by rw [e29, e26]; omega) (by rw [e29, e28, e21]; omega)
    rw [e29] at q9
    exact q9
  refine h.mk2 wf2 (fun a b ha => by rcases ha with rfl | rfl | rfl | rfl | rfl | rfl | rfl | rfl | rfl | rfl <;> rfl) g6 (fun j => ?_) g8 ⟨g9.1, show T 1 0 ≤ T 1 0 + 30 by omega⟩ (fun j => by have := g10 j; show T 3 j ≤ _; omega)
  have e : a_start T i q r 27 j = if j = (T 29 0).toNat then r else T 27 j := by simp [a_start, wa_s]
  have g7j := g7 j
  rw [e]
  split <;> omega
theorem pk_renew {n : Nat} {T : wa_St} (h : gi n T) (u : Int) : pk n (o_x (k_renew T u) T (a_renew T u)) (o_s T (k_renew T u) (a_renew T u)) (k_renew T u) := by
  have hk : 0 ≤ k_renew T u ∧ k_renew T u ≤ 3 := by unfold k_renew; (repeat' split); all_goals omega
  refine pk.s h hk (fun k0 => ⟨rfl, ?_⟩)
  have bf : -1 ≤ f_next (wa_s T 0 0 0) u.toNat ∧ f_next (wa_s T 0 0 0) u.toNat < T 21 0 := f_bakeFor_rng3 (ws_0 h.1 0 (by decide)) _ _ _
  have w21 := h.1.2.2.1
  exact h.mk3 (ws_28 (ws_0 h.1 0 (by decide)) _ (by omega) bf) (fun a b ha => by rcases ha with rfl | rfl | rfl | rfl | rfl | rfl | rfl | rfl | rfl | rfl | rfl | rfl | rfl | rfl | rfl <;> rfl)
theorem pk_stop {n : Nat} {T : wa_St} (h : gi n T) (u : Int) : pk n (o_x (k_stop T u) T (a_stop T u)) (o_s T (k_stop T u) (a_stop T u)) (k_stop T u) := by
  have hk : 0 ≤ k_stop T u ∧ k_stop T u ≤ 3 := by unfold k_stop; split <;> omega
  have w21 := h.1.2.2.1
  refine pk.s h hk (fun k0 => ⟨rfl, ?_⟩)
  exact h.mk3 (ws_28 (ws_0 h.1 0 (by decide)) _ (by omega) (show -1 ≤ (-1 : Int) ∧ (-1 : Int) < T 21 0 by omega)) (fun a b ha => by rcases ha with rfl | rfl | rfl | rfl | rfl | rfl | rfl | rfl | rfl | rfl | rfl | rfl | rfl | rfl | rfl <;> rfl)
theorem f_pin_wf : ∀ (n j : Nat) (T : wa_St) (q : Int), wf T → wf (f_pin n j T q).1 := by
  intro n
  induction n with
  | zero => intro j T q h; exact h
  | succ n ih =>
    intro j T q h
    by_cases c : T 18 j = 0 ∧ T 24 0 < T 1 0 - T 15 j ∧ f_run T (j : Int) = 0
    · have e : f_pin (n + 1) j T q = f_pin n (j + 1) (wa_s T 18 j 1) (q + 1) := if_pos c
      rw [e]; exact ih _ _ _ (wf_18 h j)
    · have e : f_pin (n + 1) j T q = f_pin n (j + 1) T q := if_neg c
      rw [e]; exact ih _ _ _ h
theorem pk_pass {n : Nat} {T : wa_St} (h : gi n T) (hn : n ≤ 600) (d : Int) : pk n (o_x (k_pass d) T (f_pin (T 21 0).toNat 0 (wa_s T 1 0 (T 1 0 + d)) 0).1) (o_s T (k_pass d) (f_pout d.toNat (wa_s T 0 0 0) 0).1) (k_pass d) := by
  have hk : 0 ≤ k_pass d ∧ k_pass d ≤ 3 := by unfold k_pass; split <;> omega
  refine pk.o h hk (fun k0 => ?_)
  obtain ⟨g0, g1, g2, g3, g4, g5, g6, g7, g8, g9, g10⟩ := id h
  have c : 1 ≤ d ∧ d ≤ 30 := by
    unfold k_pass at k0
    by_cases a : 1 ≤ d ∧ d ≤ 30
    · exact a
    · rw [if_neg a] at k0; omega
  obtain ⟨m, hm⟩ : ∃ m : Nat, d.toNat = m + 1 := ⟨d.toNat - 1, by omega⟩
  have eP : f_pout d.toNat (wa_s T 0 0 0) 0 = f_pin (T 21 0).toNat 0 (wa_s (wa_s T 0 0 0) 1 0 (T 1 0 + d)) 0 := by
    rw [hm, f_pout_eq m (wa_s T 0 0 0) 0 rfl, show (wa_s T 0 0 0) 1 0 + ((m + 1 : Nat) : Int) = T 1 0 + d from by rw [wa_s_nk (by decide)]; omega]
    rfl
  have q := (f_pin_eq (T 21 0).toNat 0 (wa_s (wa_s T 0 0 0) 1 0 (T 1 0 + d)) 0).1
  have hwf : wf (f_pout d.toNat (wa_s T 0 0 0) 0).1 := by
    rw [eP]
    exact f_pin_wf _ _ _ _ (ws_1 (ws_0 g0 0 (by decide)) _ (by omega))
  refine ⟨?_, (pass_eq c.1).1, ?_⟩
  · rw [eP, q, if_neg (by omega)]; rfl
  · have o : ∀ a b, a ≠ 18 → a ≠ 1 → a ≠ 0 → (f_pout d.toNat (wa_s T 0 0 0) 0).1 a b = T a b := by
      intro a b h18 h1 h0
      rw [eP, q, if_neg (fun k => h18 k.1), wa_s_nk h1, wa_s_nk h0]
    refine h.mk2 hwf (fun a b ha => o a b (by omega) (by omega) (by omega)) (fun b => by rw [o 16 b (by decide) (by decide) (by decide)]; exact g6 b) (fun b => by rw [o 27 b (by decide) (by decide) (by decide)]; exact g7 b) (fun b => by rw [o 22 b (by decide) (by decide) (by decide)]; exact g8 b) ?_ (fun j => by rw [o 3 j (by decide) (by decide) (by decide)]; have := g10 j; omega)
    have e1 : (f_pout d.toNat (wa_s T 0 0 0) 0).1 1 0 = T 1 0 + d := by rw [eP, q, if_neg (by omega), wa_s_eq]
    rw [e1]
    omega
theorem j_bake_eq {T : wa_St} (hwf : wf T) (i : Int) : j_bake T i = k_bake T i := by
  obtain ⟨hB, w8, w21, w12, w29, w4, w7, w⟩ := hwf
  unfold j_bake k_bake
  by_cases a : f_isImage T i
  · rw [if_neg (not_not_intro a), if_neg (not_not_intro a)]
    have p := w4 i.toNat (by omega)
    have p7 := w7 i.toNat (by omega)
    have hb : (0 ≤ T 4 i.toNat ∧ T 7 (T 4 i.toNat).toNat < 0) ↔ ¬ f_hasBase T i.toNat := by
      by_cases g : T 4 i.toNat = -1
      · exact ⟨fun k => by omega, fun k => absurd (Or.inl g) k⟩
      · have p72 := w7 (T 4 i.toNat).toNat (by omega)
        exact ⟨fun k q => by rcases q with q | q <;> omega, fun k => ⟨by omega, by have q : ¬ T 7 (T 4 i.toNat).toNat ≠ -1 := fun z => k (Or.inr z); omega⟩⟩
    by_cases g : f_hasBase T i.toNat
    · have ex : x_begin T i.toNat = f_base T i.toNat := by
        by_cases g4 : T 4 i.toNat = -1
        · exact (if_pos (Or.inl (by omega))).trans (if_pos g4).symm
        · have p72 := w7 (T 4 i.toNat).toNat (by omega)
          have g7 := g.resolve_left g4
          exact (if_neg (by omega)).trans (if_neg g4).symm
      have en : x_needs T i.toNat ↔ ¬ f_alike T i.toNat := by
        unfold x_needs f_alike f_topNow
        rw [ex]
        constructor
        · intro k q
          rcases k with k | k
          · exact q.1 (by omega)
          · exact k q.2.symm
        · intro k
          by_cases z : T 7 i.toNat < 0
          · exact Or.inl z
          · exact Or.inr (fun q => k ⟨by omega, q.symm⟩)
      by_cases g2 : ¬ f_alike T i.toNat ∧ T 21 0 = 60
      · rw [if_pos (Or.inr ⟨en.mpr g2.1, by omega⟩), if_pos (Or.inr g2)]
      · rw [if_neg, if_neg]
        · rintro (k | k)
          · exact k g
          · exact g2 k
        · rintro (k | k)
          · exact hb.mp k g
          · exact g2 ⟨en.mp k.1, by omega⟩
    · rw [if_pos (Or.inl (hb.mpr g)), if_pos (Or.inl g)]
  · rw [if_pos a, if_pos a]
theorem bn_eq {n : Nat} {T : wa_St} (h : gi n T) {i : Int} (k0 : k_bake T i = 0) : a_bake T i 0 0 = 0 ∧ eqx (x_bn T i) (a_bake T i) ∧ gi (n + 1) (a_bake T i) := by
  have w21 := h.1.2.2.1
  have w7 := h.1.2.2.2.2.2.2.1
  have w4 := h.1.2.2.2.2.2.1
  have c : f_isImage T i ∧ f_hasBase T i.toNat ∧ ¬ (¬ f_alike T i.toNat ∧ T 21 0 = 60) := by
    unfold k_bake at k0
    by_cases a : ¬ f_isImage T i
    · rw [if_pos a] at k0; omega
    · rw [if_neg a] at k0
      by_cases b : ¬ f_hasBase T i.toNat ∨ (¬ f_alike T i.toNat ∧ T 21 0 = 60)
      · rw [if_pos b] at k0; omega
      · exact ⟨Decidable.not_not.mp a, Decidable.not_not.mp (fun z => b (Or.inl z)), fun z => b (Or.inr z)⟩
  obtain ⟨c1, c2, c3⟩ := c
  have p := w4 i.toNat (by omega)
  have p7 := w7 i.toNat (by omega)
  have ex : x_begin T i.toNat = f_base T i.toNat := by
    by_cases g4 : T 4 i.toNat = -1
    · exact (if_pos (Or.inl (by omega))).trans (if_pos g4).symm
    · have p72 := w7 (T 4 i.toNat).toNat (by omega)
      have g7 := c2.resolve_left g4
      exact (if_neg (by omega)).trans (if_neg g4).symm
  have en : x_needs T i.toNat ↔ ¬ f_alike T i.toNat := by
    unfold x_needs f_alike f_topNow
    rw [ex]
    constructor
    · intro k q
      rcases k with k | k
      · exact q.1 (by omega)
      · exact k q.2.symm
    · intro k
      by_cases z : T 7 i.toNat < 0
      · exact Or.inl z
      · exact Or.inr (fun q => k ⟨by omega, q.symm⟩)
  by_cases g : f_alike T i.toNat
  · have e1 : x_bn T i = T := if_neg (fun z => en.mp z.2.1 g)
    have e2 : a_bake T i = wa_s T 0 0 0 := if_pos ((f_alike_th T 0 i.toNat).mpr g)
    rw [e1, e2]
    exact ⟨rfl, eqx.th T 0 0, h.th (by decide)⟩
  · have h60 : T 21 0 < 60 := by
      have : T 21 0 ≠ 60 := fun z => c3 ⟨g, z⟩
      omega
    have e1 : x_bn T i = f_makes T i.toNat := by
      refine (if_pos ⟨c1.1, en.mpr g, h60⟩).trans ?_
      unfold x_make f_makes
      rw [ex]
    have e2 : a_bake T i = f_makes (wa_s T 0 0 0) i.toNat := if_neg (fun z => g ((f_alike_th T 0 i.toNat).mp z))
    rw [e1, e2]
    refine ⟨?_, (eqx.th T 0 0).makes _, (h.th (k := 0) (by decide)).makes c1.1 (show i < T 8 0 by omega) c2 h60⟩
    have hbt : f_hasBase (wa_s T 0 0 0) i.toNat := c2
    have mk := mk0.of (h.th (k := 0) (by decide)).1 (h.th (k := 0) (by decide)).2.1 c1.1 (show i < T 8 0 by omega) hbt (by have := h.2.2.1; show T 12 0 ≤ 295; omega)
    rw [mk.2.2.2.2.2.1 0 0 (by decide) (by decide) (by decide) (by decide) (by decide) (by decide) (by decide) (by decide) (by decide) (by decide) (by decide) (by decide) (by decide) (by decide)]
    rfl
theorem pk_bake {n : Nat} {T : wa_St} (h : gi n T) (i : Int) : pk n (o_x (j_bake T i) T (x_bn T i)) (o_s T (k_bake T i) (a_bake T i)) (k_bake T i) := by
  rw [j_bake_eq h.1]
  have hk : 0 ≤ k_bake T i ∧ k_bake T i ≤ 3 := by unfold k_bake; (repeat' split); all_goals omega
  exact pk.o h hk (fun k0 => bn_eq h k0)
