/-! pure: what each deed of the law leaves -/
/-- the law's rows beside the state: parents, steps, greatest versions -/
def LG (T G : wa_St) : Prop := (∀ k j, -2 ≤ G k j ∧ G k j ≤ 100000) ∧ (∀ j : Nat, (j : Int) < T 8 0 → G 0 j = T 4 j) ∧ (∀ j, j < 10 → G 1 j = T 6 j) ∧ ∀ j, j < 10 → G 2 j = T 3 j
theorem LG.same {T T1 G : wa_St} (h : LG T G) (h8 : T1 8 0 = T 8 0) (h4 : ∀ j, T1 4 j = T 4 j) (h6 : ∀ j, T1 6 j = T 6 j) (h3 : ∀ j, T1 3 j = T 3 j) : LG T1 G :=
  ⟨h.1, fun j hj => (h.2.1 j (by omega)).trans (h4 j).symm, fun j hj => (h.2.2.1 j hj).trans (h6 j).symm, fun j hj => (h.2.2.2 j hj).trans (h3 j).symm⟩
theorem mg.same {T T1 : wa_St} (h : mg T) (h29 : T1 29 0 = T 29 0) (h28 : ∀ m : Nat, (m : Int) < T 29 0 → T1 28 m = T 28 m) (h18 : ∀ m : Nat, (m : Int) < T 29 0 → T 28 m ≠ -1 → T1 18 (T 28 m).toNat = T 18 (T 28 m).toNat) : mg T1 := by
  intro m hm hn
  rw [h29] at hm
  rw [h28 m hm] at hn ⊢
  rw [h18 m hm hn]
  exact h m hm hn
/-- the counts are as they were -/
def c4 (T T1 : wa_St) : Prop := T1 8 0 = T 8 0 ∧ T1 12 0 = T 12 0 ∧ T1 21 0 = T 21 0 ∧ T1 29 0 = T 29 0
theorem mg.th {T : wa_St} (h : mg T) (k : Int) : mg (wa_s T 0 0 k) := h.same rfl (fun _ _ => rfl) (fun _ _ _ => rfl)
theorem LG.th {T G : wa_St} (h : LG T G) (k : Int) : LG (wa_s T 0 0 k) G := h.same rfl (fun _ => rfl) (fun _ => rfl) (fun _ => rfl)
theorem LG.set {T G : wa_St} {k j : Nat} {v : Int} (h : ∀ k j, -2 ≤ G k j ∧ G k j ≤ 100000) (hv : -2 ≤ v ∧ v ≤ 100000) : ∀ a b, -2 ≤ wa_s G k j v a b ∧ wa_s G k j v a b ≤ 100000 := wa_sB h hv
-- add
theorem w_add {n : Nat} {T : wa_St} (h : gi n T) (hm : mg T) (h10 : T 8 0 < 10) {p : Int} (hp : -1 ≤ p ∧ p < T 8 0) : k_add T p = 0 ∧ gi (n + 1) (a_add T p) ∧ mg (a_add T p) ∧ a_add T p 8 0 = T 8 0 + 1 ∧ a_add T p 12 0 = T 12 0 ∧ a_add T p 21 0 = T 21 0 ∧ a_add T p 29 0 = T 29 0 ∧ a_add T p 7 (T 8 0).toNat = -1 ∧ ∀ G, LG T G → LG (a_add T p) (wa_s G 0 (T 8 0).toNat p) := by
  have k0 : k_add T p = 0 := by unfold k_add; rw [if_neg (by omega), if_neg (by omega)]
  have hpk := (pk_add h p).2.2.1
  rw [k0] at hpk
  have w8 := h.1.2.1
  refine ⟨k0, hpk, hm.same rfl (fun _ _ => rfl) (fun _ _ _ => rfl), ?_, rfl, rfl, rfl, ?_, fun G hG => ?_⟩
  · exact wa_s_eq
  · show wa_s (wa_s (wa_s (wa_s T 0 0 0) 4 (T 8 0).toNat p) 7 (T 8 0).toNat (-1)) 8 0 (T 8 0 + 1) 7 (T 8 0).toNat = -1
    simp [wa_s]
  · refine ⟨wa_sB hG.1 (by omega), fun j hj => ?_, fun j hj => ?_, fun j hj => ?_⟩
    · have e4 : a_add T p 4 j = if j = (T 8 0).toNat then p else T 4 j := by simp [a_add, wa_s]
      have e8 : a_add T p 8 0 = T 8 0 + 1 := wa_s_eq
      rw [e8] at hj
      rw [e4]
      by_cases q : j = (T 8 0).toNat
      · rw [if_pos q]; exact wa_s_eq' q
      · rw [if_neg q, wa_s_nj q]; exact hG.2.1 j (by omega)
    · show wa_s G 0 _ p 1 j = T 6 j
      rw [wa_s_nk (by decide)]; exact hG.2.2.1 j hj
    · show wa_s G 0 _ p 2 j = T 3 j
      rw [wa_s_nk (by decide)]; exact hG.2.2.2 j hj
-- step
theorem w_step {n : Nat} {T : wa_St} (h : gi n T) (hm : mg T) {i : Nat} (hi : (i : Int) < T 8 0) {q : Int} (hq : 0 ≤ q ∧ q ≤ 9) :
    (k_step T i q = 0 ∧ T 6 i < 5 ∧ gi (n + 1) (a_step T i q) ∧ mg (a_step T i q) ∧ c4 T (a_step T i q) ∧ ∀ G, LG T G → LG (a_step T i q) (wa_s G 1 i (G 1 i + 1))) ∨ (k_step T i q = 3 ∧ T 6 i = 5) := by
  have w6 := h.1.2.2.2.2.2.2.2.1 i
  have w8 := h.1.2.1
  have hpk := (pk_step h i q).2.2.1
  by_cases c : T 6 i = 5
  · refine Or.inr ⟨?_, c⟩
    unfold k_step
    rw [Int.toNat_natCast, if_neg (not_not_intro ⟨by omega, by omega⟩), if_neg (by omega), if_pos c]
  · have k0 : k_step T i q = 0 := by
      unfold k_step
      rw [Int.toNat_natCast, if_neg (not_not_intro ⟨by omega, by omega⟩), if_neg (by omega), if_neg c]
    rw [k0] at hpk
    refine Or.inl ⟨k0, by omega, hpk, hm.same rfl (fun _ _ => rfl) (fun _ _ _ => rfl), ⟨rfl, rfl, rfl, rfl⟩, fun G hG => ?_⟩
    have g1 := hG.2.2.1 i (by omega)
    refine ⟨wa_sB hG.1 (by omega), fun j hj => ?_, fun j hj => ?_, fun j hj => ?_⟩
    · show wa_s G 1 _ _ 0 j = T 4 j
      rw [wa_s_nk (by decide)]; exact hG.2.1 j hj
    · have e6 : a_step T i q 6 j = if j = i then T 6 i + 1 else T 6 j := by simp [a_step, wa_s]
      rw [e6]
      by_cases e : j = i
      · rw [if_pos e, wa_s_eq' e]; omega
      · rw [if_neg e, wa_s_nj e]; exact hG.2.2.1 j hj
    · show wa_s G 1 _ _ 2 j = T 3 j
      rw [wa_s_nk (by decide)]; exact hG.2.2.2 j hj
theorem LG.put0 {T G : wa_St} (h : LG T G) {k j : Nat} {v : Int} (e : G k j = v) : LG T (wa_s G k j v) := by
  have : wa_s G k j v = G := by
    funext a b
    by_cases q : a = k ∧ b = j
    · obtain ⟨rfl, rfl⟩ := q
      rw [wa_s_eq, e]
    · exact wa_s_ne q
  rw [this]; exact h
-- change
theorem w_change {n : Nat} {T : wa_St} (h : gi n T) (hn : n ≤ 600) (hm : mg T) {q : Nat} (hq : q < 10) {v : Int} (hv : v = -1 ∨ (0 ≤ v ∧ v ≤ T 3 q)) :
    (k_change T q v = 0 ∧ (v = -1 ∨ v < T 3 q) ∧ a_change T q v 2 q = (if v = -1 then T 3 q + 1 else v) ∧ gi (n + 1) (a_change T q v) ∧ mg (a_change T q v) ∧ c4 T (a_change T q v) ∧ ∀ G, LG T G → LG (a_change T q v) (wa_s G 2 q (G 2 q + (if v = -1 then 1 else 0)))) ∨ (k_change T q v = 1 ∧ v = T 3 q ∧ v ≠ -1) := by
  have w3 := h.1.2.2.2.2.2.2.2.2.2.2.2.2.2.2.1 q
  have g10 := h.2.2.2.2.2.2.2.2.2.2 q
  have hpk := (pk_change h hn q v).2.2.1
  have vc := v_change (T := T) (q : Int) v
  rw [Int.toNat_natCast] at vc
  by_cases c : v = -1 ∨ v < T 3 q
  · have k0 : k_change T q v = 0 := by
      unfold k_change
      rw [Int.toNat_natCast, if_pos (by omega)]
    rw [k0] at hpk
    have e3 : ∀ j, a_change T q v 3 j = if j = q then T 3 q + (if v = -1 then 1 else 0) else T 3 j := by
      intro j
      unfold a_change
      rw [Int.toNat_natCast]
      by_cases z : v = -1
      · rw [if_pos z, if_pos z]; simp [wa_s]
      · rw [if_neg z, if_neg z]; simp [wa_s]
    have eo : ∀ a b, a ≠ 0 → a ≠ 2 → a ≠ 3 → a_change T q v a b = T a b := by
      intro a b h0 h2 h3
      unfold a_change
      by_cases z : v = -1
      · rw [if_pos z, wa_s_nk h2, wa_s_nk h3, wa_s_nk h0]
      · rw [if_neg z, wa_s_nk h2, wa_s_nk h3, wa_s_nk h0]
    refine Or.inl ⟨k0, c, vc, hpk, hm.same (eo 29 0 (by decide) (by decide) (by decide)) (fun m _ => eo 28 m (by decide) (by decide) (by decide)) (fun m _ _ => eo 18 _ (by decide) (by decide) (by decide)), ⟨eo 8 0 (by decide) (by decide) (by decide), eo 12 0 (by decide) (by decide) (by decide), eo 21 0 (by decide) (by decide) (by decide), eo 29 0 (by decide) (by decide) (by decide)⟩, fun G hG => ?_⟩
    have g2 := hG.2.2.2 q hq
    refine ⟨wa_sB hG.1 (by split <;> omega), fun j hj => ?_, fun j hj => ?_, fun j hj => ?_⟩
    · rw [wa_s_nk (by decide), eo 4 j (by decide) (by decide) (by decide)]
      rw [eo 8 0 (by decide) (by decide) (by decide)] at hj
      exact hG.2.1 j hj
    · rw [wa_s_nk (by decide), eo 6 j (by decide) (by decide) (by decide)]; exact hG.2.2.1 j hj
    · rw [e3]
      by_cases e : j = q
      · rw [if_pos e, wa_s_eq' e, g2]
      · rw [if_neg e, wa_s_nj e]; exact hG.2.2.2 j hj
  · refine Or.inr ⟨?_, by omega, by omega⟩
    unfold k_change
    rw [Int.toNat_natCast, if_neg (by omega)]
-- bake
theorem mk0.mgd {T T' : wa_St} {z : Int} (hwf : wf T) (h : lu T) (m : mk0 T T' z) {y : Int} (h0 : 0 ≤ y) (hy : y < T 8 0) (hne : y ≠ z) (hz : 0 ≤ z) : gd T' y ↔ gd T y := by
  have k7 := m.2.2.2.2.1 y.toNat
  rw [if_neg (by omega)] at k7
  have o := m.2.2.2.2.2.1
  have eg : gz T' y = gz T y := gz_same (fun j => o 4 j (by decide) (by decide) (by decide) (by decide) (by decide) (by decide) (by decide) (by decide) (by decide) (by decide) (by decide) (by decide) (by decide) (by decide)) (fun j => o 6 j (by decide) (by decide) (by decide) (by decide) (by decide) (by decide) (by decide) (by decide) (by decide) (by decide) (by decide) (by decide) (by decide) (by decide)) (fun j => o 5 j (by decide) (by decide) (by decide) (by decide) (by decide) (by decide) (by decide) (by decide) (by decide) (by decide) (by decide) (by decide) (by decide) (by decide)) (fun j => o 2 j (by decide) (by decide) (by decide) (by decide) (by decide) (by decide) (by decide) (by decide) (by decide) (by decide) (by decide) (by decide) (by decide) (by decide)) y
  unfold gd
  rw [eg, k7]
  constructor
  · intro ⟨h7, g⟩
    obtain ⟨-, t2, t3⟩ := m.top hwf h (y := y.toNat) (by omega) (by omega) h7
    rw [t2, t3] at g
    exact ⟨h7, g⟩
  · intro ⟨h7, g⟩
    obtain ⟨-, t2, t3⟩ := m.top hwf h (y := y.toNat) (by omega) (by omega) h7
    rw [t2, t3]
    exact ⟨h7, g⟩
theorem fs_same {T T' : wa_St} {b : Int} (hp : pa T) (h4 : ∀ j, T' 4 j = T 4 j) (hb : b ≤ T 8 0) (hg : ∀ y : Int, 0 ≤ y → y < b → (gd T' y ↔ gd T y)) : ∀ (n : Nat) (z : Int), z < b → (fs T' n z ↔ fs T n z) := by
  intro n
  induction n with
  | zero => intro z _; exact Iff.rfl
  | succ n ih =>
    intro z hz
    show (z < 0 ∨ (gd T' z ∧ fs T' n (T' 4 z.toNat))) ↔ (z < 0 ∨ (gd T z ∧ fs T n (T 4 z.toNat)))
    by_cases q : z < 0
    · exact ⟨fun _ => Or.inl q, fun _ => Or.inl q⟩
    · have w4 := hp z.toNat (by omega)
      rw [h4, ih (T 4 z.toNat) (by omega), hg z (by omega) hz]
theorem fs_congr {T T' : wa_St} (h4 : ∀ j, T' 4 j = T 4 j) (hg : ∀ y : Int, gd T' y ↔ gd T y) : ∀ (n : Nat) (z : Int), (fs T' n z ↔ fs T n z) := by
  intro n
  induction n with
  | zero => intro z; exact Iff.rfl
  | succ n ih =>
    intro z
    show (z < 0 ∨ (gd T' z ∧ fs T' n (T' 4 z.toNat))) ↔ (z < 0 ∨ (gd T z ∧ fs T n (T 4 z.toNat)))
    rw [h4, ih, hg]
/-- what a bake that isn't refused leaves -/
def wb (n : Nat) (T T1 : wa_St) (i : Nat) : Prop := gi (n + 1) T1 ∧ mg T1 ∧ (T1 8 0 = T 8 0 ∧ T1 29 0 = T 29 0) ∧ (T1 21 0 ≤ T 21 0 + 1 ∧ T1 12 0 ≤ T 12 0 + T 6 i) ∧ ((T1 7 i = T 7 i ∧ T1 21 0 = T 21 0 ∧ T1 12 0 = T 12 0) ∨ (T1 7 i = T 21 0 ∧ T 7 i ≠ T 21 0 ∧ T1 16 (T 21 0).toNat = 0 ∧ T 21 0 < 60 ∧ T1 21 0 = T 21 0 + 1)) ∧ (x_frs T1 10 (i : Int) = true ↔ T 4 i < 0 ∨ x_frs T 10 (T 4 i) = true) ∧ ∀ G, LG T G → LG T1 G
theorem wb_alike {n : Nat} {T : wa_St} (h : gi n T) (hm : mg T) {i : Nat} (hi : (i : Int) < T 8 0) (hb : f_hasBase T i) (g : f_alike T i) : wb n T (wa_s T 0 0 0) i := by
  have w6 := h.1.2.2.2.2.2.2.2.1 i
  have w4 := wf_pa h.1 i hi
  have w8 := h.1.2.1
  have hg : gi (n + 1) (wa_s T 0 0 0) := h.th (k := 0) (by decide)
  have hfs : ∀ z, fs (wa_s T 0 0 0) 10 z ↔ fs T 10 z := fs_congr (T := T) (T' := wa_s T 0 0 0) (fun _ => rfl) (fun y => (eqx.th T 0 0).symm.egd y) 10
  refine ⟨hg, hm.th 0, ⟨rfl, rfl⟩, ⟨show T 21 0 ≤ T 21 0 + 1 by omega, show T 12 0 ≤ T 12 0 + T 6 i by omega⟩, Or.inl ⟨rfl, rfl, rfl⟩, ?_, fun G hG => hG.th 0⟩
  rw [im_fr hg (by omega) (show (i : Int) < wa_s T 0 0 0 8 0 from hi), hfs, fs_own h hi, ← im_fr h w4.1 (by omega)]
  constructor
  · intro q; exact Or.inr q.2
  · intro q
    have q2 : x_frs T 10 (T 4 i) = true := q.elim (fun z => frs_neg z 10) id
    refine ⟨?_, q2⟩
    refine (gd_alike h.1 h.2.1 (z := (i : Int)) (by omega) hi ?_).mp g
    rw [Int.toNat_natCast]
    by_cases z : T 4 i < 0
    · exact Or.inl z
    · have q3 := (im_fr h w4.1 (by omega)).mp q2
      exact Or.inr (fs_gd (n := 10) q3 (by omega) (by omega))
theorem wb_made {n : Nat} {T : wa_St} (h : gi n T) (hm : mg T) {i : Nat} (hi : (i : Int) < T 8 0) (hb : f_hasBase T i) (h60 : T 21 0 < 60) : wb n T (f_makes (wa_s T 0 0 0) i) i := by
  have h1 : gi (n + 1) (wa_s T 0 0 0) := h.th (k := 0) (by decide)
  have w6 := h.1.2.2.2.2.2.2.2.1 i
  have w4 := wf_pa h.1 i hi
  have w8 := h.1.2.1
  have w21 := h.1.2.2.1
  have w12 := h.1.2.2.2.1
  have w7 := h.1.2.2.2.2.2.2.1 i hi
  have w28 := h.1.2.2.2.2.2.2.2.2.2.2.2.2.1
  have hbt : f_hasBase (wa_s T 0 0 0) ((i : Int)).toNat := hb
  have mk := mk0.of h1.1 h1.2.1 (z := (i : Int)) (by omega) hi hbt (by have := h.2.2.1; show T 12 0 ≤ 295; omega)
  have hg := h1.makes (z := (i : Int)) (by omega) (show (i : Int) < T 8 0 from hi) hbt h60
  rw [Int.toNat_natCast] at mk hg
  have o := mk.2.2.2.2.2.1
  have o2 : ∀ a b, a = 2 ∨ a = 3 ∨ a = 4 ∨ a = 5 ∨ a = 6 ∨ a = 8 ∨ a = 28 ∨ a = 29 → f_makes (wa_s T 0 0 0) i a b = T a b := fun a b ha => (o a b (by omega) (by omega) (by omega) (by omega) (by omega) (by omega) (by omega) (by omega) (by omega) (by omega) (by omega) (by omega) (by omega) (by omega)).trans (wa_s_nk (by omega))
  have e7 := mk.2.2.2.2.1 i
  rw [if_pos (Int.toNat_natCast i).symm] at e7
  have e7 : f_makes (wa_s T 0 0 0) i 7 i = T 21 0 := e7
  have e21 : f_makes (wa_s T 0 0 0) i 21 0 = T 21 0 + 1 := mk.2.2.2.1
  have eM : f_makes (wa_s T 0 0 0) i = f_newB (f_mk (T 6 i).toNat (5 * i) (wa_s T 0 0 0) (f_base (wa_s T 0 0 0) i)).1 i (f_mk (T 6 i).toNat (5 * i) (wa_s T 0 0 0) (f_base (wa_s T 0 0 0) i)).2 := rfl
  have m12 := f_mk_12 (T 6 i).toNat (5 * i) (wa_s T 0 0 0) (f_base (wa_s T 0 0 0) i)
  have m12 : (f_mk (T 6 i).toNat (5 * i) (wa_s T 0 0 0) (f_base (wa_s T 0 0 0) i)).1 12 0 ≤ T 12 0 + ((T 6 i).toNat : Int) := m12
  have e12 : f_makes (wa_s T 0 0 0) i 12 0 = (f_mk (T 6 i).toNat (5 * i) (wa_s T 0 0 0) (f_base (wa_s T 0 0 0) i)).1 12 0 := by rw [eM]; exact f_newB_o (by decide)
  have e16 : f_makes (wa_s T 0 0 0) i 16 (T 21 0).toNat = 0 := by
    have k21 : (f_mk (T 6 i).toNat (5 * i) (wa_s T 0 0 0) (f_base (wa_s T 0 0 0) i)).1 21 0 = T 21 0 := by
      have hm0 : m_inv (wa_s T 0 0 0) (T 6 i).toNat (wa_s T 0 0 0) (f_base (wa_s T 0 0 0) i) := ⟨fun _ _ _ _ _ _ => rfl, h1.1, by have := h.2.2.1; show T 12 0 + ((T 6 i).toNat : Int) ≤ 300; omega, f_base_lt h1.1 hi hb⟩
      exact (f_mk_inv (T := wa_s T 0 0 0) (T 6 i).toNat (5 * i) (wa_s T 0 0 0) (f_base (wa_s T 0 0 0) i) hm0).1 21 0 (by decide) (by decide) (by decide) (by decide)
    rw [eM]
    unfold f_newB
    rw [k21]
    simp [wa_s]
  have hmg : mg (f_makes (wa_s T 0 0 0) i) := by
    refine hm.same (o2 29 0 (by omega)) (fun m _ => o2 28 m (by omega)) (fun m hm2 hn => ?_)
    have := w28 m hm2
    exact mk.2.2.2.2.2.2.1 18 (T 28 m).toNat (by decide) (by decide) (show (((T 28 m).toNat : Nat) : Int) < T 21 0 by omega)
  refine ⟨hg, hmg, ⟨o2 8 0 (by omega), o2 29 0 (by omega)⟩, ⟨by omega, by omega⟩, Or.inr ⟨e7, by omega, e16, h60, e21⟩, ?_, fun G hG => hG.same (o2 8 0 (by omega)) (fun j => o2 4 j (by omega)) (fun j => o2 6 j (by omega)) (fun j => o2 3 j (by omega))⟩
  have hi1 : (i : Int) < f_makes (wa_s T 0 0 0) i 8 0 := by rw [o2 8 0 (by omega)]; exact hi
  rw [im_fr hg (by omega) hi1, fs_own hg hi1, o2 4 i (by omega)]
  have hgd : ∀ y : Int, 0 ≤ y → y < (i : Int) → (gd (f_makes (wa_s T 0 0 0) i) y ↔ gd T y) := fun y hy hyi => (mk0.mgd h1.1 h1.2.1 mk hy (show y < T 8 0 by omega) (by omega) (by omega)).trans ((eqx.th T 0 0).symm.egd y)
  rw [fs_same (wf_pa h.1) (fun j => o2 4 j (by omega)) (b := (i : Int)) (by omega) hgd 10 (T 4 i) w4.2, ← im_fr h w4.1 (by omega)]
  constructor
  · intro q; exact Or.inr q.2
  · intro q
    have q2 : x_frs T 10 (T 4 i) = true := q.elim (fun z => frs_neg z 10) id
    refine ⟨?_, q2⟩
    have hp : T 4 i < 0 ∨ gd T (T 4 i) := by
      by_cases z : T 4 i < 0
      · exact Or.inl z
      · exact Or.inr (fs_gd (n := 10) ((im_fr h w4.1 (by omega)).mp q2) (by omega) (by omega))
    have bw := (base_wz (T := wa_s T 0 0 0) h1.1 (z := (i : Int)) (by omega) hi (by rw [Int.toNat_natCast]; exact hp.imp id (fun z => ((eqx.th T 0 0).egd _).mp z))).2.2.2
    rw [Int.toNat_natCast] at bw
    have mw := mk.2.2.2.2.2.2.2.2.1
    rw [Int.toNat_natCast] at mw
    refine ⟨by rw [Int.toNat_natCast]; exact mw.1, ?_⟩
    rw [Int.toNat_natCast, mw.2, bw]
    have eg : gz (f_makes (wa_s T 0 0 0) i) (i : Int) = gz (wa_s T 0 0 0) (i : Int) := gz_same (T := wa_s T 0 0 0) (fun j => o2 4 j (by omega)) (fun j => o2 6 j (by omega)) (fun j => o2 5 j (by omega)) (fun j => o2 2 j (by omega)) _
    rw [eg, gz_pos (wf_pa h1.1) (z := (i : Int)) (by omega) hi, Int.toNat_natCast]
theorem w_bake {n : Nat} {T : wa_St} (h : gi n T) (hm : mg T) {i : Nat} (hi : (i : Int) < T 8 0) : (k_bake T i = 2 ∧ (¬ f_hasBase T i ∨ T 21 0 = 60)) ∨ (k_bake T i = 0 ∧ f_hasBase T i ∧ wb n T (a_bake T i) i) := by
  have w21 := h.1.2.2.1
  by_cases a : ¬ f_hasBase T i ∨ (¬ f_alike T i ∧ T 21 0 = 60)
  · refine Or.inl ⟨?_, a.imp id (fun z => z.2)⟩
    unfold k_bake
    rw [Int.toNat_natCast, if_neg (not_not_intro ⟨by omega, by omega⟩), if_pos a]
  · have k0 : k_bake T i = 0 := by
      unfold k_bake
      rw [Int.toNat_natCast, if_neg (not_not_intro ⟨by omega, by omega⟩), if_neg a]
    have hb : f_hasBase T i := Decidable.not_not.mp (fun z => a (Or.inl z))
    refine Or.inr ⟨k0, hb, ?_⟩
    unfold a_bake
    rw [Int.toNat_natCast]
    by_cases g : f_alike T i
    · rw [if_pos ((f_alike_th T 0 i).mpr g)]
      exact wb_alike h hm hi hb g
    · rw [if_neg (fun z => g ((f_alike_th T 0 i).mp z))]
      have : T 21 0 ≠ 60 := fun z => a (Or.inr ⟨g, z⟩)
      exact wb_made h hm hi hb (by omega)
