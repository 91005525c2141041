/-! pure: freshness, told three ways -/
theorem top_rng {T : wa_St} (hwf : wf T) {i : Nat} (hi : (i : Int) < T 8 0) (h0 : 0 ≤ T 7 i) : (-1 ≤ T 14 (T 7 i).toNat ∧ T 14 (T 7 i).toNat < T 12 0) ∧ T 7 i < T 21 0 := by
  obtain ⟨hB, w8, w21, w12, w29, w4, w7, w6, w5, w13, w25, w26, w28, w14, w3, w17⟩ := hwf
  have q := w7 i hi
  exact ⟨w14 (T 7 i).toNat (by omega), q.2⟩
theorem wf_pa {T : wa_St} (hwf : wf T) : pa T := hwf.2.2.2.2.2.1
theorem base_wz {T : wa_St} (hwf : wf T) {z : Int} (h0 : 0 ≤ z) (hz : z < T 8 0) (hp : T 4 z.toNat < 0 ∨ gd T (T 4 z.toNat)) : f_hasBase T z.toNat ∧ x_begin T z.toNat = f_base T z.toNat ∧ (-1 ≤ f_base T z.toNat ∧ f_base T z.toNat < T 12 0) ∧ wz T (f_base T z.toNat) = gz T (T 4 z.toNat) := by
  have b := wf_pa hwf z.toNat (by omega)
  have w12 := hwf.2.2.2.1
  by_cases q : T 4 z.toNat < 0
  · have e : T 4 z.toNat = -1 := by omega
    have eb : f_base T z.toNat = -1 := if_pos e
    have ex : x_begin T z.toNat = -1 := if_pos (Or.inl q)
    exact ⟨Or.inl e, by rw [eb, ex], by omega, by rw [eb, wz_neg T (by omega), gz_neg T q]⟩
  · have g := hp.resolve_left q
    have h7 := g.1
    have r := top_rng hwf (i := (T 4 z.toNat).toNat) (by omega) h7
    have eb : f_base T z.toNat = T 14 (T 7 (T 4 z.toNat).toNat).toNat := if_neg (by omega)
    have ex : x_begin T z.toNat = T 14 (T 7 (T 4 z.toNat).toNat).toNat := if_neg (by omega)
    exact ⟨Or.inr (by omega), by rw [eb, ex], by rw [eb]; exact r.1, by rw [eb]; exact g.2⟩
theorem top_gd {T : wa_St} (hwf : wf T) (h : lu T) {z : Int} (h0 : 0 ≤ z) (hz : z < T 8 0) (hp : T 4 z.toNat < 0 ∨ gd T (T 4 z.toNat)) {y : Int} (hy : -1 ≤ y ∧ y < T 12 0) : f_top T (T 6 z.toNat).toNat (5 * z.toNat) (f_base T z.toNat) = y ↔ wz T y = gz T z := by
  obtain ⟨-, -, hb, hw⟩ := base_wz hwf h0 hz hp
  rw [top_wz h _ _ _ _ hb hy, hw, gz_pos (wf_pa hwf) h0 hz]
theorem gd_alike {T : wa_St} (hwf : wf T) (h : lu T) {z : Int} (h0 : 0 ≤ z) (hz : z < T 8 0) (hp : T 4 z.toNat < 0 ∨ gd T (T 4 z.toNat)) : f_alike T z.toNat ↔ gd T z := by
  have w7 := hwf.2.2.2.2.2.2.1 z.toNat (by omega)
  constructor
  · intro hal
    have h7 : 0 ≤ T 7 z.toNat := by have := hal.1; omega
    exact ⟨h7, (top_gd hwf h h0 hz hp (top_rng hwf (by omega) h7).1).mp hal.2⟩
  · intro g
    exact ⟨by have := g.1; omega, (top_gd hwf h h0 hz hp (top_rng hwf (by omega) g.1).1).mpr g.2⟩
theorem gd_needs {T : wa_St} (hwf : wf T) (h : lu T) {z : Int} (h0 : 0 ≤ z) (hz : z < T 8 0) (hp : T 4 z.toNat < 0 ∨ gd T (T 4 z.toNat)) : ¬ x_needs T z.toNat ↔ gd T z := by
  obtain ⟨-, hx, -, -⟩ := base_wz hwf h0 hz hp
  constructor
  · intro hn
    have h7 : 0 ≤ T 7 z.toNat := Int.not_lt.mp (fun q => hn (Or.inl q))
    have e : T 14 (T 7 z.toNat).toNat = f_top T (T 6 z.toNat).toNat (5 * z.toNat) (x_begin T z.toNat) := Decidable.byContradiction (fun q => hn (Or.inr q))
    rw [hx] at e
    exact ⟨h7, (top_gd hwf h h0 hz hp (top_rng hwf (by omega) h7).1).mp e.symm⟩
  · intro g hn
    rcases hn with q | q
    · have := g.1; omega
    · rw [hx] at q
      exact q ((top_gd hwf h h0 hz hp (top_rng hwf (by omega) g.1).1).mpr g.2).symm
theorem fs_gd {T : wa_St} {n : Nat} {z : Int} (h : fs T n z) (h0 : 0 ≤ z) (hz : z < (n : Int)) : gd T z := by
  cases n with
  | zero => omega
  | succ n => rcases h with q | q; (exact absurd h0 (by omega)); exact q.1
theorem fs_par {T : wa_St} {n : Nat} {z : Int} (h : fs T n z) (hz : z < (n : Int)) : z < 0 ∨ gd T z := by
  by_cases q : z < 0
  · exact Or.inl q
  · exact Or.inr (fs_gd h (by omega) hz)
theorem fr_fs {T : wa_St} (hwf : wf T) (h : lu T) : ∀ (n : Nat) (z : Int), -1 ≤ z → z < T 8 0 → z < (n : Int) → (f_fr T n z = true ↔ fs T n z) := by
  intro n
  induction n with
  | zero => intro z _ _ _; exact ⟨fun _ => trivial, fun _ => rfl⟩
  | succ n ih =>
    intro z hm hz hn
    show (decide (z = -1) || (decide (f_hasBase T z.toNat ∧ f_alike T z.toNat) && f_fr T n (T 4 z.toNat))) = true ↔ (z < 0 ∨ (gd T z ∧ fs T n (T 4 z.toNat)))
    by_cases q : z < 0
    · rw [decide_eq_true (show z = -1 by omega)]
      exact ⟨fun _ => Or.inl q, fun _ => rfl⟩
    · have b := wf_pa hwf z.toNat (by omega)
      have i := ih (T 4 z.toNat) (by omega) (by omega) (by omega)
      rw [decide_eq_false (show ¬ z = -1 by omega), Bool.false_or, Bool.and_eq_true, decide_eq_true_iff, i]
      constructor
      · intro ⟨h1, h2⟩
        exact Or.inr ⟨(gd_alike hwf h (by omega) hz (fs_par h2 (by omega))).mp h1.2, h2⟩
      · intro h1
        obtain ⟨h1, h2⟩ := h1.resolve_left q
        exact ⟨⟨(base_wz hwf (by omega) hz (fs_par h2 (by omega))).1, (gd_alike hwf h (by omega) hz (fs_par h2 (by omega))).mpr h1⟩, h2⟩
theorem frs_fs {T : wa_St} (hwf : wf T) (h : lu T) : ∀ (n : Nat) (z : Int), -1 ≤ z → z < T 8 0 → z < (n : Int) → (x_frs T n z = true ↔ fs T n z) := by
  intro n
  induction n with
  | zero => intro z _ _ _; exact ⟨fun _ => trivial, fun _ => rfl⟩
  | succ n ih =>
    intro z hm hz hn
    show (decide (z < 0) || (decide (¬ x_needs T z.toNat) && x_frs T n (T 4 z.toNat))) = true ↔ (z < 0 ∨ (gd T z ∧ fs T n (T 4 z.toNat)))
    by_cases q : z < 0
    · rw [decide_eq_true q]
      exact ⟨fun _ => Or.inl q, fun _ => rfl⟩
    · have b := wf_pa hwf z.toNat (by omega)
      have i := ih (T 4 z.toNat) (by omega) (by omega) (by omega)
      rw [decide_eq_false q, Bool.false_or, Bool.and_eq_true, decide_eq_true_iff, i]
      constructor
      · intro ⟨h1, h2⟩
        exact Or.inr ⟨(gd_needs hwf h (by omega) hz (fs_par h2 (by omega))).mp h1, h2⟩
      · intro h1
        obtain ⟨h1, h2⟩ := h1.resolve_left q
        exact ⟨(gd_needs hwf h (by omega) hz (fs_par h2 (by omega))).mpr h1, h2⟩
-- the chain of a layer, from its top down
theorem x_hi_wz {T : wa_St} (h : lu T) : ∀ (n : Nat) (z : Int), (-1 ≤ z ∧ z < T 12 0) → (wz T z).length ≤ n → x_hi T n z = ((wz T z).length : Int) := by
  intro n
  induction n with
  | zero => intro z hz hl; show (0 : Int) = _; omega
  | succ n ih =>
    intro z hz hl
    by_cases q : z < 0
    · have e : z = -1 := by omega
      rw [wz_neg T q, e, x_hi_m]; rfl
    · have b := h.1 z.toNat (by omega)
      rw [wz_pos h (by omega) hz.2, List.length_append] at hl ⊢
      rw [x_hi_n (by omega), ih (T 9 z.toNat) (by omega) (by have : ([(T 10 z.toNat, T 11 z.toNat)] : List (Int × Int)).length = 1 := rfl; omega)]
      show _ = (((wz T (T 9 z.toNat)).length + 1 : Nat) : Int)
      omega
theorem x_it_wz {T : wa_St} (h : lu T) : ∀ (j : Nat) (z : Int), (-1 ≤ z ∧ z < T 12 0) → j < (wz T z).length → (0 ≤ x_it T j z ∧ x_it T j z < T 12 0) ∧ (wz T z)[(wz T z).length - 1 - j]? = some (T 10 (x_it T j z).toNat, T 11 (x_it T j z).toNat) := by
  intro j
  induction j with
  | zero =>
    intro z hz hl
    by_cases q : z < 0
    · rw [wz_neg T q] at hl; exact absurd hl (by simp)
    · refine ⟨⟨by show 0 ≤ z; omega, hz.2⟩, ?_⟩
      rw [wz_pos h (by omega) hz.2, List.length_append]
      show (wz T (T 9 z.toNat) ++ [(T 10 z.toNat, T 11 z.toNat)])[(wz T (T 9 z.toNat)).length + 1 - 1 - 0]? = some (T 10 z.toNat, T 11 z.toNat)
      rw [List.getElem?_append_right (by omega)]
      simp
  | succ j ih =>
    intro z hz hl
    by_cases q : z < 0
    · rw [wz_neg T q] at hl; exact absurd hl (by simp)
    · have b := h.1 z.toNat (by omega)
      have e := wz_pos h (by omega) hz.2
      have el : (wz T z).length = (wz T (T 9 z.toNat)).length + 1 := by rw [e, List.length_append]; rfl
      have i := ih (T 9 z.toNat) (by omega) (by omega)
      refine ⟨i.1, ?_⟩
      rw [el, e, List.getElem?_append_left (by omega)]
      rw [show (wz T (T 9 z.toNat)).length + 1 - 1 - (j + 1) = (wz T (T 9 z.toNat)).length - 1 - j by omega]
      exact i.2
theorem isOf_wz {T : wa_St} (h : lu T) {z : Int} (hz : -1 ≤ z ∧ z < T 12 0) (hl : (wz T z).length ≤ 50) (k : Nat) (inp ver : Int) {idx : Int} (hi : idx = ((wz T z).length : Int) - 1 - (k : Int)) : f_isOf T (f_at 50 (x_cY T z 13) idx) inp ver ↔ (wz T z)[k]? = some (inp, ver) := by
  by_cases q : k < (wz T z).length
  · have e : f_at 50 (x_cY T z 13) idx = x_it T ((wz T z).length - 1 - k) z := by
      rw [f_at_in ((wz T z).length - 1 - k) (by omega) (by omega)]
      rfl
    have i := x_it_wz h ((wz T z).length - 1 - k) z hz (by omega)
    rw [show (wz T z).length - 1 - ((wz T z).length - 1 - k) = k by omega] at i
    rw [e, i.2]
    constructor
    · intro ⟨_, h2, h3⟩; rw [h2, h3]
    · intro g
      have g := Option.some.inj g
      exact ⟨i.1, congrArg Prod.fst g, congrArg Prod.snd g⟩
  · have e : f_at 50 (x_cY T z 13) idx = -1 := if_neg (by omega)
    rw [e, List.getElem?_eq_none (by omega)]
    exact ⟨fun g => absurd g.1.1 (by decide), fun g => by cases g⟩
theorem dp_cons {α : Type} (w : List α) (k : Nat) (a : α) (l : List α) : (a :: l) <+: w.drop k ↔ w[k]? = some a ∧ l <+: w.drop (k + 1) := by
  by_cases q : k < w.length
  · rw [List.drop_eq_getElem_cons q, List.cons_prefix_cons, List.getElem?_eq_getElem q]
    exact ⟨fun ⟨h1, h2⟩ => ⟨by rw [h1], h2⟩, fun ⟨h1, h2⟩ => ⟨(Option.some.inj h1).symm, h2⟩⟩
  · rw [List.drop_eq_nil_of_le (by omega), List.getElem?_eq_none (by omega)]
    exact ⟨fun g => absurd (List.prefix_nil.mp g) (by simp), fun g => by cases g.1⟩
theorem x_fol_wz {T : wa_St} (h : lu T) {z : Int} (hz : -1 ≤ z ∧ z < T 12 0) (hl : (wz T z).length ≤ 50) (i fr : Nat) : ∀ (n j : Nat), x_fol T (x_cY T z) i (fr : Int) ((wz T z).length : Int) n j = true ↔ stl T n (5 * i + j) <+: (wz T z).drop (fr + j) := by
  intro n
  induction n with
  | zero => intro j; exact ⟨fun _ => List.nil_prefix, fun _ => rfl⟩
  | succ n ih =>
    intro j
    show (decide (f_isOf T (f_at 50 (x_cY T z 13) (((wz T z).length : Int) - 1 - (fr : Int) - (j : Int))) (T 5 (5 * i + j)) (T 2 (T 5 (5 * i + j)).toNat)) && x_fol T (x_cY T z) i (fr : Int) ((wz T z).length : Int) n (j + 1)) = true ↔ ((T 5 (5 * i + j), T 2 (T 5 (5 * i + j)).toNat) :: stl T n (5 * i + j + 1)) <+: (wz T z).drop (fr + j)
    rw [Bool.and_eq_true, decide_eq_true_iff, isOf_wz h hz hl (fr + j) _ _ (by omega), ih (j + 1), dp_cons]
    exact Iff.rfl
theorem x_follow_wz {T : wa_St} (hwf : wf T) (h : lu T) {z : Int} (hz : -1 ≤ z ∧ z < T 12 0) (hl : (wz T z).length ≤ 50) (i fr : Nat) : x_follow T (x_cY T z) i (fr : Int) ((wz T z).length : Int) = if stl T (T 6 i).toNat (5 * i) <+: (wz T z).drop fr then (((fr + (stl T (T 6 i).toNat (5 * i)).length : Nat)) : Int) else -2 := by
  have w6 := hwf.2.2.2.2.2.2.2.1 i
  unfold x_follow
  rw [if_neg (by omega)]
  have q := x_fol_wz h hz hl i fr (T 6 i).toNat 0
  by_cases g : stl T (T 6 i).toNat (5 * i) <+: (wz T z).drop fr
  · rw [if_pos g, if_pos (q.mpr g), stl_len]; omega
  · rw [if_neg g, if_neg (fun k => g (q.mp k))]
theorem x_follow_neg {T Y : wa_St} {hei : Int} (i : Nat) {fr : Int} (h : fr < 0) : x_follow T Y i fr hei = -2 := if_pos h
/-- the steps of n forefathers, the farthest first -/
def gq (T : wa_St) : Nat → Int → List (Int × Int)
  | 0, _ => []
  | n + 1, z => stl T (T 6 (x_fa T n z).toNat).toNat (5 * (x_fa T n z).toNat) ++ gq T n z
theorem gq_near (T : wa_St) : ∀ (n : Nat) (z : Int), gq T (n + 1) z = gq T n (T 4 z.toNat) ++ stl T (T 6 z.toNat).toNat (5 * z.toNat) := by
  intro n
  induction n with
  | zero => intro z; show stl T _ _ ++ [] = [] ++ stl T _ _; rw [List.append_nil, List.nil_append]; rfl
  | succ n ih =>
    intro z
    show stl T _ _ ++ gq T (n + 1) z = _
    rw [ih z, ← List.append_assoc]
    rfl
theorem gq_gp (T : wa_St) : ∀ (n : Nat) (z : Int), gq T (x_dp T n z).toNat z = gp T n z := by
  intro n
  induction n with
  | zero => intro z; rfl
  | succ n ih =>
    intro z
    by_cases q : z < 0
    · rw [x_dp_m q, gp_neg T _ q]; rfl
    · have r := x_dp_rng T n (T 4 z.toNat)
      rw [x_dp_n (by omega), show (x_dp T n (T 4 z.toNat) + 1).toNat = (x_dp T n (T 4 z.toNat)).toNat + 1 by omega, gq_near, ih]
      exact (if_neg q).symm
theorem x_mn_neg {T Y : wa_St} {hei i : Int} : ∀ (n : Nat), x_mn T Y hei i n (-2) = -2 := by
  intro n
  induction n with
  | zero => rfl
  | succ n ih => show x_mn T Y hei i n (x_follow T Y _ (-2) hei) = -2; rw [x_follow_neg _ (by decide)]; exact ih
theorem dp_app {α : Type} (w a b : List α) (k : Nat) : (a ++ b) <+: w.drop k ↔ a <+: w.drop k ∧ b <+: w.drop (k + a.length) := by
  induction a generalizing k with
  | nil => exact ⟨fun g => ⟨List.nil_prefix, g⟩, fun g => g.2⟩
  | cons x a ih =>
    rw [List.cons_append, dp_cons, dp_cons, ih (k + 1), show k + (x :: a).length = k + 1 + a.length from by rw [List.length_cons]; omega]
    exact ⟨fun ⟨h1, h2, h3⟩ => ⟨⟨h1, h2⟩, h3⟩, fun ⟨⟨h1, h2⟩, h3⟩ => ⟨h1, h2, h3⟩⟩
theorem x_mn_wz {T : wa_St} (hwf : wf T) (h : lu T) {z : Int} (hz : -1 ≤ z ∧ z < T 12 0) (hl : (wz T z).length ≤ 50) (i : Int) : ∀ (n fr : Nat), x_mn T (x_cY T z) ((wz T z).length : Int) i n (fr : Int) = if gq T n i <+: (wz T z).drop fr then (((fr + (gq T n i).length : Nat)) : Int) else -2 := by
  intro n
  induction n with
  | zero => intro fr; exact (if_pos List.nil_prefix).symm
  | succ n ih =>
    intro fr
    show x_mn T (x_cY T z) ((wz T z).length : Int) i n (x_follow T (x_cY T z) (x_fa T n i).toNat (fr : Int) ((wz T z).length : Int)) = if (stl T (T 6 (x_fa T n i).toNat).toNat (5 * (x_fa T n i).toNat) ++ gq T n i) <+: (wz T z).drop fr then _ else _
    rw [x_follow_wz hwf h hz hl]
    by_cases g : stl T (T 6 (x_fa T n i).toNat).toNat (5 * (x_fa T n i).toNat) <+: (wz T z).drop fr
    · rw [if_pos g, ih]
      by_cases g2 : gq T n i <+: (wz T z).drop (fr + (stl T (T 6 (x_fa T n i).toNat).toNat (5 * (x_fa T n i).toNat)).length)
      · rw [if_pos g2, if_pos ((dp_app _ _ _ _).mpr ⟨g, g2⟩)]
        show _ = (((fr + (stl T (T 6 (x_fa T n i).toNat).toNat (5 * (x_fa T n i).toNat) ++ gq T n i).length : Nat)) : Int)
        rw [List.length_append, Nat.add_assoc]
      · rw [if_neg g2, if_neg (fun k => g2 ((dp_app _ _ _ _).mp k).2)]
    · rw [if_neg g, if_neg (fun k => g ((dp_app _ _ _ _).mp k).1)]
      exact x_mn_neg n
theorem made_gd {T : wa_St} (hwf : wf T) (h : lu T) (h50 : ∀ i : Nat, (i : Int) < T 8 0 → 0 ≤ T 7 i → (wz T (T 14 (T 7 i).toNat)).length ≤ 50) {z : Int} (h0 : 0 ≤ z) (hz : z < T 8 0) : x_made T z.toNat ↔ gd T z := by
  have w8 := hwf.2.1
  by_cases h7 : 0 ≤ T 7 z.toNat
  · have r := (top_rng hwf (i := z.toNat) (by omega) h7).1
    have l50 := h50 z.toNat (by omega) h7
    have e1 := x_hi_wz h 50 _ r l50
    have e2 := x_mn_wz hwf h r l50 (z.toNat : Int) (x_dp T 10 (z.toNat : Int)).toNat 0
    rw [gq_gp, show gp T 10 (z.toNat : Int) = gz T z from by rw [Int.toNat_of_nonneg h0]; exact gp_eq (wf_pa hwf) 10 (z.toNat + 1) z hz (by omega) (by omega)] at e2
    unfold x_made gd
    rw [e1]
    constructor
    · intro ⟨_, g⟩
      rw [show (0 : Int) = ((0 : Nat) : Int) from rfl, e2] at g
      by_cases k : gz T z <+: (wz T (T 14 (T 7 z.toNat).toNat)).drop 0
      · rw [if_pos k] at g
        rw [List.drop_zero] at k
        exact ⟨h7, (k.eq_of_length (by omega)).symm⟩
      · rw [if_neg k] at g; omega
    · intro ⟨_, g⟩
      refine ⟨h7, ?_⟩
      rw [show x_mn T (x_cY T (T 14 (T 7 z.toNat).toNat)) ((wz T (T 14 (T 7 z.toNat).toNat)).length : Int) (z.toNat : Int) (x_dp T 10 (z.toNat : Int)).toNat 0 = _ from e2, if_pos (by rw [g, List.drop_zero]; exact List.prefix_refl _), g]
      omega
  · exact ⟨fun g => absurd g.1 h7, fun g => absurd g.1 h7⟩
theorem mds_fs {T : wa_St} (hwf : wf T) (h : lu T) (h50 : ∀ i : Nat, (i : Int) < T 8 0 → 0 ≤ T 7 i → (wz T (T 14 (T 7 i).toNat)).length ≤ 50) : ∀ (n : Nat) (z : Int), -1 ≤ z → z < T 8 0 → z < (n : Int) → (x_mds T n z = true ↔ fs T n z) := by
  intro n
  induction n with
  | zero => intro z _ _ _; exact ⟨fun _ => trivial, fun _ => rfl⟩
  | succ n ih =>
    intro z hm hz hn
    show (decide (z < 0) || (decide (x_made T z.toNat) && x_mds T n (T 4 z.toNat))) = true ↔ (z < 0 ∨ (gd T z ∧ fs T n (T 4 z.toNat)))
    by_cases q : z < 0
    · rw [decide_eq_true q]
      exact ⟨fun _ => Or.inl q, fun _ => rfl⟩
    · have b := wf_pa hwf z.toNat (by omega)
      have i := ih (T 4 z.toNat) (by omega) (by omega) (by omega)
      rw [decide_eq_false q, Bool.false_or, Bool.and_eq_true, decide_eq_true_iff, i, made_gd hwf h h50 (by omega) hz]
      exact ⟨fun g => Or.inr g, fun g => g.resolve_left q⟩
theorem fresh_fs {T : wa_St} (hwf : wf T) (h : lu T) {z : Int} (h0 : 0 ≤ z) (hz : z < T 8 0) : f_fresh T z.toNat = true ↔ fs T 10 z := by
  have w8 := hwf.2.1
  unfold f_fresh
  rw [Int.toNat_of_nonneg h0, fr_fs hwf h _ z (by omega) hz (by omega)]
  exact fs_eq (wf_pa hwf) _ _ z hz (by omega) (by omega)
theorem frs_fresh {T : wa_St} (hwf : wf T) (h : lu T) {z : Int} (h0 : 0 ≤ z) (hz : z < T 8 0) : x_frs T 10 z = true ↔ f_fresh T z.toNat = true := by
  have w8 := hwf.2.1
  rw [fresh_fs hwf h h0 hz, frs_fs hwf h 10 z (by omega) hz (by omega)]
theorem mds_fresh {T : wa_St} (hwf : wf T) (h : lu T) (h50 : ∀ i : Nat, (i : Int) < T 8 0 → 0 ≤ T 7 i → (wz T (T 14 (T 7 i).toNat)).length ≤ 50) {z : Int} (h0 : 0 ≤ z) (hz : z < T 8 0) : x_mds T 10 z = true ↔ f_fresh T z.toNat = true := by
  have w8 := hwf.2.1
  rw [fresh_fs hwf h h0 hz, mds_fs hwf h h50 10 z (by omega) hz (by omega)]
