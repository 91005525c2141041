/-! pure: what each deed of the law leaves, second part -/
-- bakeAll
/-- what a bakeAll that isn't refused leaves -/
def wA (n : Nat) (T T1 : wa_St) (v : Int) : Prop := gi (n + 1) T1 ∧ mg T1 ∧ (T1 8 0 = T 8 0 ∧ T1 29 0 = T 29 0) ∧ (0 ≤ v ∧ T1 21 0 = T 21 0 + v) ∧ (∀ i : Nat, (i : Int) < T 8 0 → gd T1 (i : Int)) ∧ ∀ G, LG T G → LG T1 G
theorem fs_all {T : wa_St} (hp : pa T) (hg : ∀ i : Nat, (i : Int) < T 8 0 → gd T (i : Int)) : ∀ (n : Nat) (z : Int), z < T 8 0 → fs T n z := by
  intro n
  induction n with
  | zero => intro z _; trivial
  | succ n ih =>
    intro z hz
    by_cases q : z < 0
    · exact Or.inl q
    · have w4 := hp z.toNat (by omega)
      have g := hg z.toNat (by omega)
      rw [show ((z.toNat : Nat) : Int) = z by omega] at g
      exact Or.inr ⟨g, ih _ (by omega)⟩
theorem wA.fresh {n : Nat} {T T1 : wa_St} {v : Int} (h : wA n T T1 v) {i : Nat} (hi : (i : Int) < T1 8 0) : x_frs T1 10 (i : Int) = true := by
  have e8 := h.2.2.1.1
  exact (im_fr h.1 (by omega) hi).mpr (fs_all (wf_pa h.1.1) (fun j hj => h.2.2.2.2.1 j (by omega)) 10 (i : Int) hi)
theorem w_all {n : Nat} {T X : wa_St} (h : gi n T) (hxr : xr T X) (hm : mg T) : (k_all T = 0 ∧ wA n T (s_all T) (v_all T)) ∨ (k_all T = 1 ∧ gi (n + 1) (s_all T) ∧ mg (s_all T) ∧ c4 T (s_all T) ∧ ∀ G, LG T G → LG (s_all T) G) := by
  obtain ⟨hpk, hv⟩ := pk_all h hxr
  have hj := j_all_eq h hxr
  have w28 := h.1.2.2.2.2.2.2.2.2.2.2.2.2.1
  obtain ⟨p1, p2, p3, p4⟩ := hpk
  obtain ⟨P, hP7, hPB, ⟨r1, r2, r3, r4⟩ | ⟨r1, r2, S', r3⟩⟩ := all_sim h hxr
  · have k0 : k_all T = 0 := if_pos r1
    have es : s_all T = wa_s (f_all T).1 0 0 0 := if_pos r1
    obtain ⟨s1, s2, s3, s4, s5, s6, s7, s8, s9, s10⟩ := r2
    have hex : eqx (x_ba (x_L T X) 10 0 T) (s_all T) := by rw [es]; exact s1.symm.trans (eqx.th _ 0 0)
    have o : ∀ a b, a = 3 ∨ a = 4 ∨ a = 6 ∨ a = 8 ∨ a = 28 ∨ a = 29 → s_all T a b = T a b := fun a b ha => (hex a b (by omega) (by omega) (by omega)).symm.trans (s8.o a b (by omega))
    have e21 : x_ba (x_L T X) 10 0 T 21 0 = s_all T 21 0 := hex 21 0 (by decide) (by decide) (by decide)
    have hv := hv k0
    have hc := f_cnt_rng (x_nc T) (T 8 0).toNat
    refine Or.inl ⟨k0, p3, hm.same (o 29 0 (by omega)) (fun m _ => o 28 m (by omega)) (fun m hm2 hn => ?_), ⟨o 8 0 (by omega), o 29 0 (by omega)⟩, ⟨by omega, by omega⟩, fun i hi => (hex.egd _).mp (r3 (i : Int) (by omega) hi), fun G hG => hG.same (o 8 0 (by omega)) (fun j => o 4 j (by omega)) (fun j => o 6 j (by omega)) (fun j => o 3 j (by omega))⟩
    have := w28 m hm2
    exact (hex 18 _ (by decide) (by decide) (by decide)).symm.trans (s8.2.1 18 (T 28 m).toNat (by decide) (by decide) (by omega))
  · have k1 : k_all T = 1 := if_neg (by rw [r1]; decide)
    have eS : o_x (j_all T) T (x_ba (x_L T X) 10 0 T) = T := if_neg (by rw [hj, k1]; decide)
    rw [eS] at p2
    have o : ∀ a b, a = 3 ∨ a = 4 ∨ a = 6 ∨ a = 8 ∨ a = 28 ∨ a = 29 → s_all T a b = T a b := fun a b ha => (p2.1 a b (by omega)).symm
    refine Or.inr ⟨k1, p3, hm.same (o 29 0 (by omega)) (fun m _ => o 28 m (by omega)) (fun m hm2 hn => ?_), ⟨o 8 0 (by omega), p2.2.1.symm, p2.2.2.1.symm, o 29 0 (by omega)⟩, fun G hG => hG.same (o 8 0 (by omega)) (fun j => o 4 j (by omega)) (fun j => o 6 j (by omega)) (fun j => o 3 j (by omega))⟩
    have := w28 m hm2
    exact (p2.2.2.2.1 18 (T 28 m).toNat (by decide) (by decide) (by omega)).symm
/-- .. and a second one makes none -/
theorem w_all2 {n : Nat} {T X : wa_St} (h : gi n T) (hxr : xr T X) (hg : ∀ i : Nat, (i : Int) < T 8 0 → gd T (i : Int)) : k_all T = 0 ∧ v_all T = 0 := by
  obtain ⟨hpk, hv⟩ := pk_all h hxr
  have w8 := h.1.2.1
  have w21 := h.1.2.2.1
  have c0 : f_cnt (x_nc T) (T 8 0).toNat = 0 := f_cnt_0 _ (fun e he => by
    have q := nc_gd h.1 h.2.1 (z := (e : Int)) (by omega) (by omega)
    rw [Int.toNat_natCast] at q
    rw [q]
    exact fun z => z (hg e (by omega)))
  obtain ⟨P, hP7, hPB, ⟨r1, r2, r3, r4⟩ | ⟨r1, r2, S', r3⟩⟩ := all_sim h hxr
  · have k0 : k_all T = 0 := if_pos r1
    refine ⟨k0, ?_⟩
    rw [← hv k0, r4, c0]
    omega
  · omega
-- bakes: their cells
theorem w_test {n : Nat} {T : wa_St} (h : gi n T) (hm : mg T) {b : Nat} (hb : (b : Int) < T 21 0) (q : Int) : (k_test T b = 2 ∧ T 18 b ≠ 0) ∨ (k_test T b = 0 ∧ T 18 b = 0 ∧ gi (n + 1) (a_test T b q) ∧ mg (a_test T b q) ∧ c4 T (a_test T b q) ∧ a_test T b q 17 b = bI (T 17 b ≠ 0 ∨ q = 0) ∧ ∀ G, LG T G → LG (a_test T b q) G) := by
  have hpk := (pk_test h b q).2.2.1
  by_cases c : T 18 b ≠ 0
  · refine Or.inl ⟨?_, c⟩
    unfold k_test
    rw [Int.toNat_natCast, if_neg (not_not_intro ⟨by omega, by omega⟩), if_pos c]
  · have k0 : k_test T b = 0 := by
      unfold k_test
      rw [Int.toNat_natCast, if_neg (not_not_intro ⟨by omega, by omega⟩), if_neg c]
    rw [k0] at hpk
    refine Or.inr ⟨k0, Decidable.not_not.mp c, hpk, hm.same rfl (fun _ _ => rfl) (fun _ _ _ => rfl), ⟨rfl, rfl, rfl, rfl⟩, ?_, fun G hG => hG.same rfl (fun _ => rfl) (fun _ => rfl) (fun _ => rfl)⟩
    unfold a_test
    rw [Int.toNat_natCast]
    exact wa_s_eq
theorem w_hold {n : Nat} {T : wa_St} (h : gi n T) (hm : mg T) {b : Nat} (hb : (b : Int) < T 21 0) : (k_hold T b = 2 ∧ (T 18 b ≠ 0 ∨ T 17 b ≠ 0)) ∨ (k_hold T b = 0 ∧ T 18 b = 0 ∧ T 17 b = 0 ∧ gi (n + 1) (a_hold T b) ∧ mg (a_hold T b) ∧ c4 T (a_hold T b) ∧ a_hold T b 17 b = 1 ∧ ∀ G, LG T G → LG (a_hold T b) G) := by
  have hpk := (pk_hold h b).2.2.1
  by_cases c : T 18 b ≠ 0 ∨ T 17 b ≠ 0
  · refine Or.inl ⟨?_, c⟩
    unfold k_hold
    rw [Int.toNat_natCast, if_neg (not_not_intro ⟨by omega, by omega⟩), if_pos c]
  · have k0 : k_hold T b = 0 := by
      unfold k_hold
      rw [Int.toNat_natCast, if_neg (not_not_intro ⟨by omega, by omega⟩), if_neg c]
    rw [k0] at hpk
    refine Or.inr ⟨k0, by omega, by omega, hpk, hm.same rfl (fun _ _ => rfl) (fun _ _ _ => rfl), ⟨rfl, rfl, rfl, rfl⟩, ?_, fun G hG => hG.same rfl (fun _ => rfl) (fun _ => rfl) (fun _ => rfl)⟩
    unfold a_hold
    rw [Int.toNat_natCast]
    exact wa_s_eq
theorem w_raise {n : Nat} {T : wa_St} (h : gi n T) (hm : mg T) {b : Nat} (hb : (b : Int) < T 21 0) : k_raise T b = 2 ∨ (k_raise T b = 0 ∧ T 18 b = 0 ∧ T 17 b = 0 ∧ gi (n + 1) (a_raise T b) ∧ mg (a_raise T b) ∧ c4 T (a_raise T b) ∧ k_raise (a_raise T b) b = 2 ∧ ∀ G, LG T G → LG (a_raise T b) G) := by
  have hpk := (pk_raise h b).2.2.1
  by_cases c : T 18 b ≠ 0 ∨ T 17 b ≠ 0 ∨ T 16 b = 2 ∨ T 19 b = 0
  · refine Or.inl ?_
    unfold k_raise
    rw [Int.toNat_natCast, if_neg (not_not_intro ⟨by omega, by omega⟩), if_pos c]
  · have k0 : k_raise T b = 0 := by
      unfold k_raise
      rw [Int.toNat_natCast, if_neg (not_not_intro ⟨by omega, by omega⟩), if_neg c]
    rw [k0] at hpk
    refine Or.inr ⟨k0, by omega, by omega, hpk, hm.same rfl (fun _ _ => rfl) (fun _ _ _ => rfl), ⟨rfl, rfl, rfl, rfl⟩, ?_, fun G hG => hG.same rfl (fun _ => rfl) (fun _ => rfl) (fun _ => rfl)⟩
    have e19 : a_raise T b 19 b = 0 := by
      unfold a_raise
      rw [Int.toNat_natCast]
      exact wa_s_eq
    unfold k_raise
    rw [Int.toNat_natCast, if_neg (not_not_intro ⟨by omega, show (b : Int) ≤ T 21 0 - 1 by omega⟩), if_pos (Or.inr (Or.inr (Or.inr e19)))]
theorem w_copy {n : Nat} {T : wa_St} (h : gi n T) (hn : n ≤ 600) (hm : mg T) {b : Nat} (hb : (b : Int) < T 21 0) {q : Int} (hq : 0 ≤ q ∧ q ≤ 2) : k_copy T b q = 3 ∨ (k_copy T b q = 0 ∧ 0 ≤ T 1 0 + T 22 q.toNat ∧ gi (n + 1) (a_copy T b q) ∧ mg (a_copy T b q) ∧ c4 T (a_copy T b q) ∧ k_copy (a_copy T b q) b q = 3 ∧ ∀ G, LG T G → LG (a_copy T b q) G) := by
  have hpk := (pk_copy h hn b q).2.2.1
  have g8 := h.2.2.2.2.2.2.2.2.1 q.toNat
  have g9 := h.2.2.2.2.2.2.2.2.2.1
  by_cases c : T 18 b ≠ 0 ∨ T 20 (3 * b + q.toNat) ≠ -1
  · refine Or.inl ?_
    unfold k_copy
    rw [Int.toNat_natCast, if_neg (not_not_intro ⟨by omega, by omega⟩), if_neg (not_not_intro hq), if_pos c]
  · have k0 : k_copy T b q = 0 := by
      unfold k_copy
      rw [Int.toNat_natCast, if_neg (not_not_intro ⟨by omega, by omega⟩), if_neg (not_not_intro hq), if_neg c]
    rw [k0] at hpk
    refine Or.inr ⟨k0, by omega, hpk, hm.same rfl (fun _ _ => rfl) (fun _ _ _ => rfl), ⟨rfl, rfl, rfl, rfl⟩, ?_, fun G hG => hG.same rfl (fun _ => rfl) (fun _ => rfl) (fun _ => rfl)⟩
    have e20 : a_copy T b q 20 (3 * b + q.toNat) = T 1 0 + T 22 q.toNat := by
      unfold a_copy
      rw [Int.toNat_natCast]
      exact wa_s_eq
    unfold k_copy
    rw [Int.toNat_natCast, if_neg (not_not_intro ⟨by omega, show (b : Int) ≤ T 21 0 - 1 by omega⟩), if_neg (not_not_intro hq), if_pos (Or.inr (by omega))]
theorem w_rules {n : Nat} {T : wa_St} (h : gi n T) (hm : mg T) {q d st kp : Int} (hq : 0 ≤ q ∧ q ≤ 2) (hd : 0 ≤ d ∧ d ≤ 9) (hs : 0 ≤ st ∧ st ≤ 99) (hk : 0 ≤ kp ∧ kp ≤ 99) : k_rules q d st kp = 0 ∧ gi (n + 1) (a_rules T q d st kp) ∧ mg (a_rules T q d st kp) ∧ c4 T (a_rules T q d st kp) ∧ ∀ G, LG T G → LG (a_rules T q d st kp) G := by
  have hpk := (pk_rules h q d st kp).2.2.1
  have k0 : k_rules q d st kp = 0 := if_pos ⟨hq, hd, hs, hk⟩
  rw [k0] at hpk
  exact ⟨k0, hpk, hm.same rfl (fun _ _ => rfl) (fun _ _ _ => rfl), ⟨rfl, rfl, rfl, rfl⟩, fun G hG => hG.same rfl (fun _ => rfl) (fun _ => rfl) (fun _ => rfl)⟩
-- machines
theorem f_last_can (p : Nat → Bool) : ∀ n, f_last p n ≠ -1 → p (f_last p n).toNat = true
  | 0, h => absurd rfl h
  | n + 1, h => by
    by_cases q : p n = true
    · rw [f_last_t q, Int.toNat_natCast]; exact q
    · rw [f_last_f q] at h ⊢
      exact f_last_can p n h
theorem can_vs {n : Nat} {T : wa_St} (h : gi n T) {i pl rg z : Int} (hz : f_bakeFor T i pl rg = z) (hn : z ≠ -1) : (0 ≤ z ∧ z < T 21 0) ∧ T 18 z.toNat = 0 ∧ v_state T z.toNat < 10 ∧ rg ≤ v_state T z.toNat := by
  have br := f_bakeFor_rng3 h.1 i pl rg
  subst hz
  have hc : f_can T i pl rg (f_bakeFor T i pl rg).toNat = true := f_last_can _ _ hn
  obtain ⟨c1, c2, c3, c4, c5, c6⟩ := f_can_iff.mp hc
  obtain ⟨v1, v2, v3, v4, v5, v6, v7, v8⟩ := vs_t h (f_bakeFor T i pl rg).toNat
  have := v5.mpr ⟨c3, c5, c4⟩
  exact ⟨by omega, c4, this, by omega⟩
theorem w_start {n : Nat} {T : wa_St} (h : gi n T) (hm : mg T) {i : Nat} (hi : (i : Int) < T 8 0) {q r : Int} (hq : 0 ≤ q ∧ q ≤ 2) (hr : 0 ≤ r ∧ r ≤ 2) : k_start T i q r = 3 ∨ (k_start T i q r = 0 ∧ T 29 0 < 30 ∧ gi (n + 1) (a_start T i q r) ∧ mg (a_start T i q r) ∧ (a_start T i q r 8 0 = T 8 0 ∧ a_start T i q r 12 0 = T 12 0 ∧ a_start T i q r 21 0 = T 21 0 ∧ a_start T i q r 29 0 = T 29 0 + 1) ∧ (∃ b : Nat, (b : Int) < T 21 0 ∧ a_start T i q r 28 (T 29 0).toNat = (b : Int) ∧ v_state (a_start T i q r) b < 10 ∧ r ≤ v_state (a_start T i q r) b) ∧ ∀ G, LG T G → LG (a_start T i q r) G) := by
  have hpk := (pk_start h i q r).2.2.1
  have w29 := h.1.2.2.2.2.1
  by_cases c : f_bakeFor T i q r = -1 ∨ T 29 0 = 30
  · refine Or.inl ?_
    unfold k_start
    rw [if_neg (not_not_intro ⟨by omega, by omega⟩), if_neg (not_not_intro ⟨hq, hr⟩), if_pos c]
  · have k0 : k_start T i q r = 0 := by
      unfold k_start
      rw [if_neg (not_not_intro ⟨by omega, by omega⟩), if_neg (not_not_intro ⟨hq, hr⟩), if_neg c]
    rw [k0] at hpk
    obtain ⟨z1, z2, z3, z4⟩ := can_vs h (i := (i : Int)) (pl := q) (rg := r) rfl (fun z => c (Or.inl z))
    have e28 : ∀ m, a_start T i q r 28 m = if m = (T 29 0).toNat then f_bakeFor T i q r else T 28 m := fun m => by simp [a_start, wa_s]
    have e29 : a_start T i q r 29 0 = T 29 0 + 1 := wa_s_eq
    have ev : ∀ b, v_state (a_start T i q r) b = v_state T b := fun _ => rfl
    refine Or.inr ⟨k0, by omega, hpk, fun m hm2 hn => ?_, ⟨rfl, rfl, rfl, e29⟩, ⟨(f_bakeFor T i q r).toNat, by omega, by rw [e28, if_pos rfl]; omega, by rw [ev]; exact z3, by rw [ev]; exact z4⟩, fun G hG => hG.same rfl (fun _ => rfl) (fun _ => rfl) (fun _ => rfl)⟩
    rw [e29] at hm2
    rw [e28] at hn ⊢
    by_cases g : m = (T 29 0).toNat
    · rw [if_pos g] at hn ⊢; exact z2
    · rw [if_neg g] at hn ⊢; exact hm m (by omega) hn
theorem w_stop {n : Nat} {T : wa_St} (h : gi n T) (hm : mg T) {u : Nat} (hu : (u : Int) < T 29 0) : (k_stop T u = 1 ∧ T 28 u = -1) ∨ (k_stop T u = 0 ∧ gi (n + 1) (a_stop T u) ∧ mg (a_stop T u) ∧ c4 T (a_stop T u) ∧ a_stop T u 28 u = -1 ∧ ∀ G, LG T G → LG (a_stop T u) G) := by
  have hpk := (pk_stop h u).2.2.1
  by_cases c : T 28 u = -1
  · refine Or.inl ⟨?_, c⟩
    unfold k_stop f_isRunning
    rw [Int.toNat_natCast, if_neg (fun z => z.2 c)]
  · have k0 : k_stop T u = 0 := by
      unfold k_stop f_isRunning
      rw [Int.toNat_natCast, if_pos ⟨⟨by omega, by omega⟩, c⟩]
    rw [k0] at hpk
    have e28 : ∀ m, a_stop T u 28 m = if m = u then -1 else T 28 m := fun m => by simp [a_stop, wa_s]
    refine Or.inr ⟨k0, hpk, fun m hm2 hn => ?_, ⟨rfl, rfl, rfl, rfl⟩, by rw [e28, if_pos rfl], fun G hG => hG.same rfl (fun _ => rfl) (fun _ => rfl) (fun _ => rfl)⟩
    rw [e28] at hn ⊢
    by_cases g : m = u
    · rw [if_pos g] at hn; exact absurd rfl hn
    · rw [if_neg g] at hn ⊢; exact hm m hm2 hn
theorem w_renew {n : Nat} {T : wa_St} (h : gi n T) (hm : mg T) {u : Nat} (hu : (u : Int) < T 29 0) : (k_renew T u = 1 ∧ T 28 u = -1) ∨ (k_renew T u = 2 ∧ T 28 u ≠ -1 ∧ f_next T u = -1) ∨ (k_renew T u = 0 ∧ T 28 u ≠ -1 ∧ (0 ≤ f_next T u ∧ f_next T u < T 21 0) ∧ gi (n + 1) (a_renew T u) ∧ mg (a_renew T u) ∧ c4 T (a_renew T u) ∧ a_renew T u 28 u = f_next T u ∧ v_state (a_renew T u) (f_next T u).toNat < 10 ∧ f_next (a_renew T u) u = f_next T u ∧ ∀ G, LG T G → LG (a_renew T u) G) := by
  have hpk := (pk_renew h u).2.2.1
  by_cases c : T 28 u = -1
  · refine Or.inl ⟨?_, c⟩
    unfold k_renew f_isRunning
    rw [Int.toNat_natCast, if_pos (fun z => z.2 c)]
  · by_cases d : f_next T u = -1
    · refine Or.inr (Or.inl ⟨?_, c, d⟩)
      unfold k_renew f_isRunning
      rw [Int.toNat_natCast, if_neg (not_not_intro ⟨⟨by omega, by omega⟩, c⟩), if_pos d]
    · have k0 : k_renew T u = 0 := by
        unfold k_renew f_isRunning
        rw [Int.toNat_natCast, if_neg (not_not_intro ⟨⟨by omega, by omega⟩, c⟩), if_neg d]
      rw [k0] at hpk
      obtain ⟨z1, z2, z3, z4⟩ := can_vs h (i := T 25 u) (pl := T 26 u) (rg := T 27 u) rfl d
      have e28 : ∀ m, a_renew T u 28 m = if m = u then f_next T u else T 28 m := fun m => by
        show (if 28 = 28 ∧ m = (u : Int).toNat then f_next (wa_s T 0 0 0) (u : Int).toNat else T 28 m) = _
        rw [Int.toNat_natCast]
        by_cases g : m = u
        · rw [if_pos ⟨rfl, g⟩, if_pos g]; rfl
        · rw [if_neg (fun z => g z.2), if_neg g]
      refine Or.inr (Or.inr ⟨k0, c, z1, hpk, fun m hm2 hn => ?_, ⟨rfl, rfl, rfl, rfl⟩, by rw [e28, if_pos rfl], z3, rfl, fun G hG => hG.same rfl (fun _ => rfl) (fun _ => rfl) (fun _ => rfl)⟩)
      rw [e28] at hn ⊢
      by_cases g : m = u
      · rw [if_pos g] at hn ⊢; exact z2
      · rw [if_neg g] at hn ⊢; exact hm m hm2 hn
-- pass
theorem ct_cnt (p : Nat → Bool) : ∀ n i, f_cnt p (i + n) = f_cnt p i + f_ct p n i := by
  intro n
  induction n with
  | zero => intro i; show f_cnt p i = f_cnt p i + 0; omega
  | succ n ih =>
    intro i
    have e := ih (i + 1)
    rw [show i + 1 + n = i + (n + 1) by omega] at e
    rw [e]
    show f_cnt p i + bI (p i = true) + f_ct p n (i + 1) = f_cnt p i + (bI (p i = true) + f_ct p n (i + 1))
    omega
abbrev p_gone (T : wa_St) (b : Nat) : Bool := decide (T 18 b ≠ 0)
theorem w_pass {n : Nat} {T : wa_St} (h : gi n T) (hn : n ≤ 600) (hm : mg T) {d : Int} (hd : 1 ≤ d ∧ d ≤ 30) : k_pass d = 0 ∧ gi (n + 1) (f_pout d.toNat (wa_s T 0 0 0) 0).1 ∧ mg (f_pout d.toNat (wa_s T 0 0 0) 0).1 ∧ c4 T (f_pout d.toNat (wa_s T 0 0 0) 0).1 ∧ (f_pin (T 21 0).toNat 0 (wa_s T 1 0 (T 1 0 + d)) 0).2 = f_cnt (p_gone (f_pout d.toNat (wa_s T 0 0 0) 0).1) (T 21 0).toNat - f_cnt (p_gone T) (T 21 0).toNat ∧ ∀ G, LG T G → LG (f_pout d.toNat (wa_s T 0 0 0) 0).1 G := by
  have k0 : k_pass d = 0 := if_pos hd
  obtain ⟨p1, p2, p3, p4⟩ := pk_pass h hn d
  rw [k0] at p2 p3
  have p2 : rl (f_pin (T 21 0).toNat 0 (wa_s T 1 0 (T 1 0 + d)) 0).1 (f_pout d.toNat (wa_s T 0 0 0) 0).1 := p2
  have p3 : gi (n + 1) (f_pout d.toNat (wa_s T 0 0 0) 0).1 := p3
  have w28 := h.1.2.2.2.2.2.2.2.2.2.2.2.2.1
  have w21 := h.1.2.2.1
  obtain ⟨q1, q2⟩ := f_pin_eq (T 21 0).toNat 0 (wa_s T 1 0 (T 1 0 + d)) 0
  generalize (f_pout d.toNat (wa_s T 0 0 0) 0).1 = T1 at *
  have eo : ∀ a b, a ≠ 18 → a ≠ 1 → (f_pin (T 21 0).toNat 0 (wa_s T 1 0 (T 1 0 + d)) 0).1 a b = T a b := by
    intro a b h18 h1
    rw [q1, if_neg (fun z => h18 z.1), wa_s_nk h1]
  have o : ∀ a b, a = 3 ∨ a = 4 ∨ a = 6 ∨ a = 8 ∨ a = 28 ∨ a = 29 → T1 a b = T a b := fun a b ha => (p2.1 a b (by omega)).symm.trans (eo a b (by omega) (by omega))
  have e21 : T1 21 0 = T 21 0 := p2.2.2.1.symm.trans (eo 21 0 (by decide) (by decide))
  have e12 : T1 12 0 = T 12 0 := p2.2.1.symm.trans (eo 12 0 (by decide) (by decide))
  have e1 : wa_s T 1 0 (T 1 0 + d) 1 0 = T 1 0 + d := wa_s_eq
  have e18 : ∀ b : Nat, (b : Int) < T 21 0 → T1 18 b = if go (wa_s T 1 0 (T 1 0 + d)) (T 1 0 + d) b = true then 1 else T 18 b := by
    intro b hb
    have g := p2.2.2.2.1 18 b (by decide) (by decide) (by rw [eo 21 0 (by decide) (by decide)]; exact hb)
    rw [← g, q1, e1]
    by_cases c : go (wa_s T 1 0 (T 1 0 + d)) (T 1 0 + d) b = true
    · rw [if_pos ⟨rfl, by omega, by omega, c⟩, if_pos c]
    · rw [if_neg (fun z => c z.2.2.2), if_neg c]; rfl
  refine ⟨k0, p3, hm.same (o 29 0 (by omega)) (fun m _ => o 28 m (by omega)) (fun m hm2 hn => ?_), ⟨o 8 0 (by omega), e12, e21, o 29 0 (by omega)⟩, ?_, fun G hG => hG.same (o 8 0 (by omega)) (fun j => o 4 j (by omega)) (fun j => o 6 j (by omega)) (fun j => o 3 j (by omega))⟩
  · have r := w28 m hm2
    rw [e18 _ (by omega), if_neg]
    intro c
    have c2 := (decide_eq_true_eq.mp c).2.2
    have c3 : f_run T ((T 28 m).toNat : Int) = 0 := c2
    rw [show (((T 28 m).toNat : Nat) : Int) = T 28 m by omega] at c3
    have hc : f_run T (T 28 m) = f_cnt (fun e => decide (T 28 e = T 28 m) && decide (e ≠ m)) (T 29 0).toNat + 1 := f_cnt_rm (p := fun e => decide (T 28 e = T 28 m)) (decide_eq_true rfl) (T 29 0).toNat (by omega)
    have := f_cnt_rng (fun e => decide (T 28 e = T 28 m) && decide (e ≠ m)) (T 29 0).toNat
    omega
  · rw [q2, e1]
    have hadd := f_ct_add (p := go (wa_s T 1 0 (T 1 0 + d)) (T 1 0 + d)) (q := p_gone T) (r := p_gone T1) (T 21 0).toNat 0 (fun v _ hv => by
      have e := e18 v (by omega)
      by_cases c : go (wa_s T 1 0 (T 1 0 + d)) (T 1 0 + d) v = true
      · rw [if_pos c] at e
        have c1 : T 18 v = 0 := (decide_eq_true_eq.mp c).1
        rw [bI_t c, bI_t (show p_gone T1 v = true from decide_eq_true (by omega)), bI_f (show ¬ p_gone T v = true from fun z => of_decide_eq_true z c1)]
        rfl
      · rw [if_neg c] at e
        rw [bI_f c]
        by_cases c1 : T 18 v = 0
        · rw [bI_f (show ¬ p_gone T1 v = true from fun z => of_decide_eq_true z (by omega)), bI_f (show ¬ p_gone T v = true from fun z => of_decide_eq_true z c1)]
          rfl
        · rw [bI_t (show p_gone T1 v = true from decide_eq_true (by omega)), bI_t (show p_gone T v = true from decide_eq_true c1)]
          rfl)
    have s1 := ct_cnt (p_gone T1) (T 21 0).toNat 0
    have s2 := ct_cnt (p_gone T) (T 21 0).toNat 0
    rw [Nat.zero_add] at s1 s2
    have z1 : f_cnt (p_gone T1) 0 = 0 := rfl
    have z2 : f_cnt (p_gone T) 0 = 0 := rfl
    omega
