/-! pure: bakeAll -/
theorem f_cp_spec : ∀ (n j : Nat) (T : wa_St), (∀ a b, a ≠ 31 → f_cp n j T a b = T a b) ∧ (∀ b, j ≤ b → b < j + n → f_cp n j T 31 b = T 7 b) ∧ (∀ b, ¬ (j ≤ b ∧ b < j + n) → f_cp n j T 31 b = T 31 b) := by
  intro n
  induction n with
  | zero => intro j T; exact ⟨fun _ _ _ => rfl, fun b h1 h2 => by omega, fun _ _ => rfl⟩
  | succ n ih =>
    intro j T
    obtain ⟨i1, i2, i3⟩ := ih (j + 1) (wa_s T 31 j (T 7 j))
    refine ⟨fun a b h => (i1 a b h).trans (wa_s_nk h), fun b h1 h2 => ?_, fun b h => (i3 b (by omega)).trans (wa_s_nj (by omega))⟩
    by_cases g : b = j
    · rw [g]
      exact (i3 j (by omega)).trans wa_s_eq
    · exact (i2 b (by omega) (by omega)).trans (wa_s_nk (by decide))
theorem f_rs_spec : ∀ (n j : Nat) (T : wa_St), (∀ a b, a ≠ 7 → f_rs n j T a b = T a b) ∧ (∀ b, j ≤ b → b < j + n → f_rs n j T 7 b = T 31 b) ∧ (∀ b, ¬ (j ≤ b ∧ b < j + n) → f_rs n j T 7 b = T 7 b) := by
  intro n
  induction n with
  | zero => intro j T; exact ⟨fun _ _ _ => rfl, fun b h1 h2 => by omega, fun _ _ => rfl⟩
  | succ n ih =>
    intro j T
    obtain ⟨i1, i2, i3⟩ := ih (j + 1) (wa_s T 7 j (T 31 j))
    refine ⟨fun a b h => (i1 a b h).trans (wa_s_nk h), fun b h1 h2 => ?_, fun b h => (i3 b (by omega)).trans (wa_s_nj (by omega))⟩
    by_cases g : b = j
    · rw [g]
      exact (i3 j (by omega)).trans wa_s_eq
    · exact (i2 b (by omega) (by omega)).trans (wa_s_nk (by decide))
theorem f_jo_N {hi : Int} (i : Int) : ∀ (n j : Nat) (T : wa_St) (q : Int), (j : Int) + n ≤ hi → (∀ b, -1 ≤ T 30 b ∧ T 30 b < hi) → ∀ b, -1 ≤ (f_jo i n j T q).1 30 b ∧ (f_jo i n j T q).1 30 b < hi := by
  intro n
  induction n with
  | zero => intro j T q _ h; exact h
  | succ n ih =>
    intro j T q hj h
    by_cases g : T 4 j = i
    · have e : f_jo i (n + 1) j T q = f_jo i n (j + 1) (wa_s T 30 q.toNat (j : Int)) (q + 1) := if_pos g
      rw [e]
      refine ih _ _ _ (by omega) (fun b => ?_)
      unfold wa_s
      split
      · omega
      · exact h b
    · have e : f_jo i (n + 1) j T q = f_jo i n (j + 1) T q := if_neg g
      rw [e]
      exact ih _ _ _ (by omega) h
theorem li.v {S X : wa_St} {a : Nat} {N : wa_St} {e : Int} (h : li (x_v S X) a N e) : li S a N e := ⟨⟨fun x b hx => (h.1.1 x b hx).trans (if_neg hx), h.1.2⟩, h.2⟩
/-- the whole of it: both sides make the same bakes, or both refuse -/
theorem all_sim {n : Nat} {T X : wa_St} (h : gi n T) (hxr : xr T X) : ∃ P : Nat → Int, (∀ b : Nat, (b : Int) < T 8 0 → P b = T 7 b) ∧ (∀ b, -2 ≤ P b ∧ P b ≤ 100000) ∧
    (((f_all T).2 = true ∧ sk T P (f_all T).1 (x_ba (x_L T X) 10 0 T) ∧ (∀ z : Int, 0 ≤ z → z < T 8 0 → gd (x_ba (x_L T X) 10 0 T) z) ∧ (x_ba (x_L T X) 10 0 T) 21 0 = T 21 0 + f_cnt (x_nc T) (T 8 0).toNat) ∨
    ((f_all T).2 = false ∧ 60 < T 21 0 + f_cnt (x_nc T) (T 8 0).toNat ∧ ∃ S' : wa_St, sk T P (f_all T).1 S')) := by
  obtain ⟨g0, g1, g2, g3, g4, g5, g6, g7, g8, g9, g10⟩ := id h
  have hxr' := hxr
  obtain ⟨x1, xB, x3, x4, x5, x6, x7, x8⟩ := hxr'
  have w8 := g0.2.1
  have hwv : wf (x_v T X) := wf_v g0 xB
  obtain ⟨c1, c2, c3⟩ := f_cp_spec (T 8 0).toNat 0 T
  have hl0 : li T 0 (f_jn (x_v T X) (-1) 0).1 (f_jn (x_v T X) (-1) 0).2 := (li.first hwv).v
  obtain ⟨p1, p2, a2, p3, p4⟩ := ln_post 10 0 _ _ (by omega) hl0
  have eM : f_ln 10 0 (f_jn (x_v T X) (-1) 0).1 (f_jn (x_v T X) (-1) 0).2 = f_lna (x_v T X) := rfl
  rw [eM] at p1 p2 p3 p4
  have eL : x_L T X = (f_lna (x_v T X)).1 30 := rfl
  have hNB : ∀ j, -1 ≤ (f_jn (x_v T X) (-1) 0).1 30 j ∧ (f_jn (x_v T X) (-1) 0).1 30 j < T 8 0 := f_jo_N (hi := T 8 0) (-1) _ 0 (x_v T X) 0 (show ((0 : Nat) : Int) + ((T 8 0).toNat : Int) ≤ T 8 0 by omega) (fun b => x3 b)
  have hsame := f_jo_same (-1) (T 8 0).toNat 0 (f_cp (T 8 0).toNat 0 T) (x_v T X) 0 (fun b => c1 4 b (by decide)) (Int.le_refl _) (fun b hb => by omega)
  have ejR : f_jn (f_cp (T 8 0).toNat 0 T) (-1) 0 = f_jo (-1) (T 8 0).toNat 0 (f_cp (T 8 0).toNat 0 T) 0 := by
    unfold f_jn
    rw [c1 8 0 (by decide)]
  have ejN : f_jn (x_v T X) (-1) 0 = f_jo (-1) (T 8 0).toNat 0 (x_v T X) 0 := rfl
  rw [← ejR, ← ejN] at hsame
  have hcpB : ∀ b, -2 ≤ f_cp (T 8 0).toNat 0 T 31 b ∧ f_cp (T 8 0).toNat 0 T 31 b ≤ 100000 := by
    intro b
    by_cases q : 0 ≤ b ∧ b < 0 + (T 8 0).toNat
    · rw [c2 b q.1 q.2]; exact g0.1 7 b
    · rw [c3 b q]; exact g0.1 31 b
  have hs0 : sk T (f_cp (T 8 0).toNat 0 T 31) (f_jn (f_cp (T 8 0).toNat 0 T) (-1) 0).1 T := by
    rw [ejR]
    refine ⟨fun a b h0 h1 h2 => (f_jo_o _ _ _ _ _ a b h1).trans (c1 a b h2), fun b => f_jo_o _ _ _ _ _ 31 b (by decide), f_jo_B _ _ _ _ _ (by omega) (fun b => by rw [c1 30 b (by decide)]; exact g0.1 30 b), fun b => (f_jo_o _ _ _ _ _ 0 b (by decide)).trans (c1 0 b (by decide)), g0, g1, g2, kp.rf T, g6, x5⟩
  have hm0 : sm T (f_cp (T 8 0).toNat 0 T 31) ((f_lna (x_v T X)).1 30) 0 (f_jn (x_v T X) (-1) 0).2 (f_jn (f_cp (T 8 0).toNat 0 T) (-1) 0).1 T := by
    have l3 := hl0.1.2.2.1
    exact ⟨hs0, fun b hb => (hsame.2 b hb).trans (p2 b hb).symm, l3.1, fun b hb => by omega, fun z _ _ _ => rfl, by show T 21 0 = T 21 0 + 0; omega⟩
  have hR : f_all T = f_bl 10 0 (f_jn (f_cp (T 8 0).toNat 0 T) (-1) 0).1 (f_jn (x_v T X) (-1) 0).2 := by
    unfold f_all
    rw [hsame.1]
  have hcnt : f_cnt (fun b => x_nc T ((f_lna (x_v T X)).1 30 b).toNat) (f_lna (x_v T X)).2.toNat = f_cnt (x_nc T) (T 8 0).toNat := by
    obtain ⟨q1, q2, q3, q4, q5, q6⟩ := p4.1
    have e8 : (f_lna (x_v T X)).1 8 0 = T 8 0 := q1 8 0 (by decide)
    refine f_cnt_perm (n := (T 8 0).toNat) (Y := fun b => ((f_lna (x_v T X)).1 30 b).toNat) _ (x_nc T) (fun b hb => ?_) (fun b b' hb hb' e => ?_) (fun k hk _ => ?_)
    · have := q4 b (by omega)
      omega
    · have h1 := q4 b (by omega)
      have h2 := q4 b' (by omega)
      exact q5 b b' (by omega) (by omega) (by have e : ((f_lna (x_v T X)).1 30 b).toNat = ((f_lna (x_v T X)).1 30 b').toNat := e; omega)
    · obtain ⟨b, b1, b2⟩ := p4.all p3 (wf_pa g0) (k + 1) k (by omega) (by omega)
      exact ⟨b, by omega, by show ((f_lna (x_v T X)).1 30 b).toNat = k; omega⟩
  refine ⟨f_cp (T 8 0).toNat 0 T 31, fun b hb => c2 b (by omega) (by omega), hcpB, ?_⟩
  rw [hR, eL, ← hcnt]
  exact bl_sim g0 g1 10 0 _ _ _ T (by omega) hl0 hNB eM hm0
theorem j_all_eq {n : Nat} {T X : wa_St} (h : gi n T) (hxr : xr T X) : j_all T = k_all T := by
  obtain ⟨P, -, -, ⟨r1, r2, r3, r4⟩ | ⟨r1, r2, r3⟩⟩ := all_sim h hxr
  · have w := r2.2.2.2.2.1.2.2.1
    unfold j_all k_all
    rw [if_neg (by omega), if_pos r1]
  · unfold j_all k_all
    rw [if_pos r2, if_neg (by rw [r1]; decide)]
theorem pk_all {n : Nat} {T X : wa_St} (h : gi n T) (hxr : xr T X) : pk n (o_x (j_all T) T (x_ba (x_L T X) 10 0 T)) (s_all T) (k_all T) ∧ (k_all T = 0 → x_ba (x_L T X) 10 0 T 21 0 - T 21 0 = v_all T) := by
  have hj := j_all_eq h hxr
  obtain ⟨g0, g1, g2, g3, g4, g5, g6, g7, g8, g9, g10⟩ := id h
  have w8 := g0.2.1
  obtain ⟨P, hP7, hPB, ⟨r1, r2, r3, r4⟩ | ⟨r1, r2, S', r3⟩⟩ := all_sim h hxr
  · have k0 : k_all T = 0 := if_pos r1
    have es : s_all T = wa_s (f_all T).1 0 0 0 := if_pos r1
    obtain ⟨s1, s2, s3, s4, s5, s6, s7, s8, s9, s10⟩ := r2
    have hex : eqx (x_ba (x_L T X) 10 0 T) (s_all T) := by rw [es]; exact s1.symm.trans (eqx.th _ 0 0)
    have o := s8.o
    have hgS : gi (n + 1) (x_ba (x_L T X) 10 0 T) := by
      have e8 := o 8 0 (by omega)
      refine ⟨s5, s6, s7, fun i hi h7 => ?_, fun j hj => ?_, fun j hj => ?_, s9, fun u => ?_, fun j => ?_, ?_, fun j => ?_⟩
      · have g := (r3 (i : Int) (by omega) (by omega)).2
        rw [Int.toNat_natCast] at g
        rw [g]
        have l := gp_len s5.2.2.2.2.2.2.2.1 ((i : Int).toNat + 1) (i : Int)
        rw [Int.toNat_natCast] at l
        exact l
      · rw [o 6 j (by omega)]; exact g4 j (by omega)
      · rw [o 5 j (by omega)]; exact g5 j (by omega)
      · rw [o 27 u (by omega)]; exact g7 u
      · rw [o 22 j (by omega)]; exact g8 j
      · rw [o 1 0 (by omega)]; omega
      · rw [o 3 j (by omega)]; have := g10 j; omega
    have hwf : wf (s_all T) := by
      rw [es]
      refine wf_eqx s5 ((eqx.th _ 0 0).symm.trans s1) (fun b => ?_) (fun b => ?_) (fun b => ?_)
      · unfold wa_s
        split
        · omega
        · rw [s4]; exact g0.1 0 b
      · rw [wa_s_nk (by decide)]; exact s3 b
      · rw [wa_s_nk (by decide), s2]; exact hPB b
    refine ⟨?_, fun _ => ?_⟩
    · rw [hj, k0]
      show pk n (x_ba (x_L T X) 10 0 T) (s_all T) 0
      exact ⟨by rw [es]; exact wa_s_eq, rl.of hex, hgS.geqx hex hwf, fun _ hx => hx.eqx hex⟩
    · have e21 : (f_all T).1 21 0 = x_ba (x_L T X) 10 0 T 21 0 := s1 21 0 (by decide) (by decide) (by decide)
      have ev : v_all T = (f_all T).1 21 0 - T 21 0 := if_pos r1
      rw [ev, e21]
  · have k1 : k_all T = 1 := if_neg (by rw [r1]; decide)
    refine ⟨?_, fun q => by omega⟩
    rw [hj, k1]
    show pk n T (s_all T) 1
    obtain ⟨s1, s2, s3, s4, s5, s6, s7, s8, s9, s10⟩ := r3
    have es : s_all T = f_rs (T 8 0).toNat 0 (wa_s (wa_s (wa_s (f_all T).1 0 0 1) 21 0 (T 21 0)) 12 0 (T 12 0)) := if_neg (by rw [r1]; decide)
    obtain ⟨q1, q2, q3⟩ := f_rs_spec (T 8 0).toNat 0 (wa_s (wa_s (wa_s (f_all T).1 0 0 1) 21 0 (T 21 0)) 12 0 (T 12 0))
    rw [← es] at q1 q2 q3
    have oR : ∀ a b, a ≠ 0 → a ≠ 30 → a ≠ 31 → a ≠ 7 → a ≠ 21 → a ≠ 12 → s_all T a b = S' a b := by
      intro a b h0 h30 h31 h7 h21 h12
      rw [q1 a b h7, wa_s_nk h12, wa_s_nk h21, wa_s_nk h0]
      exact s1 a b h0 h30 h31
    have e7 : ∀ b, s_all T 7 b = T 7 b := by
      intro b
      by_cases g : (b : Int) < T 8 0
      · rw [q2 b (by omega) (by omega), wa_s_nk (by decide), wa_s_nk (by decide), wa_s_nk (by decide), s2]
        exact hP7 b g
      · rw [q3 b (by omega), wa_s_nk (by decide), wa_s_nk (by decide), wa_s_nk (by decide), s1 7 b (by decide) (by decide) (by decide)]
        exact s8.2.2.2.2.1 b (by omega)
    have e12 : s_all T 12 0 = T 12 0 := (q1 12 0 (by decide)).trans wa_s_eq
    have e21 : s_all T 21 0 = T 21 0 := (q1 21 0 (by decide)).trans ((wa_s_nk (by decide)).trans wa_s_eq)
    have e0 : s_all T 0 0 = 1 := (q1 0 0 (by decide)).trans ((wa_s_nk (by decide)).trans ((wa_s_nk (by decide)).trans wa_s_eq))
    have o : ∀ a b, a = 1 ∨ a = 2 ∨ a = 3 ∨ a = 4 ∨ a = 5 ∨ a = 6 ∨ a = 8 ∨ (22 ≤ a ∧ a ≤ 29) → s_all T a b = T a b := fun a b ha => (oR a b (by omega) (by omega) (by omega) (by omega) (by omega) (by omega)).trans (s8.o a b (by omega))
    have o13 : ∀ a (b : Nat), 13 ≤ a → a ≤ 19 → (b : Int) < T 21 0 → s_all T a b = T a b := fun a b h1 h2 hb => (oR a b (by omega) (by omega) (by omega) (by omega) (by omega) (by omega)).trans (s8.2.1 a b h1 h2 hb)
    have o20 : ∀ b : Nat, (b : Int) < 3 * T 21 0 → s_all T 20 b = T 20 b := fun b hb => (oR 20 b (by omega) (by omega) (by omega) (by omega) (by omega) (by omega)).trans (s8.2.2.1 b hb)
    have hex : ex T (s_all T) := ⟨by rw [e12]; exact Int.le_refl _, fun j hj => by
      have k := s8.2.2.2.2.2.2 j hj
      rw [oR 9 j (by omega) (by omega) (by omega) (by omega) (by omega) (by omega), oR 10 j (by omega) (by omega) (by omega) (by omega) (by omega) (by omega), oR 11 j (by omega) (by omega) (by omega) (by omega) (by omega) (by omega)]
      exact k⟩
    obtain ⟨hB, wr8, wr21, wr12, wr29, wr4, wr7, wr6, wr5, wr13, wr25, wr26, wr28, wr14, wr3, wr17⟩ := g0
    obtain ⟨hB', wq8, wq21, wq12, wq29, wq4, wq7, wq6, wq5, wq13, wq25, wq26, wq28, wq14, wq3, wq17⟩ := s5
    have hwf : wf (s_all T) := by
      refine ⟨fun a b => ?_, by rw [o 8 0 (by omega)]; exact wr8, by rw [e21]; exact wr21, by rw [e12]; exact wr12, by rw [o 29 0 (by omega)]; exact wr29, fun i hi => ?_, fun i hi => ?_, fun i => ?_, fun j => ?_, fun b hb => ?_, fun m hm => ?_, fun m hm => ?_, fun m hm => ?_, fun b hb => ?_, fun j => ?_, fun b => ?_⟩
      · by_cases a7 : a = 7
        · rw [a7, e7]; exact hB 7 b
        · rw [q1 a b a7]
          have b12 := hB 12 0
          have b21 := hB 21 0
          have hR : -2 ≤ (f_all T).1 a b ∧ (f_all T).1 a b ≤ 100000 := by
            by_cases a0 : a = 0
            · rw [a0, s4]; exact hB 0 b
            · by_cases a30 : a = 30
              · rw [a30]; exact s3 b
              · by_cases a31 : a = 31
                · rw [a31, s2]; exact hPB b
                · rw [s1 a b a0 a30 a31]; exact hB' a b
          unfold wa_s
          repeat' split
          all_goals omega
      · rw [o 8 0 (by omega)] at hi; rw [o 4 i (by omega)]; exact wr4 i hi
      · rw [o 8 0 (by omega)] at hi; rw [e7, e21]; exact wr7 i hi
      · rw [o 6 i (by omega)]; exact wr6 i
      · rw [o 5 j (by omega)]; exact wr5 j
      · rw [e21] at hb; rw [o13 13 b (by omega) (by omega) hb, o 8 0 (by omega)]; exact wr13 b hb
      · rw [o 29 0 (by omega)] at hm; rw [o 25 m (by omega), o 8 0 (by omega)]; exact wr25 m hm
      · rw [o 29 0 (by omega)] at hm; rw [o 26 m (by omega)]; exact wr26 m hm
      · rw [o 29 0 (by omega)] at hm; rw [o 28 m (by omega), e21]; exact wr28 m hm
      · rw [e21] at hb; rw [o13 14 b (by omega) (by omega) hb, e12]; exact wr14 b hb
      · rw [o 3 j (by omega)]; exact wr3 j
      · rw [oR 17 b (by omega) (by omega) (by omega) (by omega) (by omega) (by omega), oR 18 b (by omega) (by omega) (by omega) (by omega) (by omega) (by omega), oR 19 b (by omega) (by omega) (by omega) (by omega) (by omega) (by omega)]; exact wq17 b
    have hlu : lu (s_all T) := by
      refine ⟨fun j hj => ?_, fun j k hj hk e9 e10 e11 => ?_⟩
      · rw [e12] at hj; rw [(hex.2 j hj).1]; exact g1.1 j hj
      · rw [e12] at hj hk
        rw [(hex.2 j hj).1, (hex.2 k hk).1] at e9
        rw [(hex.2 j hj).2.1, (hex.2 k hk).2.1] at e10
        rw [(hex.2 j hj).2.2, (hex.2 k hk).2.2] at e11
        exact g1.2 j k hj hk e9 e10 e11
    have hgi : gi (n + 1) (s_all T) := by
      refine ⟨hwf, hlu, by rw [e12, e21]; exact g2, fun i hi h7 => ?_, fun j hj => ?_, fun j hj => ?_, fun b => ?_, fun u => ?_, fun j => ?_, ?_, fun j => ?_⟩
      · rw [o 8 0 (by omega)] at hi
        rw [e7] at h7 ⊢
        have r7 := wr7 i hi
        have r14 := wr14 (T 7 i).toNat (by omega)
        rw [o13 14 _ (by omega) (by omega) (by omega), wz_ex g1 hex r14.2]
        exact g3 i hi h7
      · rw [o 8 0 (by omega)] at hj; rw [o 6 j (by omega)]; exact g4 j hj
      · rw [o 8 0 (by omega)] at hj; rw [o 5 j (by omega)]; exact g5 j hj
      · rw [oR 16 b (by omega) (by omega) (by omega) (by omega) (by omega) (by omega)]; exact s9 b
      · rw [o 27 u (by omega)]; exact g7 u
      · rw [o 22 j (by omega)]; exact g8 j
      · rw [o 1 0 (by omega)]; omega
      · rw [o 3 j (by omega)]; have := g10 j; omega
    refine ⟨e0, ⟨fun a b ha => ?_, e12.symm, e21.symm, fun a b h1 h2 hb => (o13 a b h1 h2 hb).symm, fun b hb => (o20 b hb).symm⟩, hgi, fun Y hy => ?_⟩
    · by_cases a7 : a = 7
      · rw [a7, e7]
      · exact (o a b (by omega)).symm
    · obtain ⟨y1, y2, y3, y4, y5, y6, y7, y8⟩ := hy
      have o8 := o 8 0 (by omega)
      have o29 := o 29 0 (by omega)
      refine ⟨fun j hj => ?_, y2, fun j => by rw [o8]; exact y3 j, fun j hj => y4 j (by rw [← o8]; exact hj), fun j => ?_, fun j => by rw [o8]; exact y6 j, fun j => by rw [o29]; exact y7 j, fun j hj => ?_⟩
      · rw [e12] at hj
        have k := hex.2 j hj
        rw [k.1, k.2.1, k.2.2]
        exact y1 j hj
      · rw [oR 9 j (by omega) (by omega) (by omega) (by omega) (by omega) (by omega)]; exact s10 j
      · rw [e12] at hj
        rw [(hex.2 j hj).1]; exact y8 j hj
theorem l50 {n : Nat} {T : wa_St} (h : gi n T) : ∀ i : Nat, (i : Int) < T 8 0 → 0 ≤ T 7 i → (wz T (T 14 (T 7 i).toNat)).length ≤ 50 := by
  intro i hi h7
  have w8 := h.1.2.1
  have q := h.2.2.2.1 i hi h7
  omega
theorem v_frs {n : Nat} {T : wa_St} (h : gi n T) {i : Int} (k0 : k_img T i = 0) : bI (x_frs T 10 i = true) = bI (k_img T i = 0 ∧ f_fresh (wa_s T 0 0 0) i.toNat = true) := by
  have c : f_isImage T i := by
    unfold k_img at k0
    by_cases a : f_isImage T i
    · exact a
    · rw [if_neg a] at k0; omega
  have e := frs_fresh h.1 h.2.1 c.1 (show i < T 8 0 by omega)
  rw [f_fresh_th]
  by_cases g : f_fresh T i.toNat = true
  · rw [bI_t (e.mpr g), bI_t ⟨k0, g⟩]
  · rw [bI_f (fun q => g (e.mp q)), bI_f (fun q => g q.2)]
theorem v_mds {n : Nat} {T : wa_St} (h : gi n T) {i : Int} (k0 : k_img T i = 0) : bI (x_mds T 10 i = true) = bI (k_img T i = 0 ∧ f_fresh (wa_s T 0 0 0) i.toNat = true) := by
  have c : f_isImage T i := by
    unfold k_img at k0
    by_cases a : f_isImage T i
    · exact a
    · rw [if_neg a] at k0; omega
  have e := mds_fresh h.1 h.2.1 (l50 h) c.1 (show i < T 8 0 by omega)
  rw [f_fresh_th]
  by_cases g : f_fresh T i.toNat = true
  · rw [bI_t (e.mpr g), bI_t ⟨k0, g⟩]
  · rw [bI_f (fun q => g (e.mp q)), bI_f (fun q => g q.2)]
