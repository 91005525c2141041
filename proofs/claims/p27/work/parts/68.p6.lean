/-! pure: bakeAll, the class's way and the reference's side by side -/
theorem eqx.top {T T1 : wa_St} (h : eqx T T1) : ∀ (n s : Nat) (z : Int), f_top T n s z = f_top T1 n s z := by
  intro n
  induction n with
  | zero => intro s z; rfl
  | succ n ih =>
    intro s z
    show (if z = -2 then -2 else f_top T n (s + 1) (f_find T z (T 5 s) (T 2 (T 5 s).toNat))) = (if z = -2 then -2 else f_top T1 n (s + 1) (f_find T1 z (T1 5 s) (T1 2 (T1 5 s).toNat)))
    rw [h 5 s (by decide) (by decide) (by decide), h 2 _ (by decide) (by decide) (by decide), h.find, ih]
theorem eqx.alike {T T1 : wa_St} (h : eqx T T1) (i : Nat) : f_alike T i ↔ f_alike T1 i := by
  unfold f_alike f_topNow
  rw [h.base, h.top, h 7 i (by decide) (by decide) (by decide), h 6 i (by decide) (by decide) (by decide), h 14 _ (by decide) (by decide) (by decide)]
theorem eqx.hasBase {T T1 : wa_St} (h : eqx T T1) (i : Nat) : f_hasBase T i ↔ f_hasBase T1 i := by
  unfold f_hasBase
  rw [h 4 i (by decide) (by decide) (by decide), h 7 _ (by decide) (by decide) (by decide)]
theorem eqx.fr {T T1 : wa_St} (h : eqx T T1) : ∀ (n : Nat) (z : Int), f_fr T n z = f_fr T1 n z := by
  intro n
  induction n with
  | zero => intro z; rfl
  | succ n ih =>
    intro z
    show (decide (z = -1) || (decide (f_hasBase T z.toNat ∧ f_alike T z.toNat) && f_fr T n (T 4 z.toNat))) = (decide (z = -1) || (decide (f_hasBase T1 z.toNat ∧ f_alike T1 z.toNat) && f_fr T1 n (T1 4 z.toNat)))
    have e1 : f_fr T n (T 4 z.toNat) = f_fr T1 n (T1 4 z.toNat) := by rw [ih, h 4 z.toNat (by decide) (by decide) (by decide)]
    rw [e1, decide_eq_decide.mpr (and_congr (h.hasBase z.toNat) (h.alike z.toNat))]
theorem eqx.fresh {T T1 : wa_St} (h : eqx T T1) (i : Nat) : f_fresh T i = f_fresh T1 i := h.fr _ _
theorem f_mk_9 : ∀ (n s : Nat) (T : wa_St) (z : Int), -1 ≤ z → (∀ j, -1 ≤ T 9 j) → 0 ≤ T 12 0 → ∀ j, -1 ≤ (f_mk n s T z).1 9 j := by
  intro n
  induction n with
  | zero => intro s T z _ h _; exact h
  | succ n ih =>
    intro s T z hz h h0
    by_cases q : f_find T z (T 5 s) (T 2 (T 5 s).toNat) = -2
    · have e : f_mk (n + 1) s T z = f_mk n (s + 1) (f_addL T z (T 5 s) (T 2 (T 5 s).toNat)) (T 12 0) := if_pos q
      rw [e]
      refine ih _ _ _ (by omega) (fun j => ?_) (by rw [f_addL_12]; omega)
      rw [f_addL_9]
      split
      · exact hz
      · exact h j
    · have e : f_mk (n + 1) s T z = f_mk n (s + 1) T (f_find T z (T 5 s) (T 2 (T 5 s).toNat)) := if_neg q
      rw [e]
      refine ih _ _ _ ?_ h h0
      rcases find_spec T z (T 5 s) (T 2 (T 5 s).toNat) with ⟨h1, -⟩ | ⟨l, h1, -, h5⟩ <;> omega
theorem f_makes_9 {T : wa_St} {i : Nat} (hb : -1 ≤ f_base T i) (h : ∀ j, -1 ≤ T 9 j) (h0 : 0 ≤ T 12 0) : ∀ j, -1 ≤ f_makes T i 9 j := by
  intro j
  have e : f_makes T i 9 j = (f_mk (T 6 i).toNat (5 * i) T (f_base T i)).1 9 j := f_newB_o (by decide)
  rw [e]
  exact f_mk_9 _ _ _ _ hb h h0 j
/-- what a run of bakes leaves as it was -/
def kp (T0 S : wa_St) : Prop := (∀ a b, a ≠ 9 → a ≠ 10 → a ≠ 11 → a ≠ 12 → a ≠ 13 → a ≠ 14 → a ≠ 15 → a ≠ 16 → a ≠ 17 → a ≠ 18 → a ≠ 19 → a ≠ 20 → a ≠ 7 → a ≠ 21 → S a b = T0 a b) ∧ (∀ a (b : Nat), 13 ≤ a → a ≤ 19 → (b : Int) < T0 21 0 → S a b = T0 a b) ∧ (∀ b : Nat, (b : Int) < 3 * T0 21 0 → S 20 b = T0 20 b) ∧ T0 21 0 ≤ S 21 0 ∧ (∀ j : Nat, T0 8 0 ≤ (j : Int) → S 7 j = T0 7 j) ∧ ex T0 S
theorem kp.rf (T : wa_St) : kp T T := ⟨fun _ _ _ _ _ _ _ _ _ _ _ _ _ _ _ _ => rfl, fun _ _ _ _ _ => rfl, fun _ _ => rfl, Int.le_refl _, fun _ _ => rfl, ex.rf T⟩
theorem kp.mk {T0 S S' : wa_St} {z : Int} (h : kp T0 S) (m : mks S S' z) (h0 : 0 ≤ z) (hz : z < T0 8 0) : kp T0 S' := by
  obtain ⟨k1, k2, k3, k4, k5, k6⟩ := h
  obtain ⟨m1, m2, m3, m4, m5, m6, m7, m8, m9, m10⟩ := m
  refine ⟨fun a b h9 h10 h11 h12 h13 h14 h15 h16 h17 h18 h19 h20 h7 h21 => ?_, fun a b ha ha2 hb => ?_, fun b hb => ?_, by omega, fun j hj => ?_, k6.trans m2⟩
  · rw [m6 a b h9 h10 h11 h12 h13 h14 h15 h16 h17 h18 h19 h20 h7 h21]
    exact k1 a b h9 h10 h11 h12 h13 h14 h15 h16 h17 h18 h19 h20 h7 h21
  · rw [m7 a b ha ha2 (by omega)]; exact k2 a b ha ha2 hb
  · rw [m8 b (by omega)]; exact k3 b hb
  · rw [m5, if_neg (by omega)]; exact k5 j hj
theorem kp.o {T0 S : wa_St} (h : kp T0 S) (a b : Nat) (ha : a = 0 ∨ a = 1 ∨ a = 2 ∨ a = 3 ∨ a = 4 ∨ a = 5 ∨ a = 6 ∨ a = 8 ∨ 22 ≤ a) : S a b = T0 a b := h.1 a b (by omega) (by omega) (by omega) (by omega) (by omega) (by omega) (by omega) (by omega) (by omega) (by omega) (by omega) (by omega) (by omega) (by omega)
theorem kp.kgz {T0 S : wa_St} (h : kp T0 S) (z : Int) : gz S z = gz T0 z := gz_same (fun j => h.o 4 j (by omega)) (fun j => h.o 6 j (by omega)) (fun j => h.o 5 j (by omega)) (fun j => h.o 2 j (by omega)) z
theorem kp.kgd {T0 S : wa_St} (h : kp T0 S) (hwf : wf T0) (hlu : lu T0) {z : Int} (h0 : 0 ≤ z) (hz : z < T0 8 0) (h7 : S 7 z.toNat = T0 7 z.toNat) : gd S z ↔ gd T0 z := by
  unfold gd
  rw [h.kgz, h7]
  constructor
  · intro ⟨a, g⟩
    have r := top_rng hwf (i := z.toNat) (by omega) a
    rw [h.2.1 14 _ (by omega) (by omega) (by omega), wz_ex hlu h.2.2.2.2.2 r.1.2] at g
    exact ⟨a, g⟩
  · intro ⟨a, g⟩
    have r := top_rng hwf (i := z.toNat) (by omega) a
    rw [h.2.1 14 _ (by omega) (by omega) (by omega), wz_ex hlu h.2.2.2.2.2 r.1.2]
    exact ⟨a, g⟩
/-- what both sides keep all along -/
def sk (T0 : wa_St) (P : Nat → Int) (R S : wa_St) : Prop := eqx R S ∧ (∀ b, R 31 b = P b) ∧ (∀ b, -2 ≤ R 30 b ∧ R 30 b ≤ 100000) ∧ (∀ b, R 0 b = T0 0 b) ∧ wf S ∧ lu S ∧ S 12 0 ≤ 5 * S 21 0 ∧ kp T0 S ∧ (∀ b, 0 ≤ S 16 b ∧ S 16 b ≤ 2) ∧ (∀ b, -1 ≤ S 9 b)
theorem sk.jn {T0 : wa_St} {P : Nat → Int} {R S : wa_St} (h : sk T0 P R S) (hwf0 : wf T0) (i e : Int) : sk T0 P (f_jn R i e).1 S := by
  obtain ⟨h1, h2, h3, h4, h5⟩ := h
  have e8 : R 8 0 = S 8 0 := h1 8 0 (by decide) (by decide) (by decide)
  have w8 := h5.1.2.1
  refine ⟨fun a b a0 a1 a2 => ?_, fun b => ?_, fun b => ?_, fun b => ?_, h5⟩
  · exact (f_jo_o i _ 0 R e a b a1).trans (h1 a b a0 a1 a2)
  · exact (f_jo_o i _ 0 R e 31 b (by decide)).trans (h2 b)
  · exact f_jo_B i _ 0 R e (by omega) h3 b
  · exact (f_jo_o i _ 0 R e 0 b (by decide)).trans (h4 b)
theorem sk.mk {T0 : wa_St} {P : Nat → Int} {R S : wa_St} (h : sk T0 P R S) (hwf0 : wf T0) {z : Int} (h0 : 0 ≤ z) (hz : z < T0 8 0) (hp : S 4 z.toNat < 0 ∨ gd S (S 4 z.toNat)) (h60 : S 21 0 < 60) : sk T0 P (f_makes R z.toNat) (f_makes S z.toNat) ∧ mks S (f_makes S z.toNat) z := by
  obtain ⟨h1, h2, h3, h4, h5, h6, h7, h8, h9, h10⟩ := h
  have e8 := h8.o 8 0 (by omega)
  have m := mks.of h5 h6 h0 (by omega) hp (by omega)
  obtain ⟨hb, -, br, -⟩ := base_wz h5 h0 (by omega) hp
  obtain ⟨m1, m2, m3, m4, m5, m6, m7, m8, m9, m10⟩ := id m
  have hb' : f_hasBase R z.toNat := (h1.hasBase _).mpr hb
  have hmk := eqx.mk (R 6 z.toNat).toNat (5 * z.toNat) (eqx.rf R) (f_base R z.toNat)
  have hR : ∀ a b, a = 0 ∨ a = 30 ∨ a = 31 → f_makes R z.toNat a b = R a b := by
    intro a b ha
    have e : f_makes R z.toNat a b = (f_mk (R 6 z.toNat).toNat (5 * z.toNat) R (f_base R z.toNat)).1 a b := f_newB_o (by omega)
    rw [e]
    have key : ∀ (n s : Nat) (T : wa_St) (y : Int), (f_mk n s T y).1 a b = T a b := by
      intro n
      induction n with
      | zero => intro s T y; rfl
      | succ n ih =>
        intro s T y
        by_cases q : f_find T y (T 5 s) (T 2 (T 5 s).toNat) = -2
        · have e : f_mk (n + 1) s T y = f_mk n (s + 1) (f_addL T y (T 5 s) (T 2 (T 5 s).toNat)) (T 12 0) := if_pos q
          rw [e, ih, f_addL_o (by omega) (by omega) (by omega) (by omega)]
        · have e : f_mk (n + 1) s T y = f_mk n (s + 1) T (f_find T y (T 5 s) (T 2 (T 5 s).toNat)) := if_neg q
          rw [e, ih]
    exact key _ _ _ _
  exact ⟨⟨h1.makes _, fun b => (hR 31 b (by omega)).trans (h2 b), fun b => by rw [hR 30 b (by omega)]; exact h3 b, fun b => (hR 0 b (by omega)).trans (h4 b), wf_makes h5 (by omega) hb h60 (by omega), m1, by omega, h8.mk m h0 hz, fun b => m10 b (h9 b), f_makes_9 br.1 h10 h5.2.2.2.1.1⟩, m⟩
/-- .. and where a of the line are through -/
def sm (T0 : wa_St) (P L : Nat → Int) (a : Nat) (e : Int) (R S : wa_St) : Prop := sk T0 P R S ∧ (∀ b : Nat, (b : Int) < e → R 30 b = L b) ∧ (a : Int) ≤ e ∧ (∀ b : Nat, b < a → gd S (L b)) ∧ (∀ z : Int, 0 ≤ z → z < T0 8 0 → (∀ b : Nat, b < a → L b ≠ z) → S 7 z.toNat = T0 7 z.toNat) ∧ S 21 0 = T0 21 0 + f_cnt (fun b => x_nc T0 (L b).toNat) a
theorem fs_line {S : wa_St} {L : Nat → Int} {a : Nat} (hg : ∀ b : Nat, b < a → gd S (L b)) (hp : ∀ b : Nat, b < a → S 4 (L b).toNat < 0 ∨ ∃ c : Nat, c < a ∧ S 4 (L b).toNat = L c) : ∀ (n : Nat) (z : Int), (z < 0 ∨ ∃ b : Nat, b < a ∧ z = L b) → fs S n z := by
  intro n
  induction n with
  | zero => intro z _; trivial
  | succ n ih =>
    intro z hz
    rcases hz with hz | ⟨b, hb, rfl⟩
    · exact Or.inl hz
    · exact Or.inr ⟨hg b hb, ih _ (hp b hb)⟩
theorem x_ba_id {S : wa_St} {L : Nat → Int} (hwf : wf S) (hlu : lu S) (hg : ∀ z : Int, 0 ≤ z → z < S 8 0 → gd S z) (hL : ∀ j, -1 ≤ L j ∧ L j < S 8 0) : ∀ n j, x_ba L n j S = S := by
  intro n
  induction n with
  | zero => intro j; rfl
  | succ n ih =>
    intro j
    have e : x_bn S (L j) = S := by
      refine if_neg (fun q => ?_)
      have b := wf_pa hwf (L j).toNat (by have := hL j; omega)
      refine (gd_needs hwf hlu q.1 (hL j).2 ?_).mpr (hg _ q.1 (hL j).2) q.2.1
      by_cases g : S 4 (L j).toNat < 0
      · exact Or.inl g
      · exact Or.inr (hg _ (by omega) (by have := hL j; omega))
    show x_ba L n (j + 1) (x_bn S (L j)) = S
    rw [e, ih]
theorem bl_sim {T0 : wa_St} {P : Nat → Int} {M : wa_St × Int} (hwf0 : wf T0) (hlu0 : lu T0) : ∀ (n a : Nat) (N : wa_St) (e : Int) (R S : wa_St), a + n = 10 → li T0 a N e → (∀ j, -1 ≤ N 30 j ∧ N 30 j < T0 8 0) → f_ln n a N e = M → sm T0 P (M.1 30) a e R S →
    ((f_bl n a R e).2 = true ∧ sk T0 P (f_bl n a R e).1 (x_ba (M.1 30) n a S) ∧ (∀ z : Int, 0 ≤ z → z < T0 8 0 → gd (x_ba (M.1 30) n a S) z) ∧ (x_ba (M.1 30) n a S) 21 0 = T0 21 0 + f_cnt (fun b => x_nc T0 (M.1 30 b).toNat) M.2.toNat) ∨
    ((f_bl n a R e).2 = false ∧ 60 < T0 21 0 + f_cnt (fun b => x_nc T0 (M.1 30 b).toNat) M.2.toNat ∧ ∃ S' : wa_St, sk T0 P (f_bl n a R e).1 S') := by
  have fin : ∀ (n a : Nat) (N : wa_St) (e : Int) (R S : wa_St), ¬ (a : Int) < e → li T0 a N e → (∀ j, -1 ≤ N 30 j ∧ N 30 j < T0 8 0) → (N, e) = M → sm T0 P (M.1 30) a e R S → sk T0 P R (x_ba (M.1 30) n a S) ∧ (∀ z : Int, 0 ≤ z → z < T0 8 0 → gd (x_ba (M.1 30) n a S) z) ∧ (x_ba (M.1 30) n a S) 21 0 = T0 21 0 + f_cnt (fun b => x_nc T0 (M.1 30 b).toNat) M.2.toNat := by
    intro n a N e R S hae hli hNB hM ⟨s1, s2, s3, s4, s5, s6⟩
    subst hM
    have e8 := s1.2.2.2.2.2.2.2.1.o 8 0 (by omega)
    have hall : ∀ z : Int, 0 ≤ z → z < T0 8 0 → gd S z := by
      intro z z0 z8
      obtain ⟨b, b1, b2⟩ := hli.all (by omega) (wf_pa hwf0) (z.toNat + 1) z.toNat (by omega) (by omega)
      have g := s4 b (by omega)
      rw [show (N, e).1 30 b = z from by show N 30 b = z; omega] at g
      exact g
    have ei : x_ba (N 30) n a S = S := x_ba_id s1.2.2.2.2.1 s1.2.2.2.2.2.1 (fun z z0 z8 => hall z z0 (by omega)) (fun j => by have := hNB j; omega) n a
    show sk T0 P R (x_ba (N 30) n a S) ∧ _
    rw [show x_ba ((N, e).1 30) n a S = S from ei]
    refine ⟨s1, hall, ?_⟩
    rw [s6, show (N, e).2.toNat = a from by show e.toNat = a; omega]
  intro n
  induction n with
  | zero =>
    intro a N e R S hn hli hNB hM hs
    have h3 := hli.1.2.2.1
    have h8 := hli.1.2.1.2.1
    obtain ⟨f1, f2, f3⟩ := fin 0 a N e R S (by omega) hli hNB hM hs
    exact Or.inl ⟨rfl, f1, f2, f3⟩
  | succ n ih =>
    intro a N e R S hn hli hNB hM hs
    by_cases hae : (a : Int) < e
    · have eqN : f_ln (n + 1) a N e = f_ln n (a + 1) (f_jn N (N 30 a) e).1 (f_jn N (N 30 a) e).2 := if_pos hae
      obtain ⟨j1, j2, j3⟩ := hli.join hae
      obtain ⟨p1, p2, p3⟩ := ln_post (n + 1) a N e hn hli
      rw [hM] at p1 p2
      obtain ⟨s1, s2, s3, s4, s5, s6⟩ := id hs
      obtain ⟨k1, k2, k3, k4, k5, k6, k7, k8, k9, k10⟩ := id s1
      obtain ⟨l1, l2, l3, l4, l5, l6⟩ := hli.1
      have e8N : N 8 0 = T0 8 0 := l1 8 0 (by decide)
      have e8 := k8.o 8 0 (by omega)
      have hLa : M.1 30 a = N 30 a := p2 a hae
      have hRa : R 30 a = M.1 30 a := s2 a hae
      have hz := l4 a hae
      have hz0 : 0 ≤ M.1 30 a := by omega
      have hz8 : M.1 30 a < T0 8 0 := by omega
      have e4 : ∀ j, S 4 j = N 4 j := fun j => (k8.o 4 j (by omega)).trans (l1 4 j (by decide)).symm
      have hpar : ∀ b : Nat, (b : Int) < e → S 4 (M.1 30 b).toNat < 0 ∨ ∃ c : Nat, c < a ∧ S 4 (M.1 30 b).toNat = M.1 30 c := by
        intro b hb
        rw [e4, p2 b hb]
        rcases l6 b hb with q | ⟨c, c1, c2, c3⟩
        · left; omega
        · right; exact ⟨c, c1, by rw [c3, p2 c c2]⟩
      have hfs : ∀ n z, (z < 0 ∨ ∃ b : Nat, b < a ∧ z = M.1 30 b) → fs S n z := fs_line s4 (fun b hb => hpar b (by omega))
      have hpg : S 4 (M.1 30 a).toNat < 0 ∨ gd S (S 4 (M.1 30 a).toNat) := by
        rcases hpar a hae with q | ⟨c, c1, c2⟩
        · exact Or.inl q
        · rw [c2]; exact Or.inr (s4 c c1)
      have hne : ∀ b : Nat, b < a → M.1 30 b ≠ M.1 30 a := by
        intro b hb q
        rw [p2 b (by omega), p2 a hae] at q
        have := l5 b a (by omega) hae q
        omega
      have h7 : S 7 (M.1 30 a).toNat = T0 7 (M.1 30 a).toNat := s5 _ hz0 hz8 hne
      have hnc : x_nc T0 (M.1 30 a).toNat = true ↔ ¬ gd S (M.1 30 a) := by rw [nc_gd hwf0 hlu0 hz0 hz8, k8.kgd hwf0 hlu0 hz0 hz8 h7]
      have hfr : f_fresh R (R 30 a).toNat = true ↔ gd S (M.1 30 a) := by
        rw [hRa, k1.fresh, fresh_fs k5 k6 hz0 (by omega)]
        exact ⟨fun g => (g.resolve_left (by omega)).1, fun g => Or.inr ⟨g, hfs _ _ (hpar a hae)⟩⟩
      have hnd := gd_needs k5 k6 hz0 (by omega) hpg
      have hcnt : ∀ v : Int, S 21 0 + bI (x_nc T0 (M.1 30 a).toNat = true) = T0 21 0 + f_cnt (fun b => x_nc T0 (M.1 30 b).toNat) (a + 1) := by
        intro _
        show _ = T0 21 0 + (f_cnt (fun b => x_nc T0 (M.1 30 b).toNat) a + bI (x_nc T0 (M.1 30 a).toNat = true))
        omega
      have hj30 : ∀ R2 : wa_St, (∀ b, R2 4 b = N 4 b) → R2 8 0 = N 8 0 → (∀ b : Nat, (b : Int) < e → R2 30 b = M.1 30 b) → (f_jn R2 (R 30 a) e).2 = (f_jn N (N 30 a) e).2 ∧ ∀ b : Nat, (b : Int) < (f_jn N (N 30 a) e).2 → (f_jn R2 (R 30 a) e).1 30 b = M.1 30 b := by
        intro R2 r4 r8 r30
        obtain ⟨q1, q2, q3⟩ := ln_post n (a + 1) _ _ (by omega) j1
        rw [← eqN, hM] at q1 q2
        have q := f_jo_same (N 30 a) (N 8 0).toNat 0 R2 N e r4 (by omega) (fun b hb => (r30 b hb).trans (p2 b hb))
        rw [hRa, hLa]
        unfold f_jn
        rw [r8]
        exact ⟨q.1, fun b hb => (q.2 b hb).trans (q2 b hb).symm⟩
      have hnext : ∀ R2 S2 : wa_St, sk T0 P R2 S2 → (∀ b : Nat, (b : Int) < e → R2 30 b = M.1 30 b) → (∀ b : Nat, b < a + 1 → gd S2 (M.1 30 b)) → (∀ z : Int, 0 ≤ z → z < T0 8 0 → (∀ b : Nat, b < a + 1 → M.1 30 b ≠ z) → S2 7 z.toNat = T0 7 z.toNat) → S2 21 0 = T0 21 0 + f_cnt (fun b => x_nc T0 (M.1 30 b).toNat) (a + 1) → sm T0 P (M.1 30) (a + 1) (f_jn N (N 30 a) e).2 (f_jn R2 (R 30 a) e).1 S2 ∧ (f_jn R2 (R 30 a) e).2 = (f_jn N (N 30 a) e).2 := by
        intro R2 S2 t1 t2 t3 t4 t5
        have r4 : ∀ b, R2 4 b = N 4 b := fun b => (t1.1 4 b (by decide) (by decide) (by decide)).trans ((t1.2.2.2.2.2.2.2.1.o 4 b (by omega)).trans (l1 4 b (by decide)).symm)
        have r8 : R2 8 0 = N 8 0 := (t1.1 8 0 (by decide) (by decide) (by decide)).trans ((t1.2.2.2.2.2.2.2.1.o 8 0 (by omega)).trans e8N.symm)
        obtain ⟨q1, q2⟩ := hj30 R2 r4 r8 t2
        exact ⟨⟨t1.jn hwf0 _ _, q2, by omega, t3, t4, t5⟩, q1⟩
      have hNB2 : ∀ j, -1 ≤ (f_jn N (N 30 a) e).1 30 j ∧ (f_jn N (N 30 a) e).1 30 j < T0 8 0 := by
        have key : ∀ (i : Int) (n j : Nat) (T : wa_St) (q : Int), (j : Int) + n ≤ T0 8 0 → (∀ b, -1 ≤ T 30 b ∧ T 30 b < T0 8 0) → ∀ b, -1 ≤ (f_jo i n j T q).1 30 b ∧ (f_jo i n j T q).1 30 b < T0 8 0 := by
          intro i n
          induction n with
          | zero => intro j T q _ h; exact h
          | succ n ih =>
            intro j T q hj h
            by_cases g : T 4 j = i
            · have e : f_jo i (n + 1) j T q = f_jo i n (j + 1) (wa_s T 30 q.toNat (j : Int)) (q + 1) := if_pos g
              rw [e]
              refine ih _ _ _ (by omega) (fun b => ?_)
              unfold wa_s
              split
              · omega
              · exact h b
            · have e : f_jo i (n + 1) j T q = f_jo i n (j + 1) T q := if_neg g
              rw [e]
              exact ih _ _ _ (by omega) h
        exact key _ _ 0 N e (by have := hwf0.2.1; omega) hNB
      by_cases g : gd S (M.1 30 a)
      · have eS : x_bn S (M.1 30 a) = S := if_neg (fun q => hnd.mpr g q.2.1)
        have eR : f_bl (n + 1) a R e = f_bl n (a + 1) (f_jn R (R 30 a) e).1 (f_jn R (R 30 a) e).2 := (if_pos hae).trans (if_pos (hfr.mpr g))
        have hb0 : bI (x_nc T0 (M.1 30 a).toNat = true) = 0 := bI_f (fun q => hnc.mp q g)
        obtain ⟨t1, t2⟩ := hnext R S s1 s2 (fun b hb => by
          by_cases q : b < a
          · exact s4 b q
          · rw [show b = a by omega]; exact g) (fun z z0 z8 hz => s5 z z0 z8 (fun b hb => hz b (by omega))) (by have := hcnt 0; omega)
        show ((f_bl (n + 1) a R e).2 = true ∧ sk T0 P (f_bl (n + 1) a R e).1 (x_ba (M.1 30) n (a + 1) (x_bn S (M.1 30 a))) ∧ (∀ z : Int, 0 ≤ z → z < T0 8 0 → gd (x_ba (M.1 30) n (a + 1) (x_bn S (M.1 30 a))) z) ∧ (x_ba (M.1 30) n (a + 1) (x_bn S (M.1 30 a))) 21 0 = _) ∨ _
        rw [eR, eS, t2]
        exact ih (a + 1) _ _ _ S (by omega) j1 hNB2 (eqN.symm.trans hM) t1
      · have hb1 : bI (x_nc T0 (M.1 30 a).toNat = true) = 1 := bI_t (hnc.mpr g)
        by_cases h60 : S 21 0 < 60
        · have e21 : R 21 0 = S 21 0 := k1 21 0 (by decide) (by decide) (by decide)
          have eb : x_begin S (M.1 30 a).toNat = f_base S (M.1 30 a).toNat := (base_wz k5 hz0 (by omega) hpg).2.1
          have eS : x_bn S (M.1 30 a) = f_makes S (M.1 30 a).toNat := by
            refine (if_pos ⟨hz0, Decidable.byContradiction (fun q => g (hnd.mp q)), h60⟩).trans ?_
            unfold x_make f_makes
            rw [eb]
          have eR : f_bl (n + 1) a R e = f_bl n (a + 1) (f_jn (f_makes R (R 30 a).toNat) (R 30 a) e).1 (f_jn (f_makes R (R 30 a).toNat) (R 30 a) e).2 := (if_pos hae).trans ((if_neg (fun q => g (hfr.mp q))).trans (if_pos (by omega)))
          obtain ⟨m0, m⟩ := s1.mk hwf0 hz0 hz8 hpg h60
          have m30 : ∀ b, f_makes R (M.1 30 a).toNat 30 b = R 30 b := by
            intro b
            have h0 : f_makes R (M.1 30 a).toNat 30 b = (f_mk (R 6 (M.1 30 a).toNat).toNat (5 * (M.1 30 a).toNat) R (f_base R (M.1 30 a).toNat)).1 30 b := f_newB_o (by decide)
            rw [h0]
            have key : ∀ (n s : Nat) (T : wa_St) (y : Int), (f_mk n s T y).1 30 b = T 30 b := by
              intro n
              induction n with
              | zero => intro s T y; rfl
              | succ n ih =>
                intro s T y
                by_cases q : f_find T y (T 5 s) (T 2 (T 5 s).toNat) = -2
                · have e : f_mk (n + 1) s T y = f_mk n (s + 1) (f_addL T y (T 5 s) (T 2 (T 5 s).toNat)) (T 12 0) := if_pos q
                  rw [e, ih, f_addL_o (by decide) (by decide) (by decide) (by decide)]
                · have e : f_mk (n + 1) s T y = f_mk n (s + 1) T (f_find T y (T 5 s) (T 2 (T 5 s).toNat)) := if_neg q
                  rw [e, ih]
            exact key _ _ _ _
          have em : f_makes R (R 30 a).toNat = f_makes R (M.1 30 a).toNat := by rw [hRa]
          obtain ⟨t1, t2⟩ := hnext (f_makes R (M.1 30 a).toNat) (f_makes S (M.1 30 a).toNat) m0 (fun b hb => (m30 b).trans (s2 b hb)) (fun b hb => by
            by_cases q : b < a
            · have hb2 := l4 b (by omega)
              have hb3 := p2 b (by omega)
              exact (m.mgd k5 k6 (by omega) (by omega) (hne b q) hz0).mpr (s4 b q)
            · rw [show b = a by omega]; exact m.2.2.2.2.2.2.2.2.1) (fun z z0 z8 hz => by
              rw [m.2.2.2.2.1, if_neg (by have := hz a (by omega); omega)]
              exact s5 z z0 z8 (fun b hb => hz b (by omega))) (by have := hcnt 0; have := m.2.2.2.1; omega)
          show ((f_bl (n + 1) a R e).2 = true ∧ sk T0 P (f_bl (n + 1) a R e).1 (x_ba (M.1 30) n (a + 1) (x_bn S (M.1 30 a))) ∧ (∀ z : Int, 0 ≤ z → z < T0 8 0 → gd (x_ba (M.1 30) n (a + 1) (x_bn S (M.1 30 a))) z) ∧ (x_ba (M.1 30) n (a + 1) (x_bn S (M.1 30 a))) 21 0 = _) ∨ _
          rw [eR, eS, em, t2]
          exact ih (a + 1) _ _ _ _ (by omega) j1 hNB2 (eqN.symm.trans hM) t1
        · have e21 : R 21 0 = S 21 0 := k1 21 0 (by decide) (by decide) (by decide)
          have eR : f_bl (n + 1) a R e = ((f_jn R (R 30 a) e).1, false) := (if_pos hae).trans ((if_neg (fun q => g (hfr.mp q))).trans (if_neg (by omega)))
          right
          rw [eR]
          refine ⟨rfl, ?_, S, s1.jn hwf0 _ _⟩
          have := hcnt 0
          have mo := f_cnt_mono (fun b => x_nc T0 (M.1 30 b).toNat) (a + 1) M.2.toNat (by omega)
          omega
    · have eqN : f_ln (n + 1) a N e = (N, e) := if_neg hae
      have eqR : f_bl (n + 1) a R e = (R, true) := if_neg hae
      obtain ⟨f1, f2, f3⟩ := fin (n + 1) a N e R S hae hli hNB (eqN.symm.trans hM) hs
      left
      rw [eqR]
      exact ⟨rfl, f1, f2, f3⟩
