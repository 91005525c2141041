/-! pure: what a bake adds -/
/-- more layers, the old ones as they were -/
def ex (T T1 : wa_St) : Prop := T 12 0 ≤ T1 12 0 ∧ ∀ j : Nat, (j : Int) < T 12 0 → T1 9 j = T 9 j ∧ T1 10 j = T 10 j ∧ T1 11 j = T 11 j
theorem ex.rf (T : wa_St) : ex T T := ⟨Int.le_refl _, fun _ _ => ⟨rfl, rfl, rfl⟩⟩
theorem ex.trans {T T1 T2 : wa_St} (h : ex T T1) (h' : ex T1 T2) : ex T T2 := ⟨Int.le_trans h.1 h'.1, fun j hj => by
  have a := h.2 j hj
  have b := h'.2 j (by have := h.1; omega)
  exact ⟨b.1.trans a.1, b.2.1.trans a.2.1, b.2.2.trans a.2.2⟩⟩
theorem wl_ex {T T1 : wa_St} (h : lu T) (he : ex T T1) : ∀ (n : Nat) (z : Int), z < T 12 0 → wl T1 n z = wl T n z := by
  intro n
  induction n with
  | zero => intro z _; rfl
  | succ n ih =>
    intro z hz
    by_cases q : z < 0
    · rw [wl_neg T _ q, wl_neg T1 _ q]
    · have b := h.1 z.toNat (by omega)
      obtain ⟨e9, e10, e11⟩ := he.2 z.toNat (by omega)
      show (if z < 0 then [] else wl T1 n (T1 9 z.toNat) ++ [(T1 10 z.toNat, T1 11 z.toNat)]) = (if z < 0 then [] else wl T n (T 9 z.toNat) ++ [(T 10 z.toNat, T 11 z.toNat)])
      rw [if_neg q, if_neg q, e9, e10, e11, ih _ (by omega)]
theorem wz_ex {T T1 : wa_St} (h : lu T) (he : ex T T1) {z : Int} (hz : z < T 12 0) : wz T1 z = wz T z := wl_ex h he _ z hz
theorem lu_addL {T : wa_St} (h : lu T) (w12 : 0 ≤ T 12 0) {z inp ver : Int} (hz : -1 ≤ z ∧ z < T 12 0) (hf : f_find T z inp ver = -2) : lu (f_addL T z inp ver) ∧ ex T (f_addL T z inp ver) ∧ wz (f_addL T z inp ver) (T 12 0) = wz T z ++ [(inp, ver)] := by
  have hno : ∀ l : Nat, (l : Int) < T 12 0 → ¬ (T 9 l = z ∧ T 10 l = inp ∧ T 11 l = ver) := by
    rcases find_spec T z inp ver with ⟨-, h2⟩ | ⟨l, h1, -, h5⟩
    · exact h2
    · omega
  have he : ex T (f_addL T z inp ver) := by
    refine ⟨by rw [f_addL_12]; omega, fun j hj => ?_⟩
    rw [f_addL_9, f_addL_10, f_addL_11, if_neg (by omega), if_neg (by omega), if_neg (by omega)]
    exact ⟨rfl, rfl, rfl⟩
  have hl : lu (f_addL T z inp ver) := by
    refine ⟨fun j hj => ?_, fun j k hj hk e9 e10 e11 => ?_⟩
    · rw [f_addL_12] at hj
      rw [f_addL_9]
      by_cases q : j = (T 12 0).toNat
      · rw [if_pos q]; omega
      · rw [if_neg q]; exact h.1 j (by omega)
    · rw [f_addL_12] at hj hk
      rw [f_addL_9, f_addL_9] at e9
      rw [f_addL_10, f_addL_10] at e10
      rw [f_addL_11, f_addL_11] at e11
      by_cases q : j = (T 12 0).toNat <;> by_cases q2 : k = (T 12 0).toNat
      · omega
      · rw [if_pos q, if_neg q2] at e9 e10 e11
        exact absurd ⟨e9.symm, e10.symm, e11.symm⟩ (hno k (by omega))
      · rw [if_neg q, if_pos q2] at e9 e10 e11
        exact absurd ⟨e9, e10, e11⟩ (hno j (by omega))
      · rw [if_neg q, if_neg q2] at e9 e10 e11
        exact h.2 j k (by omega) (by omega) e9 e10 e11
  refine ⟨hl, he, ?_⟩
  rw [wz_pos hl w12 (by rw [f_addL_12]; omega), f_addL_9, f_addL_10, f_addL_11, if_pos rfl, if_pos rfl, if_pos rfl, wz_ex h he hz.2]
/-- the layers of n steps -/
def mw (T : wa_St) (T1 : wa_St) : Prop := (∀ a b, a ≠ 9 → a ≠ 10 → a ≠ 11 → a ≠ 12 → T1 a b = T a b) ∧ lu T1 ∧ 0 ≤ T1 12 0 ∧ ex T T1
theorem stl_same {T T1 : wa_St} (h5 : ∀ j, T1 5 j = T 5 j) (h2 : ∀ j, T1 2 j = T 2 j) : ∀ n s, stl T1 n s = stl T n s := by
  intro n
  induction n with
  | zero => intro s; rfl
  | succ n ih => intro s; show (T1 5 s, T1 2 (T1 5 s).toNat) :: stl T1 n (s + 1) = _; rw [h5, h2, ih]; rfl
theorem mk_wz {T : wa_St} : ∀ (n s : Nat) (T1 : wa_St) (z : Int), mw T T1 → (-1 ≤ z ∧ z < T1 12 0) → mw T (f_mk n s T1 z).1 ∧ ex T1 (f_mk n s T1 z).1 ∧ (-1 ≤ (f_mk n s T1 z).2 ∧ (f_mk n s T1 z).2 < (f_mk n s T1 z).1 12 0) ∧ wz (f_mk n s T1 z).1 (f_mk n s T1 z).2 = wz T1 z ++ stl T n s := by
  intro n
  induction n with
  | zero => intro s T1 z h hz; exact ⟨h, ex.rf T1, hz, by show wz T1 z = wz T1 z ++ []; rw [List.append_nil]⟩
  | succ n ih =>
    intro s T1 z h hz
    have e5 : T1 5 s = T 5 s := h.1 5 s (by decide) (by decide) (by decide) (by decide)
    have e2 : ∀ j, T1 2 j = T 2 j := fun j => h.1 2 j (by decide) (by decide) (by decide) (by decide)
    by_cases q : f_find T1 z (T1 5 s) (T1 2 (T1 5 s).toNat) = -2
    · have e : f_mk (n + 1) s T1 z = f_mk n (s + 1) (f_addL T1 z (T1 5 s) (T1 2 (T1 5 s).toNat)) (T1 12 0) := if_pos q
      obtain ⟨a1, a2, a3⟩ := lu_addL h.2.1 h.2.2.1 hz q
      have hm : mw T (f_addL T1 z (T1 5 s) (T1 2 (T1 5 s).toNat)) := ⟨fun a b h9 h10 h11 h12 => by rw [f_addL_o h9 h10 h11 h12]; exact h.1 a b h9 h10 h11 h12, a1, by rw [f_addL_12]; have := h.2.2.1; omega, h.2.2.2.trans a2⟩
      obtain ⟨i1, i2, i3, i4⟩ := ih (s + 1) _ (T1 12 0) hm (by rw [f_addL_12]; have := h.2.2.1; omega)
      rw [e]
      refine ⟨i1, a2.trans i2, i3, ?_⟩
      rw [i4, a3, List.append_assoc, e5, e2]
      rfl
    · have e : f_mk (n + 1) s T1 z = f_mk n (s + 1) T1 (f_find T1 z (T1 5 s) (T1 2 (T1 5 s).toNat)) := if_neg q
      have hr : 0 ≤ f_find T1 z (T1 5 s) (T1 2 (T1 5 s).toNat) ∧ f_find T1 z (T1 5 s) (T1 2 (T1 5 s).toNat) < T1 12 0 := by
        rcases find_spec T1 z (T1 5 s) (T1 2 (T1 5 s).toNat) with ⟨h1, -⟩ | ⟨l, h1, -, h5⟩ <;> omega
      have w := (find_wz h.2.1 hz (z := f_find T1 z (T1 5 s) (T1 2 (T1 5 s).toNat)) (by omega)).mp rfl
      obtain ⟨i1, i2, i3, i4⟩ := ih (s + 1) T1 _ h (show -1 ≤ f_find T1 z (T1 5 s) (T1 2 (T1 5 s).toNat) ∧ _ from by omega)
      rw [e]
      refine ⟨i1, i2, i3, ?_⟩
      rw [i4, w, List.append_assoc, e5, e2]
      rfl
theorem gp_same {T T1 : wa_St} (h4 : ∀ j, T1 4 j = T 4 j) (h6 : ∀ j, T1 6 j = T 6 j) (h5 : ∀ j, T1 5 j = T 5 j) (h2 : ∀ j, T1 2 j = T 2 j) : ∀ n z, gp T1 n z = gp T n z := by
  intro n
  induction n with
  | zero => intro z; rfl
  | succ n ih =>
    intro z
    show (if z < 0 then [] else gp T1 n (T1 4 z.toNat) ++ stl T1 (T1 6 z.toNat).toNat (5 * z.toNat)) = (if z < 0 then [] else gp T n (T 4 z.toNat) ++ stl T (T 6 z.toNat).toNat (5 * z.toNat))
    rw [h4, h6, ih, stl_same h5 h2]
theorem gz_same {T T1 : wa_St} (h4 : ∀ j, T1 4 j = T 4 j) (h6 : ∀ j, T1 6 j = T 6 j) (h5 : ∀ j, T1 5 j = T 5 j) (h2 : ∀ j, T1 2 j = T 2 j) (z : Int) : gz T1 z = gz T z := gp_same h4 h6 h5 h2 _ z
theorem gp_len {T : wa_St} (h6 : ∀ i, 0 ≤ T 6 i ∧ T 6 i ≤ 5) : ∀ (n : Nat) (z : Int), (gp T n z).length ≤ 5 * n := by
  intro n
  induction n with
  | zero => intro z; exact Nat.le_refl _
  | succ n ih =>
    intro z
    by_cases q : z < 0
    · rw [gp_neg T _ q]; exact Nat.zero_le _
    · have e : gp T (n + 1) z = gp T n (T 4 z.toNat) ++ stl T (T 6 z.toNat).toNat (5 * z.toNat) := if_neg q
      have i := ih (T 4 z.toNat)
      have w := h6 z.toNat
      rw [e, List.length_append, stl_len]
      omega
theorem gz_len {T : wa_St} (hwf : wf T) {z : Int} (h0 : 0 ≤ z) (hz : z < T 8 0) : (gz T z).length ≤ 50 := by
  have w8 := hwf.2.1
  have q := gp_len hwf.2.2.2.2.2.2.2.1 (z.toNat + 1) z
  have e : gz T z = gp T (z.toNat + 1) z := rfl
  rw [e]
  omega
/-- the world apart from the reference's own notes -/
def eqx (T T1 : wa_St) : Prop := ∀ a b, a ≠ 0 → a ≠ 30 → a ≠ 31 → T a b = T1 a b
theorem eqx.rf (T : wa_St) : eqx T T := fun _ _ _ _ _ => rfl
theorem eqx.symm {T T1 : wa_St} (h : eqx T T1) : eqx T1 T := fun a b h0 h1 h2 => (h a b h0 h1 h2).symm
theorem eqx.trans {T T1 T2 : wa_St} (h : eqx T T1) (h' : eqx T1 T2) : eqx T T2 := fun a b h0 h1 h2 => (h a b h0 h1 h2).trans (h' a b h0 h1 h2)
theorem eqx.th (T : wa_St) (j : Nat) (v : Int) : eqx T (wa_s T 0 j v) := fun a b h0 _ _ => (wa_s_nk h0).symm
theorem eqx.s {T T1 : wa_St} (h : eqx T T1) (k j : Nat) (v : Int) : eqx (wa_s T k j v) (wa_s T1 k j v) := fun a b h0 h1 h2 => by
  unfold wa_s
  by_cases q : a = k ∧ b = j
  · rw [if_pos q, if_pos q]
  · rw [if_neg q, if_neg q]; exact h a b h0 h1 h2
theorem eqx.find {T T1 : wa_St} (h : eqx T T1) (a b c : Int) : f_find T a b c = f_find T1 a b c := by
  unfold f_find
  rw [h 12 0 (by decide) (by decide) (by decide)]
  congr 1
  funext l
  rw [h 9 l (by decide) (by decide) (by decide), h 10 l (by decide) (by decide) (by decide), h 11 l (by decide) (by decide) (by decide)]
theorem eqx.base {T T1 : wa_St} (h : eqx T T1) (i : Nat) : f_base T i = f_base T1 i := by
  unfold f_base
  rw [h 4 i (by decide) (by decide) (by decide), h 7 (T1 4 i).toNat (by decide) (by decide) (by decide), h 14 (T1 7 (T1 4 i).toNat).toNat (by decide) (by decide) (by decide)]
theorem eqx.addL {T T1 : wa_St} (h : eqx T T1) (z a b : Int) : eqx (f_addL T z a b) (f_addL T1 z a b) := by
  unfold f_addL
  rw [h 12 0 (by decide) (by decide) (by decide)]
  exact (((h.s _ _ _).s _ _ _).s _ _ _).s _ _ _
theorem eqx.mk : ∀ (n s : Nat) {T T1 : wa_St} (_ : eqx T T1) (z : Int), eqx (f_mk n s T z).1 (f_mk n s T1 z).1 ∧ (f_mk n s T z).2 = (f_mk n s T1 z).2 := by
  intro n
  induction n with
  | zero => intro s T T1 h z; exact ⟨h, rfl⟩
  | succ n ih =>
    intro s T T1 h z
    have e5 : T 5 s = T1 5 s := h 5 s (by decide) (by decide) (by decide)
    have e2 : T 2 (T1 5 s).toNat = T1 2 (T1 5 s).toNat := h 2 _ (by decide) (by decide) (by decide)
    have ef := h.find z (T1 5 s) (T1 2 (T1 5 s).toNat)
    show eqx (if f_find T z (T 5 s) (T 2 (T 5 s).toNat) = -2 then f_mk n (s + 1) (f_addL T z (T 5 s) (T 2 (T 5 s).toNat)) (T 12 0) else f_mk n (s + 1) T (f_find T z (T 5 s) (T 2 (T 5 s).toNat))).1 (if f_find T1 z (T1 5 s) (T1 2 (T1 5 s).toNat) = -2 then f_mk n (s + 1) (f_addL T1 z (T1 5 s) (T1 2 (T1 5 s).toNat)) (T1 12 0) else f_mk n (s + 1) T1 (f_find T1 z (T1 5 s) (T1 2 (T1 5 s).toNat))).1 ∧ (if f_find T z (T 5 s) (T 2 (T 5 s).toNat) = -2 then f_mk n (s + 1) (f_addL T z (T 5 s) (T 2 (T 5 s).toNat)) (T 12 0) else f_mk n (s + 1) T (f_find T z (T 5 s) (T 2 (T 5 s).toNat))).2 = (if f_find T1 z (T1 5 s) (T1 2 (T1 5 s).toNat) = -2 then f_mk n (s + 1) (f_addL T1 z (T1 5 s) (T1 2 (T1 5 s).toNat)) (T1 12 0) else f_mk n (s + 1) T1 (f_find T1 z (T1 5 s) (T1 2 (T1 5 s).toNat))).2
    rw [e5, e2, ef, h 12 0 (by decide) (by decide) (by decide)]
    by_cases q : f_find T1 z (T1 5 s) (T1 2 (T1 5 s).toNat) = -2
    · rw [if_pos q, if_pos q]; exact ih _ (h.addL _ _ _) _
    · rw [if_neg q, if_neg q]; exact ih _ h _
theorem eqx.newB {T T1 : wa_St} (h : eqx T T1) (i : Nat) (z : Int) : eqx (f_newB T i z) (f_newB T1 i z) := by
  unfold f_newB
  rw [h 21 0 (by decide) (by decide) (by decide), h 1 0 (by decide) (by decide) (by decide)]
  exact (((((((((((h.s _ _ _).s _ _ _).s _ _ _).s _ _ _).s _ _ _).s _ _ _).s _ _ _).s _ _ _).s _ _ _).s _ _ _).s _ _ _).s _ _ _
theorem eqx.makes {T T1 : wa_St} (h : eqx T T1) (i : Nat) : eqx (f_makes T i) (f_makes T1 i) := by
  unfold f_makes
  rw [h.base, h 6 i (by decide) (by decide) (by decide), (eqx.mk (T1 6 i).toNat (5 * i) h (f_base T1 i)).2]
  exact (eqx.mk (T1 6 i).toNat (5 * i) h (f_base T1 i)).1.newB _ _
theorem eqx.ewl {T T1 : wa_St} (h : eqx T T1) : ∀ (n : Nat) (z : Int), wl T n z = wl T1 n z := by
  intro n
  induction n with
  | zero => intro z; rfl
  | succ n ih =>
    intro z
    show (if z < 0 then [] else wl T n (T 9 z.toNat) ++ [(T 10 z.toNat, T 11 z.toNat)]) = (if z < 0 then [] else wl T1 n (T1 9 z.toNat) ++ [(T1 10 z.toNat, T1 11 z.toNat)])
    rw [h 9 _ (by decide) (by decide) (by decide), h 10 _ (by decide) (by decide) (by decide), h 11 _ (by decide) (by decide) (by decide), ih]
theorem eqx.egz {T T1 : wa_St} (h : eqx T T1) (z : Int) : gz T z = gz T1 z := gz_same (fun j => h 4 j (by decide) (by decide) (by decide)) (fun j => h 6 j (by decide) (by decide) (by decide)) (fun j => h 5 j (by decide) (by decide) (by decide)) (fun j => h 2 j (by decide) (by decide) (by decide)) z
theorem eqx.ewz {T T1 : wa_St} (h : eqx T T1) (z : Int) : wz T z = wz T1 z := h.ewl _ z
theorem eqx.egd {T T1 : wa_St} (h : eqx T T1) (z : Int) : gd T z ↔ gd T1 z := by
  unfold gd
  rw [h.egz, h 7 _ (by decide) (by decide) (by decide), h 14 _ (by decide) (by decide) (by decide), h.ewz]
theorem eqx.elu {T T1 : wa_St} (h : eqx T T1) (hl : lu T) : lu T1 := by
  have e9 : ∀ j, T1 9 j = T 9 j := fun j => (h 9 j (by decide) (by decide) (by decide)).symm
  have e10 : ∀ j, T1 10 j = T 10 j := fun j => (h 10 j (by decide) (by decide) (by decide)).symm
  have e11 : ∀ j, T1 11 j = T 11 j := fun j => (h 11 j (by decide) (by decide) (by decide)).symm
  have e12 : T1 12 0 = T 12 0 := (h 12 0 (by decide) (by decide) (by decide)).symm
  unfold lu at *
  simp only [e9, e10, e11, e12]
  exact hl
/-- what a new bake leaves and brings -/
def mks (T T' : wa_St) (z : Int) : Prop := lu T' ∧ ex T T' ∧ T' 12 0 ≤ T 12 0 + 5 ∧ T' 21 0 = T 21 0 + 1 ∧ (∀ b, T' 7 b = if b = z.toNat then T 21 0 else T 7 b) ∧ (∀ a b, a ≠ 9 → a ≠ 10 → a ≠ 11 → a ≠ 12 → a ≠ 13 → a ≠ 14 → a ≠ 15 → a ≠ 16 → a ≠ 17 → a ≠ 18 → a ≠ 19 → a ≠ 20 → a ≠ 7 → a ≠ 21 → T' a b = T a b) ∧ (∀ a (b : Nat), 13 ≤ a → a ≤ 19 → (b : Int) < T 21 0 → T' a b = T a b) ∧ (∀ b : Nat, (b : Int) < 3 * T 21 0 → T' 20 b = T 20 b) ∧ gd T' z ∧ (∀ b, 0 ≤ T 16 b ∧ T 16 b ≤ 2 → 0 ≤ T' 16 b ∧ T' 16 b ≤ 2)
theorem mks.of {T : wa_St} (hwf : wf T) (h : lu T) {z : Int} (h0 : 0 ≤ z) (hz : z < T 8 0) (hp : T 4 z.toNat < 0 ∨ gd T (T 4 z.toNat)) (h295 : T 12 0 ≤ 295) : mks T (f_makes T z.toNat) z := by
  have w12 := hwf.2.2.2.1
  have w21 := hwf.2.2.1
  obtain ⟨hb, -, br, bw⟩ := base_wz hwf h0 hz hp
  obtain ⟨k1, k2, k3, k4⟩ := f_makes_keep hwf (i := z.toNat) (by omega) hb h295
  obtain ⟨i1, i2, i3, i4⟩ := mk_wz (T := T) (T 6 z.toNat).toNat (5 * z.toNat) T (f_base T z.toNat) ⟨fun _ _ _ _ _ _ => rfl, h, w12.1, ex.rf T⟩ br
  have eM : f_makes T z.toNat = f_newB (f_mk (T 6 z.toNat).toNat (5 * z.toNat) T (f_base T z.toNat)).1 z.toNat (f_mk (T 6 z.toNat).toNat (5 * z.toNat) T (f_base T z.toNat)).2 := rfl
  have e21 : (f_mk (T 6 z.toNat).toNat (5 * z.toNat) T (f_base T z.toNat)).1 21 0 = T 21 0 := i1.1 21 0 (by decide) (by decide) (by decide) (by decide)
  have e16 : ∀ b, (f_mk (T 6 z.toNat).toNat (5 * z.toNat) T (f_base T z.toNat)).1 16 b = T 16 b := fun b => i1.1 16 b (by decide) (by decide) (by decide) (by decide)
  have e13 : ∀ a b, 13 ≤ a → a ≤ 20 → (f_mk (T 6 z.toNat).toNat (5 * z.toNat) T (f_base T z.toNat)).1 a b = T a b := fun a b h1 h2 => i1.1 a b (by omega) (by omega) (by omega) (by omega)
  generalize hM : f_makes T z.toNat = T' at *
  generalize hS1 : (f_mk (T 6 z.toNat).toNat (5 * z.toNat) T (f_base T z.toNat)).1 = S1 at *
  generalize ht : (f_mk (T 6 z.toNat).toNat (5 * z.toNat) T (f_base T z.toNat)).2 = t at *
  have o9 : ∀ a b, a = 9 ∨ a = 10 ∨ a = 11 ∨ a = 12 → T' a b = S1 a b := by
    intro a b ha
    rw [eM]
    exact f_newB_o (by omega)
  have hex : ex S1 T' := ⟨by rw [o9 12 0 (by omega)]; omega, fun j _ => ⟨o9 9 j (by omega), o9 10 j (by omega), o9 11 j (by omega)⟩⟩
  have hlu : lu T' := by
    unfold lu
    simp only [o9 9 _ (Or.inl rfl), o9 10 _ (Or.inr (Or.inl rfl)), o9 11 _ (Or.inr (Or.inr (Or.inl rfl))), o9 12 _ (Or.inr (Or.inr (Or.inr rfl)))]
    exact i1.2.1
  have e14 : T' 14 (T 21 0).toNat = t := by rw [eM]; simp [f_newB, wa_s, e21]
  refine ⟨hlu, i1.2.2.2.trans hex, k4, k3, k2, fun a b h9 h10 h11 h12 h13 h14 h15 h16 h17 h18 h19 h20 h7 h21 => k1 a b h9 h10 h11 h12 h13 h14 h15 h16 h17 h18 h19 h20 h7 h21, fun a b ha ha2 hb2 => ?_, fun b hb2 => ?_, ⟨?_, ?_⟩, fun b hb2 => ?_⟩
  · have q := e13 a b ha (by omega)
    rw [eM, ← q]
    have hbn : b ≠ (S1 21 0).toNat := by rw [e21]; omega
    unfold f_newB wa_s
    simp only [hbn, and_false, if_false]
    rw [if_neg (by omega), if_neg (by omega), if_neg (by omega), if_neg (by omega), if_neg (by omega)]
  · have q := e13 20 b (by omega) (by omega)
    rw [eM, ← q]
    unfold f_newB wa_s
    rw [e21]
    rw [if_neg (by omega), if_neg (by omega), if_neg (by omega), if_neg (by omega), if_neg (by omega), if_neg (by omega), if_neg (by omega), if_neg (by omega), if_neg (by omega), if_neg (by omega), if_neg (by omega), if_neg (by omega)]
  · rw [k2, if_pos rfl]; exact w21.1
  · rw [k2, if_pos rfl, e14, wz_ex i1.2.1 hex i3.2, i4, bw]
    rw [gz_same (fun j => k1 4 j (by decide) (by decide) (by decide) (by decide) (by decide) (by decide) (by decide) (by decide) (by decide) (by decide) (by decide) (by decide) (by decide) (by decide)) (fun j => k1 6 j (by decide) (by decide) (by decide) (by decide) (by decide) (by decide) (by decide) (by decide) (by decide) (by decide) (by decide) (by decide) (by decide) (by decide)) (fun j => k1 5 j (by decide) (by decide) (by decide) (by decide) (by decide) (by decide) (by decide) (by decide) (by decide) (by decide) (by decide) (by decide) (by decide) (by decide)) (fun j => k1 2 j (by decide) (by decide) (by decide) (by decide) (by decide) (by decide) (by decide) (by decide) (by decide) (by decide) (by decide) (by decide) (by decide) (by decide)) z, gz_pos (wf_pa hwf) h0 hz]
  · have q16 : f_newB S1 z.toNat t 16 b = if b = (S1 21 0).toNat then 0 else S1 16 b := by simp [f_newB, wa_s]
    rw [eM, q16, e16]
    split
    · omega
    · exact hb2
/-- another image's latest bake is as it was -/
theorem mks.top {T T' : wa_St} {z : Int} (hwf : wf T) (h : lu T) (m : mks T T' z) {y : Nat} (hy : (y : Int) < T 8 0) (hne : y ≠ z.toNat) (h7 : 0 ≤ T 7 y) : T' 7 y = T 7 y ∧ T' 14 (T 7 y).toNat = T 14 (T 7 y).toNat ∧ wz T' (T 14 (T 7 y).toNat) = wz T (T 14 (T 7 y).toNat) := by
  have r := top_rng hwf hy h7
  refine ⟨?_, m.2.2.2.2.2.2.1 14 _ (by omega) (by omega) (by omega), wz_ex h m.2.1 r.1.2⟩
  rw [m.2.2.2.2.1, if_neg hne]
theorem mks.mgz {T T' : wa_St} {z : Int} (m : mks T T' z) (y : Int) : gz T' y = gz T y := by
  have k1 := m.2.2.2.2.2.1
  exact gz_same (fun j => k1 4 j (by decide) (by decide) (by decide) (by decide) (by decide) (by decide) (by decide) (by decide) (by decide) (by decide) (by decide) (by decide) (by decide) (by decide)) (fun j => k1 6 j (by decide) (by decide) (by decide) (by decide) (by decide) (by decide) (by decide) (by decide) (by decide) (by decide) (by decide) (by decide) (by decide) (by decide)) (fun j => k1 5 j (by decide) (by decide) (by decide) (by decide) (by decide) (by decide) (by decide) (by decide) (by decide) (by decide) (by decide) (by decide) (by decide) (by decide)) (fun j => k1 2 j (by decide) (by decide) (by decide) (by decide) (by decide) (by decide) (by decide) (by decide) (by decide) (by decide) (by decide) (by decide) (by decide) (by decide)) y
theorem mks.mgd {T T' : wa_St} {z : Int} (hwf : wf T) (h : lu T) (m : mks T T' z) {y : Int} (h0 : 0 ≤ y) (hy : y < T 8 0) (hne : y ≠ z) (hz : 0 ≤ z) : gd T' y ↔ gd T y := by
  have k7 := m.2.2.2.2.1 y.toNat
  rw [if_neg (by omega)] at k7
  unfold gd
  rw [m.mgz, k7]
  constructor
  · intro ⟨h7, g⟩
    obtain ⟨-, t2, t3⟩ := m.top hwf h (y := y.toNat) (by omega) (by omega) h7
    rw [t2, t3] at g
    exact ⟨h7, g⟩
  · intro ⟨h7, g⟩
    obtain ⟨-, t2, t3⟩ := m.top hwf h (y := y.toNat) (by omega) (by omega) h7
    rw [t2, t3]
    exact ⟨h7, g⟩
