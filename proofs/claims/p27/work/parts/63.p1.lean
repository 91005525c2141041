/-! pure: layers as lists of what they were made of; paths of images; freshness both ways -/
/-- what a layer is made of, from the lowest on: (input, version) -/
def wl (T : wa_St) : Nat → Int → List (Int × Int)
  | 0, _ => []
  | n + 1, z => if z < 0 then [] else wl T n (T 9 z.toNat) ++ [(T 10 z.toNat, T 11 z.toNat)]
def wz (T : wa_St) (z : Int) : List (Int × Int) := wl T (z.toNat + 1) z
/-- layers lie on lower ones, and no two are alike -/
def lu (T : wa_St) : Prop := (∀ j : Nat, (j : Int) < T 12 0 → -1 ≤ T 9 j ∧ T 9 j < (j : Int)) ∧ ∀ j k : Nat, (j : Int) < T 12 0 → (k : Int) < T 12 0 → T 9 j = T 9 k → T 10 j = T 10 k → T 11 j = T 11 k → j = k
theorem wl_neg (T : wa_St) (n : Nat) {z : Int} (h : z < 0) : wl T n z = [] := by
  cases n with
  | zero => rfl
  | succ n => exact if_pos h
theorem wl_eq {T : wa_St} (h : lu T) : ∀ (n m : Nat) (z : Int), z < T 12 0 → z < (n : Int) → z < (m : Int) → wl T n z = wl T m z := by
  intro n
  induction n with
  | zero => intro m z _ h1 _; rw [wl_neg T 0 (by omega), wl_neg T m (by omega)]
  | succ n ih =>
    intro m z hz h1 h2
    by_cases hn : z < 0
    · rw [wl_neg T _ hn, wl_neg T m hn]
    · cases m with
      | zero => exact absurd h2 (by omega)
      | succ m =>
        have q := h.1 z.toNat (by omega)
        show (if z < 0 then [] else _) = (if z < 0 then [] else _)
        rw [if_neg hn, if_neg hn, ih m (T 9 z.toNat) (by omega) (by omega) (by omega)]
theorem wz_neg (T : wa_St) {z : Int} (h : z < 0) : wz T z = [] := wl_neg T _ h
theorem wz_pos {T : wa_St} (h : lu T) {z : Int} (h0 : 0 ≤ z) (hz : z < T 12 0) : wz T z = wz T (T 9 z.toNat) ++ [(T 10 z.toNat, T 11 z.toNat)] := by
  have q := h.1 z.toNat (by omega)
  show (if z < 0 then [] else _) = _
  rw [if_neg (by omega), wl_eq h z.toNat ((T 9 z.toNat).toNat + 1) (T 9 z.toNat) (by omega) (by omega) (by omega)]
  rfl
theorem wz_inj {T : wa_St} (h : lu T) : ∀ (n : Nat) (z z' : Int), z < (n : Int) → (-1 ≤ z ∧ z < T 12 0) → (-1 ≤ z' ∧ z' < T 12 0) → wz T z = wz T z' → z = z' := by
  intro n
  induction n with
  | zero =>
    intro z z' hn hz hz' e
    by_cases q : z' < 0
    · omega
    · rw [wz_neg T (by omega), wz_pos h (by omega) hz'.2] at e
      exact absurd e (by simp)
  | succ n ih =>
    intro z z' hn hz hz' e
    by_cases q : z' < 0
    · by_cases q2 : z < 0
      · omega
      · rw [wz_neg T q, wz_pos h (by omega) hz.2] at e
        exact absurd e (by simp)
    · by_cases q2 : z < 0
      · rw [wz_neg T q2, wz_pos h (by omega) hz'.2] at e
        exact absurd e (by simp)
      · have b := h.1 z.toNat (by omega)
        have b' := h.1 z'.toNat (by omega)
        rw [wz_pos h (by omega) hz.2, wz_pos h (by omega) hz'.2] at e
        obtain ⟨e1, e2⟩ := List.append_inj' e rfl
        have e3 := ih (T 9 z.toNat) (T 9 z'.toNat) (by omega) (by omega) (by omega) e1
        have e4 : (T 10 z.toNat, T 11 z.toNat) = (T 10 z'.toNat, T 11 z'.toNat) := List.singleton_inj.mp e2
        have e5 := h.2 z.toNat z'.toNat (by omega) (by omega) e3 (congrArg Prod.fst e4) (congrArg Prod.snd e4)
        omega
theorem wz_inj' {T : wa_St} (h : lu T) {z z' : Int} (hz : -1 ≤ z ∧ z < T 12 0) (hz' : -1 ≤ z' ∧ z' < T 12 0) (e : wz T z = wz T z') : z = z' := wz_inj h (z.toNat + 1) z z' (by omega) hz hz' e
/-- a beginning of a layer's list is a layer's list -/
theorem wz_pre {T : wa_St} (h : lu T) : ∀ (n : Nat) (z : Int) (a b : List (Int × Int)), z < (n : Int) → (-1 ≤ z ∧ z < T 12 0) → wz T z = a ++ b → ∃ l : Int, (-1 ≤ l ∧ l < T 12 0) ∧ wz T l = a := by
  intro n
  induction n with
  | zero =>
    intro z a b hn hz e
    rw [wz_neg T (by omega)] at e
    exact ⟨z, hz, by rw [wz_neg T (by omega)]; exact (List.append_eq_nil_iff.mp e.symm).1.symm⟩
  | succ n ih =>
    intro z a b hn hz e
    by_cases q : z < 0
    · rw [wz_neg T q] at e
      exact ⟨z, hz, by rw [wz_neg T q]; exact (List.append_eq_nil_iff.mp e.symm).1.symm⟩
    · rcases List.eq_nil_or_concat b with hb | ⟨b', x, hb⟩
      · exact ⟨z, hz, by rw [e, hb, List.append_nil]⟩
      · have bd := h.1 z.toNat (by omega)
        rw [wz_pos h (by omega) hz.2, hb, List.concat_eq_append, ← List.append_assoc] at e
        obtain ⟨e1, e2⟩ := List.append_inj' e rfl
        exact ih (T 9 z.toNat) a b' (by omega) (by omega) e1
theorem wz_pre' {T : wa_St} (h : lu T) {z : Int} {a b : List (Int × Int)} (hz : -1 ≤ z ∧ z < T 12 0) (e : wz T z = a ++ b) : ∃ l : Int, (-1 ≤ l ∧ l < T 12 0) ∧ wz T l = a := wz_pre h (z.toNat + 1) z a b (by omega) hz e
theorem f_fnd_spec (p : Nat → Bool) : ∀ (n i : Nat), (f_fnd p n i = -2 ∧ ∀ v, i ≤ v → v < i + n → ¬ p v = true) ∨ ∃ v : Nat, i ≤ v ∧ v < i + n ∧ p v = true ∧ f_fnd p n i = (v : Int) := by
  intro n
  induction n with
  | zero => intro i; exact Or.inl ⟨rfl, fun v h1 h2 => absurd h2 (by omega)⟩
  | succ n ih =>
    intro i
    by_cases q : p i = true
    · exact Or.inr ⟨i, by omega, by omega, q, if_pos q⟩
    · have e : f_fnd p (n + 1) i = f_fnd p n (i + 1) := if_neg q
      rcases ih (i + 1) with ⟨h1, h2⟩ | ⟨v, h1, h2, h3, h4⟩
      · refine Or.inl ⟨by rw [e, h1], fun v k1 k2 => ?_⟩
        by_cases g : v = i
        · rw [g]; exact q
        · exact h2 v (by omega) (by omega)
      · exact Or.inr ⟨v, by omega, by omega, h3, by rw [e, h4]⟩
theorem find_spec (T : wa_St) (lo inp ver : Int) : (f_find T lo inp ver = -2 ∧ ∀ l : Nat, (l : Int) < T 12 0 → ¬ (T 9 l = lo ∧ T 10 l = inp ∧ T 11 l = ver)) ∨ ∃ l : Nat, (l : Int) < T 12 0 ∧ (T 9 l = lo ∧ T 10 l = inp ∧ T 11 l = ver) ∧ f_find T lo inp ver = (l : Int) := by
  rcases f_fnd_spec (fun l => decide (T 9 l = lo ∧ T 10 l = inp ∧ T 11 l = ver)) (T 12 0).toNat 0 with ⟨h1, h2⟩ | ⟨v, h1, h2, h3, h4⟩
  · exact Or.inl ⟨h1, fun l hl hm => h2 l (by omega) (by omega) (decide_eq_true hm)⟩
  · exact Or.inr ⟨v, by omega, of_decide_eq_true h3, h4⟩
theorem find_wz {T : wa_St} (h : lu T) {lo inp ver z : Int} (hlo : -1 ≤ lo ∧ lo < T 12 0) (hz : -1 ≤ z ∧ z < T 12 0) : f_find T lo inp ver = z ↔ wz T z = wz T lo ++ [(inp, ver)] := by
  constructor
  · intro e
    rcases find_spec T lo inp ver with ⟨h1, -⟩ | ⟨l, h1, ⟨h2, h3, h4⟩, h5⟩
    · omega
    · have hl : z = (l : Int) := by omega
      subst hl
      rw [wz_pos h (by omega) h1, Int.toNat_natCast, h2, h3, h4]
  · intro e
    have h0 : ¬ z < 0 := fun q => by rw [wz_neg T q] at e; exact absurd e (by simp)
    have b := h.1 z.toNat (by omega)
    rw [wz_pos h (by omega) hz.2] at e
    obtain ⟨e1, e2⟩ := List.append_inj' e rfl
    have e3 := wz_inj' h (by omega) hlo e1
    have e4 : (T 10 z.toNat, T 11 z.toNat) = (inp, ver) := List.singleton_inj.mp e2
    have e5 : T 10 z.toNat = inp := congrArg Prod.fst e4
    have e6 : T 11 z.toNat = ver := congrArg Prod.snd e4
    rcases find_spec T lo inp ver with ⟨-, h2⟩ | ⟨l, h1, ⟨h2, h3, h4⟩, h5⟩
    · exact absurd ⟨e3, e5, e6⟩ (h2 z.toNat (by omega))
    · have := h.2 l z.toNat h1 (by omega) (by omega) (by omega) (by omega)
      omega
/-- n steps from place s on, as a list -/
def stl (T : wa_St) : Nat → Nat → List (Int × Int)
  | 0, _ => []
  | n + 1, s => (T 5 s, T 2 (T 5 s).toNat) :: stl T n (s + 1)
theorem stl_len (T : wa_St) : ∀ n s, (stl T n s).length = n := by
  intro n
  induction n with
  | zero => intro s; rfl
  | succ n ih => intro s; show (stl T n (s + 1)).length + 1 = n + 1; rw [ih]
theorem f_top_lt {T : wa_St} : ∀ (n s : Nat) (z : Int), (-1 ≤ z ∧ z < T 12 0) ∨ z = -2 → f_top T n s z = -2 ∨ (-1 ≤ f_top T n s z ∧ f_top T n s z < T 12 0) := by
  intro n
  induction n with
  | zero => intro s z hz; exact hz.symm
  | succ n ih =>
    intro s z hz
    by_cases q : z = -2
    · left; rw [q]; exact f_top_m2 T _ _
    · have e : f_top T (n + 1) s z = f_top T n (s + 1) (f_find T z (T 5 s) (T 2 (T 5 s).toNat)) := if_neg q
      rw [e]
      refine ih _ _ ?_
      rcases find_spec T z (T 5 s) (T 2 (T 5 s).toNat) with ⟨h1, -⟩ | ⟨l, h1, -, h5⟩
      · exact Or.inr h1
      · exact Or.inl (by omega)
theorem top_wz {T : wa_St} (h : lu T) : ∀ (n s : Nat) (z z' : Int), (-1 ≤ z ∧ z < T 12 0) → (-1 ≤ z' ∧ z' < T 12 0) → (f_top T n s z = z' ↔ wz T z' = wz T z ++ stl T n s) := by
  intro n
  induction n with
  | zero =>
    intro s z z' hz hz'
    show z = z' ↔ wz T z' = wz T z ++ []
    rw [List.append_nil]
    exact ⟨fun e => by rw [e], fun e => (wz_inj' h hz' hz e).symm⟩
  | succ n ih =>
    intro s z z' hz hz'
    have e : f_top T (n + 1) s z = f_top T n (s + 1) (f_find T z (T 5 s) (T 2 (T 5 s).toNat)) := if_neg (by omega)
    rw [e]
    show _ ↔ wz T z' = wz T z ++ ((T 5 s, T 2 (T 5 s).toNat) :: stl T n (s + 1))
    rw [show (T 5 s, T 2 (T 5 s).toNat) :: stl T n (s + 1) = [(T 5 s, T 2 (T 5 s).toNat)] ++ stl T n (s + 1) from rfl, ← List.append_assoc]
    rcases find_spec T z (T 5 s) (T 2 (T 5 s).toNat) with ⟨h1, h2⟩ | ⟨l, h1, h2, h5⟩
    · rw [h1, f_top_m2]
      refine ⟨fun q => by omega, fun q => ?_⟩
      obtain ⟨l, hl, hl2⟩ := wz_pre' h hz' q
      have := (find_wz h hz hl).mpr hl2
      omega
    · rw [ih (s + 1) _ z' (by omega) hz', (find_wz h hz (z := f_find T z (T 5 s) (T 2 (T 5 s).toNat)) (by omega)).mp rfl]
/-- all steps of an image's forefathers and its own, as a list -/
def gp (T : wa_St) : Nat → Int → List (Int × Int)
  | 0, _ => []
  | n + 1, z => if z < 0 then [] else gp T n (T 4 z.toNat) ++ stl T (T 6 z.toNat).toNat (5 * z.toNat)
def gz (T : wa_St) (z : Int) : List (Int × Int) := gp T (z.toNat + 1) z
abbrev pa (T : wa_St) : Prop := ∀ i : Nat, (i : Int) < T 8 0 → -1 ≤ T 4 i ∧ T 4 i < i
theorem gp_neg (T : wa_St) (n : Nat) {z : Int} (h : z < 0) : gp T n z = [] := by
  cases n with
  | zero => rfl
  | succ n => exact if_pos h
theorem gp_eq {T : wa_St} (h : pa T) : ∀ (n m : Nat) (z : Int), z < T 8 0 → z < (n : Int) → z < (m : Int) → gp T n z = gp T m z := by
  intro n
  induction n with
  | zero => intro m z _ h1 _; rw [gp_neg T 0 (by omega), gp_neg T m (by omega)]
  | succ n ih =>
    intro m z hz h1 h2
    by_cases hn : z < 0
    · rw [gp_neg T _ hn, gp_neg T m hn]
    · cases m with
      | zero => exact absurd h2 (by omega)
      | succ m =>
        have q := h z.toNat (by omega)
        show (if z < 0 then [] else _) = (if z < 0 then [] else _)
        rw [if_neg hn, if_neg hn, ih m (T 4 z.toNat) (by omega) (by omega) (by omega)]
theorem gz_neg (T : wa_St) {z : Int} (h : z < 0) : gz T z = [] := gp_neg T _ h
theorem gz_pos {T : wa_St} (h : pa T) {z : Int} (h0 : 0 ≤ z) (hz : z < T 8 0) : gz T z = gz T (T 4 z.toNat) ++ stl T (T 6 z.toNat).toNat (5 * z.toNat) := by
  have q := h z.toNat (by omega)
  show (if z < 0 then [] else _) = _
  rw [if_neg (by omega), gp_eq h z.toNat ((T 4 z.toNat).toNat + 1) (T 4 z.toNat) (by omega) (by omega) (by omega)]
  rfl
/-- the latest bake of an image was made of what all steps would take now -/
def gd (T : wa_St) (z : Int) : Prop := 0 ≤ T 7 z.toNat ∧ wz T (T 14 (T 7 z.toNat).toNat) = gz T z
/-- .. and so for its forefathers -/
def fs (T : wa_St) : Nat → Int → Prop
  | 0, _ => True
  | n + 1, z => z < 0 ∨ (gd T z ∧ fs T n (T 4 z.toNat))
theorem fs_neg (T : wa_St) (n : Nat) {z : Int} (h : z < 0) : fs T n z := by
  cases n with
  | zero => trivial
  | succ n => exact Or.inl h
theorem fs_eq {T : wa_St} (h : pa T) : ∀ (n m : Nat) (z : Int), z < T 8 0 → z < (n : Int) → z < (m : Int) → (fs T n z ↔ fs T m z) := by
  intro n
  induction n with
  | zero => intro m z _ h1 _; exact ⟨fun _ => fs_neg T m (by omega), fun _ => trivial⟩
  | succ n ih =>
    intro m z hz h1 h2
    by_cases hn : z < 0
    · exact ⟨fun _ => fs_neg T m hn, fun _ => fs_neg T _ hn⟩
    · cases m with
      | zero => exact absurd h2 (by omega)
      | succ m =>
        have q := h z.toNat (by omega)
        have i := ih m (T 4 z.toNat) (by omega) (by omega) (by omega)
        show (z < 0 ∨ (_ ∧ _)) ↔ (z < 0 ∨ (_ ∧ _))
        rw [i]
