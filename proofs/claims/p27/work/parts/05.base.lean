/-! MY WORDS: all words of the tables that hold along a run, the nest links, the world as a map -/
def wa_isNest : Cond → Bool
  | .fieldLinkNest .. => true
  | .methodLinkNest .. => true
  | .arrayOver (.object _) => true
  | .declares _ => true
  | .castable _ _ => true
  | _ => false
def wa_ALL : List Cond := lw_tbl.filter goodWord
def wa_NST : List Cond := tables_1.filter wa_isNest
theorem wa_good : GoodIn wa_ALL wa_ALL := fun w h => ⟨h, good_of_word (List.mem_filter.mp h).2⟩
theorem wa_in {w : Cond} (i : Nat) (h : lw_tbl[i]? = some w) (hg : goodWord w = true) : w ∈ wa_ALL := List.mem_filter.mpr ⟨List.mem_of_getElem? h, hg⟩
theorem wa_inN {w : Cond} (i : Nat) (h : tables_1[i]? = some w) (hg : wa_isNest w = true) : w ∈ wa_NST := List.mem_filter.mpr ⟨List.mem_of_getElem? h, hg⟩
abbrev wa_ty (cy : Nat → ClassId) : List (ClassId × FieldType) := [(cy 0, .int), (cy 0, .int), (cy 2, .object RX0), (cy 3, .object RX1), (cy 4, .object RX3)]
/-- what every method of the system is told of the tables -/
def wa_SB (D : va_G) (cy : Nat → ClassId) (U : State) : Prop := (∀ w ∈ wa_ALL, w.before #[] U = true) ∧ (∀ w ∈ wa_NST, va_Nw w U) ∧ va_K D vwCl (wa_ty cy) U
theorem wa_SB.all {D : va_G} {cy : Nat → ClassId} {s : State} (h : wa_SB D cy s) (args : Array Value) : ∀ w ∈ wa_ALL, w.before args s = true :=
  fun w hw => pay_in h.1 wa_good w hw args s (State.WarmedH.refl s)
theorem wa_nestW {w : Cond} (hn : wa_isNest w = true) {s U : State} (hW : s.WarmedH U.vm) (h : va_Nw w s) : va_Nw w U := by
  cases w <;> first | exact h.warmF hW | exact h.warmM hW | exact va_Nw.warmF hW h | exact va_Nw.warmM hW h | exact va_Nw.warmD hW h | exact va_Nw.warmC hW h | (simp [wa_isNest] at hn; done) | (rename_i ty; cases ty <;> first | (simp [wa_isNest] at hn; done) | exact va_AO.moved hW.alike h)
theorem wa_SB.warm {D : va_G} {cy : Nat → ClassId} {s U : State} (h : wa_SB D cy s) (hW : s.WarmedH U.vm) : wa_SB D cy U :=
  ⟨fun w hw => pay_in h.1 wa_good w hw #[] U hW, fun w hw => wa_nestW (List.mem_filter.mp hw).2 hW (h.2.1 w hw), va_K.moved hW.alike h.2.2⟩
/-- a start: the arguments, the tables, and what is said of the heap -/
def wa_pc (av : List Value) (D : va_G) (cy : Nat → ClassId) (Pre : Heap → Prop) : Array Value → State → Prop := fun v U => v = av.toArray ∧ wa_SB D cy U ∧ Pre U.heap
theorem wa_blind {av : List Value} {D : va_G} {cy : Nat → ClassId} {Pre : Heap → Prop} : FrameBlind (wa_pc av D cy Pre) := by
  intro a U g mk h
  exact ⟨h.1, wa_SB.warm h.2.1 (State.WarmedH.refl U), h.2.2⟩
theorem wa_pre {av : List Value} {D : va_G} {cy : Nat → ClassId} {Pre : Heap → Prop} {s : State} {H : Heap} (hs : wa_SB D cy s) (hP : Pre H) : PreS s H (wa_pc av D cy Pre) av :=
  ⟨wa_blind, fun U hU hW => ⟨rfl, hs.warm hW, by rw [hU]; exact hP⟩⟩
/-- the world: a map from (kind, place) to cells, the addresses by ad -/
abbrev wa_C : Type := Nat → Nat → Option va_E
def wa_wd (D : va_G) (ad : Nat → Nat → Nat) (C : wa_C) (H : Heap) : Prop := ∀ (kd i : Nat) (e : va_E), C kd i = some e → va_at D vwCl (ad kd i, e) H
def wa_wj (A : Nat → Prop) (ad : Nat → Nat → Nat) (C : wa_C) : Prop := (∀ (kd i kd' i' : Nat) (e e' : va_E), C kd i = some e → C kd' i' = some e' → ad kd i = ad kd' i' → kd = kd' ∧ i = i') ∧ ∀ (kd i : Nat) (e : va_E), C kd i = some e → A (ad kd i)
def wa_up (C : wa_C) (kd i : Nat) (e : va_E) : wa_C := fun a b => if a = kd ∧ b = i then some e else C a b
def wa_ad (ad : Nat → Nat → Nat) (kd i q : Nat) : Nat → Nat → Nat := fun a b => if a = kd ∧ b = i then q else ad a b
theorem wa_up_s (C : wa_C) (kd i : Nat) (e : va_E) : wa_up C kd i e kd i = some e := by simp [wa_up]
theorem wa_up_n {C : wa_C} {kd i a b : Nat} {e : va_E} (h : ¬ (a = kd ∧ b = i)) : wa_up C kd i e a b = C a b := by simp [wa_up, h]
theorem wa_one {D : va_G} {ad : Nat → Nat → Nat} {C : wa_C} {H : Heap} {kd i : Nat} {e : va_E} (h : wa_wd D ad C H) (he : C kd i = some e) : va_P D vwCl [(ad kd i, e)] H := by
  intro k q hk
  match k, hk with
  | 0, hk => cases hk; exact h kd i e he
  | k + 1, hk => simp at hk
theorem wa_wd.put {D : va_G} {A : Nat → Prop} {ad : Nat → Nat → Nat} {C : wa_C} {H H1 : Heap} {kd i : Nat} {e0 e : va_E} (h : wa_wd D ad C H) (hj : wa_wj A ad C) (he : C kd i = some e0) (h1 : va_at D vwCl (ad kd i, e) H1) (oq : ∀ q : Nat, q ≠ ad kd i → H1[q]? = H[q]?) : wa_wd D ad (wa_up C kd i e) H1 := by
  intro a b e' hc
  by_cases hab : a = kd ∧ b = i
  · obtain ⟨rfl, rfl⟩ := hab
    rw [wa_up_s] at hc
    cases hc
    exact h1
  · rw [wa_up_n hab] at hc
    exact (h a b e' hc).kept (oq _ (fun q => hab (hj.1 _ _ _ _ _ _ hc he q)))
theorem wa_wj.put {A : Nat → Prop} {ad : Nat → Nat → Nat} {C : wa_C} {kd i : Nat} {e0 e : va_E} (hj : wa_wj A ad C) (he : C kd i = some e0) : wa_wj A ad (wa_up C kd i e) := by
  have key : ∀ (a b : Nat) (x : va_E), wa_up C kd i e a b = some x → ∃ y, C a b = some y := by
    intro a b x hx
    by_cases hab : a = kd ∧ b = i
    · obtain ⟨rfl, rfl⟩ := hab; exact ⟨_, he⟩
    · rw [wa_up_n hab] at hx; exact ⟨_, hx⟩
  refine ⟨fun a b a' b' x x' hx hx' q => ?_, fun a b x hx => ?_⟩
  · obtain ⟨y, hy⟩ := key _ _ _ hx
    obtain ⟨y', hy'⟩ := key _ _ _ hx'
    exact hj.1 _ _ _ _ _ _ hy hy' q
  · obtain ⟨y, hy⟩ := key _ _ _ hx
    exact hj.2 _ _ _ hy
theorem wa_wd.lt {D : va_G} {ad : Nat → Nat → Nat} {C : wa_C} {H : Heap} {kd i : Nat} {e : va_E} (h : wa_wd D ad C H) (he : C kd i = some e) : ad kd i < H.size := (h kd i e he).lt
theorem wa_wd.add {D : va_G} {ad : Nat → Nat → Nat} {C : wa_C} {H H1 : Heap} {kd i q : Nat} {e : va_E} (h : wa_wd D ad C H) (hn : C kd i = none) (h1 : va_at D vwCl (q, e) H1) (oq : ∀ x : Nat, x < H.size → H1[x]? = H[x]?) : wa_wd D (wa_ad ad kd i q) (wa_up C kd i e) H1 := by
  intro a b e' hc
  by_cases hab : a = kd ∧ b = i
  · obtain ⟨rfl, rfl⟩ := hab
    rw [wa_up_s] at hc
    cases hc
    simpa [wa_ad] using h1
  · rw [wa_up_n hab] at hc
    have hx : wa_ad ad kd i q a b = ad a b := by simp [wa_ad, hab]
    rw [hx]
    exact (h a b e' hc).kept (oq _ (h.lt hc))
theorem wa_wj.add {D : va_G} {A : Nat → Prop} {ad : Nat → Nat → Nat} {C : wa_C} {H : Heap} {kd i q : Nat} {e : va_E} (hj : wa_wj A ad C) (h : wa_wd D ad C H) (hq : H.size ≤ q) (hA : A q) : wa_wj A (wa_ad ad kd i q) (wa_up C kd i e) := by
  have key : ∀ (a b : Nat) (x : va_E), wa_up C kd i e a b = some x → ((a = kd ∧ b = i) ∧ wa_ad ad kd i q a b = q) ∨ (¬ (a = kd ∧ b = i) ∧ C a b = some x ∧ wa_ad ad kd i q a b = ad a b ∧ ad a b < q) := by
    intro a b x hx
    by_cases hab : a = kd ∧ b = i
    · exact Or.inl ⟨hab, by simp [wa_ad, hab]⟩
    · rw [wa_up_n hab] at hx
      exact Or.inr ⟨hab, hx, by simp [wa_ad, hab], Nat.lt_of_lt_of_le (h.lt hx) hq⟩
  refine ⟨fun a b a' b' x x' hx hx' g => ?_, fun a b x hx => ?_⟩
  · rcases key _ _ _ hx with ⟨h1, h2⟩ | ⟨h1, h2, h3, h4⟩ <;> rcases key _ _ _ hx' with ⟨k1, k2⟩ | ⟨k1, k2, k3, k4⟩
    · exact ⟨h1.1.trans k1.1.symm, h1.2.trans k1.2.symm⟩
    · omega
    · omega
    · exact hj.1 _ _ _ _ _ _ h2 k2 (by omega)
  · rcases key _ _ _ hx with ⟨h1, h2⟩ | ⟨h1, h2, h3, h4⟩
    · rw [h2]; exact hA
    · rw [h3]; exact hj.2 _ _ _ h2
theorem wa_wd.grow {D : va_G} {ad : Nat → Nat → Nat} {C : wa_C} {H H1 : Heap} (h : wa_wd D ad C H) (oq : ∀ x : Nat, x < H.size → H1[x]? = H[x]?) : wa_wd D ad C H1 := fun a b e hc => (h a b e hc).kept (oq _ (h.lt hc))
