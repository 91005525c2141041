/-! the class's side: rows of its references, its cells, what its own rows keep -/
section WXR
variable {p : Program} {l : Launch} {e : Env} {R : Room} {s : State} {m : MethodId} {args : Array Value} {below : List Frame} {meth : Method} {c : Code} {H : Heap} {locs : List Loc} {cells slots : Nat} {Q : State → Prop}
variable {cc : ByteArray} {pc : Nat} {ls : Array Slot} {rest st0 : List Value} {D : va_G} {A : Nat → Prop} {H0 : Heap} {cy : Nat → ClassId} {ad : Nat → Nat → Nat} {S X T : wa_St} {o : Int64} {nL : Nat} {own nm : String} {ret : Option FieldType}
theorem wa_op_s {ad : Nat → Nat → Nat} {kd : Nat} {z : Int} (h : 0 ≤ z) : wa_op ad kd z = some (ad kd z.toNat) := if_neg (Int.not_lt.mpr h)
theorem wa_op_n {ad : Nat → Nat → Nat} {kd : Nat} {z : Int} (h : z < 0) : wa_op ad kd z = none := if_pos h
theorem wa_op_ref {ad : Nat → Nat → Nat} {kd : Nat} {z : Int} (h : 0 ≤ z) : va_rf (wa_op ad kd z) = .ref (ad kd z.toNat) := by rw [wa_op_s h]; rfl
theorem wx_in_s {ad : Nat → Nat → Nat} {kd : Nat} {n : Int} {j : Nat} (h : (j : Int) < n) : wx_in ad kd n j = some (ad kd j) := if_pos h
theorem wx_in_n {ad : Nat → Nat → Nat} {kd : Nat} {n : Int} {j : Nat} (h : n ≤ (j : Int)) : wx_in ad kd n j = none := if_neg (Int.not_lt.mpr h)
theorem wx_in_ref {ad : Nat → Nat → Nat} {kd : Nat} {n : Int} {j : Nat} (h : (j : Int) < n) : va_rf (wx_in ad kd n j) = .ref (ad kd j) := by rw [wx_in_s h]; rfl
theorem wa_nu_op {kd : Nat} {z : Int} {off : Int} {tgt : Nat} (F : wa_fx p s m c meth args cc nL own nm ret D cy) (hdg : decode cc pc = .ok (.ifnull off, 3)) (ht : (pc : Int) + off = (tgt : Int)) (kt : z < 0 → W p l e R s m args below meth c H locs cells slots Q (F0 m tgt ls rest)) (kf : 0 ≤ z → W p l e R s m args below meth c H locs cells slots Q (F0 m (pc + 3) ls rest)) : W p l e R s m args below meth c H locs cells slots Q (F0 m pc ls (va_rf (wa_op ad kd z) :: rest)) :=
  wa_ifnull F hdg ht (fun h => kt (by by_cases q : z < 0; exact q; rw [wa_op_s (by omega)] at h; cases h)) (fun a h => kf (by by_cases q : z < 0; (rw [wa_op_n q] at h; cases h); omega))
theorem wa_nn_op {kd : Nat} {z : Int} {off : Int} {tgt : Nat} (F : wa_fx p s m c meth args cc nL own nm ret D cy) (hdg : decode cc pc = .ok (.ifnonnull off, 3)) (ht : (pc : Int) + off = (tgt : Int)) (kt : 0 ≤ z → W p l e R s m args below meth c H locs cells slots Q (F0 m tgt ls rest)) (kf : z < 0 → W p l e R s m args below meth c H locs cells slots Q (F0 m (pc + 3) ls rest)) : W p l e R s m args below meth c H locs cells slots Q (F0 m pc ls (va_rf (wa_op ad kd z) :: rest)) :=
  wa_ifnonnull F hdg ht (fun a h => kt (by by_cases q : z < 0; (rw [wa_op_n q] at h; cases h); omega)) (fun h => kf (by by_cases q : z < 0; exact q; rw [wa_op_s (by omega)] at h; cases h))
theorem wa_nu_in {kd : Nat} {n : Int} {j : Nat} {off : Int} {tgt : Nat} (F : wa_fx p s m c meth args cc nL own nm ret D cy) (hdg : decode cc pc = .ok (.ifnull off, 3)) (ht : (pc : Int) + off = (tgt : Int)) (kt : n ≤ (j : Int) → W p l e R s m args below meth c H locs cells slots Q (F0 m tgt ls rest)) (kf : (j : Int) < n → W p l e R s m args below meth c H locs cells slots Q (F0 m (pc + 3) ls rest)) : W p l e R s m args below meth c H locs cells slots Q (F0 m pc ls (va_rf (wx_in ad kd n j) :: rest)) :=
  wa_ifnull F hdg ht (fun h => kt (by by_cases q : (j : Int) < n; (rw [wx_in_s q] at h; cases h); omega)) (fun a h => kf (by by_cases q : (j : Int) < n; exact q; rw [wx_in_n (by omega)] at h; cases h))
theorem wa_nn_in {kd : Nat} {n : Int} {j : Nat} {off : Int} {tgt : Nat} (F : wa_fx p s m c meth args cc nL own nm ret D cy) (hdg : decode cc pc = .ok (.ifnonnull off, 3)) (ht : (pc : Int) + off = (tgt : Int)) (kt : (j : Int) < n → W p l e R s m args below meth c H locs cells slots Q (F0 m tgt ls rest)) (kf : n ≤ (j : Int) → W p l e R s m args below meth c H locs cells slots Q (F0 m (pc + 3) ls rest)) : W p l e R s m args below meth c H locs cells slots Q (F0 m pc ls (va_rf (wx_in ad kd n j) :: rest)) :=
  wa_ifnonnull F hdg ht (fun a h => kt (by by_cases q : (j : Int) < n; exact q; rw [wx_in_n (by omega)] at h; cases h)) (fun h => kf (by by_cases q : (j : Int) < n; (rw [wx_in_s q] at h; cases h); omega))
theorem wa_ac_ne {rx ry : Option Nat} {P : Prop} {off : Int} {tgt : Nat} (F : wa_fx p s m c meth args cc nL own nm ret D cy) (hP : rx = ry ↔ P) (hdg : decode cc pc = .ok (.if_acmp .ne off, 3)) (ht : (pc : Int) + off = (tgt : Int)) (kt : ¬ P → W p l e R s m args below meth c H locs cells slots Q (F0 m tgt ls rest)) (kf : P → W p l e R s m args below meth c H locs cells slots Q (F0 m (pc + 3) ls rest)) : W p l e R s m args below meth c H locs cells slots Q (F0 m pc ls (va_rf ry :: va_rf rx :: rest)) := lv_acmp_ne F.1.1 F.1.2.1 hdg ht (fun h => kt (fun q => h (hP.mpr q))) (fun h => kf (hP.mp h))
theorem wa_ac_eq {rx ry : Option Nat} {P : Prop} {off : Int} {tgt : Nat} (F : wa_fx p s m c meth args cc nL own nm ret D cy) (hP : rx = ry ↔ P) (hdg : decode cc pc = .ok (.if_acmp .eq off, 3)) (ht : (pc : Int) + off = (tgt : Int)) (kt : P → W p l e R s m args below meth c H locs cells slots Q (F0 m tgt ls rest)) (kf : ¬ P → W p l e R s m args below meth c H locs cells slots Q (F0 m (pc + 3) ls rest)) : W p l e R s m args below meth c H locs cells slots Q (F0 m pc ls (va_rf ry :: va_rf rx :: rest)) := lv_acmp_eq F.1.1 F.1.2.1 hdg ht (fun h => kt (hP.mp h)) (fun h => kf (fun q => h (hP.mpr q)))
end WXR
theorem wW_1 {cy : Nat → ClassId} {ad : Nat → Nat → Nat} {S X T : wa_St} {o : Int64} {i : Nat} (h : (i : Int) < S 8 0) : wW cy ad S X T o 1 i = some (.inr (1, wx_fI ad S X i)) := if_pos h
theorem wW_2 {cy : Nat → ClassId} {ad : Nat → Nat → Nat} {S X T : wa_St} {o : Int64} {i : Nat} (h : (i : Int) < S 8 0) : wW cy ad S X T o 2 i = some (wa_aI (cy 0) 5 (fun j => S 5 (5 * i + j))) := if_pos h
theorem wW_3 {cy : Nat → ClassId} {ad : Nat → Nat → Nat} {S X T : wa_St} {o : Int64} {i : Nat} (h : (i : Int) < S 21 0) : wW cy ad S X T o 3 i = some (.inr (0, wx_fB ad S i)) := if_pos h
theorem wW_4 {cy : Nat → ClassId} {ad : Nat → Nat → Nat} {S X T : wa_St} {o : Int64} {i : Nat} (h : (i : Int) < S 21 0) : wW cy ad S X T o 4 i = some (wa_aI (cy 0) 3 (fun j => S 20 (3 * i + j))) := if_pos h
theorem wW_5 {cy : Nat → ClassId} {ad : Nat → Nat → Nat} {S X T : wa_St} {o : Int64} {i : Nat} (h : (i : Int) < S 29 0) : wW cy ad S X T o 5 i = some (.inr (3, wx_fM ad S i)) := if_pos h
/-- two objects of a kind are one object where their places are the same -/
theorem wx_ne {A : Nat → Prop} {ad : Nat → Nat → Nat} {C : wa_C} {kd i j : Nat} {e e' : va_E} (hj : wa_wj A ad C) (hi : C kd i = some e) (hi' : C kd j = some e') : ad kd i = ad kd j ↔ i = j := ⟨fun h => (hj.1 _ _ _ _ _ _ hi hi' h).2, fun h => by rw [h]⟩
def f_at (n : Nat) (g : Nat → Int) (z : Int) : Int := if 0 ≤ z ∧ z < (n : Int) then g z.toNat else -1
abbrev f_isOf (S : wa_St) (z inp ver : Int) : Prop := (0 ≤ z ∧ z < S 12 0) ∧ S 10 z.toNat = inp ∧ S 11 z.toNat = ver
/-- what the class's own rows keep -/
def xr (S X : wa_St) : Prop := (∀ j : Nat, (j : Int) < S 12 0 → X 2 j = S 9 j ∧ X 3 j = S 10 j ∧ X 4 j = S 11 j) ∧ (∀ k j, -2 ≤ X k j ∧ X k j ≤ 100000) ∧ (∀ j, -1 ≤ X 11 j ∧ X 11 j < S 8 0) ∧ (∀ j : Nat, S 8 0 ≤ (j : Int) → X 11 j = -1) ∧ (∀ j, -1 ≤ S 9 j) ∧ (∀ j, -1 ≤ X 12 j ∧ X 12 j < S 8 0) ∧ (∀ j, -1 ≤ X 14 j ∧ X 14 j < S 29 0) ∧ (∀ j : Nat, (j : Int) < S 12 0 → S 9 j < (j : Int))
/-- objects of a kind at different places are apart -/
def wx_inj (ad : Nat → Nat → Nat) (S : wa_St) : Prop := (∀ i j : Nat, (i : Int) < S 8 0 → (j : Int) < S 8 0 → ad 1 i = ad 1 j → i = j) ∧ (∀ i j : Nat, (i : Int) < S 21 0 → (j : Int) < S 21 0 → ad 3 i = ad 3 j → i = j)
theorem wx_inj.of {A : Nat → Prop} {cy : Nat → ClassId} {ad : Nat → Nat → Nat} {S X T : wa_St} {o : Int64} (h : wa_wj A ad (wW cy ad S X T o)) : wx_inj ad S := ⟨fun i j hi hj e => (h.1 1 i 1 j _ _ (wW_1 hi) (wW_1 hj) e).2, fun i j hi hj e => (h.1 3 i 3 j _ _ (wW_3 hi) (wW_3 hj) e).2⟩
theorem wx_op_eq {ad : Nat → Nat → Nat} {S : wa_St} (h : wx_inj ad S) {z : Int} (hz : -1 ≤ z ∧ z < S 21 0) {b : Nat} (hb : (b : Int) < S 21 0) : wa_op ad 3 z = some (ad 3 b) ↔ z = (b : Int) := by
  by_cases q : z < 0
  · rw [wa_op_n q]; exact ⟨fun h => (by cases h), fun h => (by omega)⟩
  · rw [wa_op_s (by omega)]
    exact ⟨fun e => by have := h.2 z.toNat b (by omega) hb (Option.some.inj e); omega, fun e => by subst e; rfl⟩
theorem wx_op_eq2 {ad : Nat → Nat → Nat} {S : wa_St} (h : wx_inj ad S) {z : Int} (hz : -1 ≤ z ∧ z < S 8 0) {b : Nat} (hb : (b : Int) < S 8 0) : wa_op ad 1 z = some (ad 1 b) ↔ z = (b : Int) := by
  by_cases q : z < 0
  · rw [wa_op_n q]; exact ⟨fun h => (by cases h), fun h => (by omega)⟩
  · rw [wa_op_s (by omega)]
    exact ⟨fun e => by have := h.1 z.toNat b (by omega) hb (Option.some.inj e); omega, fun e => by subst e; rfl⟩
theorem wx_im_eq {ad : Nat → Nat → Nat} {S : wa_St} (h : wx_inj ad S) {z : Int} (hz : 0 ≤ z ∧ z < S 8 0) {b : Nat} (hb : (b : Int) < S 8 0) : (some (ad 1 z.toNat) : Option Nat) = some (ad 1 b) ↔ z = (b : Int) := ⟨fun e => by have := h.1 z.toNat b (by omega) hb (Option.some.inj e); omega, fun e => by subst e; rfl⟩
theorem wa_catq (r : Option Nat) : (va_rf r).category = 1 := by cases r <;> rfl
abbrev x_can (S : wa_St) (b : Nat) (pl rg : Int) : Prop := (S 20 (3 * b + pl.toNat) ≠ -1 ∧ S 20 (3 * b + pl.toNat) ≤ S 1 0) ∧ S 17 b = 0 ∧ S 18 b = 0 ∧ ¬ f_old S b ∧ rg ≤ S 16 b
abbrev x_ahead (S : wa_St) (b c : Nat) : Prop := (S 17 b ≠ S 17 c ∧ S 17 b ≠ 0) ∨ (S 17 b = S 17 c ∧ S 15 b < S 15 c)
abbrev x_go (S : wa_St) (b : Nat) : Prop := S 18 b = 0 ∧ S 24 0 < S 1 0 - S 15 b ∧ f_run S (b : Int) = 0
-- the steps of an image against the chain, from step j on
def x_fol (S X : wa_St) (i : Nat) (from9 hei : Int) : Nat → Nat → Bool
  | 0, _ => true
  | n + 1, j => decide (f_isOf S (f_at 50 (X 13) (hei - 1 - from9 - (j : Int))) (S 5 (5 * i + j)) (S 2 (S 5 (5 * i + j)).toNat)) && x_fol S X i from9 hei n (j + 1)
def x_follow (S X : wa_St) (i : Nat) (from9 hei : Int) : Int := if from9 < 0 then -2 else if x_fol S X i from9 hei (S 6 i).toNat 0 = true then from9 + S 6 i else -2
theorem f_at_in {n : Nat} {g : Nat → Int} {z : Int} (j : Nat) (hz : z = (j : Int)) (hj : j < n) : f_at n g z = g j := by
  subst hz
  unfold f_at
  rw [if_pos ⟨by omega, by omega⟩, Int.toNat_natCast]
def x_begin (S : wa_St) (i : Nat) : Int := if S 4 i < 0 ∨ S 7 (S 4 i).toNat < 0 then -1 else S 14 (S 7 (S 4 i).toNat).toNat
abbrev x_needs (S : wa_St) (i : Nat) : Prop := S 7 i < 0 ∨ S 14 (S 7 i).toNat ≠ f_top S (S 6 i).toNat (5 * i) (x_begin S i)
theorem x_begin_rng {S : wa_St} (h : wf S) (i : Nat) : -2 ≤ x_begin S i ∧ x_begin S i ≤ 100000 := by
  unfold x_begin
  split
  · omega
  · exact h.1 _ _
theorem f_find_m2 {S : wa_St} (h : ∀ j, -1 ≤ S 9 j) (a b : Int) : f_find S (-2) a b = -2 := by
  have key : ∀ (n i : Nat), f_fnd (fun l => decide (S 9 l = -2 ∧ S 10 l = a ∧ S 11 l = b)) n i = -2 := by
    intro n
    induction n with
    | zero => intro i; rfl
    | succ n ih =>
      intro i
      simp only [f_fnd]
      rw [if_neg]
      · exact ih (i + 1)
      · have := h i
        simp only [decide_eq_true_eq]
        omega
  exact key _ _
theorem f_can_iff {S : wa_St} {i pl rg : Int} {b : Nat} : f_can S i pl rg b = true ↔ S 13 b = i ∧ x_can S b pl rg := by
  unfold f_can x_can
  simp only [decide_eq_true_eq]
  constructor
  · intro h; exact ⟨h.1, ⟨h.2.1, h.2.2.1⟩, h.2.2.2⟩
  · intro h; exact ⟨h.1, h.2.1.1, h.2.1.2, h.2.2⟩
theorem f_last_t {p : Nat → Bool} {n : Nat} (h : p n = true) : f_last p (n + 1) = (n : Int) := if_pos h
theorem f_last_f {p : Nat → Bool} {n : Nat} (h : ¬ p n = true) : f_last p (n + 1) = f_last p n := if_neg h
theorem wx_im_eq' {ad : Nat → Nat → Nat} {S : wa_St} (h : wx_inj ad S) {z z' : Int} (hz : 0 ≤ z ∧ z < S 8 0) (hz' : 0 ≤ z' ∧ z' < S 8 0) : (some (ad 1 z.toNat) : Option Nat) = some (ad 1 z'.toNat) ↔ z = z' := ⟨fun e => by have := h.1 z.toNat z'.toNat (by omega) (by omega) (Option.some.inj e); omega, fun e => by subst e; rfl⟩
theorem wx_bk_eq' {ad : Nat → Nat → Nat} {S : wa_St} (h : wx_inj ad S) {z z' : Int} (hz : 0 ≤ z ∧ z < S 21 0) (hz' : 0 ≤ z' ∧ z' < S 21 0) : (some (ad 3 z.toNat) : Option Nat) = some (ad 3 z'.toNat) ↔ z = z' := ⟨fun e => by have := h.2 z.toNat z'.toNat (by omega) (by omega) (Option.some.inj e); omega, fun e => by subst e; rfl⟩
abbrev x_ah (S : wa_St) (z zo : Int) : Prop := 0 ≤ z ∧ 0 ≤ zo ∧ 0 ≤ S 28 zo.toNat ∧ x_ahead S z.toNat (S 28 zo.toNat).toNat
theorem f_bakeFor_rng3 {S : wa_St} (h : wf S) (i pl rg : Int) : -1 ≤ f_bakeFor S i pl rg ∧ f_bakeFor S i pl rg < S 21 0 := ⟨(f_bakeFor_rng h i pl rg).1, f_bakeFor_lt h i pl rg⟩
theorem f_at_rng {X : wa_St} (h : ∀ k j, -2 ≤ X k j ∧ X k j ≤ 100000) (n a : Nat) (z : Int) : -2 ≤ f_at n (X a) z ∧ f_at n (X a) z ≤ 100000 := by
  unfold f_at
  split
  · exact h _ _
  · omega
