/-! the law: worlds that look alike, its script, its invariant (laid by program) -/
theorem wl_dom {cy : Nat → ClassId} {ad : Nat → Nat → Nat} {S X T T' : wa_St} {o o' : Int64} {kd i : Nat} {e' : va_E} (h : wW cy ad S X T' o' kd i = some e') : ∃ e : va_E, wW cy ad S X T o kd i = some e := by
  match kd, h with
  | 0, h => exact ⟨_, h⟩
  | 1, h => exact ⟨_, h⟩
  | 2, h => exact ⟨_, h⟩
  | 3, h => exact ⟨_, h⟩
  | 4, h => exact ⟨_, h⟩
  | 5, h => exact ⟨_, h⟩
  | 6, h =>
    match i, h with
    | 0, _ => exact ⟨_, rfl⟩
    | 1, h => cases h
    | 2, _ => exact ⟨_, rfl⟩
    | 3, _ => exact ⟨_, rfl⟩
    | 4, _ => exact ⟨_, rfl⟩
    | 5, _ => exact ⟨_, rfl⟩
    | 6, _ => exact ⟨_, rfl⟩
    | 7, _ => exact ⟨_, rfl⟩
    | 8, h => cases h
    | 9, _ => exact ⟨_, rfl⟩
    | 10, _ => exact ⟨_, rfl⟩
    | 11, _ => exact ⟨_, rfl⟩
    | 12, h => cases h
    | 13, _ => exact ⟨_, rfl⟩
    | 14, _ => exact ⟨_, rfl⟩
    | 15, _ => exact ⟨_, rfl⟩
    | 16, _ => exact ⟨_, rfl⟩
    | 17, _ => exact ⟨_, rfl⟩
    | 18, _ => exact ⟨_, rfl⟩
    | 19, _ => exact ⟨_, rfl⟩
    | 20, _ => exact ⟨_, rfl⟩
    | 21, h => cases h
    | 22, _ => exact ⟨_, rfl⟩
    | 23, h => cases h
    | 24, h => cases h
    | 25, _ => exact ⟨_, rfl⟩
    | 26, _ => exact ⟨_, rfl⟩
    | 27, _ => exact ⟨_, rfl⟩
    | 28, _ => exact ⟨_, rfl⟩
    | 29, h => cases h
    | 30, _ => exact ⟨_, rfl⟩
    | 31, _ => exact ⟨_, rfl⟩
    | n + 32, h => cases h
  | 7, h =>
    match i, h with
    | 0, _ => exact ⟨_, rfl⟩
    | n + 1, h => cases h
  | n + 8, h => cases h
theorem wl_wj {A : Nat → Prop} {cy : Nat → ClassId} {ad : Nat → Nat → Nat} {S X T S' X' T' : wa_St} {o o' : Int64} (h : wa_wj A ad (wW cy ad S X T o)) (h8 : S' 8 0 = S 8 0) (h21 : S' 21 0 = S 21 0) (h29 : S' 29 0 = S 29 0) : wa_wj A ad (wW cy ad S' X' T' o') := by
  have h1 : wa_wj A ad (wW cy ad S' X' T o) := wj_of h h8 h21 h29
  refine ⟨fun kd i kd' i' e e' he he' q => ?_, fun kd i e he => ?_⟩
  · obtain ⟨y, hy⟩ := wl_dom (T := T) (o := o) he
    obtain ⟨y', hy'⟩ := wl_dom (T := T) (o := o) he'
    exact h1.1 _ _ _ _ _ _ hy hy' q
  · obtain ⟨y, hy⟩ := wl_dom (T := T) (o := o) he
    exact h1.2 _ _ _ hy
theorem wl_rl {D : va_G} {cy : Nat → ClassId} {ad : Nat → Nat → Nat} {S X T S' : wa_St} {o : Int64} {H : Heap} (hw : wa_wd D ad (wW cy ad S X T o) H) (h : rl S S') : wa_wd D ad (wW cy ad S' X T o) H := by
  obtain ⟨r1, r2, r3, r4, r5⟩ := h
  have f : ∀ a, a = 2 ∨ a = 3 ∨ a = 22 → S a = S' a := fun a ha => funext (fun b => r1 a b (by omega))
  have e8 := r1 8 0 (by omega)
  have e29 := r1 29 0 (by omega)
  refine hw.cg (fun kd i e' he => ⟨rfl, ?_⟩)
  match kd, he with
  | 0, he =>
    match i, he with
    | 0, he =>
      refine ⟨_, rfl, Or.inl ?_⟩
      cases he
      show (Sum.inr (4, wx_fs ad S) : va_E) = Sum.inr (4, wx_fs ad S')
      unfold wx_fs
      rw [e8, r3, e29, r1 1 0 (by omega), r1 23 0 (by omega), r1 24 0 (by omega)]
    | 1, he =>
      refine ⟨_, rfl, Or.inl ?_⟩
      cases he
      show (Sum.inr (2, wx_ls ad S) : va_E) = Sum.inr (2, wx_ls ad S')
      unfold wx_ls
      rw [r2]
    | 2, he => exact ⟨_, rfl, Or.inl (Option.some.inj he)⟩
    | 3, he => exact ⟨_, rfl, Or.inl (Option.some.inj he)⟩
    | 4, he => exact ⟨_, rfl, Or.inl (Option.some.inj he)⟩
    | 5, he => exact ⟨_, rfl, Or.inl (by rw [f 2 (by omega)]; exact Option.some.inj he)⟩
    | 6, he => exact ⟨_, rfl, Or.inl (by rw [f 3 (by omega)]; exact Option.some.inj he)⟩
    | 7, he => exact ⟨_, rfl, Or.inl (by rw [e8]; exact Option.some.inj he)⟩
    | 8, he => exact ⟨_, rfl, Or.inl (by rw [r3]; exact Option.some.inj he)⟩
    | 9, he => exact ⟨_, rfl, Or.inl (by rw [e29]; exact Option.some.inj he)⟩
    | 10, he => exact ⟨_, rfl, Or.inl (by rw [f 22 (by omega)]; exact Option.some.inj he)⟩
    | 11, he => exact ⟨_, rfl, Or.inl (Option.some.inj he)⟩
    | 12, he => exact ⟨_, rfl, Or.inl (Option.some.inj he)⟩
    | 13, he => exact ⟨_, rfl, Or.inl (Option.some.inj he)⟩
    | 14, he => exact ⟨_, rfl, Or.inl (Option.some.inj he)⟩
    | n + 15, he => cases he
  | 1, he =>
    obtain ⟨hi, rfl⟩ := wx_lt he
    refine ⟨_, wW_1 (by rw [e8]; exact hi), Or.inl ?_⟩
    unfold wx_fI
    rw [r1 4 i (by omega), r1 6 i (by omega), r1 7 i (by omega)]
  | 2, he =>
    obtain ⟨hi, rfl⟩ := wx_lt he
    refine ⟨_, wW_2 (by rw [e8]; exact hi), Or.inl ?_⟩
    rw [show (fun j => S 5 (5 * i + j)) = (fun j => S' 5 (5 * i + j)) from funext (fun j => r1 5 _ (by omega))]
  | 3, he =>
    obtain ⟨hi, rfl⟩ := wx_lt he
    refine ⟨_, wW_3 (by rw [r3]; exact hi), Or.inl ?_⟩
    unfold wx_fB
    have hi2 : (i : Int) < S 21 0 := by rw [r3]; exact hi
    rw [r4 13 i (by omega) (by omega) hi2, r4 14 i (by omega) (by omega) hi2, r4 15 i (by omega) (by omega) hi2, r4 16 i (by omega) (by omega) hi2, r4 17 i (by omega) (by omega) hi2, r4 18 i (by omega) (by omega) hi2, r4 19 i (by omega) (by omega) hi2]
  | 4, he =>
    obtain ⟨hi, rfl⟩ := wx_lt he
    have hi2 : (i : Int) < S 21 0 := by rw [r3]; exact hi
    exact ⟨_, wW_4 hi2, Or.inr (Or.inl ⟨cy 0, 3, _, _, rfl, rfl, fun j hj => r5 _ (by omega)⟩)⟩
  | 5, he =>
    obtain ⟨hi, rfl⟩ := wx_lt he
    refine ⟨_, wW_5 (by rw [e29]; exact hi), Or.inl ?_⟩
    unfold wx_fM
    rw [r1 25 i (by omega), r1 26 i (by omega), r1 27 i (by omega), r1 28 i (by omega)]
  | 6, he => exact ⟨e', he, Or.inl rfl⟩
  | 7, he => exact ⟨e', he, Or.inl rfl⟩
  | n + 8, he => cases he
theorem lg_cmp_self (x : Int64) : lg_cmp x x = iI 0 := by
  unfold lg_cmp
  rw [if_neg (fun h : x > x => by rw [gt_iff_lt, Int64.lt_iff_toInt_lt] at h; omega), if_pos rfl]
  exact iI_0
section WLL
variable {p : Program} {l : Launch} {e : Env} {s : State} {m : MethodId} {below : List Frame} {meth : Method} {c : Code} {H : Heap} {locs : List Loc} {cells slots : Nat} {Q : State → Prop}
variable {pc : Nat} {ls : Array Slot} {rest : List Value} {D : va_G} {A : Nat → Prop} {cy : Nat → ClassId} {ad : Nat → Nat → Nat} {S X T S1 T1 X1 : wa_St} {o : Int64} {b L : Nat} {xs : Nat → Int32} {nm : String}
/-- what holds all along the law's body -/
def law_F (p : Program) (l : Launch) (s : State) (m : MethodId) (meth : Method) (c : Code) (D : va_G) (cy : Nat → ClassId) (A : Nat → Prop) (b L : Nat) (xs : Nat → Int32) : Prop := wa_fx p s m c meth #[Value.ref b] cL_law 7 RL meth.name ret D cy ∧ wx_TB A s s.heap ∧ wl_N s ∧ wa_Up A ∧ l.stackTraces = false ∧ va_X b L xs s s.heap ∧ b < s.heap.size ∧ ¬ A b ∧ L ≤ 2560
/-- at pc, with n calls behind and 5 * i in the counter -/
def law_K (p : Program) (l : Launch) (e : Env) (s : State) (m : MethodId) (below : List Frame) (meth : Method) (c : Code) (D : va_G) (cy : Nat → ClassId) (A : Nat → Prop) (b : Nat) (Q : State → Prop) (n i pc : Nat) : Prop := ∀ (ad : Nat → Nat → Nat) (X T : wa_St) (o : Int64) (H : Heap) (locs : List Loc) (ls : Array Slot), gi n T → xr T X → wa_wj A ad (wW cy ad T X T o) → wa_wd D ad (wW cy ad T X T o) H → va_S A s.heap H locs → lv_has ls 7 [(0, .ref b), (1, .ref (ad 0 0)), (2, .ref (ad 6 0)), (3, .ref (ad 7 0)), (4, .int (iI ((5 * i : Nat) : Int)))] → W p l e room_1 s m #[Value.ref b] below meth c H locs (60 + 20 * n) (4000 + 120 * n) Q (F0 m pc ls [])
theorem wl_sld {z v : Int} {j : Nat} (hF : law_F p l s m meth c D cy A b L xs) (hS : va_S A s.heap H locs) (hv : v = (xs j).toInt) (hz : z = (j : Int)) (hj : j < L) (hdg : decode cL_law pc = .ok (.iaload, 1))
    (kk : W p l e room_1 s m #[Value.ref b] below meth c H locs cells slots Q (F0 m (pc + 1) ls (.int (iI v) :: rest))) : W p l e room_1 s m #[Value.ref b] below meth c H locs cells slots Q (F0 m pc ls (.int (iI z) :: .ref b :: rest)) := by
  obtain ⟨F, -, -, -, -, hX, hbl, hbA, hL⟩ := hF
  exact va_sld F.1.1 F.1.2.1 hX hbl hbA hS (iI_in hz hj (by omega)) hdg (by rw [iI_cl hz (by omega), ← iI_as (xs j), ← hv]; exact kk)
theorem law_fin {n i : Nat} {k : Int} (hK : law_K p l e s m below meth c D cy A b Q (n + 1) i 1476) (hpk : pk n S1 T1 k) (hx1 : xr S1 X1) (hj1 : wa_wj A ad (wW cy ad S1 X1 T o)) (hw : wa_wd D ad (wW cy ad S1 X1 T1 o) H) (hS : va_S A s.heap H locs) (hc : cells ≤ 60 + 20 * (n + 1)) (hs : slots ≤ 4000 + 120 * (n + 1)) (hl : lv_has ls 7 [(0, .ref b), (1, .ref (ad 0 0)), (2, .ref (ad 6 0)), (3, .ref (ad 7 0)), (4, .int (iI ((5 * i : Nat) : Int)))]) : W p l e room_1 s m #[Value.ref b] below meth c H locs cells slots Q (F0 m 1476 ls []) := by
  obtain ⟨p1, p2, p3, p4⟩ := hpk
  refine W.widen hc hs ?_
  exact hK ad X1 T1 o H locs ls p3 (p4 X1 hx1) (wl_wj hj1 (p2.1 8 0 (by omega)).symm p2.2.2.1.symm (p2.1 29 0 (by omega)).symm) (wl_rl hw p2) hS hl
end WLL
