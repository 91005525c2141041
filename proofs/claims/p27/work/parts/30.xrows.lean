/-! rows by which the class writes (laid by program) -/
section WXW
variable {p : Program} {l : Launch} {e : Env} {R : Room} {s : State} {m : MethodId} {args : Array Value} {below : List Frame} {meth : Method} {c : Code} {H : Heap} {locs : List Loc} {cells slots : Nat} {Q : State → Prop}
variable {cc : ByteArray} {pc : Nat} {ls : Array Slot} {rest st0 : List Value} {D : va_G} {A : Nat → Prop} {H0 : Heap} {cy : Nat → ClassId} {ad : Nat → Nat → Nat} {S X T S' X' : wa_St} {o : Int64} {nL : Nat} {own nm : String} {ret : Option FieldType} {C C' : wa_C}
/-- cells that the heap can't tell apart -/
def wa_cg (e e' : va_E) : Prop := e = e' ∨ (∃ (cA : ClassId) (n : Nat) (g g' : Nat → Int), e = wa_aI cA n g ∧ e' = wa_aI cA n g' ∧ ∀ j, j < n → g j = g' j) ∨ (∃ (cA : ClassId) (n : Nat) (g g' : Nat → Option Nat), e = wa_aR cA n g ∧ e' = wa_aR cA n g' ∧ ∀ j, j < n → g j = g' j)
theorem arrV_cg {cA : ClassId} {n : Nat} {f f' : Nat → Value} (h : ∀ j, j < n → f j = f' j) : arrV cA n f = arrV cA n f' := by
  unfold arrV
  congr 1
  apply Array.ext
  · simp
  · intro i h1 h2
    simp only [Array.getElem_ofFn]
    exact h i (by simpa using h1)
theorem wa_cg.at {e e' : va_E} {a : Nat} (h : wa_cg e e') (h1 : va_at D vwCl (a, e) H) : va_at D vwCl (a, e') H := by
  rcases h with rfl | ⟨cA, n, g, g', rfl, rfl, hg⟩ | ⟨cA, n, g, g', rfl, rfl, hg⟩
  · exact h1
  · refine Eq.trans (show H[a]? = some (vp_cell cA (n, .inl (fun j => iI (g j)))) from h1) ?_
    show some _ = some _
    rw [vp_cell_i, vp_cell_i, arrV_cg (fun j hj => by rw [hg j hj])]
  · refine Eq.trans (show H[a]? = some (vp_cell cA (n, .inr (.inr (.inr (.inr g))))) from h1) ?_
    show some _ = some _
    rw [vp_cell_q, vp_cell_q, arrV_cg (fun j hj => by rw [hg j hj])]
theorem wa_wd.cg {ad' : Nat → Nat → Nat} (h : wa_wd D ad C H) (hc : ∀ (kd i : Nat) (e' : va_E), C' kd i = some e' → ad' kd i = ad kd i ∧ ∃ e : va_E, C kd i = some e ∧ wa_cg e e') : wa_wd D ad' C' H := by
  intro kd i e' he'
  obtain ⟨ha, e1, he, hg⟩ := hc kd i e' he'
  rw [ha]
  exact hg.at (h kd i e1 he)
theorem wx_lt {n : Int} {i : Nat} {e e' : va_E} (h : (if (i : Int) < n then some e else none) = some e') : (i : Int) < n ∧ e = e' := by
  by_cases q : (i : Int) < n
  · rw [if_pos q] at h; exact ⟨q, Option.some.inj h⟩
  · rw [if_neg q] at h; cases h
theorem wx_dom (h8 : S' 8 0 = S 8 0) (h21 : S' 21 0 = S 21 0) (h29 : S' 29 0 = S 29 0) {kd i : Nat} {e' : va_E} (h : wW cy ad S' X' T o kd i = some e') : ∃ e : va_E, wW cy ad S X T o kd i = some e := by
  match kd, h with
  | 0, h =>
    match i, h with

    | 0, _ => exact ⟨_, rfl⟩
    | 1, _ => exact ⟨_, rfl⟩
    | 2, _ => exact ⟨_, rfl⟩
    | 3, _ => exact ⟨_, rfl⟩
    | 4, _ => exact ⟨_, rfl⟩
    | 5, _ => exact ⟨_, rfl⟩
    | 6, _ => exact ⟨_, rfl⟩
    | 7, _ => exact ⟨_, rfl⟩
    | 8, _ => exact ⟨_, rfl⟩
    | 9, _ => exact ⟨_, rfl⟩
    | 10, _ => exact ⟨_, rfl⟩
    | 11, _ => exact ⟨_, rfl⟩
    | 12, _ => exact ⟨_, rfl⟩
    | 13, _ => exact ⟨_, rfl⟩
    | 14, _ => exact ⟨_, rfl⟩
    | n + 15, h => cases h
  | 1, h => exact ⟨_, wW_1 (by rw [← h8]; exact (wx_lt h).1)⟩
  | 2, h => exact ⟨_, wW_2 (by rw [← h8]; exact (wx_lt h).1)⟩
  | 3, h => exact ⟨_, wW_3 (by rw [← h21]; exact (wx_lt h).1)⟩
  | 4, h => exact ⟨_, wW_4 (by rw [← h21]; exact (wx_lt h).1)⟩
  | 5, h => exact ⟨_, wW_5 (by rw [← h29]; exact (wx_lt h).1)⟩
  | 6, h => exact ⟨e', h⟩
  | 7, h => exact ⟨e', h⟩
  | n + 8, h => cases h
theorem wj_of (h : wa_wj A ad (wW cy ad S X T o)) (h8 : S' 8 0 = S 8 0) (h21 : S' 21 0 = S 21 0) (h29 : S' 29 0 = S 29 0) : wa_wj A ad (wW cy ad S' X' T o) := by
  refine ⟨fun kd i kd' i' e e' he he' q => ?_, fun kd i e he => ?_⟩
  · obtain ⟨x, hx⟩ := wx_dom (S := S) (X := X) h8 h21 h29 he
    obtain ⟨y, hy⟩ := wx_dom (S := S) (X := X) h8 h21 h29 he'
    exact h.1 _ _ _ _ _ _ hx hy q
  · obtain ⟨x, hx⟩ := wx_dom (S := S) (X := X) h8 h21 h29 he
    exact h.2 _ _ _ hx
/-- a reference stored in a row -/
theorem wa_aast {kd i kd' i' n t0 ci : Nat} {g : Nat → Option Nat} {cA : ClassId} {r : vw_C} {fs : List Value} (F : wa_fx p s m c meth args cc nL own nm ret D cy) (hw : wa_wd D ad C H) (hj : wa_wj A ad C) (hS : va_S A H0 H locs) (he : C kd i = some (wa_aR cA n g)) (ht : (wa_ty cy)[t0]? = some (cA, .object r.1)) (hv : C kd' i' = some (.inr (ci, fs))) (hc : vwCl[ci]? = some r) {z : Int} (j : Nat) (hz : z = (j : Int)) (hjn : j < n) (hn : n < 2147483648) (hdg : decode cc pc = .ok (.aastore, 1))
    (kk : ∀ (H1 : Heap) (locs1 : List Loc), wa_wd D ad (wa_up C kd i (wa_aR cA n (va_up g j (some (ad kd' i'))))) H1 → va_S A H0 H1 locs1 → W p l e R s m args below meth c H1 locs1 cells slots Q (F0 m (pc + 1) ls rest)) : W p l e R s m args below meth c H locs cells slots Q (F0 m pc ls (.ref (ad kd' i') :: .int (iI z) :: .ref (ad kd i) :: rest)) := by
  have hin := iI_in hz hjn hn
  have hlt : (iI z).toNatClampNeg < n := Nat.not_le.mp fun q => hin (Or.inr q)
  have h0 : ¬ iI z < 0 := fun q => hin (Or.inl q)
  have hK := F.2.1.2.2
  obtain ⟨r', hr', cellV, g1, g2, g3, -⟩ := hw kd' i' _ hv
  have hcls := (hK.1 ci r hc).2
  obtain ⟨kA, comp, k1, k2, k3, -⟩ := (hK.2 t0 _ ht).2
  have hcomp : comp = D.1 ci := Option.some.inj (k3.symm.trans hcls.1)
  subst hcomp
  obtain ⟨kC, hkC, -⟩ := hcls.2
  refine W.aast F.1.1 F.1.2.1 (hw kd i _ he) (fun q h => by cases h) (fun h => by cases h) k1 k2 rfl hkC ⟨h0, by show _ < (arrV _ _ _).slots.size; rw [arrV_size]; exact hlt⟩ g1 (fun q h => by rw [g3] at h; cases h) (by rw [g2]; exact hkC) (by rw [g2]; exact va_assign hcls) rfl rfl hdg fun H1 e z2 oq => ?_
  refine kk H1 _ (hw.put hj he ?_ oq) (hS.put z2 oq (hj.2 _ _ _ he))
  show H1[ad kd i]? = some (vp_cell _ _)
  rw [e]
  show some ((vp_cell cA (n, .inr (.inr (.inr (.inr g))))).setSlot _ _) = _
  rw [vp_cell_q, vp_cell_q, arrV_store, iI_cl hz (by omega)]
  congr 2
  funext q
  by_cases hq : q = j
  · subst hq; simp [updV, va_up]; rfl
  · simp [updV, va_up, hq]
theorem wa_op_up {kd k j : Nat} {z : Int} {Y : wa_St} (hz : 0 ≤ z) : va_up (fun b => wa_op ad kd (Y k b)) j (some (ad kd z.toNat)) = fun b => wa_op ad kd (wa_s Y k j z k b) := by
  funext b
  by_cases q : b = j
  · subst q; rw [va_up_self, wa_s_eq, wa_op_s hz]
  · rw [va_up_ne _ _ q, wa_s_nj q]

theorem wx_a2 (j : Nat) (v : Int) : wa_up (wW cy ad S X T o) 0 2 (wa_aI (cy 0) 300 (wa_g (X 2) j v)) = wW cy ad S (wa_s X 2 j v) T o := by
  funext a b
  by_cases h : a = 0 ∧ b = 2
  · obtain ⟨rfl, rfl⟩ := h
    rw [wa_up_s]
    show some (wa_aI _ _ _) = some (wa_aI _ _ _)
    congr 2
    funext z
    simp [wa_g, wa_s]
  rw [wa_up_n h]
  match a, h with
  | 0, h =>
    match b, h with
    | 0, _ => rfl
    | 1, _ => rfl
    | 2, h => exact absurd ⟨rfl, rfl⟩ h
    | 3, _ => rfl
    | 4, _ => rfl
    | 5, _ => rfl
    | 6, _ => rfl
    | 7, _ => rfl
    | 8, _ => rfl
    | 9, _ => rfl
    | 10, _ => rfl
    | 11, _ => rfl
    | 12, _ => rfl
    | 13, _ => rfl
    | 14, _ => rfl
    | n + 15, _ => rfl
  | 1, _ => rfl
  | 2, _ => rfl
  | 3, _ => rfl
  | 4, _ => rfl
  | 5, _ => rfl
  | 6, _ => rfl
  | 7, _ => rfl
  | n + 8, _ => rfl
theorem sX_2 {z v : Int} (F : wa_fx p s m c meth args cc nL own nm ret D cy) (hw : wa_wd D ad (wW cy ad S X T o) H) (hj : wa_wj A ad (wW cy ad S X T o)) (hS : va_S A H0 H locs) (j : Nat) (hz : z = (j : Int)) (hjn : j < 300) (hdg : decode cc pc = .ok (.iastore, 1)) (kk : ∀ (H1 : Heap) (locs1 : List Loc), wa_wd D ad (wW cy ad S (wa_s X 2 j v) T o) H1 → va_S A H0 H1 locs1 → W p l e R s m args below meth c H1 locs1 cells slots Q (F0 m (pc + 1) ls rest)) : W p l e R s m args below meth c H locs cells slots Q (F0 m pc ls (.int (iI v) :: .int (iI z) :: .ref (ad 0 2) :: rest)) := wa_iast (g := X 2) F hw hj hS rfl j hz hjn (by decide) hdg (fun H1 locs1 h1 h2 => kk H1 locs1 (by rw [wx_a2] at h1; exact h1) h2)
theorem wx_a3 (j : Nat) (v : Int) : wa_up (wW cy ad S X T o) 0 3 (wa_aI (cy 0) 300 (wa_g (X 3) j v)) = wW cy ad S (wa_s X 3 j v) T o := by
  funext a b
  by_cases h : a = 0 ∧ b = 3
  · obtain ⟨rfl, rfl⟩ := h
    rw [wa_up_s]
    show some (wa_aI _ _ _) = some (wa_aI _ _ _)
    congr 2
    funext z
    simp [wa_g, wa_s]
  rw [wa_up_n h]
  match a, h with
  | 0, h =>
    match b, h with
    | 0, _ => rfl
    | 1, _ => rfl
    | 2, _ => rfl
    | 3, h => exact absurd ⟨rfl, rfl⟩ h
    | 4, _ => rfl
    | 5, _ => rfl
    | 6, _ => rfl
    | 7, _ => rfl
    | 8, _ => rfl
    | 9, _ => rfl
    | 10, _ => rfl
    | 11, _ => rfl
    | 12, _ => rfl
    | 13, _ => rfl
    | 14, _ => rfl
    | n + 15, _ => rfl
  | 1, _ => rfl
  | 2, _ => rfl
  | 3, _ => rfl
  | 4, _ => rfl
  | 5, _ => rfl
  | 6, _ => rfl
  | 7, _ => rfl
  | n + 8, _ => rfl
theorem sX_3 {z v : Int} (F : wa_fx p s m c meth args cc nL own nm ret D cy) (hw : wa_wd D ad (wW cy ad S X T o) H) (hj : wa_wj A ad (wW cy ad S X T o)) (hS : va_S A H0 H locs) (j : Nat) (hz : z = (j : Int)) (hjn : j < 300) (hdg : decode cc pc = .ok (.iastore, 1)) (kk : ∀ (H1 : Heap) (locs1 : List Loc), wa_wd D ad (wW cy ad S (wa_s X 3 j v) T o) H1 → va_S A H0 H1 locs1 → W p l e R s m args below meth c H1 locs1 cells slots Q (F0 m (pc + 1) ls rest)) : W p l e R s m args below meth c H locs cells slots Q (F0 m pc ls (.int (iI v) :: .int (iI z) :: .ref (ad 0 3) :: rest)) := wa_iast (g := X 3) F hw hj hS rfl j hz hjn (by decide) hdg (fun H1 locs1 h1 h2 => kk H1 locs1 (by rw [wx_a3] at h1; exact h1) h2)
theorem wx_a4 (j : Nat) (v : Int) : wa_up (wW cy ad S X T o) 0 4 (wa_aI (cy 0) 300 (wa_g (X 4) j v)) = wW cy ad S (wa_s X 4 j v) T o := by
  funext a b
  by_cases h : a = 0 ∧ b = 4
  · obtain ⟨rfl, rfl⟩ := h
    rw [wa_up_s]
    show some (wa_aI _ _ _) = some (wa_aI _ _ _)
    congr 2
    funext z
    simp [wa_g, wa_s]
  rw [wa_up_n h]
  match a, h with
  | 0, h =>
    match b, h with
    | 0, _ => rfl
    | 1, _ => rfl
    | 2, _ => rfl
    | 3, _ => rfl
    | 4, h => exact absurd ⟨rfl, rfl⟩ h
    | 5, _ => rfl
    | 6, _ => rfl
    | 7, _ => rfl
    | 8, _ => rfl
    | 9, _ => rfl
    | 10, _ => rfl
    | 11, _ => rfl
    | 12, _ => rfl
    | 13, _ => rfl
    | 14, _ => rfl
    | n + 15, _ => rfl
  | 1, _ => rfl
  | 2, _ => rfl
  | 3, _ => rfl
  | 4, _ => rfl
  | 5, _ => rfl
  | 6, _ => rfl
  | 7, _ => rfl
  | n + 8, _ => rfl
theorem sX_4 {z v : Int} (F : wa_fx p s m c meth args cc nL own nm ret D cy) (hw : wa_wd D ad (wW cy ad S X T o) H) (hj : wa_wj A ad (wW cy ad S X T o)) (hS : va_S A H0 H locs) (j : Nat) (hz : z = (j : Int)) (hjn : j < 300) (hdg : decode cc pc = .ok (.iastore, 1)) (kk : ∀ (H1 : Heap) (locs1 : List Loc), wa_wd D ad (wW cy ad S (wa_s X 4 j v) T o) H1 → va_S A H0 H1 locs1 → W p l e R s m args below meth c H1 locs1 cells slots Q (F0 m (pc + 1) ls rest)) : W p l e R s m args below meth c H locs cells slots Q (F0 m pc ls (.int (iI v) :: .int (iI z) :: .ref (ad 0 4) :: rest)) := wa_iast (g := X 4) F hw hj hS rfl j hz hjn (by decide) hdg (fun H1 locs1 h1 h2 => kk H1 locs1 (by rw [wx_a4] at h1; exact h1) h2)
theorem wx_a5 (j : Nat) (v : Int) : wa_up (wW cy ad S X T o) 0 5 (wa_aI (cy 0) 10 (wa_g (S 2) j v)) = wW cy ad (wa_s S 2 j v) X T o := by
  funext a b
  by_cases h : a = 0 ∧ b = 5
  · obtain ⟨rfl, rfl⟩ := h
    rw [wa_up_s]
    show some (wa_aI _ _ _) = some (wa_aI _ _ _)
    congr 2
    funext z
    simp [wa_g, wa_s]
  rw [wa_up_n h]
  match a, h with
  | 0, h =>
    match b, h with
    | 0, _ => rfl
    | 1, _ => rfl
    | 2, _ => rfl
    | 3, _ => rfl
    | 4, _ => rfl
    | 5, h => exact absurd ⟨rfl, rfl⟩ h
    | 6, _ => rfl
    | 7, _ => rfl
    | 8, _ => rfl
    | 9, _ => rfl
    | 10, _ => rfl
    | 11, _ => rfl
    | 12, _ => rfl
    | 13, _ => rfl
    | 14, _ => rfl
    | n + 15, _ => rfl
  | 1, _ => rfl
  | 2, _ => rfl
  | 3, _ => rfl
  | 4, _ => rfl
  | 5, _ => rfl
  | 6, _ => rfl
  | 7, _ => rfl
  | n + 8, _ => rfl
theorem sX_5 {z v : Int} (F : wa_fx p s m c meth args cc nL own nm ret D cy) (hw : wa_wd D ad (wW cy ad S X T o) H) (hj : wa_wj A ad (wW cy ad S X T o)) (hS : va_S A H0 H locs) (j : Nat) (hz : z = (j : Int)) (hjn : j < 10) (hdg : decode cc pc = .ok (.iastore, 1)) (kk : ∀ (H1 : Heap) (locs1 : List Loc), wa_wd D ad (wW cy ad (wa_s S 2 j v) X T o) H1 → va_S A H0 H1 locs1 → W p l e R s m args below meth c H1 locs1 cells slots Q (F0 m (pc + 1) ls rest)) : W p l e R s m args below meth c H locs cells slots Q (F0 m pc ls (.int (iI v) :: .int (iI z) :: .ref (ad 0 5) :: rest)) := wa_iast (g := S 2) F hw hj hS rfl j hz hjn (by decide) hdg (fun H1 locs1 h1 h2 => kk H1 locs1 (by rw [wx_a5] at h1; exact h1) h2)
theorem wx_a6 (j : Nat) (v : Int) : wa_up (wW cy ad S X T o) 0 6 (wa_aI (cy 0) 10 (wa_g (S 3) j v)) = wW cy ad (wa_s S 3 j v) X T o := by
  funext a b
  by_cases h : a = 0 ∧ b = 6
  · obtain ⟨rfl, rfl⟩ := h
    rw [wa_up_s]
    show some (wa_aI _ _ _) = some (wa_aI _ _ _)
    congr 2
    funext z
    simp [wa_g, wa_s]
  rw [wa_up_n h]
  match a, h with
  | 0, h =>
    match b, h with
    | 0, _ => rfl
    | 1, _ => rfl
    | 2, _ => rfl
    | 3, _ => rfl
    | 4, _ => rfl
    | 5, _ => rfl
    | 6, h => exact absurd ⟨rfl, rfl⟩ h
    | 7, _ => rfl
    | 8, _ => rfl
    | 9, _ => rfl
    | 10, _ => rfl
    | 11, _ => rfl
    | 12, _ => rfl
    | 13, _ => rfl
    | 14, _ => rfl
    | n + 15, _ => rfl
  | 1, _ => rfl
  | 2, _ => rfl
  | 3, _ => rfl
  | 4, _ => rfl
  | 5, _ => rfl
  | 6, _ => rfl
  | 7, _ => rfl
  | n + 8, _ => rfl
theorem sX_6 {z v : Int} (F : wa_fx p s m c meth args cc nL own nm ret D cy) (hw : wa_wd D ad (wW cy ad S X T o) H) (hj : wa_wj A ad (wW cy ad S X T o)) (hS : va_S A H0 H locs) (j : Nat) (hz : z = (j : Int)) (hjn : j < 10) (hdg : decode cc pc = .ok (.iastore, 1)) (kk : ∀ (H1 : Heap) (locs1 : List Loc), wa_wd D ad (wW cy ad (wa_s S 3 j v) X T o) H1 → va_S A H0 H1 locs1 → W p l e R s m args below meth c H1 locs1 cells slots Q (F0 m (pc + 1) ls rest)) : W p l e R s m args below meth c H locs cells slots Q (F0 m pc ls (.int (iI v) :: .int (iI z) :: .ref (ad 0 6) :: rest)) := wa_iast (g := S 3) F hw hj hS rfl j hz hjn (by decide) hdg (fun H1 locs1 h1 h2 => kk H1 locs1 (by rw [wx_a6] at h1; exact h1) h2)
theorem wx_a10 (j : Nat) (v : Int) : wa_up (wW cy ad S X T o) 0 10 (wa_aI (cy 0) 3 (wa_g (S 22) j v)) = wW cy ad (wa_s S 22 j v) X T o := by
  funext a b
  by_cases h : a = 0 ∧ b = 10
  · obtain ⟨rfl, rfl⟩ := h
    rw [wa_up_s]
    show some (wa_aI _ _ _) = some (wa_aI _ _ _)
    congr 2
    funext z
    simp [wa_g, wa_s]
  rw [wa_up_n h]
  match a, h with
  | 0, h =>
    match b, h with
    | 0, _ => rfl
    | 1, _ => rfl
    | 2, _ => rfl
    | 3, _ => rfl
    | 4, _ => rfl
    | 5, _ => rfl
    | 6, _ => rfl
    | 7, _ => rfl
    | 8, _ => rfl
    | 9, _ => rfl
    | 10, h => exact absurd ⟨rfl, rfl⟩ h
    | 11, _ => rfl
    | 12, _ => rfl
    | 13, _ => rfl
    | 14, _ => rfl
    | n + 15, _ => rfl
  | 1, _ => rfl
  | 2, _ => rfl
  | 3, _ => rfl
  | 4, _ => rfl
  | 5, _ => rfl
  | 6, _ => rfl
  | 7, _ => rfl
  | n + 8, _ => rfl
theorem sX_10 {z v : Int} (F : wa_fx p s m c meth args cc nL own nm ret D cy) (hw : wa_wd D ad (wW cy ad S X T o) H) (hj : wa_wj A ad (wW cy ad S X T o)) (hS : va_S A H0 H locs) (j : Nat) (hz : z = (j : Int)) (hjn : j < 3) (hdg : decode cc pc = .ok (.iastore, 1)) (kk : ∀ (H1 : Heap) (locs1 : List Loc), wa_wd D ad (wW cy ad (wa_s S 22 j v) X T o) H1 → va_S A H0 H1 locs1 → W p l e R s m args below meth c H1 locs1 cells slots Q (F0 m (pc + 1) ls rest)) : W p l e R s m args below meth c H locs cells slots Q (F0 m pc ls (.int (iI v) :: .int (iI z) :: .ref (ad 0 10) :: rest)) := wa_iast (g := S 22) F hw hj hS rfl j hz hjn (by decide) hdg (fun H1 locs1 h1 h2 => kk H1 locs1 (by rw [wx_a10] at h1; exact h1) h2)
theorem wx_a13 (j : Nat) (v : Int) : wa_up (wW cy ad S X T o) 0 13 (wa_aI (cy 0) 50 (wa_g (X 13) j v)) = wW cy ad S (wa_s X 13 j v) T o := by
  funext a b
  by_cases h : a = 0 ∧ b = 13
  · obtain ⟨rfl, rfl⟩ := h
    rw [wa_up_s]
    show some (wa_aI _ _ _) = some (wa_aI _ _ _)
    congr 2
    funext z
    simp [wa_g, wa_s]
  rw [wa_up_n h]
  match a, h with
  | 0, h =>
    match b, h with
    | 0, _ => rfl
    | 1, _ => rfl
    | 2, _ => rfl
    | 3, _ => rfl
    | 4, _ => rfl
    | 5, _ => rfl
    | 6, _ => rfl
    | 7, _ => rfl
    | 8, _ => rfl
    | 9, _ => rfl
    | 10, _ => rfl
    | 11, _ => rfl
    | 12, _ => rfl
    | 13, h => exact absurd ⟨rfl, rfl⟩ h
    | 14, _ => rfl
    | n + 15, _ => rfl
  | 1, _ => rfl
  | 2, _ => rfl
  | 3, _ => rfl
  | 4, _ => rfl
  | 5, _ => rfl
  | 6, _ => rfl
  | 7, _ => rfl
  | n + 8, _ => rfl
theorem sX_13 {z v : Int} (F : wa_fx p s m c meth args cc nL own nm ret D cy) (hw : wa_wd D ad (wW cy ad S X T o) H) (hj : wa_wj A ad (wW cy ad S X T o)) (hS : va_S A H0 H locs) (j : Nat) (hz : z = (j : Int)) (hjn : j < 50) (hdg : decode cc pc = .ok (.iastore, 1)) (kk : ∀ (H1 : Heap) (locs1 : List Loc), wa_wd D ad (wW cy ad S (wa_s X 13 j v) T o) H1 → va_S A H0 H1 locs1 → W p l e R s m args below meth c H1 locs1 cells slots Q (F0 m (pc + 1) ls rest)) : W p l e R s m args below meth c H locs cells slots Q (F0 m pc ls (.int (iI v) :: .int (iI z) :: .ref (ad 0 13) :: rest)) := wa_iast (g := X 13) F hw hj hS rfl j hz hjn (by decide) hdg (fun H1 locs1 h1 h2 => kk H1 locs1 (by rw [wx_a13] at h1; exact h1) h2)
theorem wx_r11 (j : Nat) (v : Int) (hv : 0 ≤ v) : wa_up (wW cy ad S X T o) 0 11 (wa_aR (cy 3) 10 (va_up (fun b => wa_op ad 1 (X 11 b)) j (some (ad 1 v.toNat)))) = wW cy ad S (wa_s X 11 j v) T o := by
  funext a b
  by_cases h : a = 0 ∧ b = 11
  · obtain ⟨rfl, rfl⟩ := h
    rw [wa_up_s]
    show some (wa_aR _ _ _) = some (wa_aR _ _ _)
    rw [wa_op_up hv]
  rw [wa_up_n h]
  match a, h with
  | 0, h =>
    match b, h with
    | 0, _ => rfl
    | 1, _ => rfl
    | 2, _ => rfl
    | 3, _ => rfl
    | 4, _ => rfl
    | 5, _ => rfl
    | 6, _ => rfl
    | 7, _ => rfl
    | 8, _ => rfl
    | 9, _ => rfl
    | 10, _ => rfl
    | 11, h => exact absurd ⟨rfl, rfl⟩ h
    | 12, _ => rfl
    | 13, _ => rfl
    | 14, _ => rfl
    | n + 15, _ => rfl
  | 1, _ => rfl
  | 2, _ => rfl
  | 3, _ => rfl
  | 4, _ => rfl
  | 5, _ => rfl
  | 6, _ => rfl
  | 7, _ => rfl
  | n + 8, _ => rfl
theorem sX_11 {z v : Int} (F : wa_fx p s m c meth args cc nL own nm ret D cy) (hw : wa_wd D ad (wW cy ad S X T o) H) (hj : wa_wj A ad (wW cy ad S X T o)) (hS : va_S A H0 H locs) (hv : 0 ≤ v) (hlv : v < S 8 0) (j : Nat) (hz : z = (j : Int)) (hjn : j < 10) (hdg : decode cc pc = .ok (.aastore, 1)) (kk : ∀ (H1 : Heap) (locs1 : List Loc), wa_wd D ad (wW cy ad S (wa_s X 11 j v) T o) H1 → va_S A H0 H1 locs1 → W p l e R s m args below meth c H1 locs1 cells slots Q (F0 m (pc + 1) ls rest)) : W p l e R s m args below meth c H locs cells slots Q (F0 m pc ls (.ref (ad 1 v.toNat) :: .int (iI z) :: .ref (ad 0 11) :: rest)) := wa_aast (t0 := 3) (ci := 1) F hw hj hS rfl rfl (wW_1 (by omega)) rfl j hz hjn (by decide) hdg (fun H1 locs1 h1 h2 => kk H1 locs1 (by rw [wx_r11 _ _ hv] at h1; exact h1) h2)
theorem wx_r12 (j : Nat) (v : Int) (hv : 0 ≤ v) : wa_up (wW cy ad S X T o) 0 12 (wa_aR (cy 3) 10 (va_up (fun b => wa_op ad 1 (X 12 b)) j (some (ad 1 v.toNat)))) = wW cy ad S (wa_s X 12 j v) T o := by
  funext a b
  by_cases h : a = 0 ∧ b = 12
  · obtain ⟨rfl, rfl⟩ := h
    rw [wa_up_s]
    show some (wa_aR _ _ _) = some (wa_aR _ _ _)
    rw [wa_op_up hv]
  rw [wa_up_n h]
  match a, h with
  | 0, h =>
    match b, h with
    | 0, _ => rfl
    | 1, _ => rfl
    | 2, _ => rfl
    | 3, _ => rfl
    | 4, _ => rfl
    | 5, _ => rfl
    | 6, _ => rfl
    | 7, _ => rfl
    | 8, _ => rfl
    | 9, _ => rfl
    | 10, _ => rfl
    | 11, _ => rfl
    | 12, h => exact absurd ⟨rfl, rfl⟩ h
    | 13, _ => rfl
    | 14, _ => rfl
    | n + 15, _ => rfl
  | 1, _ => rfl
  | 2, _ => rfl
  | 3, _ => rfl
  | 4, _ => rfl
  | 5, _ => rfl
  | 6, _ => rfl
  | 7, _ => rfl
  | n + 8, _ => rfl
theorem sX_12 {z v : Int} (F : wa_fx p s m c meth args cc nL own nm ret D cy) (hw : wa_wd D ad (wW cy ad S X T o) H) (hj : wa_wj A ad (wW cy ad S X T o)) (hS : va_S A H0 H locs) (hv : 0 ≤ v) (hlv : v < S 8 0) (j : Nat) (hz : z = (j : Int)) (hjn : j < 10) (hdg : decode cc pc = .ok (.aastore, 1)) (kk : ∀ (H1 : Heap) (locs1 : List Loc), wa_wd D ad (wW cy ad S (wa_s X 12 j v) T o) H1 → va_S A H0 H1 locs1 → W p l e R s m args below meth c H1 locs1 cells slots Q (F0 m (pc + 1) ls rest)) : W p l e R s m args below meth c H locs cells slots Q (F0 m pc ls (.ref (ad 1 v.toNat) :: .int (iI z) :: .ref (ad 0 12) :: rest)) := wa_aast (t0 := 3) (ci := 1) F hw hj hS rfl rfl (wW_1 (by omega)) rfl j hz hjn (by decide) hdg (fun H1 locs1 h1 h2 => kk H1 locs1 (by rw [wx_r12 _ _ hv] at h1; exact h1) h2)
theorem wx_r14 (j : Nat) (v : Int) (hv : 0 ≤ v) : wa_up (wW cy ad S X T o) 0 14 (wa_aR (cy 4) 30 (va_up (fun b => wa_op ad 5 (X 14 b)) j (some (ad 5 v.toNat)))) = wW cy ad S (wa_s X 14 j v) T o := by
  funext a b
  by_cases h : a = 0 ∧ b = 14
  · obtain ⟨rfl, rfl⟩ := h
    rw [wa_up_s]
    show some (wa_aR _ _ _) = some (wa_aR _ _ _)
    rw [wa_op_up hv]
  rw [wa_up_n h]
  match a, h with
  | 0, h =>
    match b, h with
    | 0, _ => rfl
    | 1, _ => rfl
    | 2, _ => rfl
    | 3, _ => rfl
    | 4, _ => rfl
    | 5, _ => rfl
    | 6, _ => rfl
    | 7, _ => rfl
    | 8, _ => rfl
    | 9, _ => rfl
    | 10, _ => rfl
    | 11, _ => rfl
    | 12, _ => rfl
    | 13, _ => rfl
    | 14, h => exact absurd ⟨rfl, rfl⟩ h
    | n + 15, _ => rfl
  | 1, _ => rfl
  | 2, _ => rfl
  | 3, _ => rfl
  | 4, _ => rfl
  | 5, _ => rfl
  | 6, _ => rfl
  | 7, _ => rfl
  | n + 8, _ => rfl
theorem sX_14 {z v : Int} (F : wa_fx p s m c meth args cc nL own nm ret D cy) (hw : wa_wd D ad (wW cy ad S X T o) H) (hj : wa_wj A ad (wW cy ad S X T o)) (hS : va_S A H0 H locs) (hv : 0 ≤ v) (hlv : v < S 29 0) (j : Nat) (hz : z = (j : Int)) (hjn : j < 30) (hdg : decode cc pc = .ok (.aastore, 1)) (kk : ∀ (H1 : Heap) (locs1 : List Loc), wa_wd D ad (wW cy ad S (wa_s X 14 j v) T o) H1 → va_S A H0 H1 locs1 → W p l e R s m args below meth c H1 locs1 cells slots Q (F0 m (pc + 1) ls rest)) : W p l e R s m args below meth c H locs cells slots Q (F0 m pc ls (.ref (ad 5 v.toNat) :: .int (iI z) :: .ref (ad 0 14) :: rest)) := wa_aast (t0 := 4) (ci := 3) F hw hj hS rfl rfl (wW_5 (by omega)) rfl j hz hjn (by decide) hdg (fun H1 locs1 h1 h2 => kk H1 locs1 (by rw [wx_r14 _ _ hv] at h1; exact h1) h2)
theorem wx_f9 (v : Int) : wa_up (wW cy ad S X T o) 0 0 (.inr (4, (wx_fs ad S).set 9 (.int (iI v)))) = wW cy ad (wa_s S 1 0 v) X T o := by
  funext a b
  by_cases h : a = 0 ∧ b = 0
  · obtain ⟨rfl, rfl⟩ := h
    rw [wa_up_s]
    rfl
  rw [wa_up_n h]
  match a, h with
  | 0, h =>
    match b, h with
    | 0, h => exact absurd ⟨rfl, rfl⟩ h
    | 1, _ => rfl
    | 2, _ => rfl
    | 3, _ => rfl
    | 4, _ => rfl
    | 5, _ => rfl
    | 6, _ => rfl
    | 7, _ => rfl
    | 8, _ => rfl
    | 9, _ => rfl
    | 10, _ => rfl
    | 11, _ => rfl
    | 12, _ => rfl
    | 13, _ => rfl
    | 14, _ => rfl
    | n + 15, _ => rfl
  | 1, _ => rfl
  | 2, _ => rfl
  | 3, _ => rfl
  | 4, _ => rfl
  | 5, _ => rfl
  | 6, _ => rfl
  | 7, _ => rfl
  | n + 8, _ => rfl
theorem qX4_178 {v : Int} (F : wa_fx p s m c meth args cc nL RX4 nm ret D cy) (hw : wa_wd D ad (wW cy ad S X T o) H) (hj : wa_wj A ad (wW cy ad S X T o)) (hS : va_S A H0 H locs)  (hdg : decode cc pc = .ok (.putfield 178, 3)) (kk : ∀ (H1 : Heap) (locs1 : List Loc), wa_wd D ad (wW cy ad (wa_s S 1 0 v) X T o) H1 → va_S A H0 H1 locs1 → W p l e R s m args below meth c H1 locs1 cells slots Q (F0 m (pc + 3) ls rest)) : W p l e R s m args below meth c H locs cells slots Q (F0 m pc ls (.int (iI v) :: .ref (ad 0 0) :: rest)) := pX4_178 F hw hj hS rfl (Nat.le_of_ble_eq_true rfl) hdg (fun H1 locs1 h1 h2 => kk H1 locs1 (by rw [wx_f9] at h1; exact h1) h2)
theorem wx_f11 (v : Int) : wa_up (wW cy ad S X T o) 0 0 (.inr (4, (wx_fs ad S).set 11 (.int (iI v)))) = wW cy ad (wa_s S 23 0 v) X T o := by
  funext a b
  by_cases h : a = 0 ∧ b = 0
  · obtain ⟨rfl, rfl⟩ := h
    rw [wa_up_s]
    rfl
  rw [wa_up_n h]
  match a, h with
  | 0, h =>
    match b, h with
    | 0, h => exact absurd ⟨rfl, rfl⟩ h
    | 1, _ => rfl
    | 2, _ => rfl
    | 3, _ => rfl
    | 4, _ => rfl
    | 5, _ => rfl
    | 6, _ => rfl
    | 7, _ => rfl
    | 8, _ => rfl
    | 9, _ => rfl
    | 10, _ => rfl
    | 11, _ => rfl
    | 12, _ => rfl
    | 13, _ => rfl
    | 14, _ => rfl
    | n + 15, _ => rfl
  | 1, _ => rfl
  | 2, _ => rfl
  | 3, _ => rfl
  | 4, _ => rfl
  | 5, _ => rfl
  | 6, _ => rfl
  | 7, _ => rfl
  | n + 8, _ => rfl
theorem qX4_56 {v : Int} (F : wa_fx p s m c meth args cc nL RX4 nm ret D cy) (hw : wa_wd D ad (wW cy ad S X T o) H) (hj : wa_wj A ad (wW cy ad S X T o)) (hS : va_S A H0 H locs)  (hdg : decode cc pc = .ok (.putfield 56, 3)) (kk : ∀ (H1 : Heap) (locs1 : List Loc), wa_wd D ad (wW cy ad (wa_s S 23 0 v) X T o) H1 → va_S A H0 H1 locs1 → W p l e R s m args below meth c H1 locs1 cells slots Q (F0 m (pc + 3) ls rest)) : W p l e R s m args below meth c H locs cells slots Q (F0 m pc ls (.int (iI v) :: .ref (ad 0 0) :: rest)) := pX4_56 F hw hj hS rfl (Nat.le_of_ble_eq_true rfl) hdg (fun H1 locs1 h1 h2 => kk H1 locs1 (by rw [wx_f11] at h1; exact h1) h2)
theorem wx_f12 (v : Int) : wa_up (wW cy ad S X T o) 0 0 (.inr (4, (wx_fs ad S).set 12 (.int (iI v)))) = wW cy ad (wa_s S 24 0 v) X T o := by
  funext a b
  by_cases h : a = 0 ∧ b = 0
  · obtain ⟨rfl, rfl⟩ := h
    rw [wa_up_s]
    rfl
  rw [wa_up_n h]
  match a, h with
  | 0, h =>
    match b, h with
    | 0, h => exact absurd ⟨rfl, rfl⟩ h
    | 1, _ => rfl
    | 2, _ => rfl
    | 3, _ => rfl
    | 4, _ => rfl
    | 5, _ => rfl
    | 6, _ => rfl
    | 7, _ => rfl
    | 8, _ => rfl
    | 9, _ => rfl
    | 10, _ => rfl
    | 11, _ => rfl
    | 12, _ => rfl
    | 13, _ => rfl
    | 14, _ => rfl
    | n + 15, _ => rfl
  | 1, _ => rfl
  | 2, _ => rfl
  | 3, _ => rfl
  | 4, _ => rfl
  | 5, _ => rfl
  | 6, _ => rfl
  | 7, _ => rfl
  | n + 8, _ => rfl
theorem qX4_60 {v : Int} (F : wa_fx p s m c meth args cc nL RX4 nm ret D cy) (hw : wa_wd D ad (wW cy ad S X T o) H) (hj : wa_wj A ad (wW cy ad S X T o)) (hS : va_S A H0 H locs)  (hdg : decode cc pc = .ok (.putfield 60, 3)) (kk : ∀ (H1 : Heap) (locs1 : List Loc), wa_wd D ad (wW cy ad (wa_s S 24 0 v) X T o) H1 → va_S A H0 H1 locs1 → W p l e R s m args below meth c H1 locs1 cells slots Q (F0 m (pc + 3) ls rest)) : W p l e R s m args below meth c H locs cells slots Q (F0 m pc ls (.int (iI v) :: .ref (ad 0 0) :: rest)) := pX4_60 F hw hj hS rfl (Nat.le_of_ble_eq_true rfl) hdg (fun H1 locs1 h1 h2 => kk H1 locs1 (by rw [wx_f12] at h1; exact h1) h2)
theorem wx_l3 (v : Int) : wa_up (wW cy ad S X T o) 0 1 (.inr (2, (wx_ls ad S).set 3 (.int (iI v)))) = wW cy ad (wa_s S 12 0 v) X T o := by
  funext a b
  by_cases h : a = 0 ∧ b = 1
  · obtain ⟨rfl, rfl⟩ := h
    rw [wa_up_s]
    rfl
  rw [wa_up_n h]
  match a, h with
  | 0, h =>
    match b, h with
    | 0, _ => rfl
    | 1, h => exact absurd ⟨rfl, rfl⟩ h
    | 2, _ => rfl
    | 3, _ => rfl
    | 4, _ => rfl
    | 5, _ => rfl
    | 6, _ => rfl
    | 7, _ => rfl
    | 8, _ => rfl
    | 9, _ => rfl
    | 10, _ => rfl
    | 11, _ => rfl
    | 12, _ => rfl
    | 13, _ => rfl
    | 14, _ => rfl
    | n + 15, _ => rfl
  | 1, _ => rfl
  | 2, _ => rfl
  | 3, _ => rfl
  | 4, _ => rfl
  | 5, _ => rfl
  | 6, _ => rfl
  | 7, _ => rfl
  | n + 8, _ => rfl
theorem qX2_21 {v : Int} (F : wa_fx p s m c meth args cc nL RX2 nm ret D cy) (hw : wa_wd D ad (wW cy ad S X T o) H) (hj : wa_wj A ad (wW cy ad S X T o)) (hS : va_S A H0 H locs)  (hdg : decode cc pc = .ok (.putfield 21, 3)) (kk : ∀ (H1 : Heap) (locs1 : List Loc), wa_wd D ad (wW cy ad (wa_s S 12 0 v) X T o) H1 → va_S A H0 H1 locs1 → W p l e R s m args below meth c H1 locs1 cells slots Q (F0 m (pc + 3) ls rest)) : W p l e R s m args below meth c H locs cells slots Q (F0 m pc ls (.int (iI v) :: .ref (ad 0 1) :: rest)) := pX2_21 F hw hj hS rfl (Nat.le_of_ble_eq_true rfl) hdg (fun H1 locs1 h1 h2 => kk H1 locs1 (by rw [wx_l3] at h1; exact h1) h2)
theorem wx_fI3 {i : Nat} (hi : (i : Int) < S 8 0) (v : Int) : wa_up (wW cy ad S X T o) 1 i (.inr (1, (wx_fI ad S X i).set 3 (.int (iI v)))) = wW cy ad (wa_s S 6 i v) X T o := by
  funext a b
  by_cases h : a = 1 ∧ b = i
  · obtain ⟨rfl, rfl⟩ := h
    rw [wa_up_s]
    have hi : (b : Int) < S 8 0 := hi
    refine (show some _ = some _ from ?_).trans (wW_1 (by exact hi)).symm
    simp [wx_fI, wa_s]
  rw [wa_up_n h]
  match a, h with
  | 0, _ => rfl
  | 1, h =>
    have hb : b ≠ i := fun q => h ⟨rfl, q⟩
    show (if (b : Int) < S 8 0 then some _ else none) = (if (b : Int) < S 8 0 then some _ else none)
    simp [wx_fI, wa_s, hb]
  | 2, _ => rfl
  | 3, _ => rfl
  | 4, _ => rfl
  | 5, _ => rfl
  | 6, _ => rfl
  | 7, _ => rfl
  | n + 8, _ => rfl
theorem qX1_23 {v : Int} {i : Nat} (F : wa_fx p s m c meth args cc nL RX1 nm ret D cy) (hw : wa_wd D ad (wW cy ad S X T o) H) (hj : wa_wj A ad (wW cy ad S X T o)) (hS : va_S A H0 H locs) (hi : (i : Int) < S 8 0) (hdg : decode cc pc = .ok (.putfield 23, 3)) (kk : ∀ (H1 : Heap) (locs1 : List Loc), wa_wd D ad (wW cy ad (wa_s S 6 i v) X T o) H1 → va_S A H0 H1 locs1 → W p l e R s m args below meth c H1 locs1 cells slots Q (F0 m (pc + 3) ls rest)) : W p l e R s m args below meth c H locs cells slots Q (F0 m pc ls (.int (iI v) :: .ref (ad 1 i) :: rest)) := pX1_23 F hw hj hS (wW_1 hi) (Nat.le_of_ble_eq_true rfl) hdg (fun H1 locs1 h1 h2 => kk H1 locs1 (by rw [wx_fI3 hi] at h1; exact h1) h2)
theorem wx_fI4 {i : Nat} (hi : (i : Int) < S 8 0) (v : Int) : wa_up (wW cy ad S X T o) 1 i (.inr (1, (wx_fI ad S X i).set 4 (va_rf (wa_op ad 3 v)))) = wW cy ad (wa_s S 7 i v) X T o := by
  funext a b
  by_cases h : a = 1 ∧ b = i
  · obtain ⟨rfl, rfl⟩ := h
    rw [wa_up_s]
    have hi : (b : Int) < S 8 0 := hi
    refine (show some _ = some _ from ?_).trans (wW_1 (by exact hi)).symm
    simp [wx_fI, wa_s]
  rw [wa_up_n h]
  match a, h with
  | 0, _ => rfl
  | 1, h =>
    have hb : b ≠ i := fun q => h ⟨rfl, q⟩
    show (if (b : Int) < S 8 0 then some _ else none) = (if (b : Int) < S 8 0 then some _ else none)
    simp [wx_fI, wa_s, hb]
  | 2, _ => rfl
  | 3, _ => rfl
  | 4, _ => rfl
  | 5, _ => rfl
  | 6, _ => rfl
  | 7, _ => rfl
  | n + 8, _ => rfl
theorem qX4_103 {v : Int} {i : Nat} (F : wa_fx p s m c meth args cc nL RX4 nm ret D cy) (hw : wa_wd D ad (wW cy ad S X T o) H) (hj : wa_wj A ad (wW cy ad S X T o)) (hS : va_S A H0 H locs) (hi : (i : Int) < S 8 0) (hdg : decode cc pc = .ok (.putfield 103, 3)) (kk : ∀ (H1 : Heap) (locs1 : List Loc), wa_wd D ad (wW cy ad (wa_s S 7 i v) X T o) H1 → va_S A H0 H1 locs1 → W p l e R s m args below meth c H1 locs1 cells slots Q (F0 m (pc + 3) ls rest)) : W p l e R s m args below meth c H locs cells slots Q (F0 m pc ls (va_rf (wa_op ad 3 v) :: .ref (ad 1 i) :: rest)) := pX4_103 F hw hj hS (wW_1 hi) (Nat.le_of_ble_eq_true rfl) hdg (fun H1 locs1 h1 h2 => kk H1 locs1 (by rw [wx_fI4 hi] at h1; exact h1) h2)
theorem wx_fI5 {i : Nat} (hi : (i : Int) < S 8 0) (v : Int) : wa_up (wW cy ad S X T o) 1 i (.inr (1, (wx_fI ad S X i).set 5 (.int (iI v)))) = wW cy ad S (wa_s X 20 i v) T o := by
  funext a b
  by_cases h : a = 1 ∧ b = i
  · obtain ⟨rfl, rfl⟩ := h
    rw [wa_up_s]
    have hi : (b : Int) < S 8 0 := hi
    refine (show some _ = some _ from ?_).trans (wW_1 (by exact hi)).symm
    simp [wx_fI, wa_s]
  rw [wa_up_n h]
  match a, h with
  | 0, _ => rfl
  | 1, h =>
    have hb : b ≠ i := fun q => h ⟨rfl, q⟩
    show (if (b : Int) < S 8 0 then some _ else none) = (if (b : Int) < S 8 0 then some _ else none)
    simp [wx_fI, wa_s, hb]
  | 2, _ => rfl
  | 3, _ => rfl
  | 4, _ => rfl
  | 5, _ => rfl
  | 6, _ => rfl
  | 7, _ => rfl
  | n + 8, _ => rfl
theorem qX4_271 {v : Int} {i : Nat} (F : wa_fx p s m c meth args cc nL RX4 nm ret D cy) (hw : wa_wd D ad (wW cy ad S X T o) H) (hj : wa_wj A ad (wW cy ad S X T o)) (hS : va_S A H0 H locs) (hi : (i : Int) < S 8 0) (hdg : decode cc pc = .ok (.putfield 271, 3)) (kk : ∀ (H1 : Heap) (locs1 : List Loc), wa_wd D ad (wW cy ad S (wa_s X 20 i v) T o) H1 → va_S A H0 H1 locs1 → W p l e R s m args below meth c H1 locs1 cells slots Q (F0 m (pc + 3) ls rest)) : W p l e R s m args below meth c H locs cells slots Q (F0 m pc ls (.int (iI v) :: .ref (ad 1 i) :: rest)) := pX4_271 F hw hj hS (wW_1 hi) (Nat.le_of_ble_eq_true rfl) hdg (fun H1 locs1 h1 h2 => kk H1 locs1 (by rw [wx_fI5 hi] at h1; exact h1) h2)
theorem wx_fB5 {i : Nat} (hi : (i : Int) < S 21 0) (v : Int) : wa_up (wW cy ad S X T o) 3 i (.inr (0, (wx_fB ad S i).set 5 (.int (iI v)))) = wW cy ad (wa_s S 16 i v) X T o := by
  funext a b
  by_cases h : a = 3 ∧ b = i
  · obtain ⟨rfl, rfl⟩ := h
    rw [wa_up_s]
    have hi : (b : Int) < S 21 0 := hi
    refine (show some _ = some _ from ?_).trans (wW_3 (by exact hi)).symm
    simp [wx_fB, wa_s]
  rw [wa_up_n h]
  match a, h with
  | 0, _ => rfl
  | 1, _ => rfl
  | 2, _ => rfl
  | 3, h =>
    have hb : b ≠ i := fun q => h ⟨rfl, q⟩
    show (if (b : Int) < S 21 0 then some _ else none) = (if (b : Int) < S 21 0 then some _ else none)
    simp [wx_fB, wa_s, hb]
  | 4, _ => rfl
  | 5, _ => rfl
  | 6, _ => rfl
  | 7, _ => rfl
  | n + 8, _ => rfl
theorem qX4_165 {v : Int} {i : Nat} (F : wa_fx p s m c meth args cc nL RX4 nm ret D cy) (hw : wa_wd D ad (wW cy ad S X T o) H) (hj : wa_wj A ad (wW cy ad S X T o)) (hS : va_S A H0 H locs) (hi : (i : Int) < S 21 0) (hdg : decode cc pc = .ok (.putfield 165, 3)) (kk : ∀ (H1 : Heap) (locs1 : List Loc), wa_wd D ad (wW cy ad (wa_s S 16 i v) X T o) H1 → va_S A H0 H1 locs1 → W p l e R s m args below meth c H1 locs1 cells slots Q (F0 m (pc + 3) ls rest)) : W p l e R s m args below meth c H locs cells slots Q (F0 m pc ls (.int (iI v) :: .ref (ad 3 i) :: rest)) := pX4_165 F hw hj hS (wW_3 hi) (Nat.le_of_ble_eq_true rfl) hdg (fun H1 locs1 h1 h2 => kk H1 locs1 (by rw [wx_fB5 hi] at h1; exact h1) h2)
theorem wx_fB6 {i : Nat} (hi : (i : Int) < S 21 0) (v : Int) : wa_up (wW cy ad S X T o) 3 i (.inr (0, (wx_fB ad S i).set 6 (.int (iI v)))) = wW cy ad (wa_s S 19 i v) X T o := by
  funext a b
  by_cases h : a = 3 ∧ b = i
  · obtain ⟨rfl, rfl⟩ := h
    rw [wa_up_s]
    have hi : (b : Int) < S 21 0 := hi
    refine (show some _ = some _ from ?_).trans (wW_3 (by exact hi)).symm
    simp [wx_fB, wa_s]
  rw [wa_up_n h]
  match a, h with
  | 0, _ => rfl
  | 1, _ => rfl
  | 2, _ => rfl
  | 3, h =>
    have hb : b ≠ i := fun q => h ⟨rfl, q⟩
    show (if (b : Int) < S 21 0 then some _ else none) = (if (b : Int) < S 21 0 then some _ else none)
    simp [wx_fB, wa_s, hb]
  | 4, _ => rfl
  | 5, _ => rfl
  | 6, _ => rfl
  | 7, _ => rfl
  | n + 8, _ => rfl
theorem qX4_154 {v : Int} {i : Nat} (F : wa_fx p s m c meth args cc nL RX4 nm ret D cy) (hw : wa_wd D ad (wW cy ad S X T o) H) (hj : wa_wj A ad (wW cy ad S X T o)) (hS : va_S A H0 H locs) (hx : v = 0 ∨ v = 1) (hi : (i : Int) < S 21 0) (hdg : decode cc pc = .ok (.putfield 154, 3)) (kk : ∀ (H1 : Heap) (locs1 : List Loc), wa_wd D ad (wW cy ad (wa_s S 19 i v) X T o) H1 → va_S A H0 H1 locs1 → W p l e R s m args below meth c H1 locs1 cells slots Q (F0 m (pc + 3) ls rest)) : W p l e R s m args below meth c H locs cells slots Q (F0 m pc ls (.int (iI v) :: .ref (ad 3 i) :: rest)) := pX4_154 F hx hw hj hS (wW_3 hi) (Nat.le_of_ble_eq_true rfl) hdg (fun H1 locs1 h1 h2 => kk H1 locs1 (by rw [wx_fB6 hi] at h1; exact h1) h2)
theorem wx_fB7 {i : Nat} (hi : (i : Int) < S 21 0) (v : Int) : wa_up (wW cy ad S X T o) 3 i (.inr (0, (wx_fB ad S i).set 7 (.int (iI v)))) = wW cy ad (wa_s S 17 i v) X T o := by
  funext a b
  by_cases h : a = 3 ∧ b = i
  · obtain ⟨rfl, rfl⟩ := h
    rw [wa_up_s]
    have hi : (b : Int) < S 21 0 := hi
    refine (show some _ = some _ from ?_).trans (wW_3 (by exact hi)).symm
    simp [wx_fB, wa_s]
  rw [wa_up_n h]
  match a, h with
  | 0, _ => rfl
  | 1, _ => rfl
  | 2, _ => rfl
  | 3, h =>
    have hb : b ≠ i := fun q => h ⟨rfl, q⟩
    show (if (b : Int) < S 21 0 then some _ else none) = (if (b : Int) < S 21 0 then some _ else none)
    simp [wx_fB, wa_s, hb]
  | 4, _ => rfl
  | 5, _ => rfl
  | 6, _ => rfl
  | 7, _ => rfl
  | n + 8, _ => rfl
theorem qX4_157 {v : Int} {i : Nat} (F : wa_fx p s m c meth args cc nL RX4 nm ret D cy) (hw : wa_wd D ad (wW cy ad S X T o) H) (hj : wa_wj A ad (wW cy ad S X T o)) (hS : va_S A H0 H locs) (hx : v = 0 ∨ v = 1) (hi : (i : Int) < S 21 0) (hdg : decode cc pc = .ok (.putfield 157, 3)) (kk : ∀ (H1 : Heap) (locs1 : List Loc), wa_wd D ad (wW cy ad (wa_s S 17 i v) X T o) H1 → va_S A H0 H1 locs1 → W p l e R s m args below meth c H1 locs1 cells slots Q (F0 m (pc + 3) ls rest)) : W p l e R s m args below meth c H locs cells slots Q (F0 m pc ls (.int (iI v) :: .ref (ad 3 i) :: rest)) := pX4_157 F hx hw hj hS (wW_3 hi) (Nat.le_of_ble_eq_true rfl) hdg (fun H1 locs1 h1 h2 => kk H1 locs1 (by rw [wx_fB7 hi] at h1; exact h1) h2)
theorem wx_fB8 {i : Nat} (hi : (i : Int) < S 21 0) (v : Int) : wa_up (wW cy ad S X T o) 3 i (.inr (0, (wx_fB ad S i).set 8 (.int (iI v)))) = wW cy ad (wa_s S 18 i v) X T o := by
  funext a b
  by_cases h : a = 3 ∧ b = i
  · obtain ⟨rfl, rfl⟩ := h
    rw [wa_up_s]
    have hi : (b : Int) < S 21 0 := hi
    refine (show some _ = some _ from ?_).trans (wW_3 (by exact hi)).symm
    simp [wx_fB, wa_s]
  rw [wa_up_n h]
  match a, h with
  | 0, _ => rfl
  | 1, _ => rfl
  | 2, _ => rfl
  | 3, h =>
    have hb : b ≠ i := fun q => h ⟨rfl, q⟩
    show (if (b : Int) < S 21 0 then some _ else none) = (if (b : Int) < S 21 0 then some _ else none)
    simp [wx_fB, wa_s, hb]
  | 4, _ => rfl
  | 5, _ => rfl
  | 6, _ => rfl
  | 7, _ => rfl
  | n + 8, _ => rfl
theorem qX4_148 {v : Int} {i : Nat} (F : wa_fx p s m c meth args cc nL RX4 nm ret D cy) (hw : wa_wd D ad (wW cy ad S X T o) H) (hj : wa_wj A ad (wW cy ad S X T o)) (hS : va_S A H0 H locs) (hx : v = 0 ∨ v = 1) (hi : (i : Int) < S 21 0) (hdg : decode cc pc = .ok (.putfield 148, 3)) (kk : ∀ (H1 : Heap) (locs1 : List Loc), wa_wd D ad (wW cy ad (wa_s S 18 i v) X T o) H1 → va_S A H0 H1 locs1 → W p l e R s m args below meth c H1 locs1 cells slots Q (F0 m (pc + 3) ls rest)) : W p l e R s m args below meth c H locs cells slots Q (F0 m pc ls (.int (iI v) :: .ref (ad 3 i) :: rest)) := pX4_148 F hx hw hj hS (wW_3 hi) (Nat.le_of_ble_eq_true rfl) hdg (fun H1 locs1 h1 h2 => kk H1 locs1 (by rw [wx_fB8 hi] at h1; exact h1) h2)
theorem wx_fM4 {i : Nat} (hi : (i : Int) < S 29 0) (v : Int) : wa_up (wW cy ad S X T o) 5 i (.inr (3, (wx_fM ad S i).set 4 (va_rf (wa_op ad 3 v)))) = wW cy ad (wa_s S 28 i v) X T o := by
  funext a b
  by_cases h : a = 5 ∧ b = i
  · obtain ⟨rfl, rfl⟩ := h
    rw [wa_up_s]
    have hi : (b : Int) < S 29 0 := hi
    refine (show some _ = some _ from ?_).trans (wW_5 (by exact hi)).symm
    simp [wx_fM, wa_s]
  rw [wa_up_n h]
  match a, h with
  | 0, _ => rfl
  | 1, _ => rfl
  | 2, _ => rfl
  | 3, _ => rfl
  | 4, _ => rfl
  | 5, h =>
    have hb : b ≠ i := fun q => h ⟨rfl, q⟩
    show (if (b : Int) < S 29 0 then some _ else none) = (if (b : Int) < S 29 0 then some _ else none)
    simp [wx_fM, wa_s, hb]
  | 6, _ => rfl
  | 7, _ => rfl
  | n + 8, _ => rfl
theorem qX4_230 {v : Int} {i : Nat} (F : wa_fx p s m c meth args cc nL RX4 nm ret D cy) (hw : wa_wd D ad (wW cy ad S X T o) H) (hj : wa_wj A ad (wW cy ad S X T o)) (hS : va_S A H0 H locs) (hi : (i : Int) < S 29 0) (hdg : decode cc pc = .ok (.putfield 230, 3)) (kk : ∀ (H1 : Heap) (locs1 : List Loc), wa_wd D ad (wW cy ad (wa_s S 28 i v) X T o) H1 → va_S A H0 H1 locs1 → W p l e R s m args below meth c H1 locs1 cells slots Q (F0 m (pc + 3) ls rest)) : W p l e R s m args below meth c H locs cells slots Q (F0 m pc ls (va_rf (wa_op ad 3 v) :: .ref (ad 5 i) :: rest)) := pX4_230 F hw hj hS (wW_5 hi) (Nat.le_of_ble_eq_true rfl) hdg (fun H1 locs1 h1 h2 => kk H1 locs1 (by rw [wx_fM4 hi] at h1; exact h1) h2)
theorem wx_J {i j : Nat} {v : Int} (hjn : j < 5) : ∀ (kd b : Nat) (e2 : va_E), wW cy ad (wa_s S 5 (5 * i + j) v) X T o kd b = some e2 → ad kd b = ad kd b ∧ ∃ e1 : va_E, wa_up (wW cy ad S X T o) 2 i (wa_aI (cy 0) 5 (wa_g (fun j => S 5 (5 * i + j)) j v)) kd b = some e1 ∧ wa_cg e1 e2 := by
  intro a b e2 h
  refine ⟨rfl, ?_⟩
  by_cases q : a = 2 ∧ b = i
  · obtain ⟨rfl, rfl⟩ := q
    rw [wa_up_s]
    refine ⟨_, rfl, ?_⟩
    rw [← (wx_lt h).2]
    exact Or.inr (Or.inl ⟨_, _, _, _, rfl, rfl, fun c _ => by simp [wa_g, wa_s]⟩)
  rw [wa_up_n q]
  match a, h, q with
  | 0, h, _ => exact ⟨e2, h, Or.inl rfl⟩
  | 1, h, _ => exact ⟨e2, h, Or.inl rfl⟩
  | 2, h, q =>
    have hb : b ≠ i := fun q2 => q ⟨rfl, q2⟩
    refine ⟨_, wW_2 (wx_lt h).1, ?_⟩
    rw [← (wx_lt h).2]
    exact Or.inr (Or.inl ⟨_, _, _, _, rfl, rfl, fun c hc => by rw [wa_s_nj (by omega)]⟩)
  | 3, h, _ => exact ⟨e2, h, Or.inl rfl⟩
  | 4, h, _ => exact ⟨e2, h, Or.inl rfl⟩
  | 5, h, _ => exact ⟨e2, h, Or.inl rfl⟩
  | 6, h, _ => exact ⟨e2, h, Or.inl rfl⟩
  | 7, h, _ => exact ⟨e2, h, Or.inl rfl⟩
  | n + 8, h, _ => exact ⟨e2, h, Or.inl rfl⟩
theorem sX_J {z v : Int} {i : Nat} (F : wa_fx p s m c meth args cc nL own nm ret D cy) (hw : wa_wd D ad (wW cy ad S X T o) H) (hj : wa_wj A ad (wW cy ad S X T o)) (hS : va_S A H0 H locs) (hi : (i : Int) < S 8 0) (j : Nat) (hz : z = (j : Int)) (hjn : j < 5) (hdg : decode cc pc = .ok (.iastore, 1)) (kk : ∀ (H1 : Heap) (locs1 : List Loc), wa_wd D ad (wW cy ad (wa_s S 5 (5 * i + j) v) X T o) H1 → va_S A H0 H1 locs1 → W p l e R s m args below meth c H1 locs1 cells slots Q (F0 m (pc + 1) ls rest)) : W p l e R s m args below meth c H locs cells slots Q (F0 m pc ls (.int (iI v) :: .int (iI z) :: .ref (ad 2 i) :: rest)) := wa_iast (g := fun j => S 5 (5 * i + j)) F hw hj hS (wW_2 hi) j hz hjn (by decide) hdg (fun H1 locs1 h1 h2 => kk H1 locs1 (h1.cg (wx_J hjn)) h2)
theorem wx_E {i j : Nat} {v : Int} (hjn : j < 3) : ∀ (kd b : Nat) (e2 : va_E), wW cy ad (wa_s S 20 (3 * i + j) v) X T o kd b = some e2 → ad kd b = ad kd b ∧ ∃ e1 : va_E, wa_up (wW cy ad S X T o) 4 i (wa_aI (cy 0) 3 (wa_g (fun j => S 20 (3 * i + j)) j v)) kd b = some e1 ∧ wa_cg e1 e2 := by
  intro a b e2 h
  refine ⟨rfl, ?_⟩
  by_cases q : a = 4 ∧ b = i
  · obtain ⟨rfl, rfl⟩ := q
    rw [wa_up_s]
    refine ⟨_, rfl, ?_⟩
    rw [← (wx_lt h).2]
    exact Or.inr (Or.inl ⟨_, _, _, _, rfl, rfl, fun c _ => by simp [wa_g, wa_s]⟩)
  rw [wa_up_n q]
  match a, h, q with
  | 0, h, _ => exact ⟨e2, h, Or.inl rfl⟩
  | 1, h, _ => exact ⟨e2, h, Or.inl rfl⟩
  | 2, h, _ => exact ⟨e2, h, Or.inl rfl⟩
  | 3, h, _ => exact ⟨e2, h, Or.inl rfl⟩
  | 4, h, q =>
    have hb : b ≠ i := fun q2 => q ⟨rfl, q2⟩
    refine ⟨_, wW_4 (wx_lt h).1, ?_⟩
    rw [← (wx_lt h).2]
    exact Or.inr (Or.inl ⟨_, _, _, _, rfl, rfl, fun c hc => by rw [wa_s_nj (by omega)]⟩)
  | 5, h, _ => exact ⟨e2, h, Or.inl rfl⟩
  | 6, h, _ => exact ⟨e2, h, Or.inl rfl⟩
  | 7, h, _ => exact ⟨e2, h, Or.inl rfl⟩
  | n + 8, h, _ => exact ⟨e2, h, Or.inl rfl⟩
theorem sX_E {z v : Int} {i : Nat} (F : wa_fx p s m c meth args cc nL own nm ret D cy) (hw : wa_wd D ad (wW cy ad S X T o) H) (hj : wa_wj A ad (wW cy ad S X T o)) (hS : va_S A H0 H locs) (hi : (i : Int) < S 21 0) (j : Nat) (hz : z = (j : Int)) (hjn : j < 3) (hdg : decode cc pc = .ok (.iastore, 1)) (kk : ∀ (H1 : Heap) (locs1 : List Loc), wa_wd D ad (wW cy ad (wa_s S 20 (3 * i + j) v) X T o) H1 → va_S A H0 H1 locs1 → W p l e R s m args below meth c H1 locs1 cells slots Q (F0 m (pc + 1) ls rest)) : W p l e R s m args below meth c H locs cells slots Q (F0 m pc ls (.int (iI v) :: .int (iI z) :: .ref (ad 4 i) :: rest)) := wa_iast (g := fun j => S 20 (3 * i + j)) F hw hj hS (wW_4 hi) j hz hjn (by decide) hdg (fun H1 locs1 h1 h2 => kk H1 locs1 (h1.cg (wx_E hjn)) h2)

/-- an answer that is known, and the world behind it, but for what the class keeps for itself -/
abbrev wx_Qi (A : Nat → Prop) (D : va_G) (cy : Nat → ClassId) (ad : Nat → Nat → Nat) (T : wa_St) (o : Int64) (S' : wa_St) (P : wa_St → Prop) (v : Int) : Array Value → State → Outcome → State → Prop := va_Qi (fun r (u : wa_St) => r = iI v ∧ P u) (fun u t => wa_wd D ad (wW cy ad S' u T o) t.heap) A
abbrev wx_Qv (A : Nat → Prop) (D : va_G) (cy : Nat → ClassId) (ad : Nat → Nat → Nat) (T : wa_St) (o : Int64) (S' : wa_St) (P : wa_St → Prop) : Array Value → State → Outcome → State → Prop := va_Qv (fun (u : wa_St) => P u) (fun u t => wa_wd D ad (wW cy ad S' u T o) t.heap) A
variable {P : wa_St → Prop} {mc ms : Nat}
theorem wx_ci {v : Int} {a : Array Value} (hr : va_Run p l e R s m args below meth c H locs cells slots mc ms (F0 m pc ls st0) rest (wx_Qi A D cy ad T o S' P v a) A) (hS : va_S A H0 H locs) (kk : ∀ (X1 : wa_St) (H1 : Heap) (locs1 : List Loc), P X1 → wa_wd D ad (wW cy ad S' X1 T o) H1 → va_S A H0 H1 locs1 → W p l e R s m args below meth c H1 locs1 (cells + mc) (slots + ms) Q (F0 m (pc + 3) ls (.int (iI v) :: rest))) : W p l e R s m args below meth c H locs cells slots Q (F0 m pc ls st0) :=
  va_calli hr hS (fun q _ h => h) (fun q h => h) (fun r u t H1 locs1 ht hvm hw hB hz hk hS => by rw [hw.1]; exact kk u H1 locs1 hw.2 (by rw [← ht]; exact hB) hS)
theorem wx_cv {a : Array Value} (hr : va_Run p l e R s m args below meth c H locs cells slots mc ms (F0 m pc ls st0) rest (wx_Qv A D cy ad T o S' P a) A) (hS : va_S A H0 H locs) (kk : ∀ (X1 : wa_St) (H1 : Heap) (locs1 : List Loc), P X1 → wa_wd D ad (wW cy ad S' X1 T o) H1 → va_S A H0 H1 locs1 → W p l e R s m args below meth c H1 locs1 (cells + mc) (slots + ms) Q (F0 m (pc + 3) ls rest)) : W p l e R s m args below meth c H locs cells slots Q (F0 m pc ls st0) :=
  va_callv hr hS (fun q _ h => h) (fun q h => h) (fun u t H1 locs1 ht hvm hw hB hz hk hS => kk u H1 locs1 hw (by rw [← ht]; exact hB) hS)
theorem wx_ei {v z : Int} (F : wa_fx p s m c meth args cc nL own nm (some .int) D cy) (hw : wa_wd D ad (wW cy ad S' X T o) H) (hS : va_S A s.heap H locs) (hv : z = v) (hP : P X) (hdg : decode cc pc = .ok (.ireturn, 1)) : W p l e R s m args below meth c H locs cells slots (MQ below (wx_Qi A D cy ad T o S' P v) args s cells slots A) (F0 m pc ls [.int (iI z)]) :=
  W.iret F.1.1 F.1.2.1 F.2.2.1 (fun t ht _ => ⟨⟨iI z, X, rfl, ⟨by rw [hv], hP⟩, by show wa_wd D ad (wW cy ad S' X T o) t.heap; rw [ht]; exact hw⟩, hS.F ht⟩) hS.2.2 hdg F.2.2.2.1
theorem wx_eiz {v z : Int} (F : wa_fx p s m c meth args cc nL own nm (some .boolean) D cy) (hw : wa_wd D ad (wW cy ad S' X T o) H) (hS : va_S A s.heap H locs) (hv : z = v) (hP : P X) (h01 : z = 0 ∨ z = 1) (hdg : decode cc pc = .ok (.ireturn, 1)) : W p l e R s m args below meth c H locs cells slots (MQ below (wx_Qi A D cy ad T o S' P v) args s cells slots A) (F0 m pc ls [.int (iI z)]) :=
  W.zret F.1.1 F.1.2.1 F.2.2.1 (by rcases h01 with rfl | rfl <;> decide +kernel) (fun t ht _ => ⟨⟨iI z, X, rfl, ⟨by rw [hv], hP⟩, by show wa_wd D ad (wW cy ad S' X T o) t.heap; rw [ht]; exact hw⟩, hS.F ht⟩) hS.2.2 hdg F.2.2.2.1
theorem wx_ev (F : wa_fx p s m c meth args cc nL own nm none D cy) (hw : wa_wd D ad (wW cy ad S' X T o) H) (hS : va_S A s.heap H locs) (hP : P X) (hdg : decode cc pc = .ok (.return_, 1)) : W p l e R s m args below meth c H locs cells slots (MQ below (wx_Qv A D cy ad T o S' P) args s cells slots A) (F0 m pc ls []) :=
  W.vret F.1.1 F.1.2.1 F.2.2.1 (fun t ht _ => ⟨⟨X, rfl, hP, by show wa_wd D ad (wW cy ad S' X T o) t.heap; rw [ht]; exact hw⟩, hS.F ht⟩) hS.2.2 hdg F.2.2.2.1

end WXW
