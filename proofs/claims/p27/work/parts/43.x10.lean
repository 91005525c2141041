/-! what makes cells: ends, calls, constructors (laid by program) -/
section WXV
variable {p : Program} {l : Launch} {e : Env} {R : Room} {s : State} {m : MethodId} {args : Array Value} {below : List Frame} {meth : Method} {c : Code} {H : Heap} {locs : List Loc} {cells slots : Nat} {Q : State → Prop}
variable {cc : ByteArray} {pc : Nat} {ls : Array Slot} {rest st0 : List Value} {D : va_G} {A : Nat → Prop} {H0 : Heap} {cy : Nat → ClassId} {ad : Nat → Nat → Nat} {C : wa_C} {nL : Nat} {own nm : String} {ret : Option FieldType} {mc ms : Nat} {U : Type} {post : U → Prop} {postI : Int32 → U → Prop} {B : U → Heap → Prop}
theorem wa_up_up (C : wa_C) (kd i : Nat) (e e' : va_E) : wa_up (wa_up C kd i e) kd i e' = wa_up C kd i e' := by
  funext a b
  by_cases h : a = kd ∧ b = i
  · simp [wa_up, h]
  · rw [wa_up_n h, wa_up_n h, wa_up_n h]
theorem wa_eV (u : U) (F : wa_fx p s m c meth args cc nL own nm none D cy) (hp : post u) (hB : B u H) (hS : va_S A s.heap H locs) (hdg : decode cc pc = .ok (.return_, 1)) : W p l e R s m args below meth c H locs cells slots (MQ below (va_Qv post (fun u t => B u t.heap) A) args s cells slots A) (F0 m pc ls []) :=
  W.vret F.1.1 F.1.2.1 F.2.2.1 (fun t ht _ => ⟨⟨u, rfl, hp, by show B u t.heap; rw [ht]; exact hB⟩, hS.F ht⟩) hS.2.2 hdg F.2.2.2.1
theorem wa_cV {a : Array Value} (hr : va_Run p l e R s m args below meth c H locs cells slots mc ms (F0 m pc ls st0) rest (va_Qv post (fun u t => B u t.heap) A a) A) (hS : va_S A H0 H locs) (kk : ∀ (u : U) (H1 : Heap) (locs1 : List Loc), post u → B u H1 → va_S A H0 H1 locs1 → H.size ≤ H1.size → W p l e R s m args below meth c H1 locs1 (cells + mc) (slots + ms) Q (F0 m (pc + 3) ls rest)) : W p l e R s m args below meth c H locs cells slots Q (F0 m pc ls st0) :=
  va_callv hr hS (fun q _ h => h) (fun q h => h) (fun u t H1 locs1 ht hvm hw hB hz hk hS => kk u H1 locs1 hw (by rw [← ht]; exact hB) hS hz)
theorem wa_eI {z : Int} (u : U) (F : wa_fx p s m c meth args cc nL own nm (some .int) D cy) (hp : postI (iI z) u) (hB : B u H) (hS : va_S A s.heap H locs) (hdg : decode cc pc = .ok (.ireturn, 1)) : W p l e R s m args below meth c H locs cells slots (MQ below (va_Qi postI (fun u t => B u t.heap) A) args s cells slots A) (F0 m pc ls [.int (iI z)]) :=
  W.iret F.1.1 F.1.2.1 F.2.2.1 (fun t ht _ => ⟨⟨iI z, u, rfl, hp, by show B u t.heap; rw [ht]; exact hB⟩, hS.F ht⟩) hS.2.2 hdg F.2.2.2.1
end WXV

set_option maxRecDepth 100000 in
set_option maxHeartbeats 4000000 in
/-- an image is made -/
theorem c_X1_init (l : Launch) (D : va_G) (cy : Nat → ClassId) (ad : Nat → Nat → Nat) (C : wa_C) (A : Nat → Prop) (hj : wa_wj A ad C) (hA : wa_Up A) (i : Nat) (hC : C 1 i = some (.inr (1, [.int 0, .null, .null, .int 0, .null, .int 0]))) (hn : C 2 i = none) (pr : Option Nat) : Met l yX1_init wX1_init ({ frames := 1, cells := 1, slots := 5, locals := 20 } : Room) (wa_pc [.ref (ad 1 i), .int (iI (i : Int)), va_rf (pr)] D cy (fun H => wa_wd D ad C H)) (va_Qv (fun (u : Nat) => wa_wj A (wa_ad ad 2 i u) (wa_up (wa_up C 2 i (wa_aI (cy 0) 5 (fun _ => 0))) 1 i (.inr (1, [.int (iI (i : Int)), va_rf pr, .ref u, .int 0, .null, .int 0])))) (fun u t => (fun (u : Nat) (H : Heap) => wa_wd D (wa_ad ad 2 i u) (wa_up (wa_up C 2 i (wa_aI (cy 0) 5 (fun _ => 0))) 1 i (.inr (1, [.int (iI (i : Int)), va_rf pr, .ref u, .int 0, .null, .int 0]))) H) u t.heap) A) 1 5 A := by
  refine wa_en (by decide +kernel) (by simp [lg_sl, wa_catq, show ∀ z, (Value.ref z).category = 1 from fun _ => rfl, show ∀ z, (Value.int z).category = 1 from fun _ => rfl]) ?_
  intro p e s m args below meth c F hw ls hl
  simp only [lv_args, wa_catq] at hl
  have F : wa_fx p s m c meth args cX1_init 3 RX1 "<init>" (none) D cy := F
  have hw : wa_wd D ad C s.heap := hw
  have hl : lv_has ls 3 [(0, .ref (ad 1 i)), (1, .int (iI (i : Int))), (2, va_rf (pr))] := hl
  obtain ⟨hx, hb, hml, hown, hts⟩ := id F.1
  have hS : va_S A s.heap s.heap [] := va_S.rf
  refine lv_aload_n hx hb dX1_init_0 rfl (lv_at hl 0 rfl) ?_
  refine oX1_3 F ⟨by decide, by decide⟩ hl.1 dX1_init_1 (by decide) ?_
  refine lv_aload_n hx hb dX1_init_4 rfl (lv_at hl 0 rfl) ?_
  refine wa_const F dX1_init_5 ?_
  refine wa_newI (N := 5) 2 i F hw hj hS (wa_fresh hA hw hj hC) hn qw_70 rfl (Nat.le_of_ble_eq_true rfl) (Nat.le_of_ble_eq_true rfl) (Nat.le_of_ble_eq_true rfl) dX1_init_6 (fun q_1 H hw hj hS => ?_)
  refine pX1_9 (x := some (q_1)) (kd := 1) (i := i) (ad := (wa_ad ad 2 i q_1)) F rfl hw hj hS hC (Nat.le_of_ble_eq_true rfl) dX1_init_8 (fun H locs hw hS => ?_)
  replace hj := wa_wj.put (kd := 1) (i := i) (e := .inr (1, [.int 0, .null, .ref q_1, .int 0, .null, .int 0])) hj hC
  replace hw : wa_wd D (wa_ad ad 2 i q_1) (wa_up (wa_up C 2 i (wa_aI (cy 0) 5 (fun _ => 0))) 1 i (.inr (1, [.int 0, .null, .ref q_1, .int 0, .null, .int 0]))) H := hw
  refine lv_aload_n hx hb dX1_init_11 rfl (lv_at hl 0 rfl) ?_
  refine lv_iload_n hx hb dX1_init_12 rfl (lv_at hl 1 rfl) ?_
  refine pX1_15 (kd := 1) (i := i) (ad := (wa_ad ad 2 i q_1)) F rfl hw hj hS (wa_up_s _ _ _ _) (Nat.le_of_ble_eq_true rfl) dX1_init_13 (fun H locs hw hS => ?_)
  replace hj := wa_wj.put (kd := 1) (i := i) (e := .inr (1, [.int (iI (i : Int)), .null, .ref q_1, .int 0, .null, .int 0])) hj (wa_up_s _ _ _ _)
  rw [wa_up_up] at hw hj
  replace hw : wa_wd D (wa_ad ad 2 i q_1) (wa_up (wa_up C 2 i (wa_aI (cy 0) 5 (fun _ => 0))) 1 i (.inr (1, [.int (iI (i : Int)), .null, .ref q_1, .int 0, .null, .int 0]))) H := hw
  refine lv_aload_n hx hb dX1_init_16 rfl (lv_at hl 0 rfl) ?_
  refine wa_ldq_n F dX1_init_17 rfl (lv_at hl 2 rfl) ?_
  refine pX1_19 (kd := 1) (i := i) (ad := (wa_ad ad 2 i q_1)) F rfl hw hj hS (wa_up_s _ _ _ _) (Nat.le_of_ble_eq_true rfl) dX1_init_18 (fun H locs hw hS => ?_)
  replace hj := wa_wj.put (kd := 1) (i := i) (e := .inr (1, [.int (iI (i : Int)), va_rf (pr), .ref q_1, .int 0, .null, .int 0])) hj (wa_up_s _ _ _ _)
  rw [wa_up_up] at hw hj
  replace hw : wa_wd D (wa_ad ad 2 i q_1) (wa_up (wa_up C 2 i (wa_aI (cy 0) 5 (fun _ => 0))) 1 i (.inr (1, [.int (iI (i : Int)), va_rf (pr), .ref q_1, .int 0, .null, .int 0]))) H := hw
  exact wa_eV (q_1) F hj hw hS dX1_init_21
set_option maxRecDepth 100000 in
set_option maxHeartbeats 4000000 in
/-- a machine is made -/
theorem c_X3_init (l : Launch) (D : va_G) (cy : Nat → ClassId) (ad : Nat → Nat → Nat) (C : wa_C) (A : Nat → Prop) (hj : wa_wj A ad C) (hA : wa_Up A) (i : Nat) (hC : C 5 i = some (.inr (3, [.int 0, .null, .int 0, .int 0, .null]))) (im bk : Option Nat) (pl rg : Int) : Met l yX3_init wX3_init ({ frames := 1, cells := 0, slots := 0, locals := 20 } : Room) (wa_pc [.ref (ad 5 i), .int (iI (i : Int)), va_rf (im), .int (iI pl), .int (iI rg), va_rf (bk)] D cy (fun H => wa_wd D ad C H)) (va_Qv (fun (u : Unit) => wa_wj A ad (wa_up C 5 i (.inr (3, [.int (iI (i : Int)), va_rf im, .int (iI pl), .int (iI rg), va_rf bk])))) (fun u t => (fun (u : Unit) (H : Heap) => wa_wd D ad (wa_up C 5 i (.inr (3, [.int (iI (i : Int)), va_rf im, .int (iI pl), .int (iI rg), va_rf bk]))) H) u t.heap) A) 0 0 A := by
  refine wa_en (by decide +kernel) (by simp [lg_sl, wa_catq, show ∀ z, (Value.ref z).category = 1 from fun _ => rfl, show ∀ z, (Value.int z).category = 1 from fun _ => rfl]) ?_
  intro p e s m args below meth c F hw ls hl
  simp only [lv_args, wa_catq] at hl
  have F : wa_fx p s m c meth args cX3_init 6 RX3 "<init>" (none) D cy := F
  have hw : wa_wd D ad C s.heap := hw
  have hl : lv_has ls 6 [(0, .ref (ad 5 i)), (1, .int (iI (i : Int))), (2, va_rf (im)), (3, .int (iI pl)), (4, .int (iI rg)), (5, va_rf (bk))] := hl
  obtain ⟨hx, hb, hml, hown, hts⟩ := id F.1
  have hS : va_S A s.heap s.heap [] := va_S.rf
  refine lv_aload_n hx hb dX3_init_0 rfl (lv_at hl 0 rfl) ?_
  refine oX3_1 F ⟨by decide, by decide⟩ hl.1 dX3_init_1 (by decide) ?_
  refine lv_aload_n hx hb dX3_init_4 rfl (lv_at hl 0 rfl) ?_
  refine lv_iload_n hx hb dX3_init_5 rfl (lv_at hl 1 rfl) ?_
  refine pX3_7 (kd := 5) (i := i) (ad := ad) F rfl hw hj hS hC (Nat.le_of_ble_eq_true rfl) dX3_init_6 (fun H locs hw hS => ?_)
  replace hj := wa_wj.put (kd := 5) (i := i) (e := .inr (3, [.int (iI (i : Int)), .null, .int 0, .int 0, .null])) hj hC
  replace hw : wa_wd D ad (wa_up C 5 i (.inr (3, [.int (iI (i : Int)), .null, .int 0, .int 0, .null]))) H := hw
  refine lv_aload_n hx hb dX3_init_9 rfl (lv_at hl 0 rfl) ?_
  refine wa_ldq_n F dX3_init_10 rfl (lv_at hl 2 rfl) ?_
  refine pX3_13 (kd := 5) (i := i) (ad := ad) F rfl hw hj hS (wa_up_s _ _ _ _) (Nat.le_of_ble_eq_true rfl) dX3_init_11 (fun H locs hw hS => ?_)
  replace hj := wa_wj.put (kd := 5) (i := i) (e := .inr (3, [.int (iI (i : Int)), va_rf (im), .int 0, .int 0, .null])) hj (wa_up_s _ _ _ _)
  rw [wa_up_up] at hw hj
  replace hw : wa_wd D ad (wa_up C 5 i (.inr (3, [.int (iI (i : Int)), va_rf (im), .int 0, .int 0, .null]))) H := hw
  refine lv_aload_n hx hb dX3_init_14 rfl (lv_at hl 0 rfl) ?_
  refine lv_iload_n hx hb dX3_init_15 rfl (lv_at hl 3 rfl) ?_
  refine pX3_17 (kd := 5) (i := i) (ad := ad) F rfl hw hj hS (wa_up_s _ _ _ _) (Nat.le_of_ble_eq_true rfl) dX3_init_16 (fun H locs hw hS => ?_)
  replace hj := wa_wj.put (kd := 5) (i := i) (e := .inr (3, [.int (iI (i : Int)), va_rf (im), .int (iI pl), .int 0, .null])) hj (wa_up_s _ _ _ _)
  rw [wa_up_up] at hw hj
  replace hw : wa_wd D ad (wa_up C 5 i (.inr (3, [.int (iI (i : Int)), va_rf (im), .int (iI pl), .int 0, .null]))) H := hw
  refine lv_aload_n hx hb dX3_init_19 rfl (lv_at hl 0 rfl) ?_
  refine lv_iload hx hb dX3_init_20 (lv_at hl 4 rfl) ?_
  refine pX3_20 (kd := 5) (i := i) (ad := ad) F rfl hw hj hS (wa_up_s _ _ _ _) (Nat.le_of_ble_eq_true rfl) dX3_init_22 (fun H locs hw hS => ?_)
  replace hj := wa_wj.put (kd := 5) (i := i) (e := .inr (3, [.int (iI (i : Int)), va_rf (im), .int (iI pl), .int (iI rg), .null])) hj (wa_up_s _ _ _ _)
  rw [wa_up_up] at hw hj
  replace hw : wa_wd D ad (wa_up C 5 i (.inr (3, [.int (iI (i : Int)), va_rf (im), .int (iI pl), .int (iI rg), .null]))) H := hw
  refine lv_aload_n hx hb dX3_init_25 rfl (lv_at hl 0 rfl) ?_
  refine wa_ldq F dX3_init_26 (lv_at hl 5 rfl) ?_
  refine pX3_23 (kd := 5) (i := i) (ad := ad) F hw hj hS (wa_up_s _ _ _ _) (Nat.le_of_ble_eq_true rfl) dX3_init_28 (fun H locs hw hS => ?_)
  replace hj := wa_wj.put (kd := 5) (i := i) (e := .inr (3, [.int (iI (i : Int)), va_rf (im), .int (iI pl), .int (iI rg), va_rf (bk)])) hj (wa_up_s _ _ _ _)
  rw [wa_up_up] at hw hj
  replace hw : wa_wd D ad (wa_up C 5 i (.inr (3, [.int (iI (i : Int)), va_rf (im), .int (iI pl), .int (iI rg), va_rf (bk)]))) H := hw
  exact wa_eV (()) F hj hw hS dX3_init_31
set_option maxRecDepth 100000 in
set_option maxHeartbeats 4000000 in
/-- a bake is made -/
theorem c_X0_init (l : Launch) (D : va_G) (cy : Nat → ClassId) (ad : Nat → Nat → Nat) (C : wa_C) (A : Nat → Prop) (hj : wa_wj A ad C) (hA : wa_Up A) (i : Nat) (hC : C 3 i = some (.inr (0, [.int 0, .null, .int 0, .int 0, .null, .int 0, .int 0, .int 0, .int 0]))) (hn : C 4 i = none) (im : Option Nat) (tz dz : Int) : Met l yX0_init wX0_init ({ frames := 1, cells := 1, slots := 3, locals := 20 } : Room) (wa_pc [.ref (ad 3 i), .int (iI (i : Int)), va_rf (im), .int (iI tz), .int (iI dz)] D cy (fun H => wa_wd D ad C H)) (va_Qv (fun (u : Nat) => wa_wj A (wa_ad ad 4 i u) (wa_up (wa_up (wa_up C 4 i (wa_aI (cy 0) 3 (fun _ => 0))) 3 i (.inr (0, [.int (iI (i : Int)), va_rf im, .int (iI tz), .int (iI dz), .ref u, .int 0, .int 0, .int 0, .int 0]))) 4 i (wa_aI (cy 0) 3 (wa_g (wa_g (wa_g (fun _ => 0) 0 (-1)) 1 (-1)) 2 (-1))))) (fun u t => (fun (u : Nat) (H : Heap) => wa_wd D (wa_ad ad 4 i u) (wa_up (wa_up (wa_up C 4 i (wa_aI (cy 0) 3 (fun _ => 0))) 3 i (.inr (0, [.int (iI (i : Int)), va_rf im, .int (iI tz), .int (iI dz), .ref u, .int 0, .int 0, .int 0, .int 0]))) 4 i (wa_aI (cy 0) 3 (wa_g (wa_g (wa_g (fun _ => 0) 0 (-1)) 1 (-1)) 2 (-1)))) H) u t.heap) A) 1 3 A := by
  refine wa_en (by decide +kernel) (by simp [lg_sl, wa_catq, show ∀ z, (Value.ref z).category = 1 from fun _ => rfl, show ∀ z, (Value.int z).category = 1 from fun _ => rfl]) ?_
  intro p e s m args below meth c F hw ls hl
  simp only [lv_args, wa_catq] at hl
  have F : wa_fx p s m c meth args cX0_init 6 RX0 "<init>" (none) D cy := F
  have hw : wa_wd D ad C s.heap := hw
  have hl : lv_has ls 6 [(0, .ref (ad 3 i)), (1, .int (iI (i : Int))), (2, va_rf (im)), (3, .int (iI tz)), (4, .int (iI dz))] := hl
  obtain ⟨hx, hb, hml, hown, hts⟩ := id F.1
  have hS : va_S A s.heap s.heap [] := va_S.rf
  refine lv_aload_n hx hb dX0_init_0 rfl (lv_at hl 0 rfl) ?_
  refine oX0_3 F ⟨by decide, by decide⟩ hl.1 dX0_init_1 (by decide) ?_
  refine lv_aload_n hx hb dX0_init_4 rfl (lv_at hl 0 rfl) ?_
  refine wa_const F dX0_init_5 ?_
  refine wa_newI (N := 3) 4 i F hw hj hS (wa_fresh hA hw hj hC) hn qw_70 rfl (Nat.le_of_ble_eq_true rfl) (Nat.le_of_ble_eq_true rfl) (Nat.le_of_ble_eq_true rfl) dX0_init_6 (fun q_1 H hw hj hS => ?_)
  refine pX0_9 (x := some (q_1)) (kd := 3) (i := i) (ad := (wa_ad ad 4 i q_1)) F rfl hw hj hS hC (Nat.le_of_ble_eq_true rfl) dX0_init_8 (fun H locs hw hS => ?_)
  replace hj := wa_wj.put (kd := 3) (i := i) (e := .inr (0, [.int 0, .null, .int 0, .int 0, .ref q_1, .int 0, .int 0, .int 0, .int 0])) hj hC
  replace hw : wa_wd D (wa_ad ad 4 i q_1) (wa_up (wa_up C 4 i (wa_aI (cy 0) 3 (fun _ => 0))) 3 i (.inr (0, [.int 0, .null, .int 0, .int 0, .ref q_1, .int 0, .int 0, .int 0, .int 0]))) H := hw
  refine lv_aload_n hx hb dX0_init_11 rfl (lv_at hl 0 rfl) ?_
  refine lv_iload_n hx hb dX0_init_12 rfl (lv_at hl 1 rfl) ?_
  refine pX0_15 (kd := 3) (i := i) (ad := (wa_ad ad 4 i q_1)) F rfl hw hj hS (wa_up_s _ _ _ _) (Nat.le_of_ble_eq_true rfl) dX0_init_13 (fun H locs hw hS => ?_)
  replace hj := wa_wj.put (kd := 3) (i := i) (e := .inr (0, [.int (iI (i : Int)), .null, .int 0, .int 0, .ref q_1, .int 0, .int 0, .int 0, .int 0])) hj (wa_up_s _ _ _ _)
  rw [wa_up_up] at hw hj
  replace hw : wa_wd D (wa_ad ad 4 i q_1) (wa_up (wa_up C 4 i (wa_aI (cy 0) 3 (fun _ => 0))) 3 i (.inr (0, [.int (iI (i : Int)), .null, .int 0, .int 0, .ref q_1, .int 0, .int 0, .int 0, .int 0]))) H := hw
  refine lv_aload_n hx hb dX0_init_16 rfl (lv_at hl 0 rfl) ?_
  refine wa_ldq_n F dX0_init_17 rfl (lv_at hl 2 rfl) ?_
  refine pX0_19 (kd := 3) (i := i) (ad := (wa_ad ad 4 i q_1)) F rfl hw hj hS (wa_up_s _ _ _ _) (Nat.le_of_ble_eq_true rfl) dX0_init_18 (fun H locs hw hS => ?_)
  replace hj := wa_wj.put (kd := 3) (i := i) (e := .inr (0, [.int (iI (i : Int)), va_rf (im), .int 0, .int 0, .ref q_1, .int 0, .int 0, .int 0, .int 0])) hj (wa_up_s _ _ _ _)
  rw [wa_up_up] at hw hj
  replace hw : wa_wd D (wa_ad ad 4 i q_1) (wa_up (wa_up C 4 i (wa_aI (cy 0) 3 (fun _ => 0))) 3 i (.inr (0, [.int (iI (i : Int)), va_rf (im), .int 0, .int 0, .ref q_1, .int 0, .int 0, .int 0, .int 0]))) H := hw
  refine lv_aload_n hx hb dX0_init_21 rfl (lv_at hl 0 rfl) ?_
  refine lv_iload_n hx hb dX0_init_22 rfl (lv_at hl 3 rfl) ?_
  refine pX0_23 (kd := 3) (i := i) (ad := (wa_ad ad 4 i q_1)) F rfl hw hj hS (wa_up_s _ _ _ _) (Nat.le_of_ble_eq_true rfl) dX0_init_23 (fun H locs hw hS => ?_)
  replace hj := wa_wj.put (kd := 3) (i := i) (e := .inr (0, [.int (iI (i : Int)), va_rf (im), .int (iI tz), .int 0, .ref q_1, .int 0, .int 0, .int 0, .int 0])) hj (wa_up_s _ _ _ _)
  rw [wa_up_up] at hw hj
  replace hw : wa_wd D (wa_ad ad 4 i q_1) (wa_up (wa_up C 4 i (wa_aI (cy 0) 3 (fun _ => 0))) 3 i (.inr (0, [.int (iI (i : Int)), va_rf (im), .int (iI tz), .int 0, .ref q_1, .int 0, .int 0, .int 0, .int 0]))) H := hw
  refine lv_aload_n hx hb dX0_init_26 rfl (lv_at hl 0 rfl) ?_
  refine lv_iload hx hb dX0_init_27 (lv_at hl 4 rfl) ?_
  refine pX0_26 (kd := 3) (i := i) (ad := (wa_ad ad 4 i q_1)) F rfl hw hj hS (wa_up_s _ _ _ _) (Nat.le_of_ble_eq_true rfl) dX0_init_29 (fun H locs hw hS => ?_)
  replace hj := wa_wj.put (kd := 3) (i := i) (e := .inr (0, [.int (iI (i : Int)), va_rf (im), .int (iI tz), .int (iI dz), .ref q_1, .int 0, .int 0, .int 0, .int 0])) hj (wa_up_s _ _ _ _)
  rw [wa_up_up] at hw hj
  replace hw : wa_wd D (wa_ad ad 4 i q_1) (wa_up (wa_up C 4 i (wa_aI (cy 0) 3 (fun _ => 0))) 3 i (.inr (0, [.int (iI (i : Int)), va_rf (im), .int (iI tz), .int (iI dz), .ref q_1, .int 0, .int 0, .int 0, .int 0]))) H := hw
  refine wa_const F dX0_init_32 ?_
  refine lv_istore (lv' := [(5, .int (iI 0)), (0, .ref (ad 3 i)), (1, .int (iI (i : Int))), (2, va_rf (im)), (3, .int (iI tz)), (4, .int (iI dz))]) hx hb dX0_init_33 hl (by decide) rfl (fun ls hl => ?_)
  refine lv_iload hx hb dX0_init_35 (lv_at hl 0 rfl) ?_
  refine lv_aload_n hx hb dX0_init_37 rfl (lv_at hl 1 rfl) ?_
  refine gX0_9 (kd := 3) (i := i) (ad := (wa_ad ad 4 i q_1)) F hw (wa_up_s _ _ _ _) (v := .ref q_1) rfl dX0_init_38 ?_
  refine W.eq (g2 := F0 m 41 ls [.ref ((wa_ad ad 4 i q_1) 4 i), .int (iI 0)]) (by simp [wa_ad]) ?_
  refine wa_alen (t0 := 0) (kd := 4) (i := i) (ad := (wa_ad ad 4 i q_1)) F hw (wa_up_s C 4 i _) rfl 3 rfl (by decide) dX0_init_41 ?_
  refine W.eq (g2 := F0 m 42 ls [.int (iI 3), .int (iI 0)]) rfl ?_
  refine wa_ic_ge (tgt := 59) F dX0_init_42 (by decide) (by decide) (by decide) (fun c42 => absurd c42 (by decide)) (fun c42 => ?_)
  refine lv_aload_n hx hb dX0_init_45 rfl (lv_at hl 1 rfl) ?_
  refine gX0_9 (kd := 3) (i := i) (ad := (wa_ad ad 4 i q_1)) F hw (wa_up_s _ _ _ _) (v := .ref q_1) rfl dX0_init_46 ?_
  refine lv_iload hx hb dX0_init_49 (lv_at hl 0 rfl) ?_
  refine wa_const F dX0_init_51 ?_
  refine W.eq (g2 := F0 m 52 ls [.int (iI (-1)), .int (iI 0), .ref ((wa_ad ad 4 i q_1) 4 i)]) (by simp [wa_ad]) ?_
  refine wa_iast (kd := 4) (i := i) (ad := (wa_ad ad 4 i q_1)) (n := 3) (g := (fun _ => 0)) F hw hj hS (wa_up_s C 4 i _) 0 rfl (by decide) (by decide) dX0_init_52 (fun H locs hw hS => ?_)
  replace hj := wa_wj.put (kd := 4) (i := i) (e := wa_aI (cy 0) 3 (wa_g (fun _ => 0) 0 (-1))) hj (wa_up_s C 4 i _)
  replace hw : wa_wd D (wa_ad ad 4 i q_1) (wa_up (wa_up (wa_up C 4 i (wa_aI (cy 0) 3 (fun _ => 0))) 3 i (.inr (0, [.int (iI (i : Int)), va_rf (im), .int (iI tz), .int (iI dz), .ref q_1, .int 0, .int 0, .int 0, .int 0]))) 4 i (wa_aI (cy 0) 3 (wa_g (fun _ => 0) 0 (-1)))) H := hw
  refine wa_inc (k := 0) (b := 1) (lv' := [(5, .int (iI 1)), (0, .ref (ad 3 i)), (1, .int (iI (i : Int))), (2, va_rf (im)), (3, .int (iI tz)), (4, .int (iI dz))]) F dX0_init_53 hl rfl (by decide) (by decide) rfl (fun ls hl => ?_)
  refine wa_goto (tgt := 35) F dX0_init_56 (by decide) ?_
  refine lv_iload hx hb dX0_init_35 (lv_at hl 0 rfl) ?_
  refine lv_aload_n hx hb dX0_init_37 rfl (lv_at hl 1 rfl) ?_
  refine gX0_9 (kd := 3) (i := i) (ad := (wa_ad ad 4 i q_1)) F hw (wa_up_s _ _ _ _) (v := .ref q_1) rfl dX0_init_38 ?_
  refine W.eq (g2 := F0 m 41 ls [.ref ((wa_ad ad 4 i q_1) 4 i), .int (iI 1)]) (by simp [wa_ad]) ?_
  refine wa_alen (t0 := 0) (kd := 4) (i := i) (ad := (wa_ad ad 4 i q_1)) F hw (wa_up_s _ 4 i _) rfl 3 rfl (by decide) dX0_init_41 ?_
  refine W.eq (g2 := F0 m 42 ls [.int (iI 3), .int (iI 1)]) rfl ?_
  refine wa_ic_ge (tgt := 59) F dX0_init_42 (by decide) (by decide) (by decide) (fun c42 => absurd c42 (by decide)) (fun c42 => ?_)
  refine lv_aload_n hx hb dX0_init_45 rfl (lv_at hl 1 rfl) ?_
  refine gX0_9 (kd := 3) (i := i) (ad := (wa_ad ad 4 i q_1)) F hw (wa_up_s _ _ _ _) (v := .ref q_1) rfl dX0_init_46 ?_
  refine lv_iload hx hb dX0_init_49 (lv_at hl 0 rfl) ?_
  refine wa_const F dX0_init_51 ?_
  refine W.eq (g2 := F0 m 52 ls [.int (iI (-1)), .int (iI 1), .ref ((wa_ad ad 4 i q_1) 4 i)]) (by simp [wa_ad]) ?_
  refine wa_iast (kd := 4) (i := i) (ad := (wa_ad ad 4 i q_1)) (n := 3) (g := (wa_g (fun _ => 0) 0 (-1))) F hw hj hS (wa_up_s _ 4 i _) 1 rfl (by decide) (by decide) dX0_init_52 (fun H locs hw hS => ?_)
  replace hj := wa_wj.put (kd := 4) (i := i) (e := wa_aI (cy 0) 3 (wa_g (wa_g (fun _ => 0) 0 (-1)) 1 (-1))) hj (wa_up_s _ 4 i _)
  rw [wa_up_up] at hw hj
  replace hw : wa_wd D (wa_ad ad 4 i q_1) (wa_up (wa_up (wa_up C 4 i (wa_aI (cy 0) 3 (fun _ => 0))) 3 i (.inr (0, [.int (iI (i : Int)), va_rf (im), .int (iI tz), .int (iI dz), .ref q_1, .int 0, .int 0, .int 0, .int 0]))) 4 i (wa_aI (cy 0) 3 (wa_g (wa_g (fun _ => 0) 0 (-1)) 1 (-1)))) H := hw
  refine wa_inc (k := 0) (b := 2) (lv' := [(5, .int (iI 2)), (0, .ref (ad 3 i)), (1, .int (iI (i : Int))), (2, va_rf (im)), (3, .int (iI tz)), (4, .int (iI dz))]) F dX0_init_53 hl rfl (by decide) (by decide) rfl (fun ls hl => ?_)
  refine wa_goto (tgt := 35) F dX0_init_56 (by decide) ?_
  refine lv_iload hx hb dX0_init_35 (lv_at hl 0 rfl) ?_
  refine lv_aload_n hx hb dX0_init_37 rfl (lv_at hl 1 rfl) ?_
  refine gX0_9 (kd := 3) (i := i) (ad := (wa_ad ad 4 i q_1)) F hw (wa_up_s _ _ _ _) (v := .ref q_1) rfl dX0_init_38 ?_
  refine W.eq (g2 := F0 m 41 ls [.ref ((wa_ad ad 4 i q_1) 4 i), .int (iI 2)]) (by simp [wa_ad]) ?_
  refine wa_alen (t0 := 0) (kd := 4) (i := i) (ad := (wa_ad ad 4 i q_1)) F hw (wa_up_s _ 4 i _) rfl 3 rfl (by decide) dX0_init_41 ?_
  refine W.eq (g2 := F0 m 42 ls [.int (iI 3), .int (iI 2)]) rfl ?_
  refine wa_ic_ge (tgt := 59) F dX0_init_42 (by decide) (by decide) (by decide) (fun c42 => absurd c42 (by decide)) (fun c42 => ?_)
  refine lv_aload_n hx hb dX0_init_45 rfl (lv_at hl 1 rfl) ?_
  refine gX0_9 (kd := 3) (i := i) (ad := (wa_ad ad 4 i q_1)) F hw (wa_up_s _ _ _ _) (v := .ref q_1) rfl dX0_init_46 ?_
  refine lv_iload hx hb dX0_init_49 (lv_at hl 0 rfl) ?_
  refine wa_const F dX0_init_51 ?_
  refine W.eq (g2 := F0 m 52 ls [.int (iI (-1)), .int (iI 2), .ref ((wa_ad ad 4 i q_1) 4 i)]) (by simp [wa_ad]) ?_
  refine wa_iast (kd := 4) (i := i) (ad := (wa_ad ad 4 i q_1)) (n := 3) (g := (wa_g (wa_g (fun _ => 0) 0 (-1)) 1 (-1))) F hw hj hS (wa_up_s _ 4 i _) 2 rfl (by decide) (by decide) dX0_init_52 (fun H locs hw hS => ?_)
  replace hj := wa_wj.put (kd := 4) (i := i) (e := wa_aI (cy 0) 3 (wa_g (wa_g (wa_g (fun _ => 0) 0 (-1)) 1 (-1)) 2 (-1))) hj (wa_up_s _ 4 i _)
  rw [wa_up_up] at hw hj
  replace hw : wa_wd D (wa_ad ad 4 i q_1) (wa_up (wa_up (wa_up C 4 i (wa_aI (cy 0) 3 (fun _ => 0))) 3 i (.inr (0, [.int (iI (i : Int)), va_rf (im), .int (iI tz), .int (iI dz), .ref q_1, .int 0, .int 0, .int 0, .int 0]))) 4 i (wa_aI (cy 0) 3 (wa_g (wa_g (wa_g (fun _ => 0) 0 (-1)) 1 (-1)) 2 (-1)))) H := hw
  refine wa_inc (k := 0) (b := 3) (lv' := [(5, .int (iI 3)), (0, .ref (ad 3 i)), (1, .int (iI (i : Int))), (2, va_rf (im)), (3, .int (iI tz)), (4, .int (iI dz))]) F dX0_init_53 hl rfl (by decide) (by decide) rfl (fun ls hl => ?_)
  refine wa_goto (tgt := 35) F dX0_init_56 (by decide) ?_
  refine lv_iload hx hb dX0_init_35 (lv_at hl 0 rfl) ?_
  refine lv_aload_n hx hb dX0_init_37 rfl (lv_at hl 1 rfl) ?_
  refine gX0_9 (kd := 3) (i := i) (ad := (wa_ad ad 4 i q_1)) F hw (wa_up_s _ _ _ _) (v := .ref q_1) rfl dX0_init_38 ?_
  refine W.eq (g2 := F0 m 41 ls [.ref ((wa_ad ad 4 i q_1) 4 i), .int (iI 3)]) (by simp [wa_ad]) ?_
  refine wa_alen (t0 := 0) (kd := 4) (i := i) (ad := (wa_ad ad 4 i q_1)) F hw (wa_up_s _ 4 i _) rfl 3 rfl (by decide) dX0_init_41 ?_
  refine W.eq (g2 := F0 m 42 ls [.int (iI 3), .int (iI 3)]) rfl ?_
  refine wa_ic_ge (tgt := 59) F dX0_init_42 (by decide) (by decide) (by decide) (fun c42 => ?_) (fun c42 => absurd c42 (by decide))
  exact wa_eV (q_1) F hj hw hS dX0_init_59
