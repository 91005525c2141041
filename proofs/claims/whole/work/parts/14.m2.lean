/-! contracts of the reference, second part (laid by program) -/
set_option maxRecDepth 100000 in
set_option maxHeartbeats 4000000 in
/-- find: the layer of some things -/
theorem c_X5_find (l : Launch) (D : va_G) (cy : Nat → ClassId) (ad : Nat → Nat → Nat) (S X T : wa_St) (o : Int64) (hwf : wf T) (lo inp ver : Int) (rlo : wa_r lo) (rinp : wa_r inp) (rver : wa_r ver) : Met l yX5_find wX5_find ({ frames := 0, cells := 0, slots := 0, locals := 0 } : Room) (wa_pc [.ref (ad 6 0), .int (iI lo), .int (iI inp), .int (iI ver)] D cy (fun H => wa_wd D ad (wW cy ad S X T o) H)) (wa_Qp (f_find T lo inp ver)) 0 0 (fun _ => False) := by
  refine wa_en (by decide +kernel) (Nat.le_of_ble_eq_true rfl) ?_
  intro p e s m args below meth c F hw ls hl
  have F : wa_fx p s m c meth args cX5_find 5 RX5 "find" (Option.some FieldType.int) D cy := F
  have hw : wa_wd D ad (wW cy ad S X T o) s.heap := hw
  have hl : lv_has ls 5 [(0, .ref (ad 6 0)), (1, .int (iI lo)), (2, .int (iI inp)), (3, .int (iI ver))] := hl
  obtain ⟨hx, hb, hml, hown, hts⟩ := id F.1
  obtain ⟨hB, w8, w21, w12, w29, w4, w7, w6, w5, w13, w25, w26, w28, w14, w3, wf17⟩ := id hwf
  refine wa_const F dX5_find_0 ?_
  refine lv_istore (lv' := [(4, .int (iI 0)), (0, .ref (ad 6 0)), (1, .int (iI lo)), (2, .int (iI inp)), (3, .int (iI ver))]) hx hb dX5_find_1 hl (by decide) rfl (fun ls hl => ?_)
  have loop3 : ∀ (k : Nat) (lx : Nat), (lx + k = (T 12 0).toNat) → (f_fnd (fun l => decide (T 9 l = lo ∧ T 10 l = inp ∧ T 11 l = ver)) k lx = f_find T lo inp ver) → ∀ ls : Array Slot, lv_has ls 5 [(0, .ref (ad 6 0)), (1, .int (iI lo)), (2, .int (iI inp)), (3, .int (iI ver)), (4, .int (iI (lx : Int)))] → W p l e ({ frames := 0, cells := 0, slots := 0, locals := 0 } : Room) s m args below meth c s.heap [] 0 0 (MQ below (wa_Qp (f_find T lo inp ver)) args s 0 0 (fun _ => False)) (F0 m 3 ls []) := by
    intro k
    induction k with
    | zero =>
      intro lx hk hr ls hl
      refine lv_iload hx hb dX5_find_3 (lv_at hl 4 rfl) ?_
      refine lv_aload_n hx hb dX5_find_5 rfl (lv_at hl 0 rfl) ?_
      refine gX5_110 F hw rfl (v := .int (iI (T 12 0))) rfl dX5_find_6 ?_
      refine wa_ic_ge (tgt := 54) F dX5_find_9 (by decide) (by exact ⟨by omega, by omega⟩) (by have q0 := hB 12 0; exact ⟨by omega, by omega⟩) (fun c9 => ?_) (fun c9 => absurd c9 (by omega))
      refine wa_bi F dX5_find_54 (by decide +kernel) ?_
      exact wa_ep F (by rw [← hr]; rfl) dX5_find_56
    | succ k ih3 =>
      intro lx hk hr ls hl
      refine lv_iload hx hb dX5_find_3 (lv_at hl 4 rfl) ?_
      refine lv_aload_n hx hb dX5_find_5 rfl (lv_at hl 0 rfl) ?_
      refine gX5_110 F hw rfl (v := .int (iI (T 12 0))) rfl dX5_find_6 ?_
      refine wa_ic_ge (tgt := 54) F dX5_find_9 (by decide) (by exact ⟨by omega, by omega⟩) (by have q0 := hB 12 0; exact ⟨by omega, by omega⟩) (fun c9 => absurd c9 (by omega)) (fun c9 => ?_)
      refine lv_aload_n hx hb dX5_find_12 rfl (lv_at hl 0 rfl) ?_
      refine gX5_28 F hw rfl (v := .ref (ad 6 9)) rfl dX5_find_13 ?_
      refine lv_iload hx hb dX5_find_16 (lv_at hl 4 rfl) ?_
      refine aM_9 F hw lx rfl (by omega) dX5_find_18 ?_
      refine lv_iload_n hx hb dX5_find_19 rfl (lv_at hl 1 rfl) ?_
      refine wa_ic_ne (tgt := 48) F dX5_find_20 (by decide) (by have q0 := hB 9 lx; exact ⟨by omega, by omega⟩) (by exact ⟨by omega, by omega⟩) (fun c20 => ?_) (fun c20 => ?_)
      · skip
        refine wa_inc (k := 4) (b := ((lx + 1) : Int)) (lv' := [(4, .int (iI ((lx + 1) : Int))), (0, .ref (ad 6 0)), (1, .int (iI lo)), (2, .int (iI inp)), (3, .int (iI ver))]) F dX5_find_48 hl rfl (by omega) (by decide) rfl (fun ls hl => ?_)
        refine wa_goto (tgt := 3) F dX5_find_51 (by decide) ?_
        exact ih3 (lx + 1) (by omega) (by rw [← hr]; simp [f_fnd, c9, c20]) ls (lv_sub hl [1, 2, 3, 4, 0] rfl)
      · skip
        refine lv_aload_n hx hb dX5_find_23 rfl (lv_at hl 0 rfl) ?_
        refine gX5_31 F hw rfl (v := .ref (ad 6 10)) rfl dX5_find_24 ?_
        refine lv_iload hx hb dX5_find_27 (lv_at hl 4 rfl) ?_
        refine aM_10 F hw lx rfl (by omega) dX5_find_29 ?_
        refine lv_iload_n hx hb dX5_find_30 rfl (lv_at hl 2 rfl) ?_
        refine wa_ic_ne (tgt := 48) F dX5_find_31 (by decide) (by have q0 := hB 10 lx; exact ⟨by omega, by omega⟩) (by exact ⟨by omega, by omega⟩) (fun c31 => ?_) (fun c31 => ?_)
        · skip
          refine wa_inc (k := 4) (b := ((lx + 1) : Int)) (lv' := [(4, .int (iI ((lx + 1) : Int))), (0, .ref (ad 6 0)), (1, .int (iI lo)), (2, .int (iI inp)), (3, .int (iI ver))]) F dX5_find_48 hl rfl (by omega) (by decide) rfl (fun ls hl => ?_)
          refine wa_goto (tgt := 3) F dX5_find_51 (by decide) ?_
          exact ih3 (lx + 1) (by omega) (by rw [← hr]; simp [f_fnd, c9, c20, c31]) ls (lv_sub hl [1, 2, 3, 4, 0] rfl)
        · skip
          refine lv_aload_n hx hb dX5_find_34 rfl (lv_at hl 0 rfl) ?_
          refine gX5_34 F hw rfl (v := .ref (ad 6 11)) rfl dX5_find_35 ?_
          refine lv_iload hx hb dX5_find_38 (lv_at hl 4 rfl) ?_
          refine aM_11 F hw lx rfl (by omega) dX5_find_40 ?_
          refine lv_iload_n hx hb dX5_find_41 rfl (lv_at hl 3 rfl) ?_
          refine wa_ic_ne (tgt := 48) F dX5_find_42 (by decide) (by have q0 := hB 11 lx; exact ⟨by omega, by omega⟩) (by exact ⟨by omega, by omega⟩) (fun c42 => ?_) (fun c42 => ?_)
          · skip
            refine wa_inc (k := 4) (b := ((lx + 1) : Int)) (lv' := [(4, .int (iI ((lx + 1) : Int))), (0, .ref (ad 6 0)), (1, .int (iI lo)), (2, .int (iI inp)), (3, .int (iI ver))]) F dX5_find_48 hl rfl (by omega) (by decide) rfl (fun ls hl => ?_)
            refine wa_goto (tgt := 3) F dX5_find_51 (by decide) ?_
            exact ih3 (lx + 1) (by omega) (by rw [← hr]; simp [f_fnd, c9, c20, c31, c42]) ls (lv_sub hl [1, 2, 3, 4, 0] rfl)
          · skip
            refine lv_iload hx hb dX5_find_45 (lv_at hl 4 rfl) ?_
            exact wa_ep F (by rw [← hr]; simp [f_fnd, c9, c20, c31, c42]) dX5_find_47
  exact loop3 ((T 12 0).toNat) 0 (by omega) rfl ls (lv_sub hl [1, 2, 3, 4, 0] rfl)
set_option maxRecDepth 100000 in
set_option maxHeartbeats 4000000 in
/-- hasBase -/
theorem c_X5_hasBase (l : Launch) (D : va_G) (cy : Nat → ClassId) (ad : Nat → Nat → Nat) (S X T : wa_St) (o : Int64) (hwf : wf T) (z : Int) (i : Nat) (hzi : z = (i : Int)) (hi : (i : Int) < T 8 0) : Met l yX5_hasBase wX5_hasBase ({ frames := 0, cells := 0, slots := 0, locals := 0 } : Room) (wa_pc [.ref (ad 6 0), .int (iI z)] D cy (fun H => wa_wd D ad (wW cy ad S X T o) H)) (wa_Qp (bI (f_hasBase T i))) 0 0 (fun _ => False) := by
  refine wa_en (by decide +kernel) (Nat.le_of_ble_eq_true rfl) ?_
  intro p e s m args below meth c F hw ls hl
  have F : wa_fx p s m c meth args cX5_hasBase 2 RX5 "hasBase" (Option.some FieldType.boolean) D cy := F
  have hw : wa_wd D ad (wW cy ad S X T o) s.heap := hw
  have hl : lv_has ls 2 [(0, .ref (ad 6 0)), (1, .int (iI z))] := hl
  obtain ⟨hx, hb, hml, hown, hts⟩ := id F.1
  obtain ⟨hB, w8, w21, w12, w29, w4, w7, w6, w5, w13, w25, w26, w28, w14, w3, wf17⟩ := id hwf
  have w4i := w4 i hi
  subst hzi
  refine lv_aload_n hx hb dX5_hasBase_0 rfl (lv_at hl 0 rfl) ?_
  refine gX5_16 F hw rfl (v := .ref (ad 6 4)) rfl dX5_hasBase_1 ?_
  refine lv_iload_n hx hb dX5_hasBase_4 rfl (lv_at hl 1 rfl) ?_
  refine aM_4 F hw i rfl (by omega) dX5_hasBase_5 ?_
  refine wa_const F dX5_hasBase_6 ?_
  refine wa_ic_eq (tgt := 25) F dX5_hasBase_7 (by decide) (by have q0 := hB 4 i; exact ⟨by omega, by omega⟩) (by decide) (fun c7 => ?_) (fun c7 => ?_)
  · skip
    refine wa_const F dX5_hasBase_25 ?_
    refine wa_goto (tgt := 30) F dX5_hasBase_26 (by decide) ?_
    exact wa_epz F (bI_t (by first | omega | simp [f_hasBase, c7])).symm (by decide) dX5_hasBase_30
  · skip
    refine lv_aload_n hx hb dX5_hasBase_10 rfl (lv_at hl 0 rfl) ?_
    refine gX5_25 F hw rfl (v := .ref (ad 6 7)) rfl dX5_hasBase_11 ?_
    refine lv_aload_n hx hb dX5_hasBase_14 rfl (lv_at hl 0 rfl) ?_
    refine gX5_16 F hw rfl (v := .ref (ad 6 4)) rfl dX5_hasBase_15 ?_
    refine lv_iload_n hx hb dX5_hasBase_18 rfl (lv_at hl 1 rfl) ?_
    refine aM_4 F hw i rfl (by omega) dX5_hasBase_19 ?_
    refine aM_7 F hw (((T 4 i)).toNat) (by have q0 := hB 4 i; omega) (by have q0 := hB 4 i; omega) dX5_hasBase_20 ?_
    refine wa_const F dX5_hasBase_21 ?_
    refine wa_ic_eq (tgt := 29) F dX5_hasBase_22 (by decide) (by have q0 := hB 7 (((T 4 i)).toNat); exact ⟨by omega, by omega⟩) (by decide) (fun c22 => ?_) (fun c22 => ?_)
    · skip
      refine wa_const F dX5_hasBase_29 ?_
      exact wa_epz F (bI_f (by first | omega | simp [f_hasBase, c7, c22])).symm (by decide) dX5_hasBase_30
    · skip
      refine wa_const F dX5_hasBase_25 ?_
      refine wa_goto (tgt := 30) F dX5_hasBase_26 (by decide) ?_
      exact wa_epz F (bI_t (by first | omega | simp [f_hasBase, c7, c22])).symm (by decide) dX5_hasBase_30
set_option maxRecDepth 100000 in
set_option maxHeartbeats 4000000 in
/-- baseOf -/
theorem c_X5_baseOf (l : Launch) (D : va_G) (cy : Nat → ClassId) (ad : Nat → Nat → Nat) (S X T : wa_St) (o : Int64) (hwf : wf T) (z : Int) (i : Nat) (hzi : z = (i : Int)) (hi : (i : Int) < T 8 0) (hb9 : f_hasBase T i) : Met l yX5_baseOf wX5_baseOf ({ frames := 0, cells := 0, slots := 0, locals := 0 } : Room) (wa_pc [.ref (ad 6 0), .int (iI z)] D cy (fun H => wa_wd D ad (wW cy ad S X T o) H)) (wa_Qp (f_base T i)) 0 0 (fun _ => False) := by
  refine wa_en (by decide +kernel) (Nat.le_of_ble_eq_true rfl) ?_
  intro p e s m args below meth c F hw ls hl
  have F : wa_fx p s m c meth args cX5_baseOf 2 RX5 "baseOf" (Option.some FieldType.int) D cy := F
  have hw : wa_wd D ad (wW cy ad S X T o) s.heap := hw
  have hl : lv_has ls 2 [(0, .ref (ad 6 0)), (1, .int (iI z))] := hl
  obtain ⟨hx, hb, hml, hown, hts⟩ := id F.1
  obtain ⟨hB, w8, w21, w12, w29, w4, w7, w6, w5, w13, w25, w26, w28, w14, w3, wf17⟩ := id hwf
  have w4i := w4 i hi
  subst hzi
  refine lv_aload_n hx hb dX5_baseOf_0 rfl (lv_at hl 0 rfl) ?_
  refine gX5_16 F hw rfl (v := .ref (ad 6 4)) rfl dX5_baseOf_1 ?_
  refine lv_iload_n hx hb dX5_baseOf_4 rfl (lv_at hl 1 rfl) ?_
  refine aM_4 F hw i rfl (by omega) dX5_baseOf_5 ?_
  refine wa_const F dX5_baseOf_6 ?_
  refine wa_ic_ne (tgt := 14) F dX5_baseOf_7 (by decide) (by have q0 := hB 4 i; exact ⟨by omega, by omega⟩) (by decide) (fun c7 => ?_) (fun c7 => ?_)
  · skip
    have hbn : T 7 (T 4 i).toNat ≠ -1 := hb9.resolve_left c7
    refine lv_aload_n hx hb dX5_baseOf_14 rfl (lv_at hl 0 rfl) ?_
    refine gX5_40 F hw rfl (v := .ref (ad 6 14)) rfl dX5_baseOf_15 ?_
    refine lv_aload_n hx hb dX5_baseOf_18 rfl (lv_at hl 0 rfl) ?_
    refine gX5_25 F hw rfl (v := .ref (ad 6 7)) rfl dX5_baseOf_19 ?_
    refine lv_aload_n hx hb dX5_baseOf_22 rfl (lv_at hl 0 rfl) ?_
    refine gX5_16 F hw rfl (v := .ref (ad 6 4)) rfl dX5_baseOf_23 ?_
    refine lv_iload_n hx hb dX5_baseOf_26 rfl (lv_at hl 1 rfl) ?_
    refine aM_4 F hw i rfl (by omega) dX5_baseOf_27 ?_
    refine aM_7 F hw (((T 4 i)).toNat) (by have q0 := hB 4 i; omega) (by have q0 := hB 4 i; omega) dX5_baseOf_28 ?_
    have w7p := w7 (T 4 i).toNat (by omega)
    refine aM_14 F hw (((T 7 (((T 4 i)).toNat))).toNat) (by have q0 := hB 7 (((T 4 i)).toNat); omega) (by have q0 := hB 7 (((T 4 i)).toNat); have q1 := hB 7 (T 4 i).toNat; omega) dX5_baseOf_29 ?_
    exact wa_ep F (by unfold f_base; simp [c7]) dX5_baseOf_30
  · skip
    refine wa_const F dX5_baseOf_10 ?_
    refine wa_goto (tgt := 30) F dX5_baseOf_11 (by decide) ?_
    exact wa_ep F (by unfold f_base; simp [c7]) dX5_baseOf_30
set_option maxRecDepth 100000 in
set_option maxHeartbeats 4000000 in
/-- topNow -/
theorem c_X5_topNow (l : Launch) (D : va_G) (cy : Nat → ClassId) (ad : Nat → Nat → Nat) (S X T : wa_St) (o : Int64) (hwf : wf T) (z : Int) (i : Nat) (hzi : z = (i : Int)) (hi : (i : Int) < T 8 0) (hb9 : f_hasBase T i) : Met l yX5_topNow wX5_topNow ({ frames := 1, cells := 0, slots := 0, locals := 24 } : Room) (wa_pc [.ref (ad 6 0), .int (iI z)] D cy (fun H => wa_wd D ad (wW cy ad S X T o) H)) (wa_Qp (f_topNow T i)) 0 0 (fun _ => False) := by
  refine wa_en (by decide +kernel) (Nat.le_of_ble_eq_true rfl) ?_
  intro p e s m args below meth c F hw ls hl
  have F : wa_fx p s m c meth args cX5_topNow 4 RX5 "topNow" (Option.some FieldType.int) D cy := F
  have hw : wa_wd D ad (wW cy ad S X T o) s.heap := hw
  have hl : lv_has ls 4 [(0, .ref (ad 6 0)), (1, .int (iI z))] := hl
  obtain ⟨hx, hb, hml, hown, hts⟩ := id F.1
  obtain ⟨hB, w8, w21, w12, w29, w4, w7, w6, w5, w13, w25, w26, w28, w14, w3, wf17⟩ := id hwf
  have w4i := w4 i hi
  have w6i := w6 i
  subst hzi
  refine lv_aload_n hx hb dX5_topNow_0 rfl (lv_at hl 0 rfl) ?_
  refine lv_iload_n hx hb dX5_topNow_1 rfl (lv_at hl 1 rfl) ?_
  refine wa_cp (kX5_113 F (c_X5_baseOf l D cy ad S X T o hwf ((i : Int)) (i) rfl (by omega) hb9) ⟨by decide, by decide⟩ ⟨rfl, rfl⟩ hw hw rfl rfl rfl (Nat.le_of_ble_eq_true rfl) hl.1 dX5_topNow_2 ⟨Nat.le_refl _, Nat.le_refl _⟩) ?_
  refine lv_istore_n (lv' := [(2, .int (iI (f_base T i))), (0, .ref (ad 6 0)), (1, .int (iI (i : Int)))]) hx hb dX5_topNow_5 rfl hl (by decide) rfl (fun ls hl => ?_)
  refine wa_const F dX5_topNow_6 ?_
  refine lv_iload_n hx hb dX5_topNow_7 rfl (lv_at hl 2 rfl) ?_
  refine wa_mul F dX5_topNow_8 ?_
  refine lv_istore_n (lv' := [(3, .int (iI (5 * (i : Int)))), (2, .int (iI (f_base T i))), (0, .ref (ad 6 0)), (1, .int (iI (i : Int)))]) hx hb dX5_topNow_9 rfl hl (by decide) rfl (fun ls hl => ?_)
  have loop10 : ∀ (k : Nat) (sx : Nat) (zz : Int), (sx + k = 5 * i + (T 6 i).toNat) → (-2 ≤ zz ∧ zz ≤ 100000) → (f_top T k sx zz = f_topNow T i) → ∀ ls : Array Slot, lv_has ls 4 [(0, .ref (ad 6 0)), (1, .int (iI (i : Int))), (2, .int (iI zz)), (3, .int (iI (sx : Int)))] → W p l e ({ frames := 1, cells := 0, slots := 0, locals := 24 } : Room) s m args below meth c s.heap [] 0 0 (MQ below (wa_Qp (f_topNow T i)) args s 0 0 (fun _ => False)) (F0 m 10 ls []) := by
    intro k
    induction k with
    | zero =>
      intro sx zz hk rz hr ls hl
      refine lv_iload_n hx hb dX5_topNow_10 rfl (lv_at hl 3 rfl) ?_
      refine wa_const F dX5_topNow_11 ?_
      refine lv_iload_n hx hb dX5_topNow_12 rfl (lv_at hl 1 rfl) ?_
      refine wa_mul F dX5_topNow_13 ?_
      refine lv_aload_n hx hb dX5_topNow_14 rfl (lv_at hl 0 rfl) ?_
      refine gX5_22 F hw rfl (v := .ref (ad 6 6)) rfl dX5_topNow_15 ?_
      refine lv_iload_n hx hb dX5_topNow_18 rfl (lv_at hl 1 rfl) ?_
      refine aM_6 F hw i rfl (by omega) dX5_topNow_19 ?_
      refine wa_add F dX5_topNow_20 ?_
      refine wa_ic_ge (tgt := 59) F dX5_topNow_21 (by decide) (by exact ⟨by omega, by omega⟩) (by have q0 := hB 6 i; exact ⟨by omega, by omega⟩) (fun c21 => ?_) (fun c21 => absurd c21 (by omega))
      refine lv_iload_n hx hb dX5_topNow_59 rfl (lv_at hl 2 rfl) ?_
      exact wa_ep F (by rw [← hr]; rfl) dX5_topNow_60
    | succ k ih10 =>
      intro sx zz hk rz hr ls hl
      refine lv_iload_n hx hb dX5_topNow_10 rfl (lv_at hl 3 rfl) ?_
      refine wa_const F dX5_topNow_11 ?_
      refine lv_iload_n hx hb dX5_topNow_12 rfl (lv_at hl 1 rfl) ?_
      refine wa_mul F dX5_topNow_13 ?_
      refine lv_aload_n hx hb dX5_topNow_14 rfl (lv_at hl 0 rfl) ?_
      refine gX5_22 F hw rfl (v := .ref (ad 6 6)) rfl dX5_topNow_15 ?_
      refine lv_iload_n hx hb dX5_topNow_18 rfl (lv_at hl 1 rfl) ?_
      refine aM_6 F hw i rfl (by omega) dX5_topNow_19 ?_
      refine wa_add F dX5_topNow_20 ?_
      refine wa_ic_ge (tgt := 59) F dX5_topNow_21 (by decide) (by exact ⟨by omega, by omega⟩) (by have q0 := hB 6 i; exact ⟨by omega, by omega⟩) (fun c21 => absurd c21 (by omega)) (fun c21 => ?_)
      refine lv_iload_n hx hb dX5_topNow_24 rfl (lv_at hl 2 rfl) ?_
      refine wa_bi F dX5_topNow_25 (by decide +kernel) ?_
      refine wa_ic_eq (tgt := 59) F dX5_topNow_27 (by decide) (by exact ⟨by omega, by omega⟩) (by decide) (fun c27 => ?_) (fun c27 => ?_)
      · skip
        refine lv_iload_n hx hb dX5_topNow_59 rfl (lv_at hl 2 rfl) ?_
        exact wa_ep F (by rw [← hr, c27]; exact (f_top_m2 T _ _).symm) dX5_topNow_60
      · skip
        refine lv_aload_n hx hb dX5_topNow_30 rfl (lv_at hl 0 rfl) ?_
        refine lv_iload_n hx hb dX5_topNow_31 rfl (lv_at hl 2 rfl) ?_
        refine lv_aload_n hx hb dX5_topNow_32 rfl (lv_at hl 0 rfl) ?_
        refine gX5_19 F hw rfl (v := .ref (ad 6 5)) rfl dX5_topNow_33 ?_
        refine lv_iload_n hx hb dX5_topNow_36 rfl (lv_at hl 3 rfl) ?_
        refine aM_5 F hw sx rfl (by have q0 := w6i; omega) dX5_topNow_37 ?_
        refine lv_aload_n hx hb dX5_topNow_38 rfl (lv_at hl 0 rfl) ?_
        refine gX5_7 F hw rfl (v := .ref (ad 6 2)) rfl dX5_topNow_39 ?_
        refine lv_aload_n hx hb dX5_topNow_42 rfl (lv_at hl 0 rfl) ?_
        refine gX5_19 F hw rfl (v := .ref (ad 6 5)) rfl dX5_topNow_43 ?_
        refine lv_iload_n hx hb dX5_topNow_46 rfl (lv_at hl 3 rfl) ?_
        refine aM_5 F hw sx rfl (by have q0 := w6i; omega) dX5_topNow_47 ?_
        have w5s := w5 sx
        refine aM_2 F hw (((T 5 sx)).toNat) (by have q0 := hB 5 sx; omega) (by have q0 := hB 5 sx; omega) dX5_topNow_48 ?_
        refine wa_cp (kX5_117 F (c_X5_find l D cy ad S X T o hwf zz ((T 5 sx)) ((T 2 (((T 5 sx)).toNat))) (by exact ⟨by omega, by omega⟩) (by have q0 := hB 5 sx; exact ⟨by omega, by omega⟩) (by have q0 := hB 2 (((T 5 sx)).toNat); exact ⟨by omega, by omega⟩)) ⟨by decide, by decide⟩ ⟨rfl, rfl⟩ hw hw rfl rfl rfl (Nat.le_of_ble_eq_true rfl) hl.1 dX5_topNow_49 ⟨Nat.le_refl _, Nat.le_refl _⟩) ?_
        refine lv_istore_n (lv' := [(2, .int (iI (f_find T (zz) ((T 5 sx)) ((T 2 (((T 5 sx)).toNat)))))), (0, .ref (ad 6 0)), (1, .int (iI (i : Int))), (3, .int (iI (sx : Int)))]) hx hb dX5_topNow_52 rfl hl (by decide) rfl (fun ls hl => ?_)
        refine wa_inc (k := 3) (b := ((sx + 1) : Int)) (lv' := [(3, .int (iI ((sx + 1) : Int))), (2, .int (iI (f_find T (zz) ((T 5 sx)) ((T 2 (((T 5 sx)).toNat)))))), (0, .ref (ad 6 0)), (1, .int (iI (i : Int)))]) F dX5_topNow_53 hl rfl (by omega) (by decide) rfl (fun ls hl => ?_)
        refine wa_goto (tgt := 10) F dX5_topNow_56 (by decide) ?_
        exact ih10 (sx + 1) (f_find T (zz) ((T 5 sx)) ((T 2 (((T 5 sx)).toNat)))) (by omega) (by have := f_find_rng hwf zz (T 5 sx) (T 2 (T 5 sx).toNat); omega) (by rw [← hr]; simp [f_top, c21, c27]) ls (lv_sub hl [2, 3, 1, 0] rfl)
  exact loop10 ((T 6 i).toNat) (5 * i) (f_base T i) (by omega) (f_base_rng hwf i) rfl ls (lv_sub hl [2, 3, 1, 0] rfl)
set_option maxRecDepth 100000 in
set_option maxHeartbeats 4000000 in
/-- isAlike -/
theorem c_X5_isAlike (l : Launch) (D : va_G) (cy : Nat → ClassId) (ad : Nat → Nat → Nat) (S X T : wa_St) (o : Int64) (hwf : wf T) (z : Int) (i : Nat) (hzi : z = (i : Int)) (hi : (i : Int) < T 8 0) (hb9 : f_hasBase T i) : Met l yX5_isAlike wX5_isAlike ({ frames := 2, cells := 0, slots := 0, locals := 47 } : Room) (wa_pc [.ref (ad 6 0), .int (iI z)] D cy (fun H => wa_wd D ad (wW cy ad S X T o) H)) (wa_Qp (bI (f_alike T i))) 0 0 (fun _ => False) := by
  refine wa_en (by decide +kernel) (Nat.le_of_ble_eq_true rfl) ?_
  intro p e s m args below meth c F hw ls hl
  have F : wa_fx p s m c meth args cX5_isAlike 2 RX5 "isAlike" (Option.some FieldType.boolean) D cy := F
  have hw : wa_wd D ad (wW cy ad S X T o) s.heap := hw
  have hl : lv_has ls 2 [(0, .ref (ad 6 0)), (1, .int (iI z))] := hl
  obtain ⟨hx, hb, hml, hown, hts⟩ := id F.1
  obtain ⟨hB, w8, w21, w12, w29, w4, w7, w6, w5, w13, w25, w26, w28, w14, w3, wf17⟩ := id hwf
  have w7i := w7 i hi
  subst hzi
  refine lv_aload_n hx hb dX5_isAlike_0 rfl (lv_at hl 0 rfl) ?_
  refine gX5_25 F hw rfl (v := .ref (ad 6 7)) rfl dX5_isAlike_1 ?_
  refine lv_iload_n hx hb dX5_isAlike_4 rfl (lv_at hl 1 rfl) ?_
  refine aM_7 F hw i rfl (by omega) dX5_isAlike_5 ?_
  refine wa_const F dX5_isAlike_6 ?_
  refine wa_ic_eq (tgt := 33) F dX5_isAlike_7 (by decide) (by have q0 := hB 7 i; exact ⟨by omega, by omega⟩) (by decide) (fun c7 => ?_) (fun c7 => ?_)
  · skip
    refine wa_const F dX5_isAlike_33 ?_
    exact wa_epz F (bI_f (by first | omega | simp [f_alike, c7])).symm (by decide) dX5_isAlike_34
  · skip
    refine lv_aload_n hx hb dX5_isAlike_10 rfl (lv_at hl 0 rfl) ?_
    refine lv_iload_n hx hb dX5_isAlike_11 rfl (lv_at hl 1 rfl) ?_
    refine wa_cp (kX5_121 F (c_X5_topNow l D cy ad S X T o hwf ((i : Int)) (i) rfl (by omega) hb9) ⟨by decide, by decide⟩ ⟨rfl, rfl⟩ hw hw rfl rfl rfl (Nat.le_of_ble_eq_true rfl) hl.1 dX5_isAlike_12 ⟨Nat.le_refl _, Nat.le_refl _⟩) ?_
    refine lv_aload_n hx hb dX5_isAlike_15 rfl (lv_at hl 0 rfl) ?_
    refine gX5_40 F hw rfl (v := .ref (ad 6 14)) rfl dX5_isAlike_16 ?_
    refine lv_aload_n hx hb dX5_isAlike_19 rfl (lv_at hl 0 rfl) ?_
    refine gX5_25 F hw rfl (v := .ref (ad 6 7)) rfl dX5_isAlike_20 ?_
    refine lv_iload_n hx hb dX5_isAlike_23 rfl (lv_at hl 1 rfl) ?_
    refine aM_7 F hw i rfl (by omega) dX5_isAlike_24 ?_
    refine aM_14 F hw (((T 7 i)).toNat) (by have q0 := hB 7 i; omega) (by have q0 := hB 7 i; omega) dX5_isAlike_25 ?_
    refine wa_ic_ne (tgt := 33) F dX5_isAlike_26 (by decide) (by have q0 := f_topNow_rng hwf i; exact ⟨by omega, by omega⟩) (by have q0 := hB 14 (((T 7 i)).toNat); exact ⟨by omega, by omega⟩) (fun c26 => ?_) (fun c26 => ?_)
    · skip
      refine wa_const F dX5_isAlike_33 ?_
      exact wa_epz F (bI_f (by first | omega | simp [f_alike, c7, c26])).symm (by decide) dX5_isAlike_34
    · skip
      refine wa_const F dX5_isAlike_29 ?_
      refine wa_goto (tgt := 34) F dX5_isAlike_30 (by decide) ?_
      exact wa_epz F (bI_t (by first | omega | simp [f_alike, c7, c26])).symm (by decide) dX5_isAlike_34
