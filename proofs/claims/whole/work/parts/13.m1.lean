/-! contracts of the reference, first part (laid by program) -/
set_option maxRecDepth 100000 in
set_option maxHeartbeats 4000000 in
/-- isIn(v, low, high) -/
theorem c_X5_isIn (l : Launch) (D : va_G) (cy : Nat → ClassId) (ad : Nat → Nat → Nat) (S X T : wa_St) (o : Int64) (v lo hi : Int) (rv : wa_r v) (rlo : wa_r lo) (rhi : wa_r hi) : Met l yX5_isIn wX5_isIn ({ frames := 0, cells := 0, slots := 0, locals := 0 } : Room) (wa_pc [.int (iI v), .int (iI lo), .int (iI hi)] D cy (fun H => wa_wd D ad (wW cy ad S X T o) H)) (wa_Qp (bI (lo ≤ v ∧ v ≤ hi))) 0 0 (fun _ => False) := by
  refine wa_en (by decide +kernel) (Nat.le_of_ble_eq_true rfl) ?_
  intro p e s m args below meth c F hw ls hl
  have F : wa_fx p s m c meth args cX5_isIn 3 RX5 "isIn" (Option.some FieldType.boolean) D cy := F
  have hw : wa_wd D ad (wW cy ad S X T o) s.heap := hw
  have hl : lv_has ls 3 [(0, .int (iI v)), (1, .int (iI lo)), (2, .int (iI hi))] := hl
  obtain ⟨hx, hb, hml, hown, hts⟩ := id F.1
  refine lv_iload_n hx hb dX5_isIn_0 rfl (lv_at hl 0 rfl) ?_
  refine lv_iload_n hx hb dX5_isIn_1 rfl (lv_at hl 1 rfl) ?_
  refine wa_ic_lt (tgt := 14) F dX5_isIn_2 (by decide) (by exact ⟨by omega, by omega⟩) (by exact ⟨by omega, by omega⟩) (fun c2 => ?_) (fun c2 => ?_)
  · skip
    refine wa_const F dX5_isIn_14 ?_
    exact wa_epz F (bI_f (by omega)).symm (by decide) dX5_isIn_15
  · skip
    refine lv_iload_n hx hb dX5_isIn_5 rfl (lv_at hl 0 rfl) ?_
    refine lv_iload_n hx hb dX5_isIn_6 rfl (lv_at hl 2 rfl) ?_
    refine wa_ic_gt (tgt := 14) F dX5_isIn_7 (by decide) (by exact ⟨by omega, by omega⟩) (by exact ⟨by omega, by omega⟩) (fun c7 => ?_) (fun c7 => ?_)
    · skip
      refine wa_const F dX5_isIn_14 ?_
      exact wa_epz F (bI_f (by omega)).symm (by decide) dX5_isIn_15
    · skip
      refine wa_const F dX5_isIn_10 ?_
      refine wa_goto (tgt := 15) F dX5_isIn_11 (by decide) ?_
      exact wa_epz F (bI_t ⟨by omega, by omega⟩).symm (by decide) dX5_isIn_15
set_option maxRecDepth 100000 in
set_option maxHeartbeats 4000000 in
/-- isImage -/
theorem c_X5_isImage (l : Launch) (D : va_G) (cy : Nat → ClassId) (ad : Nat → Nat → Nat) (S X T : wa_St) (o : Int64) (hwf : wf T) (i : Int) (ri : wa_r i) : Met l yX5_isImage wX5_isImage ({ frames := 1, cells := 0, slots := 0, locals := 22 } : Room) (wa_pc [.ref (ad 6 0), .int (iI i)] D cy (fun H => wa_wd D ad (wW cy ad S X T o) H)) (wa_Qp (bI (f_isImage T i))) 0 0 (fun _ => False) := by
  refine wa_en (by decide +kernel) (Nat.le_of_ble_eq_true rfl) ?_
  intro p e s m args below meth c F hw ls hl
  have F : wa_fx p s m c meth args cX5_isImage 2 RX5 "isImage" (Option.some FieldType.boolean) D cy := F
  have hw : wa_wd D ad (wW cy ad S X T o) s.heap := hw
  have hl : lv_has ls 2 [(0, .ref (ad 6 0)), (1, .int (iI i))] := hl
  obtain ⟨hx, hb, hml, hown, hts⟩ := id F.1
  obtain ⟨hB, w8, w21, w12, w29, w4, w7, w6, w5, w13, w25, w26, w28, w14, w3, wf17⟩ := id hwf
  refine lv_iload_n hx hb dX5_isImage_0 rfl (lv_at hl 1 rfl) ?_
  refine wa_const F dX5_isImage_1 ?_
  refine lv_aload_n hx hb dX5_isImage_2 rfl (lv_at hl 0 rfl) ?_
  refine gX5_93 F hw rfl (v := .int (iI (T 8 0))) rfl dX5_isImage_3 ?_
  refine wa_const F dX5_isImage_6 ?_
  refine wa_sub F dX5_isImage_7 ?_
  refine wa_cp (kX5_96 F (c_X5_isIn l D cy ad S X T o (i) (0) (((T 8 0) - 1)) (by exact ⟨by omega, by omega⟩) (by decide) (by have q0 := hB 8 0; exact ⟨by omega, by omega⟩)) ⟨by decide, by decide⟩ ⟨rfl, rfl⟩ hw rfl rfl (Nat.le_of_ble_eq_true rfl) hl.1 dX5_isImage_8 ⟨Nat.le_refl _, Nat.le_refl _⟩) ?_
  by_cases b8 : 0 ≤ i ∧ i ≤ ((T 8 0) - 1)
  · rw [bI_t b8]
    exact wa_epz F (by first | rfl | omega) (by decide) dX5_isImage_11
  · rw [bI_f b8]
    exact wa_epz F (by first | rfl | omega) (by decide) dX5_isImage_11
set_option maxRecDepth 100000 in
set_option maxHeartbeats 4000000 in
/-- isBake -/
theorem c_X5_isBake (l : Launch) (D : va_G) (cy : Nat → ClassId) (ad : Nat → Nat → Nat) (S X T : wa_St) (o : Int64) (hwf : wf T) (i : Int) (ri : wa_r i) : Met l yX5_isBake wX5_isBake ({ frames := 1, cells := 0, slots := 0, locals := 22 } : Room) (wa_pc [.ref (ad 6 0), .int (iI i)] D cy (fun H => wa_wd D ad (wW cy ad S X T o) H)) (wa_Qp (bI (f_isBake T i))) 0 0 (fun _ => False) := by
  refine wa_en (by decide +kernel) (Nat.le_of_ble_eq_true rfl) ?_
  intro p e s m args below meth c F hw ls hl
  have F : wa_fx p s m c meth args cX5_isBake 2 RX5 "isBake" (Option.some FieldType.boolean) D cy := F
  have hw : wa_wd D ad (wW cy ad S X T o) s.heap := hw
  have hl : lv_has ls 2 [(0, .ref (ad 6 0)), (1, .int (iI i))] := hl
  obtain ⟨hx, hb, hml, hown, hts⟩ := id F.1
  obtain ⟨hB, w8, w21, w12, w29, w4, w7, w6, w5, w13, w25, w26, w28, w14, w3, wf17⟩ := id hwf
  refine lv_iload_n hx hb dX5_isBake_0 rfl (lv_at hl 1 rfl) ?_
  refine wa_const F dX5_isBake_1 ?_
  refine lv_aload_n hx hb dX5_isBake_2 rfl (lv_at hl 0 rfl) ?_
  refine gX5_100 F hw rfl (v := .int (iI (T 21 0))) rfl dX5_isBake_3 ?_
  refine wa_const F dX5_isBake_6 ?_
  refine wa_sub F dX5_isBake_7 ?_
  refine wa_cp (kX5_96 F (c_X5_isIn l D cy ad S X T o (i) (0) (((T 21 0) - 1)) (by exact ⟨by omega, by omega⟩) (by decide) (by have q0 := hB 21 0; exact ⟨by omega, by omega⟩)) ⟨by decide, by decide⟩ ⟨rfl, rfl⟩ hw rfl rfl (Nat.le_of_ble_eq_true rfl) hl.1 dX5_isBake_8 ⟨Nat.le_refl _, Nat.le_refl _⟩) ?_
  by_cases b8 : 0 ≤ i ∧ i ≤ ((T 21 0) - 1)
  · rw [bI_t b8]
    exact wa_epz F (by first | rfl | omega) (by decide) dX5_isBake_11
  · rw [bI_f b8]
    exact wa_epz F (by first | rfl | omega) (by decide) dX5_isBake_11
set_option maxRecDepth 100000 in
set_option maxHeartbeats 4000000 in
/-- isFine(k) -/
theorem c_X5_isFine (l : Launch) (D : va_G) (cy : Nat → ClassId) (ad : Nat → Nat → Nat) (S X T : wa_St) (o : Int64) (A : Nat → Prop) (hj : wa_wj A ad (wW cy ad S X T o)) (k : Int) (rk : wa_r k) : Met l yX5_isFine wX5_isFine ({ frames := 0, cells := 0, slots := 0, locals := 0 } : Room) (wa_pc [.ref (ad 6 0), .int (iI k)] D cy (fun H => wa_wd D ad (wW cy ad S X T o) H)) (wa_Qi A D ad (wW cy ad S X (wa_s T 0 0 k) o) (bI (k = 0))) 0 0 A := by
  refine wa_en (by decide +kernel) (Nat.le_of_ble_eq_true rfl) ?_
  intro p e s m args below meth c F hw ls hl
  have F : wa_fx p s m c meth args cX5_isFine 2 RX5 "isFine" (Option.some FieldType.boolean) D cy := F
  have hw : wa_wd D ad (wW cy ad S X T o) s.heap := hw
  have hl : lv_has ls 2 [(0, .ref (ad 6 0)), (1, .int (iI k))] := hl
  obtain ⟨hx, hb, hml, hown, hts⟩ := id F.1
  have hS : va_S A s.heap s.heap [] := va_S.rf
  refine lv_aload_n hx hb dX5_isFine_0 rfl (lv_at hl 0 rfl) ?_
  refine lv_iload_n hx hb dX5_isFine_1 rfl (lv_at hl 1 rfl) ?_
  refine pM_90 F hw (wm_j hj _ _) hS dX5_isFine_2 (fun H locs hw hS => ?_)
  refine lv_iload_n hx hb dX5_isFine_5 rfl (lv_at hl 1 rfl) ?_
  refine wa_if_ne (tgt := 13) F dX5_isFine_6 (by decide) (by exact ⟨by omega, by omega⟩) (fun c6 => ?_) (fun c6 => ?_)
  · skip
    refine wa_const F dX5_isFine_13 ?_
    exact wa_eiz F hw hS (bI_f (by omega)).symm (by decide) dX5_isFine_14
  · skip
    refine wa_const F dX5_isFine_9 ?_
    refine wa_goto (tgt := 14) F dX5_isFine_10 (by decide) ?_
    exact wa_eiz F hw hS (bI_t (by omega)).symm (by decide) dX5_isFine_14
set_option maxRecDepth 100000 in
set_option maxHeartbeats 4000000 in
/-- thrown() -/
theorem c_X5_thrown (l : Launch) (D : va_G) (cy : Nat → ClassId) (ad : Nat → Nat → Nat) (S X T : wa_St) (o : Int64) : Met l yX5_thrown wX5_thrown ({ frames := 0, cells := 0, slots := 0, locals := 0 } : Room) (wa_pc [.ref (ad 6 0)] D cy (fun H => wa_wd D ad (wW cy ad S X T o) H)) (wa_Qp (T 0 0)) 0 0 (fun _ => False) := by
  refine wa_en (by decide +kernel) (Nat.le_of_ble_eq_true rfl) ?_
  intro p e s m args below meth c F hw ls hl
  have F : wa_fx p s m c meth args cX5_thrown 1 RX5 "thrown" (Option.some FieldType.int) D cy := F
  have hw : wa_wd D ad (wW cy ad S X T o) s.heap := hw
  have hl : lv_has ls 1 [(0, .ref (ad 6 0))] := hl
  obtain ⟨hx, hb, hml, hown, hts⟩ := id F.1
  have hB : True := trivial
  refine lv_aload_n hx hb dX5_thrown_0 rfl (lv_at hl 0 rfl) ?_
  refine gX5_90 F hw rfl (v := .int (iI (T 0 0))) rfl dX5_thrown_1 ?_
  exact wa_ep F rfl dX5_thrown_4
