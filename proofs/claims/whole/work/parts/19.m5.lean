/-! contracts of the reference, fifth part: the calls (laid by program) -/
set_option maxRecDepth 100000 in
set_option maxHeartbeats 4000000 in
/-- add -/
theorem c_X5_add (l : Launch) (D : va_G) (cy : Nat → ClassId) (ad : Nat → Nat → Nat) (S X T : wa_St) (o : Int64) (A : Nat → Prop) (hj : wa_wj A ad (wW cy ad S X T o)) (hwf : wf T) (q : Int) (rq : wa_r q) : Met l yX5_add wX5_add ({ frames := 1, cells := 0, slots := 0, locals := 22 } : Room) (wa_pc [.ref (ad 6 0), .int (iI q)] D cy (fun H => wa_wd D ad (wW cy ad S X T o) H)) (wa_Qi A D ad (wW cy ad S X (o_s T (k_add T q) (a_add T q)) o) (o_v (k_add T q) (T 8 0 + 1 - 1))) 0 0 A := by
  refine wa_en (by decide +kernel) (Nat.le_of_ble_eq_true rfl) ?_
  intro p e s m args below meth c F hw ls hl
  have F : wa_fx p s m c meth args cX5_add 2 RX5 "add" (Option.some FieldType.int) D cy := F
  have hw : wa_wd D ad (wW cy ad S X T o) s.heap := hw
  have hl : lv_has ls 2 [(0, .ref (ad 6 0)), (1, .int (iI q))] := hl
  obtain ⟨hx, hb, hml, hown, hts⟩ := id F.1
  obtain ⟨hB, w8, w21, w12, w29, w4, w7, w6, w5, w13, w25, w26, w28, w14, w3, wf17⟩ := id hwf
  have hS : va_S A s.heap s.heap [] := va_S.rf
  refine lv_aload_n hx hb dX5_add_0 rfl (lv_at hl 0 rfl) ?_
  refine lv_iload_n hx hb dX5_add_1 rfl (lv_at hl 1 rfl) ?_
  refine wa_const F dX5_add_2 ?_
  refine lv_aload_n hx hb dX5_add_3 rfl (lv_at hl 0 rfl) ?_
  refine gX5_93 F hw rfl (v := .int (iI (T 8 0))) rfl dX5_add_4 ?_
  refine wa_const F dX5_add_7 ?_
  refine wa_sub F dX5_add_8 ?_
  refine wa_cp (kX5_96 F (c_X5_isIn l D cy ad S X T o (q) ((-1)) (((T 8 0) - 1)) (by exact ⟨by omega, by omega⟩) (by decide) (by have q0 := hB 8 0; exact ⟨by omega, by omega⟩)) ⟨by decide, by decide⟩ ⟨rfl, rfl⟩ hw rfl rfl (Nat.le_of_ble_eq_true rfl) hl.1 dX5_add_9 ⟨Nat.le_refl _, Nat.le_refl _⟩) ?_
  by_cases b9 : (-1) ≤ q ∧ q ≤ ((T 8 0) - 1)
  · rw [bI_t b9]
    refine wa_if_ne (tgt := 19) F dX5_add_12 (by decide) (by decide) (fun c12 => ?_) (fun c12 => absurd c12 (by decide))
    refine lv_aload_n hx hb dX5_add_19 rfl (lv_at hl 0 rfl) ?_
    refine gX5_93 F hw rfl (v := .int (iI (T 8 0))) rfl dX5_add_20 ?_
    refine wa_bi F dX5_add_23 (by decide +kernel) ?_
    refine wa_ic_ne (tgt := 32) F dX5_add_25 (by decide) (by have q0 := hB 8 0; exact ⟨by omega, by omega⟩) (by decide) (fun c25 => ?_) (fun c25 => ?_)
    · skip
      refine wa_const F dX5_add_32 ?_
      refine wa_ci (kX5_103 F (c_X5_isFine l D cy ad S X T o A (wm_j hj _ _) (0) (by decide)) ⟨by decide, by decide⟩ ⟨rfl, rfl⟩ hw hw rfl rfl rfl (Nat.le_of_ble_eq_true rfl) hl.1 dX5_add_33 ⟨Nat.le_refl _, Nat.le_refl _⟩) hS (fun H locs hw hS => ?_)
      refine wa_if_ne (tgt := 41) F dX5_add_36 (by decide) (by decide) (fun c36 => ?_) (fun c36 => absurd c36 (by decide))
      refine lv_aload_n hx hb dX5_add_41 rfl (lv_at hl 0 rfl) ?_
      refine gX5_16 F hw rfl (v := .ref (ad 6 4)) rfl dX5_add_42 ?_
      refine lv_aload_n hx hb dX5_add_45 rfl (lv_at hl 0 rfl) ?_
      refine gX5_93 F hw rfl (v := .int (iI (T 8 0))) rfl dX5_add_46 ?_
      refine lv_iload_n hx hb dX5_add_49 rfl (lv_at hl 1 rfl) ?_
      refine sM_4 F hw (wm_j hj _ _) hS (((T 8 0)).toNat) (by have q0 := hB 8 0; omega) (by have q0 := hB 8 0; omega) dX5_add_50 (fun H locs hw hS => ?_)
      refine lv_aload_n hx hb dX5_add_51 rfl (lv_at hl 0 rfl) ?_
      refine gX5_25 F hw rfl (v := .ref (ad 6 7)) rfl dX5_add_52 ?_
      refine lv_aload_n hx hb dX5_add_55 rfl (lv_at hl 0 rfl) ?_
      refine gX5_93 F hw rfl (v := .int (iI (T 8 0))) rfl dX5_add_56 ?_
      refine wa_const F dX5_add_59 ?_
      refine sM_7 F hw (wm_j hj _ _) hS (((T 8 0)).toNat) (by have q0 := hB 8 0; omega) (by have q0 := hB 8 0; omega) dX5_add_60 (fun H locs hw hS => ?_)
      refine lv_aload_n hx hb dX5_add_61 rfl (lv_at hl 0 rfl) ?_
      refine lv_dup hx hb dX5_add_62 rfl ?_
      refine gX5_93 F hw rfl (v := .int (iI (T 8 0))) rfl dX5_add_63 ?_
      refine wa_const F dX5_add_66 ?_
      refine wa_add F dX5_add_67 ?_
      refine pM_93 F hw (wm_j hj _ _) hS dX5_add_68 (fun H locs hw hS => ?_)
      refine lv_aload_n hx hb dX5_add_71 rfl (lv_at hl 0 rfl) ?_
      refine gX5_93 F hw rfl (v := .int (iI ((T 8 0) + 1))) rfl dX5_add_72 ?_
      refine wa_const F dX5_add_75 ?_
      refine wa_sub F dX5_add_76 ?_
      have ek : k_add T q = 0 := by simp only [k_add, f_isImage, f_isBake, Int.toNat_natCast]; (repeat' split) <;> first | rfl | omega
      rw [ek]
      exact wa_ei F hw hS (by first | rfl | simp [wa_s] | omega) dX5_add_77
    · skip
      refine wa_const F dX5_add_28 ?_
      refine wa_goto (tgt := 33) F dX5_add_29 (by decide) ?_
      refine wa_ci (kX5_103 F (c_X5_isFine l D cy ad S X T o A (wm_j hj _ _) (2) (by decide)) ⟨by decide, by decide⟩ ⟨rfl, rfl⟩ hw hw rfl rfl rfl (Nat.le_of_ble_eq_true rfl) hl.1 dX5_add_33 ⟨Nat.le_refl _, Nat.le_refl _⟩) hS (fun H locs hw hS => ?_)
      refine wa_if_ne (tgt := 41) F dX5_add_36 (by decide) (by decide) (fun c36 => absurd c36 (by decide)) (fun c36 => ?_)
      refine wa_const F dX5_add_39 ?_
      have ek : k_add T q = 2 := by simp only [k_add, f_isImage, f_isBake, Int.toNat_natCast]; (repeat' split) <;> first | rfl | omega
      rw [ek]
      exact wa_ei F hw hS (by first | rfl | simp [wa_s] | omega) dX5_add_40
  · rw [bI_f b9]
    refine wa_if_ne (tgt := 19) F dX5_add_12 (by decide) (by decide) (fun c12 => absurd c12 (by decide)) (fun c12 => ?_)
    refine wa_const F dX5_add_15 ?_
    refine wa_goto (tgt := 33) F dX5_add_16 (by decide) ?_
    refine wa_ci (kX5_103 F (c_X5_isFine l D cy ad S X T o A (wm_j hj _ _) (1) (by decide)) ⟨by decide, by decide⟩ ⟨rfl, rfl⟩ hw hw rfl rfl rfl (Nat.le_of_ble_eq_true rfl) hl.1 dX5_add_33 ⟨Nat.le_refl _, Nat.le_refl _⟩) hS (fun H locs hw hS => ?_)
    refine wa_if_ne (tgt := 41) F dX5_add_36 (by decide) (by decide) (fun c36 => absurd c36 (by decide)) (fun c36 => ?_)
    refine wa_const F dX5_add_39 ?_
    have ek : k_add T q = 1 := by simp only [k_add, f_isImage, f_isBake, Int.toNat_natCast]; (repeat' split) <;> first | rfl | omega
    rw [ek]
    exact wa_ei F hw hS (by first | rfl | simp [wa_s] | omega) dX5_add_40
set_option maxRecDepth 100000 in
set_option maxHeartbeats 4000000 in
/-- latest -/
theorem c_X5_latest (l : Launch) (D : va_G) (cy : Nat → ClassId) (ad : Nat → Nat → Nat) (S X T : wa_St) (o : Int64) (A : Nat → Prop) (hj : wa_wj A ad (wW cy ad S X T o)) (hwf : wf T) (i : Int) (ri : wa_r i) : Met l yX5_latest wX5_latest ({ frames := 2, cells := 0, slots := 0, locals := 43 } : Room) (wa_pc [.ref (ad 6 0), .int (iI i)] D cy (fun H => wa_wd D ad (wW cy ad S X T o) H)) (wa_Qi A D ad (wW cy ad S X (wa_s T 0 0 (k_img T i)) o) (o_v (k_img T i) (T 7 i.toNat))) 0 0 A := by
  refine wa_en (by decide +kernel) (Nat.le_of_ble_eq_true rfl) ?_
  intro p e s m args below meth c F hw ls hl
  have F : wa_fx p s m c meth args cX5_latest 2 RX5 "latest" (Option.some FieldType.int) D cy := F
  have hw : wa_wd D ad (wW cy ad S X T o) s.heap := hw
  have hl : lv_has ls 2 [(0, .ref (ad 6 0)), (1, .int (iI i))] := hl
  obtain ⟨hx, hb, hml, hown, hts⟩ := id F.1
  obtain ⟨hB, w8, w21, w12, w29, w4, w7, w6, w5, w13, w25, w26, w28, w14, w3, wf17⟩ := id hwf
  have hS : va_S A s.heap s.heap [] := va_S.rf
  refine lv_aload_n hx hb dX5_latest_0 rfl (lv_at hl 0 rfl) ?_
  refine lv_aload_n hx hb dX5_latest_1 rfl (lv_at hl 0 rfl) ?_
  refine lv_iload_n hx hb dX5_latest_2 rfl (lv_at hl 1 rfl) ?_
  refine wa_cp (kX5_107 F (c_X5_isImage l D cy ad S X T o hwf (i) (by exact ⟨by omega, by omega⟩)) ⟨by decide, by decide⟩ ⟨rfl, rfl⟩ hw hw rfl rfl rfl (Nat.le_of_ble_eq_true rfl) hl.1 dX5_latest_3 ⟨Nat.le_refl _, Nat.le_refl _⟩) ?_
  by_cases b3 : f_isImage T i
  · rw [bI_t b3]
    obtain ⟨j, rfl⟩ := Int.eq_ofNat_of_zero_le b3.1
    refine wa_if_eq (tgt := 13) F dX5_latest_6 (by decide) (by decide) (fun c6 => absurd c6 (by decide)) (fun c6 => ?_)
    refine wa_const F dX5_latest_9 ?_
    refine wa_goto (tgt := 14) F dX5_latest_10 (by decide) ?_
    refine wa_ci (kX5_103 F (c_X5_isFine l D cy ad S X T o A (wm_j hj _ _) (0) (by decide)) ⟨by decide, by decide⟩ ⟨rfl, rfl⟩ hw hw rfl rfl rfl (Nat.le_of_ble_eq_true rfl) hl.1 dX5_latest_14 ⟨Nat.le_refl _, Nat.le_refl _⟩) hS (fun H locs hw hS => ?_)
    refine wa_if_eq (tgt := 29) F dX5_latest_17 (by decide) (by decide) (fun c17 => absurd c17 (by decide)) (fun c17 => ?_)
    refine lv_aload_n hx hb dX5_latest_20 rfl (lv_at hl 0 rfl) ?_
    refine gX5_25 F hw rfl (v := .ref (ad 6 7)) rfl dX5_latest_21 ?_
    refine lv_iload_n hx hb dX5_latest_24 rfl (lv_at hl 1 rfl) ?_
    refine aM_7 F hw j rfl (by omega) dX5_latest_25 ?_
    refine W.eq (g2 := F0 m 26 ls [.int (iI (T 7 j))]) rfl ?_
    refine wa_goto (tgt := 30) F dX5_latest_26 (by decide) ?_
    have ek : k_img T (j : Int) = 0 := by simp only [k_img, f_isImage, f_isBake, Int.toNat_natCast]; (repeat' split) <;> first | rfl | omega
    rw [ek]
    exact wa_ei F hw hS (by first | rfl | simp [wa_s] | omega) dX5_latest_30
  · rw [bI_f b3]
    refine wa_if_eq (tgt := 13) F dX5_latest_6 (by decide) (by decide) (fun c6 => ?_) (fun c6 => absurd c6 (by decide))
    refine wa_const F dX5_latest_13 ?_
    refine wa_ci (kX5_103 F (c_X5_isFine l D cy ad S X T o A (wm_j hj _ _) (1) (by decide)) ⟨by decide, by decide⟩ ⟨rfl, rfl⟩ hw hw rfl rfl rfl (Nat.le_of_ble_eq_true rfl) hl.1 dX5_latest_14 ⟨Nat.le_refl _, Nat.le_refl _⟩) hS (fun H locs hw hS => ?_)
    refine wa_if_eq (tgt := 29) F dX5_latest_17 (by decide) (by decide) (fun c17 => ?_) (fun c17 => absurd c17 (by decide))
    refine wa_const F dX5_latest_29 ?_
    have ek : k_img T i = 1 := by simp only [k_img, f_isImage, f_isBake, Int.toNat_natCast]; (repeat' split) <;> first | rfl | omega
    rw [ek]
    exact wa_ei F hw hS (by first | rfl | simp [wa_s] | omega) dX5_latest_30
set_option maxRecDepth 100000 in
set_option maxHeartbeats 4000000 in
/-- top -/
theorem c_X5_top (l : Launch) (D : va_G) (cy : Nat → ClassId) (ad : Nat → Nat → Nat) (S X T : wa_St) (o : Int64) (A : Nat → Prop) (hj : wa_wj A ad (wW cy ad S X T o)) (hwf : wf T) (i : Int) (ri : wa_r i) : Met l yX5_top wX5_top ({ frames := 2, cells := 0, slots := 0, locals := 43 } : Room) (wa_pc [.ref (ad 6 0), .int (iI i)] D cy (fun H => wa_wd D ad (wW cy ad S X T o) H)) (wa_Qi A D ad (wW cy ad S X (wa_s T 0 0 (k_bk T i)) o) (o_v (k_bk T i) (T 14 i.toNat))) 0 0 A := by
  refine wa_en (by decide +kernel) (Nat.le_of_ble_eq_true rfl) ?_
  intro p e s m args below meth c F hw ls hl
  have F : wa_fx p s m c meth args cX5_top 2 RX5 "top" (Option.some FieldType.int) D cy := F
  have hw : wa_wd D ad (wW cy ad S X T o) s.heap := hw
  have hl : lv_has ls 2 [(0, .ref (ad 6 0)), (1, .int (iI i))] := hl
  obtain ⟨hx, hb, hml, hown, hts⟩ := id F.1
  obtain ⟨hB, w8, w21, w12, w29, w4, w7, w6, w5, w13, w25, w26, w28, w14, w3, wf17⟩ := id hwf
  have hS : va_S A s.heap s.heap [] := va_S.rf
  refine lv_aload_n hx hb dX5_top_0 rfl (lv_at hl 0 rfl) ?_
  refine lv_aload_n hx hb dX5_top_1 rfl (lv_at hl 0 rfl) ?_
  refine lv_iload_n hx hb dX5_top_2 rfl (lv_at hl 1 rfl) ?_
  refine wa_cp (kX5_144 F (c_X5_isBake l D cy ad S X T o hwf (i) (by exact ⟨by omega, by omega⟩)) ⟨by decide, by decide⟩ ⟨rfl, rfl⟩ hw hw rfl rfl rfl (Nat.le_of_ble_eq_true rfl) hl.1 dX5_top_3 ⟨Nat.le_refl _, Nat.le_refl _⟩) ?_
  by_cases b3 : f_isBake T i
  · rw [bI_t b3]
    obtain ⟨j, rfl⟩ := Int.eq_ofNat_of_zero_le b3.1
    refine wa_if_eq (tgt := 13) F dX5_top_6 (by decide) (by decide) (fun c6 => absurd c6 (by decide)) (fun c6 => ?_)
    refine wa_const F dX5_top_9 ?_
    refine wa_goto (tgt := 14) F dX5_top_10 (by decide) ?_
    refine wa_ci (kX5_103 F (c_X5_isFine l D cy ad S X T o A (wm_j hj _ _) (0) (by decide)) ⟨by decide, by decide⟩ ⟨rfl, rfl⟩ hw hw rfl rfl rfl (Nat.le_of_ble_eq_true rfl) hl.1 dX5_top_14 ⟨Nat.le_refl _, Nat.le_refl _⟩) hS (fun H locs hw hS => ?_)
    refine wa_if_eq (tgt := 29) F dX5_top_17 (by decide) (by decide) (fun c17 => absurd c17 (by decide)) (fun c17 => ?_)
    refine lv_aload_n hx hb dX5_top_20 rfl (lv_at hl 0 rfl) ?_
    refine gX5_40 F hw rfl (v := .ref (ad 6 14)) rfl dX5_top_21 ?_
    refine lv_iload_n hx hb dX5_top_24 rfl (lv_at hl 1 rfl) ?_
    refine aM_14 F hw j rfl (by omega) dX5_top_25 ?_
    refine W.eq (g2 := F0 m 26 ls [.int (iI (T 14 j))]) rfl ?_
    refine wa_goto (tgt := 30) F dX5_top_26 (by decide) ?_
    have ek : k_bk T (j : Int) = 0 := by simp only [k_bk, f_isImage, f_isBake, Int.toNat_natCast]; (repeat' split) <;> first | rfl | omega
    rw [ek]
    exact wa_ei F hw hS (by first | rfl | simp [wa_s] | omega) dX5_top_30
  · rw [bI_f b3]
    refine wa_if_eq (tgt := 13) F dX5_top_6 (by decide) (by decide) (fun c6 => ?_) (fun c6 => absurd c6 (by decide))
    refine wa_const F dX5_top_13 ?_
    refine wa_ci (kX5_103 F (c_X5_isFine l D cy ad S X T o A (wm_j hj _ _) (1) (by decide)) ⟨by decide, by decide⟩ ⟨rfl, rfl⟩ hw hw rfl rfl rfl (Nat.le_of_ble_eq_true rfl) hl.1 dX5_top_14 ⟨Nat.le_refl _, Nat.le_refl _⟩) hS (fun H locs hw hS => ?_)
    refine wa_if_eq (tgt := 29) F dX5_top_17 (by decide) (by decide) (fun c17 => ?_) (fun c17 => absurd c17 (by decide))
    refine wa_const F dX5_top_29 ?_
    have ek : k_bk T i = 1 := by simp only [k_bk, f_isImage, f_isBake, Int.toNat_natCast]; (repeat' split) <;> first | rfl | omega
    rw [ek]
    exact wa_ei F hw hS (by first | rfl | simp [wa_s] | omega) dX5_top_30
set_option maxRecDepth 100000 in
set_option maxHeartbeats 4000000 in
/-- layers -/
theorem c_X5_layers (l : Launch) (D : va_G) (cy : Nat → ClassId) (ad : Nat → Nat → Nat) (S X T : wa_St) (o : Int64) (A : Nat → Prop) (hj : wa_wj A ad (wW cy ad S X T o)) (hwf : wf T) : Met l yX5_layers wX5_layers ({ frames := 0, cells := 0, slots := 0, locals := 0 } : Room) (wa_pc [.ref (ad 6 0)] D cy (fun H => wa_wd D ad (wW cy ad S X T o) H)) (wa_Qi A D ad (wW cy ad S X (wa_s T 0 0 0) o) (T 12 0)) 0 0 A := by
  refine wa_en (by decide +kernel) (Nat.le_of_ble_eq_true rfl) ?_
  intro p e s m args below meth c F hw ls hl
  have F : wa_fx p s m c meth args cX5_layers 1 RX5 "layers" (Option.some FieldType.int) D cy := F
  have hw : wa_wd D ad (wW cy ad S X T o) s.heap := hw
  have hl : lv_has ls 1 [(0, .ref (ad 6 0))] := hl
  obtain ⟨hx, hb, hml, hown, hts⟩ := id F.1
  obtain ⟨hB, w8, w21, w12, w29, w4, w7, w6, w5, w13, w25, w26, w28, w14, w3, wf17⟩ := id hwf
  have hS : va_S A s.heap s.heap [] := va_S.rf
  refine lv_aload_n hx hb dX5_layers_0 rfl (lv_at hl 0 rfl) ?_
  refine wa_const F dX5_layers_1 ?_
  refine pM_90 F hw (wm_j hj _ _) hS dX5_layers_2 (fun H locs hw hS => ?_)
  refine lv_aload_n hx hb dX5_layers_5 rfl (lv_at hl 0 rfl) ?_
  refine gX5_110 F hw rfl (v := .int (iI (T 12 0))) rfl dX5_layers_6 ?_
  exact wa_ei F hw hS (by first | rfl | omega) dX5_layers_9
set_option maxRecDepth 100000 in
set_option maxHeartbeats 4000000 in
/-- bakes -/
theorem c_X5_bakes (l : Launch) (D : va_G) (cy : Nat → ClassId) (ad : Nat → Nat → Nat) (S X T : wa_St) (o : Int64) (A : Nat → Prop) (hj : wa_wj A ad (wW cy ad S X T o)) (hwf : wf T) : Met l yX5_bakes wX5_bakes ({ frames := 0, cells := 0, slots := 0, locals := 0 } : Room) (wa_pc [.ref (ad 6 0)] D cy (fun H => wa_wd D ad (wW cy ad S X T o) H)) (wa_Qi A D ad (wW cy ad S X (wa_s T 0 0 0) o) (T 21 0)) 0 0 A := by
  refine wa_en (by decide +kernel) (Nat.le_of_ble_eq_true rfl) ?_
  intro p e s m args below meth c F hw ls hl
  have F : wa_fx p s m c meth args cX5_bakes 1 RX5 "bakes" (Option.some FieldType.int) D cy := F
  have hw : wa_wd D ad (wW cy ad S X T o) s.heap := hw
  have hl : lv_has ls 1 [(0, .ref (ad 6 0))] := hl
  obtain ⟨hx, hb, hml, hown, hts⟩ := id F.1
  obtain ⟨hB, w8, w21, w12, w29, w4, w7, w6, w5, w13, w25, w26, w28, w14, w3, wf17⟩ := id hwf
  have hS : va_S A s.heap s.heap [] := va_S.rf
  refine lv_aload_n hx hb dX5_bakes_0 rfl (lv_at hl 0 rfl) ?_
  refine wa_const F dX5_bakes_1 ?_
  refine pM_90 F hw (wm_j hj _ _) hS dX5_bakes_2 (fun H locs hw hS => ?_)
  refine lv_aload_n hx hb dX5_bakes_5 rfl (lv_at hl 0 rfl) ?_
  refine gX5_100 F hw rfl (v := .int (iI (T 21 0))) rfl dX5_bakes_6 ?_
  exact wa_ei F hw hS (by first | rfl | omega) dX5_bakes_9
set_option maxRecDepth 100000 in
set_option maxHeartbeats 4000000 in
/-- isFresh -/
theorem c_X5_isFresh (l : Launch) (D : va_G) (cy : Nat → ClassId) (ad : Nat → Nat → Nat) (S X T : wa_St) (o : Int64) (A : Nat → Prop) (hj : wa_wj A ad (wW cy ad S X T o)) (hwf : wf T) (i : Int) (ri : wa_r i) : Met l yX5_isFresh wX5_isFresh ({ frames := 4, cells := 0, slots := 0, locals := 91 } : Room) (wa_pc [.ref (ad 6 0), .int (iI i)] D cy (fun H => wa_wd D ad (wW cy ad S X T o) H)) (wa_Qi A D ad (wW cy ad S X (wa_s T 0 0 (k_img T i)) o) (bI (k_img T i = 0 ∧ f_fresh (wa_s T 0 0 0) i.toNat = true))) 0 0 A := by
  refine wa_en (by decide +kernel) (Nat.le_of_ble_eq_true rfl) ?_
  intro p e s m args below meth c F hw ls hl
  have F : wa_fx p s m c meth args cX5_isFresh 2 RX5 "isFresh" (Option.some FieldType.boolean) D cy := F
  have hw : wa_wd D ad (wW cy ad S X T o) s.heap := hw
  have hl : lv_has ls 2 [(0, .ref (ad 6 0)), (1, .int (iI i))] := hl
  obtain ⟨hx, hb, hml, hown, hts⟩ := id F.1
  obtain ⟨hB, w8, w21, w12, w29, w4, w7, w6, w5, w13, w25, w26, w28, w14, w3, wf17⟩ := id hwf
  have hS : va_S A s.heap s.heap [] := va_S.rf
  refine lv_aload_n hx hb dX5_isFresh_0 rfl (lv_at hl 0 rfl) ?_
  refine lv_aload_n hx hb dX5_isFresh_1 rfl (lv_at hl 0 rfl) ?_
  refine lv_iload_n hx hb dX5_isFresh_2 rfl (lv_at hl 1 rfl) ?_
  refine wa_cp (kX5_107 F (c_X5_isImage l D cy ad S X T o hwf (i) (by exact ⟨by omega, by omega⟩)) ⟨by decide, by decide⟩ ⟨rfl, rfl⟩ hw hw rfl rfl rfl (Nat.le_of_ble_eq_true rfl) hl.1 dX5_isFresh_3 ⟨Nat.le_refl _, Nat.le_refl _⟩) ?_
  by_cases b3 : f_isImage T i
  · rw [bI_t b3]
    obtain ⟨j, rfl⟩ := Int.eq_ofNat_of_zero_le b3.1
    refine wa_if_eq (tgt := 13) F dX5_isFresh_6 (by decide) (by decide) (fun c6 => absurd c6 (by decide)) (fun c6 => ?_)
    refine wa_const F dX5_isFresh_9 ?_
    refine wa_goto (tgt := 14) F dX5_isFresh_10 (by decide) ?_
    refine wa_ci (kX5_103 F (c_X5_isFine l D cy ad S X T o A (wm_j hj _ _) (0) (by decide)) ⟨by decide, by decide⟩ ⟨rfl, rfl⟩ hw hw rfl rfl rfl (Nat.le_of_ble_eq_true rfl) hl.1 dX5_isFresh_14 ⟨Nat.le_refl _, Nat.le_refl _⟩) hS (fun H locs hw hS => ?_)
    refine wa_if_eq (tgt := 32) F dX5_isFresh_17 (by decide) (by decide) (fun c17 => absurd c17 (by decide)) (fun c17 => ?_)
    refine lv_aload_n hx hb dX5_isFresh_20 rfl (lv_at hl 0 rfl) ?_
    refine lv_iload_n hx hb dX5_isFresh_21 rfl (lv_at hl 1 rfl) ?_
    refine wa_cp (kX5_141 F (c_X5_isFreshNow l D cy ad S X (wa_s T 0 0 0) o (wf_th hwf (k := 0) (by decide)) ((j : Int)) j rfl (show (j : Int) < (wa_s T 0 0 0) 8 0 from (show (j : Int) < T 8 0 by omega))) ⟨by decide, by decide⟩ ⟨rfl, rfl⟩ hw hw rfl rfl rfl (Nat.le_of_ble_eq_true rfl) hl.1 dX5_isFresh_22 ⟨Nat.le_refl _, Nat.le_refl _⟩) ?_
    by_cases b22 : f_fresh (wa_s T 0 0 0) j = true
    · rw [bI_t b22]
      refine wa_if_eq (tgt := 32) F dX5_isFresh_25 (by decide) (by decide) (fun c25 => absurd c25 (by decide)) (fun c25 => ?_)
      refine wa_const F dX5_isFresh_28 ?_
      refine wa_goto (tgt := 33) F dX5_isFresh_29 (by decide) ?_
      have ek : k_img T (j : Int) = 0 := by simp only [k_img, f_isImage, f_isBake, Int.toNat_natCast]; (repeat' split) <;> first | rfl | omega
      rw [ek]
      exact wa_eiz F hw hS (bI_t ⟨rfl, b22⟩).symm (by decide) dX5_isFresh_33
    · rw [bI_f b22]
      refine wa_if_eq (tgt := 32) F dX5_isFresh_25 (by decide) (by decide) (fun c25 => ?_) (fun c25 => absurd c25 (by decide))
      refine wa_const F dX5_isFresh_32 ?_
      have ek : k_img T (j : Int) = 0 := by simp only [k_img, f_isImage, f_isBake, Int.toNat_natCast]; (repeat' split) <;> first | rfl | omega
      rw [ek]
      exact wa_eiz F hw hS (bI_f (fun h => b22 h.2)).symm (by decide) dX5_isFresh_33
  · rw [bI_f b3]
    refine wa_if_eq (tgt := 13) F dX5_isFresh_6 (by decide) (by decide) (fun c6 => ?_) (fun c6 => absurd c6 (by decide))
    refine wa_const F dX5_isFresh_13 ?_
    refine wa_ci (kX5_103 F (c_X5_isFine l D cy ad S X T o A (wm_j hj _ _) (1) (by decide)) ⟨by decide, by decide⟩ ⟨rfl, rfl⟩ hw hw rfl rfl rfl (Nat.le_of_ble_eq_true rfl) hl.1 dX5_isFresh_14 ⟨Nat.le_refl _, Nat.le_refl _⟩) hS (fun H locs hw hS => ?_)
    refine wa_if_eq (tgt := 32) F dX5_isFresh_17 (by decide) (by decide) (fun c17 => ?_) (fun c17 => absurd c17 (by decide))
    refine wa_const F dX5_isFresh_32 ?_
    have ek : k_img T i = 1 := by simp only [k_img, f_isImage, f_isBake, Int.toNat_natCast]; (repeat' split) <;> first | rfl | omega
    rw [ek]
    exact wa_eiz F hw hS (bI_f (fun h => absurd h.1 (by decide))).symm (by decide) dX5_isFresh_33
set_option maxRecDepth 100000 in
set_option maxHeartbeats 4000000 in
/-- isFreshAnew -/
theorem c_X5_isFreshAnew (l : Launch) (D : va_G) (cy : Nat → ClassId) (ad : Nat → Nat → Nat) (S X T : wa_St) (o : Int64) (A : Nat → Prop) (hj : wa_wj A ad (wW cy ad S X T o)) (hwf : wf T) (i : Int) (ri : wa_r i) : Met l yX5_isFreshAnew wX5_isFreshAnew ({ frames := 4, cells := 0, slots := 0, locals := 91 } : Room) (wa_pc [.ref (ad 6 0), .int (iI i)] D cy (fun H => wa_wd D ad (wW cy ad S X T o) H)) (wa_Qi A D ad (wW cy ad S X (wa_s T 0 0 (k_img T i)) o) (bI (k_img T i = 0 ∧ f_fresh (wa_s T 0 0 0) i.toNat = true))) 0 0 A := by
  refine wa_en (by decide +kernel) (Nat.le_of_ble_eq_true rfl) ?_
  intro p e s m args below meth c F hw ls hl
  have F : wa_fx p s m c meth args cX5_isFreshAnew 2 RX5 "isFreshAnew" (Option.some FieldType.boolean) D cy := F
  have hw : wa_wd D ad (wW cy ad S X T o) s.heap := hw
  have hl : lv_has ls 2 [(0, .ref (ad 6 0)), (1, .int (iI i))] := hl
  obtain ⟨hx, hb, hml, hown, hts⟩ := id F.1
  obtain ⟨hB, w8, w21, w12, w29, w4, w7, w6, w5, w13, w25, w26, w28, w14, w3, wf17⟩ := id hwf
  have hS : va_S A s.heap s.heap [] := va_S.rf
  refine lv_aload_n hx hb dX5_isFreshAnew_0 rfl (lv_at hl 0 rfl) ?_
  refine lv_aload_n hx hb dX5_isFreshAnew_1 rfl (lv_at hl 0 rfl) ?_
  refine lv_iload_n hx hb dX5_isFreshAnew_2 rfl (lv_at hl 1 rfl) ?_
  refine wa_cp (kX5_107 F (c_X5_isImage l D cy ad S X T o hwf (i) (by exact ⟨by omega, by omega⟩)) ⟨by decide, by decide⟩ ⟨rfl, rfl⟩ hw hw rfl rfl rfl (Nat.le_of_ble_eq_true rfl) hl.1 dX5_isFreshAnew_3 ⟨Nat.le_refl _, Nat.le_refl _⟩) ?_
  by_cases b3 : f_isImage T i
  · rw [bI_t b3]
    obtain ⟨j, rfl⟩ := Int.eq_ofNat_of_zero_le b3.1
    refine wa_if_eq (tgt := 13) F dX5_isFreshAnew_6 (by decide) (by decide) (fun c6 => absurd c6 (by decide)) (fun c6 => ?_)
    refine wa_const F dX5_isFreshAnew_9 ?_
    refine wa_goto (tgt := 14) F dX5_isFreshAnew_10 (by decide) ?_
    refine wa_ci (kX5_103 F (c_X5_isFine l D cy ad S X T o A (wm_j hj _ _) (0) (by decide)) ⟨by decide, by decide⟩ ⟨rfl, rfl⟩ hw hw rfl rfl rfl (Nat.le_of_ble_eq_true rfl) hl.1 dX5_isFreshAnew_14 ⟨Nat.le_refl _, Nat.le_refl _⟩) hS (fun H locs hw hS => ?_)
    refine wa_if_eq (tgt := 32) F dX5_isFreshAnew_17 (by decide) (by decide) (fun c17 => absurd c17 (by decide)) (fun c17 => ?_)
    refine lv_aload_n hx hb dX5_isFreshAnew_20 rfl (lv_at hl 0 rfl) ?_
    refine lv_iload_n hx hb dX5_isFreshAnew_21 rfl (lv_at hl 1 rfl) ?_
    refine wa_cp (kX5_141 F (c_X5_isFreshNow l D cy ad S X (wa_s T 0 0 0) o (wf_th hwf (k := 0) (by decide)) ((j : Int)) j rfl (show (j : Int) < (wa_s T 0 0 0) 8 0 from (show (j : Int) < T 8 0 by omega))) ⟨by decide, by decide⟩ ⟨rfl, rfl⟩ hw hw rfl rfl rfl (Nat.le_of_ble_eq_true rfl) hl.1 dX5_isFreshAnew_22 ⟨Nat.le_refl _, Nat.le_refl _⟩) ?_
    by_cases b22 : f_fresh (wa_s T 0 0 0) j = true
    · rw [bI_t b22]
      refine wa_if_eq (tgt := 32) F dX5_isFreshAnew_25 (by decide) (by decide) (fun c25 => absurd c25 (by decide)) (fun c25 => ?_)
      refine wa_const F dX5_isFreshAnew_28 ?_
      refine wa_goto (tgt := 33) F dX5_isFreshAnew_29 (by decide) ?_
      have ek : k_img T (j : Int) = 0 := by simp only [k_img, f_isImage, f_isBake, Int.toNat_natCast]; (repeat' split) <;> first | rfl | omega
      rw [ek]
      exact wa_eiz F hw hS (bI_t ⟨rfl, b22⟩).symm (by decide) dX5_isFreshAnew_33
    · rw [bI_f b22]
      refine wa_if_eq (tgt := 32) F dX5_isFreshAnew_25 (by decide) (by decide) (fun c25 => ?_) (fun c25 => absurd c25 (by decide))
      refine wa_const F dX5_isFreshAnew_32 ?_
      have ek : k_img T (j : Int) = 0 := by simp only [k_img, f_isImage, f_isBake, Int.toNat_natCast]; (repeat' split) <;> first | rfl | omega
      rw [ek]
      exact wa_eiz F hw hS (bI_f (fun h => b22 h.2)).symm (by decide) dX5_isFreshAnew_33
  · rw [bI_f b3]
    refine wa_if_eq (tgt := 13) F dX5_isFreshAnew_6 (by decide) (by decide) (fun c6 => ?_) (fun c6 => absurd c6 (by decide))
    refine wa_const F dX5_isFreshAnew_13 ?_
    refine wa_ci (kX5_103 F (c_X5_isFine l D cy ad S X T o A (wm_j hj _ _) (1) (by decide)) ⟨by decide, by decide⟩ ⟨rfl, rfl⟩ hw hw rfl rfl rfl (Nat.le_of_ble_eq_true rfl) hl.1 dX5_isFreshAnew_14 ⟨Nat.le_refl _, Nat.le_refl _⟩) hS (fun H locs hw hS => ?_)
    refine wa_if_eq (tgt := 32) F dX5_isFreshAnew_17 (by decide) (by decide) (fun c17 => ?_) (fun c17 => absurd c17 (by decide))
    refine wa_const F dX5_isFreshAnew_32 ?_
    have ek : k_img T i = 1 := by simp only [k_img, f_isImage, f_isBake, Int.toNat_natCast]; (repeat' split) <;> first | rfl | omega
    rw [ek]
    exact wa_eiz F hw hS (bI_f (fun h => absurd h.1 (by decide))).symm (by decide) dX5_isFreshAnew_33
