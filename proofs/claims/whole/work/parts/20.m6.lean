/-! contracts of the reference, sixth part: the calls (laid by program) -/
set_option maxRecDepth 100000 in
set_option maxHeartbeats 4000000 in
/-- step -/
theorem c_X5_step (l : Launch) (D : va_G) (cy : Nat → ClassId) (ad : Nat → Nat → Nat) (S X T : wa_St) (o : Int64) (A : Nat → Prop) (hj : wa_wj A ad (wW cy ad S X T o)) (hwf : wf T) (i q : Int) (ri : wa_r i) (rq : wa_r q) : Met l yX5_step wX5_step ({ frames := 2, cells := 0, slots := 0, locals := 43 } : Room) (wa_pc [.ref (ad 6 0), .int (iI i), .int (iI q)] D cy (fun H => wa_wd D ad (wW cy ad S X T o) H)) (wa_Qi A D ad (wW cy ad S X (o_s T (k_step T i q) (a_step T i q)) o) (o_v (k_step T i q) (T 6 i.toNat + 1))) 0 0 A := by
  refine wa_en (by decide +kernel) (Nat.le_of_ble_eq_true rfl) ?_
  intro p e s m args below meth c F hw ls hl
  have F : wa_fx p s m c meth args cX5_step 4 RX5 "step" (Option.some FieldType.int) D cy := F
  have hw : wa_wd D ad (wW cy ad S X T o) s.heap := hw
  have hl : lv_has ls 4 [(0, .ref (ad 6 0)), (1, .int (iI i)), (2, .int (iI q))] := hl
  obtain ⟨hx, hb, hml, hown, hts⟩ := id F.1
  obtain ⟨hB, w8, w21, w12, w29, w4, w7, w6, w5, w13, w25, w26, w28, w14, w3, wf17⟩ := id hwf
  have hS : va_S A s.heap s.heap [] := va_S.rf
  refine lv_aload_n hx hb dX5_step_0 rfl (lv_at hl 0 rfl) ?_
  refine lv_iload_n hx hb dX5_step_1 rfl (lv_at hl 1 rfl) ?_
  refine wa_cp (kX5_107 F (c_X5_isImage l D cy ad S X T o hwf (i) (by have q0 := ri; exact ⟨by omega, by omega⟩)) ⟨by decide, by decide⟩ ⟨rfl, rfl⟩ hw hw rfl rfl rfl (Nat.le_of_ble_eq_true rfl) hl.1 dX5_step_2 ⟨Nat.le_refl _, Nat.le_refl _⟩) ?_
  by_cases b2 : f_isImage T i
  · rw [bI_t b2]
    obtain ⟨j, rfl⟩ := Int.eq_ofNat_of_zero_le b2.1
    refine lv_istore_n (lv' := [(3, .int (iI 1)), (0, .ref (ad 6 0)), (1, .int (iI (j : Int))), (2, .int (iI q))]) hx hb dX5_step_5 rfl hl (by decide) rfl (fun ls hl => ?_)
    refine lv_aload_n hx hb dX5_step_6 rfl (lv_at hl 1 rfl) ?_
    refine lv_iload_n hx hb dX5_step_7 rfl (lv_at hl 0 rfl) ?_
    refine wa_if_ne (tgt := 15) F dX5_step_8 (by decide) (by decide) (fun c8 => ?_) (fun c8 => absurd c8 (by decide))
    refine lv_iload_n hx hb dX5_step_15 rfl (lv_at hl 3 rfl) ?_
    refine wa_const F dX5_step_16 ?_
    refine wa_bi F dX5_step_17 (by decide +kernel) ?_
    refine wa_cp (kX5_96 F (c_X5_isIn l D cy ad S X T o (q) (0) (9) (by have q0 := rq; exact ⟨by omega, by omega⟩) (by decide) (by decide)) ⟨by decide, by decide⟩ ⟨rfl, rfl⟩ hw rfl rfl (Nat.le_of_ble_eq_true rfl) hl.1 dX5_step_19 ⟨Nat.le_refl _, Nat.le_refl _⟩) ?_
    by_cases b19 : 0 ≤ q ∧ q ≤ 9
    · rw [bI_t b19]
      refine wa_if_ne (tgt := 29) F dX5_step_22 (by decide) (by decide) (fun c22 => ?_) (fun c22 => absurd c22 (by decide))
      refine lv_aload_n hx hb dX5_step_29 rfl (lv_at hl 1 rfl) ?_
      refine gX5_22 F hw rfl (v := .ref (ad 6 6)) rfl dX5_step_30 ?_
      refine lv_iload_n hx hb dX5_step_33 rfl (lv_at hl 2 rfl) ?_
      refine aM_6 F hw j rfl (by omega) dX5_step_34 ?_
      refine wa_const F dX5_step_35 ?_
      refine wa_ic_ne (tgt := 43) F dX5_step_36 (by decide) (by have q0 := hB 6 j; exact ⟨by omega, by omega⟩) (by decide) (fun c36 => ?_) (fun c36 => ?_)
      · skip
        refine wa_const F dX5_step_43 ?_
        refine wa_ci (kX5_103 F (c_X5_isFine l D cy ad S X T o A (wm_j hj _ _) (0) (by decide)) ⟨by decide, by decide⟩ ⟨rfl, rfl⟩ hw hw rfl rfl rfl (Nat.le_of_ble_eq_true rfl) hl.1 dX5_step_44 ⟨Nat.le_refl _, Nat.le_refl _⟩) hS (fun H locs hw hS => ?_)
        refine wa_if_ne (tgt := 52) F dX5_step_47 (by decide) (by decide) (fun c47 => ?_) (fun c47 => absurd c47 (by decide))
        refine lv_aload_n hx hb dX5_step_52 rfl (lv_at hl 1 rfl) ?_
        refine gX5_19 F hw rfl (v := .ref (ad 6 5)) rfl dX5_step_53 ?_
        refine wa_const F dX5_step_56 ?_
        refine lv_iload_n hx hb dX5_step_57 rfl (lv_at hl 2 rfl) ?_
        refine wa_mul F dX5_step_58 ?_
        refine lv_aload_n hx hb dX5_step_59 rfl (lv_at hl 1 rfl) ?_
        refine gX5_22 F hw rfl (v := .ref (ad 6 6)) rfl dX5_step_60 ?_
        refine lv_iload_n hx hb dX5_step_63 rfl (lv_at hl 2 rfl) ?_
        refine aM_6 F hw j rfl (by omega) dX5_step_64 ?_
        refine W.eq (g2 := F0 m 65 ls [.int (iI (T 6 j)), .int (iI (5 * (j : Int))), .ref (ad 6 5)]) rfl ?_
        refine wa_add F dX5_step_65 ?_
        refine lv_iload_n hx hb dX5_step_66 rfl (lv_at hl 3 rfl) ?_
        have w6j := w6 j
        refine sM_5 F hw (wm_j hj _ _) hS (5 * j + (T 6 j).toNat) (by omega) (by have q0 := hB 6 j; omega) dX5_step_67 (fun H locs hw hS => ?_)
        refine lv_aload_n hx hb dX5_step_68 rfl (lv_at hl 1 rfl) ?_
        refine gX5_22 F hw rfl (v := .ref (ad 6 6)) rfl dX5_step_69 ?_
        refine lv_iload_n hx hb dX5_step_72 rfl (lv_at hl 2 rfl) ?_
        refine lv_dup2_11 hx hb dX5_step_73 rfl rfl ?_
        refine aM_6 F hw j rfl (by omega) dX5_step_74 ?_
        refine W.eq (g2 := F0 m 75 ls [.int (iI (T 6 j)), .int (iI (j : Int)), .ref (ad 6 6)]) rfl ?_
        refine wa_const F dX5_step_75 ?_
        refine wa_add F dX5_step_76 ?_
        refine sM_6 F hw (wm_j hj _ _) hS j rfl (by omega) dX5_step_77 (fun H locs hw hS => ?_)
        refine lv_aload_n hx hb dX5_step_78 rfl (lv_at hl 1 rfl) ?_
        refine gX5_22 F hw rfl (v := .ref (ad 6 6)) rfl dX5_step_79 ?_
        refine lv_iload_n hx hb dX5_step_82 rfl (lv_at hl 2 rfl) ?_
        refine aM_6 F hw j rfl (by omega) dX5_step_83 ?_
        rw [show (wa_s (wa_s (wa_s T 0 0 0) 5 (5 * j + (T 6 j).toNat) q) 6 j ((T 6 j) + 1)) 6 j = ((T 6 j) + 1) from by simp [wa_s]]
        have ek : k_step T (j : Int) q = 0 := by simp only [k_step, f_isImage, f_isBake, Int.toNat_natCast]; (repeat' split) <;> first | rfl | omega
        rw [ek]
        exact wa_ei F hw hS (by first | rfl | simp [wa_s] | omega) dX5_step_84
      · skip
        refine wa_const F dX5_step_39 ?_
        refine wa_goto (tgt := 44) F dX5_step_40 (by decide) ?_
        refine wa_ci (kX5_103 F (c_X5_isFine l D cy ad S X T o A (wm_j hj _ _) (3) (by decide)) ⟨by decide, by decide⟩ ⟨rfl, rfl⟩ hw hw rfl rfl rfl (Nat.le_of_ble_eq_true rfl) hl.1 dX5_step_44 ⟨Nat.le_refl _, Nat.le_refl _⟩) hS (fun H locs hw hS => ?_)
        refine wa_if_ne (tgt := 52) F dX5_step_47 (by decide) (by decide) (fun c47 => absurd c47 (by decide)) (fun c47 => ?_)
        refine wa_const F dX5_step_50 ?_
        have ek : k_step T (j : Int) q = 3 := by simp only [k_step, f_isImage, f_isBake, Int.toNat_natCast]; (repeat' split) <;> first | rfl | omega
        rw [ek]
        exact wa_ei F hw hS (by first | rfl | simp [wa_s] | omega) dX5_step_51
    · rw [bI_f b19]
      refine wa_if_ne (tgt := 29) F dX5_step_22 (by decide) (by decide) (fun c22 => absurd c22 (by decide)) (fun c22 => ?_)
      refine wa_const F dX5_step_25 ?_
      refine wa_goto (tgt := 44) F dX5_step_26 (by decide) ?_
      refine wa_ci (kX5_103 F (c_X5_isFine l D cy ad S X T o A (wm_j hj _ _) (2) (by decide)) ⟨by decide, by decide⟩ ⟨rfl, rfl⟩ hw hw rfl rfl rfl (Nat.le_of_ble_eq_true rfl) hl.1 dX5_step_44 ⟨Nat.le_refl _, Nat.le_refl _⟩) hS (fun H locs hw hS => ?_)
      refine wa_if_ne (tgt := 52) F dX5_step_47 (by decide) (by decide) (fun c47 => absurd c47 (by decide)) (fun c47 => ?_)
      refine wa_const F dX5_step_50 ?_
      have ek : k_step T (j : Int) q = 2 := by simp only [k_step, f_isImage, f_isBake, Int.toNat_natCast]; (repeat' split) <;> first | rfl | omega
      rw [ek]
      exact wa_ei F hw hS (by first | rfl | simp [wa_s] | omega) dX5_step_51
  · rw [bI_f b2]
    refine lv_istore_n (lv' := [(3, .int (iI 0)), (0, .ref (ad 6 0)), (1, .int (iI i)), (2, .int (iI q))]) hx hb dX5_step_5 rfl hl (by decide) rfl (fun ls hl => ?_)
    refine lv_aload_n hx hb dX5_step_6 rfl (lv_at hl 1 rfl) ?_
    refine lv_iload_n hx hb dX5_step_7 rfl (lv_at hl 0 rfl) ?_
    refine wa_if_ne (tgt := 15) F dX5_step_8 (by decide) (by decide) (fun c8 => absurd c8 (by decide)) (fun c8 => ?_)
    refine wa_const F dX5_step_11 ?_
    refine wa_goto (tgt := 44) F dX5_step_12 (by decide) ?_
    refine wa_ci (kX5_103 F (c_X5_isFine l D cy ad S X T o A (wm_j hj _ _) (1) (by decide)) ⟨by decide, by decide⟩ ⟨rfl, rfl⟩ hw hw rfl rfl rfl (Nat.le_of_ble_eq_true rfl) hl.1 dX5_step_44 ⟨Nat.le_refl _, Nat.le_refl _⟩) hS (fun H locs hw hS => ?_)
    refine wa_if_ne (tgt := 52) F dX5_step_47 (by decide) (by decide) (fun c47 => absurd c47 (by decide)) (fun c47 => ?_)
    refine wa_const F dX5_step_50 ?_
    have ek : k_step T i q = 1 := by simp only [k_step, f_isImage, f_isBake, Int.toNat_natCast]; (repeat' split) <;> first | rfl | omega
    rw [ek]
    exact wa_ei F hw hS (by first | rfl | simp [wa_s] | omega) dX5_step_51
set_option maxRecDepth 100000 in
set_option maxHeartbeats 4000000 in
/-- change -/
theorem c_X5_change (l : Launch) (D : va_G) (cy : Nat → ClassId) (ad : Nat → Nat → Nat) (S X T : wa_St) (o : Int64) (A : Nat → Prop) (hj : wa_wj A ad (wW cy ad S X T o)) (hwf : wf T) (i q : Int) (ri : wa_r i) (rq : wa_r q) : Met l yX5_change wX5_change ({ frames := 1, cells := 0, slots := 0, locals := 22 } : Room) (wa_pc [.ref (ad 6 0), .int (iI i), .int (iI q)] D cy (fun H => wa_wd D ad (wW cy ad S X T o) H)) (wa_Qi A D ad (wW cy ad S X (o_s T (k_change T i q) (a_change T i q)) o) (o_v (k_change T i q) (if q = -1 then T 3 i.toNat + 1 else q))) 0 0 A := by
  refine wa_en (by decide +kernel) (Nat.le_of_ble_eq_true rfl) ?_
  intro p e s m args below meth c F hw ls hl
  have F : wa_fx p s m c meth args cX5_change 4 RX5 "change" (Option.some FieldType.int) D cy := F
  have hw : wa_wd D ad (wW cy ad S X T o) s.heap := hw
  have hl : lv_has ls 4 [(0, .ref (ad 6 0)), (1, .int (iI i)), (2, .int (iI q))] := hl
  obtain ⟨hx, hb, hml, hown, hts⟩ := id F.1
  obtain ⟨hB, w8, w21, w12, w29, w4, w7, w6, w5, w13, w25, w26, w28, w14, w3, wf17⟩ := id hwf
  have hS : va_S A s.heap s.heap [] := va_S.rf
  refine lv_iload_n hx hb dX5_change_0 rfl (lv_at hl 1 rfl) ?_
  refine wa_const F dX5_change_1 ?_
  refine wa_bi F dX5_change_2 (by decide +kernel) ?_
  refine wa_cp (kX5_96 F (c_X5_isIn l D cy ad S X T o (i) (0) (9) (by have q0 := ri; exact ⟨by omega, by omega⟩) (by decide) (by decide)) ⟨by decide, by decide⟩ ⟨rfl, rfl⟩ hw rfl rfl (Nat.le_of_ble_eq_true rfl) hl.1 dX5_change_4 ⟨Nat.le_refl _, Nat.le_refl _⟩) ?_
  by_cases b4 : 0 ≤ i ∧ i ≤ 9
  · rw [bI_t b4]
    obtain ⟨j, rfl⟩ := Int.eq_ofNat_of_zero_le b4.1
    refine wa_if_eq (tgt := 35) F dX5_change_7 (by decide) (by decide) (fun c7 => absurd c7 (by decide)) (fun c7 => ?_)
    refine lv_iload_n hx hb dX5_change_10 rfl (lv_at hl 2 rfl) ?_
    refine wa_const F dX5_change_11 ?_
    refine wa_ic_eq (tgt := 31) F dX5_change_12 (by decide) (by have q0 := rq; exact ⟨by omega, by omega⟩) (by decide) (fun c12 => ?_) (fun c12 => ?_)
    · skip
      refine wa_const F dX5_change_31 ?_
      refine wa_goto (tgt := 36) F dX5_change_32 (by decide) ?_
      refine lv_istore_n (lv' := [(3, .int (iI 1)), (0, .ref (ad 6 0)), (1, .int (iI (j : Int))), (2, .int (iI q))]) hx hb dX5_change_36 rfl hl (by decide) rfl (fun ls hl => ?_)
      refine lv_aload_n hx hb dX5_change_37 rfl (lv_at hl 1 rfl) ?_
      refine lv_iload_n hx hb dX5_change_38 rfl (lv_at hl 0 rfl) ?_
      refine wa_if_eq (tgt := 46) F dX5_change_39 (by decide) (by decide) (fun c39 => absurd c39 (by decide)) (fun c39 => ?_)
      refine wa_const F dX5_change_42 ?_
      refine wa_goto (tgt := 47) F dX5_change_43 (by decide) ?_
      refine wa_ci (kX5_103 F (c_X5_isFine l D cy ad S X T o A (wm_j hj _ _) (0) (by decide)) ⟨by decide, by decide⟩ ⟨rfl, rfl⟩ hw hw rfl rfl rfl (Nat.le_of_ble_eq_true rfl) hl.1 dX5_change_47 ⟨Nat.le_refl _, Nat.le_refl _⟩) hS (fun H locs hw hS => ?_)
      refine wa_if_ne (tgt := 55) F dX5_change_50 (by decide) (by decide) (fun c50 => ?_) (fun c50 => absurd c50 (by decide))
      refine lv_aload_n hx hb dX5_change_55 rfl (lv_at hl 1 rfl) ?_
      refine gX5_13 F hw rfl (v := .ref (ad 6 3)) rfl dX5_change_56 ?_
      refine lv_iload_n hx hb dX5_change_59 rfl (lv_at hl 2 rfl) ?_
      refine lv_dup2_11 hx hb dX5_change_60 rfl rfl ?_
      refine aM_3 F hw j rfl (by omega) dX5_change_61 ?_
      refine W.eq (g2 := F0 m 62 ls [.int (iI (T 3 j)), .int (iI (j : Int)), .ref (ad 6 3)]) rfl ?_
      refine lv_iload_n hx hb dX5_change_62 rfl (lv_at hl 3 rfl) ?_
      refine wa_const F dX5_change_63 ?_
      refine wa_ic_ne (tgt := 71) F dX5_change_64 (by decide) (by have q0 := rq; exact ⟨by omega, by omega⟩) (by decide) (fun c64 => ?_) (fun c64 => ?_)
      · skip
        refine wa_const F dX5_change_71 ?_
        refine wa_add F dX5_change_72 ?_
        refine sM_3 F hw (wm_j hj _ _) hS j rfl (by omega) dX5_change_73 (fun H locs hw hS => ?_)
        refine lv_aload_n hx hb dX5_change_74 rfl (lv_at hl 1 rfl) ?_
        refine gX5_7 F hw rfl (v := .ref (ad 6 2)) rfl dX5_change_75 ?_
        refine lv_iload_n hx hb dX5_change_78 rfl (lv_at hl 2 rfl) ?_
        refine lv_iload_n hx hb dX5_change_79 rfl (lv_at hl 3 rfl) ?_
        refine wa_const F dX5_change_80 ?_
        refine wa_ic_ne (tgt := 93) F dX5_change_81 (by decide) (by have q0 := rq; exact ⟨by omega, by omega⟩) (by decide) (fun c81 => ?_) (fun c81 => absurd c81 (by omega))
        refine lv_iload_n hx hb dX5_change_93 rfl (lv_at hl 3 rfl) ?_
        refine sM_2 F hw (wm_j hj _ _) hS j rfl (by omega) dX5_change_94 (fun H locs hw hS => ?_)
        refine lv_aload_n hx hb dX5_change_95 rfl (lv_at hl 1 rfl) ?_
        refine gX5_7 F hw rfl (v := .ref (ad 6 2)) rfl dX5_change_96 ?_
        refine lv_iload_n hx hb dX5_change_99 rfl (lv_at hl 2 rfl) ?_
        refine aM_2 F hw j rfl (by omega) dX5_change_100 ?_
        rw [show (wa_s (wa_s (wa_s T 0 0 0) 3 j ((T 3 j) + 0)) 2 j q) 2 j = q from by simp [wa_s]]
        have ek : k_change T (j : Int) q = 0 := by simp only [k_change, f_isImage, f_isBake, Int.toNat_natCast]; (repeat' split) <;> first | rfl | omega
        rw [ek]
        rw [show o_s T 0 (a_change T (j : Int) q) = (wa_s (wa_s (wa_s T 0 0 0) 3 j ((T 3 j) + 0)) 2 j q) from by simp only [o_s, a_change, if_neg c64, if_true, if_false, Int.toNat_natCast]]
        rw [show o_v 0 (if q = -1 then T 3 (j : Int).toNat + 1 else q) = q from by simp [o_v, c64]]
        exact wa_ei F hw hS rfl dX5_change_101
      · skip
        refine wa_const F dX5_change_67 ?_
        refine wa_goto (tgt := 72) F dX5_change_68 (by decide) ?_
        refine wa_add F dX5_change_72 ?_
        refine sM_3 F hw (wm_j hj _ _) hS j rfl (by omega) dX5_change_73 (fun H locs hw hS => ?_)
        refine lv_aload_n hx hb dX5_change_74 rfl (lv_at hl 1 rfl) ?_
        refine gX5_7 F hw rfl (v := .ref (ad 6 2)) rfl dX5_change_75 ?_
        refine lv_iload_n hx hb dX5_change_78 rfl (lv_at hl 2 rfl) ?_
        refine lv_iload_n hx hb dX5_change_79 rfl (lv_at hl 3 rfl) ?_
        refine wa_const F dX5_change_80 ?_
        refine wa_ic_ne (tgt := 93) F dX5_change_81 (by decide) (by have q0 := rq; exact ⟨by omega, by omega⟩) (by decide) (fun c81 => absurd c81 (by omega)) (fun c81 => ?_)
        refine lv_aload_n hx hb dX5_change_84 rfl (lv_at hl 1 rfl) ?_
        refine gX5_13 F hw rfl (v := .ref (ad 6 3)) rfl dX5_change_85 ?_
        refine lv_iload_n hx hb dX5_change_88 rfl (lv_at hl 2 rfl) ?_
        refine aM_3 F hw j rfl (by omega) dX5_change_89 ?_
        rw [show (wa_s (wa_s T 0 0 0) 3 j ((T 3 j) + 1)) 3 j = ((T 3 j) + 1) from by simp [wa_s]]
        refine wa_goto (tgt := 94) F dX5_change_90 (by decide) ?_
        refine sM_2 F hw (wm_j hj _ _) hS j rfl (by omega) dX5_change_94 (fun H locs hw hS => ?_)
        refine lv_aload_n hx hb dX5_change_95 rfl (lv_at hl 1 rfl) ?_
        refine gX5_7 F hw rfl (v := .ref (ad 6 2)) rfl dX5_change_96 ?_
        refine lv_iload_n hx hb dX5_change_99 rfl (lv_at hl 2 rfl) ?_
        refine aM_2 F hw j rfl (by omega) dX5_change_100 ?_
        rw [show (wa_s (wa_s (wa_s T 0 0 0) 3 j ((T 3 j) + 1)) 2 j ((T 3 j) + 1)) 2 j = ((T 3 j) + 1) from by simp [wa_s]]
        have ek : k_change T (j : Int) q = 0 := by simp only [k_change, f_isImage, f_isBake, Int.toNat_natCast]; (repeat' split) <;> first | rfl | omega
        rw [ek]
        rw [show o_s T 0 (a_change T (j : Int) q) = (wa_s (wa_s (wa_s T 0 0 0) 3 j ((T 3 j) + 1)) 2 j ((T 3 j) + 1)) from by simp only [o_s, a_change, if_pos c64, if_true, if_false, Int.toNat_natCast]]
        rw [show o_v 0 (if q = -1 then T 3 (j : Int).toNat + 1 else q) = ((T 3 j) + 1) from by simp [o_v, c64]]
        exact wa_ei F hw hS rfl dX5_change_101
    · skip
      refine lv_iload_n hx hb dX5_change_15 rfl (lv_at hl 2 rfl) ?_
      refine wa_const F dX5_change_16 ?_
      refine lv_aload_n hx hb dX5_change_17 rfl (lv_at hl 0 rfl) ?_
      refine gX5_13 F hw rfl (v := .ref (ad 6 3)) rfl dX5_change_18 ?_
      refine lv_iload_n hx hb dX5_change_21 rfl (lv_at hl 1 rfl) ?_
      refine aM_3 F hw j rfl (by omega) dX5_change_22 ?_
      refine wa_const F dX5_change_23 ?_
      refine wa_sub F dX5_change_24 ?_
      refine wa_cp (kX5_96 F (c_X5_isIn l D cy ad S X T o (q) (0) (((T 3 j) - 1)) (by have q0 := rq; exact ⟨by omega, by omega⟩) (by decide) (by have q0 := hB 3 j; exact ⟨by omega, by omega⟩)) ⟨by decide, by decide⟩ ⟨rfl, rfl⟩ hw rfl rfl (Nat.le_of_ble_eq_true rfl) hl.1 dX5_change_25 ⟨Nat.le_refl _, Nat.le_refl _⟩) ?_
      by_cases b25 : 0 ≤ q ∧ q ≤ ((T 3 j) - 1)
      · rw [bI_t b25]
        refine wa_if_eq (tgt := 35) F dX5_change_28 (by decide) (by decide) (fun c28 => absurd c28 (by decide)) (fun c28 => ?_)
        refine wa_const F dX5_change_31 ?_
        refine wa_goto (tgt := 36) F dX5_change_32 (by decide) ?_
        refine lv_istore_n (lv' := [(3, .int (iI 1)), (0, .ref (ad 6 0)), (1, .int (iI (j : Int))), (2, .int (iI q))]) hx hb dX5_change_36 rfl hl (by decide) rfl (fun ls hl => ?_)
        refine lv_aload_n hx hb dX5_change_37 rfl (lv_at hl 1 rfl) ?_
        refine lv_iload_n hx hb dX5_change_38 rfl (lv_at hl 0 rfl) ?_
        refine wa_if_eq (tgt := 46) F dX5_change_39 (by decide) (by decide) (fun c39 => absurd c39 (by decide)) (fun c39 => ?_)
        refine wa_const F dX5_change_42 ?_
        refine wa_goto (tgt := 47) F dX5_change_43 (by decide) ?_
        refine wa_ci (kX5_103 F (c_X5_isFine l D cy ad S X T o A (wm_j hj _ _) (0) (by decide)) ⟨by decide, by decide⟩ ⟨rfl, rfl⟩ hw hw rfl rfl rfl (Nat.le_of_ble_eq_true rfl) hl.1 dX5_change_47 ⟨Nat.le_refl _, Nat.le_refl _⟩) hS (fun H locs hw hS => ?_)
        refine wa_if_ne (tgt := 55) F dX5_change_50 (by decide) (by decide) (fun c50 => ?_) (fun c50 => absurd c50 (by decide))
        refine lv_aload_n hx hb dX5_change_55 rfl (lv_at hl 1 rfl) ?_
        refine gX5_13 F hw rfl (v := .ref (ad 6 3)) rfl dX5_change_56 ?_
        refine lv_iload_n hx hb dX5_change_59 rfl (lv_at hl 2 rfl) ?_
        refine lv_dup2_11 hx hb dX5_change_60 rfl rfl ?_
        refine aM_3 F hw j rfl (by omega) dX5_change_61 ?_
        refine W.eq (g2 := F0 m 62 ls [.int (iI (T 3 j)), .int (iI (j : Int)), .ref (ad 6 3)]) rfl ?_
        refine lv_iload_n hx hb dX5_change_62 rfl (lv_at hl 3 rfl) ?_
        refine wa_const F dX5_change_63 ?_
        refine wa_ic_ne (tgt := 71) F dX5_change_64 (by decide) (by have q0 := rq; exact ⟨by omega, by omega⟩) (by decide) (fun c64 => ?_) (fun c64 => ?_)
        · skip
          refine wa_const F dX5_change_71 ?_
          refine wa_add F dX5_change_72 ?_
          refine sM_3 F hw (wm_j hj _ _) hS j rfl (by omega) dX5_change_73 (fun H locs hw hS => ?_)
          refine lv_aload_n hx hb dX5_change_74 rfl (lv_at hl 1 rfl) ?_
          refine gX5_7 F hw rfl (v := .ref (ad 6 2)) rfl dX5_change_75 ?_
          refine lv_iload_n hx hb dX5_change_78 rfl (lv_at hl 2 rfl) ?_
          refine lv_iload_n hx hb dX5_change_79 rfl (lv_at hl 3 rfl) ?_
          refine wa_const F dX5_change_80 ?_
          refine wa_ic_ne (tgt := 93) F dX5_change_81 (by decide) (by have q0 := rq; exact ⟨by omega, by omega⟩) (by decide) (fun c81 => ?_) (fun c81 => absurd c81 (by omega))
          refine lv_iload_n hx hb dX5_change_93 rfl (lv_at hl 3 rfl) ?_
          refine sM_2 F hw (wm_j hj _ _) hS j rfl (by omega) dX5_change_94 (fun H locs hw hS => ?_)
          refine lv_aload_n hx hb dX5_change_95 rfl (lv_at hl 1 rfl) ?_
          refine gX5_7 F hw rfl (v := .ref (ad 6 2)) rfl dX5_change_96 ?_
          refine lv_iload_n hx hb dX5_change_99 rfl (lv_at hl 2 rfl) ?_
          refine aM_2 F hw j rfl (by omega) dX5_change_100 ?_
          rw [show (wa_s (wa_s (wa_s T 0 0 0) 3 j ((T 3 j) + 0)) 2 j q) 2 j = q from by simp [wa_s]]
          have ek : k_change T (j : Int) q = 0 := by simp only [k_change, f_isImage, f_isBake, Int.toNat_natCast]; (repeat' split) <;> first | rfl | omega
          rw [ek]
          rw [show o_s T 0 (a_change T (j : Int) q) = (wa_s (wa_s (wa_s T 0 0 0) 3 j ((T 3 j) + 0)) 2 j q) from by simp only [o_s, a_change, if_neg c64, if_true, if_false, Int.toNat_natCast]]
          rw [show o_v 0 (if q = -1 then T 3 (j : Int).toNat + 1 else q) = q from by simp [o_v, c64]]
          exact wa_ei F hw hS rfl dX5_change_101
        · skip
          refine wa_const F dX5_change_67 ?_
          refine wa_goto (tgt := 72) F dX5_change_68 (by decide) ?_
          refine wa_add F dX5_change_72 ?_
          refine sM_3 F hw (wm_j hj _ _) hS j rfl (by omega) dX5_change_73 (fun H locs hw hS => ?_)
          refine lv_aload_n hx hb dX5_change_74 rfl (lv_at hl 1 rfl) ?_
          refine gX5_7 F hw rfl (v := .ref (ad 6 2)) rfl dX5_change_75 ?_
          refine lv_iload_n hx hb dX5_change_78 rfl (lv_at hl 2 rfl) ?_
          refine lv_iload_n hx hb dX5_change_79 rfl (lv_at hl 3 rfl) ?_
          refine wa_const F dX5_change_80 ?_
          refine wa_ic_ne (tgt := 93) F dX5_change_81 (by decide) (by have q0 := rq; exact ⟨by omega, by omega⟩) (by decide) (fun c81 => absurd c81 (by omega)) (fun c81 => ?_)
          refine lv_aload_n hx hb dX5_change_84 rfl (lv_at hl 1 rfl) ?_
          refine gX5_13 F hw rfl (v := .ref (ad 6 3)) rfl dX5_change_85 ?_
          refine lv_iload_n hx hb dX5_change_88 rfl (lv_at hl 2 rfl) ?_
          refine aM_3 F hw j rfl (by omega) dX5_change_89 ?_
          rw [show (wa_s (wa_s T 0 0 0) 3 j ((T 3 j) + 1)) 3 j = ((T 3 j) + 1) from by simp [wa_s]]
          refine wa_goto (tgt := 94) F dX5_change_90 (by decide) ?_
          refine sM_2 F hw (wm_j hj _ _) hS j rfl (by omega) dX5_change_94 (fun H locs hw hS => ?_)
          refine lv_aload_n hx hb dX5_change_95 rfl (lv_at hl 1 rfl) ?_
          refine gX5_7 F hw rfl (v := .ref (ad 6 2)) rfl dX5_change_96 ?_
          refine lv_iload_n hx hb dX5_change_99 rfl (lv_at hl 2 rfl) ?_
          refine aM_2 F hw j rfl (by omega) dX5_change_100 ?_
          rw [show (wa_s (wa_s (wa_s T 0 0 0) 3 j ((T 3 j) + 1)) 2 j ((T 3 j) + 1)) 2 j = ((T 3 j) + 1) from by simp [wa_s]]
          have ek : k_change T (j : Int) q = 0 := by simp only [k_change, f_isImage, f_isBake, Int.toNat_natCast]; (repeat' split) <;> first | rfl | omega
          rw [ek]
          rw [show o_s T 0 (a_change T (j : Int) q) = (wa_s (wa_s (wa_s T 0 0 0) 3 j ((T 3 j) + 1)) 2 j ((T 3 j) + 1)) from by simp only [o_s, a_change, if_pos c64, if_true, if_false, Int.toNat_natCast]]
          rw [show o_v 0 (if q = -1 then T 3 (j : Int).toNat + 1 else q) = ((T 3 j) + 1) from by simp [o_v, c64]]
          exact wa_ei F hw hS rfl dX5_change_101
      · rw [bI_f b25]
        refine wa_if_eq (tgt := 35) F dX5_change_28 (by decide) (by decide) (fun c28 => ?_) (fun c28 => absurd c28 (by decide))
        refine wa_const F dX5_change_35 ?_
        refine lv_istore_n (lv' := [(3, .int (iI 0)), (0, .ref (ad 6 0)), (1, .int (iI (j : Int))), (2, .int (iI q))]) hx hb dX5_change_36 rfl hl (by decide) rfl (fun ls hl => ?_)
        refine lv_aload_n hx hb dX5_change_37 rfl (lv_at hl 1 rfl) ?_
        refine lv_iload_n hx hb dX5_change_38 rfl (lv_at hl 0 rfl) ?_
        refine wa_if_eq (tgt := 46) F dX5_change_39 (by decide) (by decide) (fun c39 => ?_) (fun c39 => absurd c39 (by decide))
        refine wa_const F dX5_change_46 ?_
        refine wa_ci (kX5_103 F (c_X5_isFine l D cy ad S X T o A (wm_j hj _ _) (1) (by decide)) ⟨by decide, by decide⟩ ⟨rfl, rfl⟩ hw hw rfl rfl rfl (Nat.le_of_ble_eq_true rfl) hl.1 dX5_change_47 ⟨Nat.le_refl _, Nat.le_refl _⟩) hS (fun H locs hw hS => ?_)
        refine wa_if_ne (tgt := 55) F dX5_change_50 (by decide) (by decide) (fun c50 => absurd c50 (by decide)) (fun c50 => ?_)
        refine wa_const F dX5_change_53 ?_
        have ek : k_change T (j : Int) q = 1 := by simp only [k_change, f_isImage, f_isBake, Int.toNat_natCast]; (repeat' split) <;> first | rfl | omega
        rw [ek]
        exact wa_ei F hw hS rfl dX5_change_54
  · rw [bI_f b4]
    refine wa_if_eq (tgt := 35) F dX5_change_7 (by decide) (by decide) (fun c7 => ?_) (fun c7 => absurd c7 (by decide))
    refine wa_const F dX5_change_35 ?_
    refine lv_istore_n (lv' := [(3, .int (iI 0)), (0, .ref (ad 6 0)), (1, .int (iI i)), (2, .int (iI q))]) hx hb dX5_change_36 rfl hl (by decide) rfl (fun ls hl => ?_)
    refine lv_aload_n hx hb dX5_change_37 rfl (lv_at hl 1 rfl) ?_
    refine lv_iload_n hx hb dX5_change_38 rfl (lv_at hl 0 rfl) ?_
    refine wa_if_eq (tgt := 46) F dX5_change_39 (by decide) (by decide) (fun c39 => ?_) (fun c39 => absurd c39 (by decide))
    refine wa_const F dX5_change_46 ?_
    refine wa_ci (kX5_103 F (c_X5_isFine l D cy ad S X T o A (wm_j hj _ _) (1) (by decide)) ⟨by decide, by decide⟩ ⟨rfl, rfl⟩ hw hw rfl rfl rfl (Nat.le_of_ble_eq_true rfl) hl.1 dX5_change_47 ⟨Nat.le_refl _, Nat.le_refl _⟩) hS (fun H locs hw hS => ?_)
    refine wa_if_ne (tgt := 55) F dX5_change_50 (by decide) (by decide) (fun c50 => absurd c50 (by decide)) (fun c50 => ?_)
    refine wa_const F dX5_change_53 ?_
    have ek : k_change T i q = 1 := by simp only [k_change, f_isImage, f_isBake, Int.toNat_natCast]; (repeat' split) <;> first | rfl | omega
    rw [ek]
    exact wa_ei F hw hS rfl dX5_change_54
set_option maxRecDepth 100000 in
set_option maxHeartbeats 4000000 in
/-- bake -/
theorem c_X5_bake (l : Launch) (D : va_G) (cy : Nat → ClassId) (ad : Nat → Nat → Nat) (S X T : wa_St) (o : Int64) (A : Nat → Prop) (hj : wa_wj A ad (wW cy ad S X T o)) (hwf : wf T) (i : Int) (ri : wa_r i) (hl5 : T 12 0 ≤ 5 * T 21 0) : Met l yX5_bake wX5_bake ({ frames := 3, cells := 0, slots := 0, locals := 68 } : Room) (wa_pc [.ref (ad 6 0), .int (iI i)] D cy (fun H => wa_wd D ad (wW cy ad S X T o) H)) (wa_Qi A D ad (wW cy ad S X (o_s T (k_bake T i) (a_bake T i)) o) (o_v (k_bake T i) ((a_bake T i) 7 i.toNat))) 0 0 A := by
  refine wa_en (by decide +kernel) (Nat.le_of_ble_eq_true rfl) ?_
  intro p e s m args below meth c F hw ls hl
  have F : wa_fx p s m c meth args cX5_bake 3 RX5 "bake" (Option.some FieldType.int) D cy := F
  have hw : wa_wd D ad (wW cy ad S X T o) s.heap := hw
  have hl : lv_has ls 3 [(0, .ref (ad 6 0)), (1, .int (iI i))] := hl
  obtain ⟨hx, hb, hml, hown, hts⟩ := id F.1
  obtain ⟨hB, w8, w21, w12, w29, w4, w7, w6, w5, w13, w25, w26, w28, w14, w3, wf17⟩ := id hwf
  have hS : va_S A s.heap s.heap [] := va_S.rf
  refine lv_aload_n hx hb dX5_bake_0 rfl (lv_at hl 0 rfl) ?_
  refine lv_iload_n hx hb dX5_bake_1 rfl (lv_at hl 1 rfl) ?_
  refine wa_cp (kX5_107 F (c_X5_isImage l D cy ad S X T o hwf (i) (by have q0 := ri; exact ⟨by omega, by omega⟩)) ⟨by decide, by decide⟩ ⟨rfl, rfl⟩ hw hw rfl rfl rfl (Nat.le_of_ble_eq_true rfl) hl.1 dX5_bake_2 ⟨Nat.le_refl _, Nat.le_refl _⟩) ?_
  by_cases b2 : f_isImage T i
  · rw [bI_t b2]
    obtain ⟨j, rfl⟩ := Int.eq_ofNat_of_zero_le b2.1
    refine lv_istore_n (lv' := [(2, .int (iI 1)), (0, .ref (ad 6 0)), (1, .int (iI (j : Int)))]) hx hb dX5_bake_5 rfl hl (by decide) rfl (fun ls hl => ?_)
    refine lv_aload_n hx hb dX5_bake_6 rfl (lv_at hl 1 rfl) ?_
    refine lv_iload_n hx hb dX5_bake_7 rfl (lv_at hl 0 rfl) ?_
    refine wa_if_ne (tgt := 15) F dX5_bake_8 (by decide) (by decide) (fun c8 => ?_) (fun c8 => absurd c8 (by decide))
    refine lv_aload_n hx hb dX5_bake_15 rfl (lv_at hl 1 rfl) ?_
    refine lv_iload_n hx hb dX5_bake_16 rfl (lv_at hl 2 rfl) ?_
    refine wa_cp (kX5_124 F (c_X5_hasBase l D cy ad S X T o hwf ((j : Int)) j rfl (by omega)) ⟨by decide, by decide⟩ ⟨rfl, rfl⟩ hw hw rfl rfl rfl (Nat.le_of_ble_eq_true rfl) hl.1 dX5_bake_17 ⟨Nat.le_refl _, Nat.le_refl _⟩) ?_
    by_cases b17 : f_hasBase T j
    · rw [bI_t b17]
      refine wa_if_eq (tgt := 40) F dX5_bake_20 (by decide) (by decide) (fun c20 => absurd c20 (by decide)) (fun c20 => ?_)
      refine lv_aload_n hx hb dX5_bake_23 rfl (lv_at hl 1 rfl) ?_
      refine lv_iload_n hx hb dX5_bake_24 rfl (lv_at hl 2 rfl) ?_
      refine wa_cp (kX5_127 F (c_X5_isAlike l D cy ad S X T o hwf ((j : Int)) (j) rfl (by omega) b17) ⟨by decide, by decide⟩ ⟨rfl, rfl⟩ hw hw rfl rfl rfl (Nat.le_of_ble_eq_true rfl) hl.1 dX5_bake_25 ⟨Nat.le_refl _, Nat.le_refl _⟩) ?_
      by_cases b25 : f_alike T j
      · rw [bI_t b25]
        refine wa_if_ne (tgt := 44) F dX5_bake_28 (by decide) (by decide) (fun c28 => ?_) (fun c28 => absurd c28 (by decide))
        refine wa_const F dX5_bake_44 ?_
        refine wa_ci (kX5_103 F (c_X5_isFine l D cy ad S X T o A (wm_j hj _ _) (0) (by decide)) ⟨by decide, by decide⟩ ⟨rfl, rfl⟩ hw hw rfl rfl rfl (Nat.le_of_ble_eq_true rfl) hl.1 dX5_bake_45 ⟨Nat.le_refl _, Nat.le_refl _⟩) hS (fun H locs hw hS => ?_)
        refine wa_if_ne (tgt := 53) F dX5_bake_48 (by decide) (by decide) (fun c48 => ?_) (fun c48 => absurd c48 (by decide))
        refine lv_aload_n hx hb dX5_bake_53 rfl (lv_at hl 1 rfl) ?_
        refine lv_iload_n hx hb dX5_bake_54 rfl (lv_at hl 2 rfl) ?_
        refine wa_cp (kX5_127 F (c_X5_isAlike l D cy ad S X (wa_s T 0 0 0) o (wf_th hwf (k := 0) (by decide)) ((j : Int)) (j) rfl (show (j : Int) < (wa_s T 0 0 0) 8 0 from (show (j : Int) < T 8 0 by omega)) b17) ⟨by decide, by decide⟩ ⟨rfl, rfl⟩ hw hw rfl rfl rfl (Nat.le_of_ble_eq_true rfl) hl.1 dX5_bake_55 ⟨Nat.le_refl _, Nat.le_refl _⟩) ?_
        rw [bI_t ((f_alike_th T 0 j).mpr b25)]
        refine wa_if_ne (tgt := 66) F dX5_bake_58 (by decide) (by decide) (fun c58 => ?_) (fun c58 => absurd c58 (by decide))
        refine lv_aload_n hx hb dX5_bake_66 rfl (lv_at hl 1 rfl) ?_
        refine gX5_25 F hw rfl (v := .ref (ad 6 7)) rfl dX5_bake_67 ?_
        refine lv_iload_n hx hb dX5_bake_70 rfl (lv_at hl 2 rfl) ?_
        refine aM_7 F hw j rfl (by omega) dX5_bake_71 ?_
        refine W.eq (g2 := F0 m 72 ls [.int (iI (T 7 j))]) rfl ?_
        have ek : k_bake T (j : Int) = 0 := by simp only [k_bake, f_alike, f_hasBase, f_isImage, f_isBake, Int.toNat_natCast]; (repeat' split) <;> first | rfl | omega
        rw [ek]
        have ea : a_bake T (j : Int) = (wa_s T 0 0 0) := by unfold a_bake; simp only [Int.toNat_natCast]; exact if_pos ((f_alike_th T 0 j).mpr b25)
        rw [ea]
        exact wa_ei F hw hS rfl dX5_bake_72
      · rw [bI_f b25]
        refine wa_if_ne (tgt := 44) F dX5_bake_28 (by decide) (by decide) (fun c28 => absurd c28 (by decide)) (fun c28 => ?_)
        refine lv_aload_n hx hb dX5_bake_31 rfl (lv_at hl 1 rfl) ?_
        refine gX5_100 F hw rfl (v := .int (iI (T 21 0))) rfl dX5_bake_32 ?_
        refine wa_bi F dX5_bake_35 (by decide +kernel) ?_
        refine wa_ic_ne (tgt := 44) F dX5_bake_37 (by decide) (by have q0 := hB 21 0; exact ⟨by omega, by omega⟩) (by decide) (fun c37 => ?_) (fun c37 => ?_)
        · skip
          refine wa_const F dX5_bake_44 ?_
          refine wa_ci (kX5_103 F (c_X5_isFine l D cy ad S X T o A (wm_j hj _ _) (0) (by decide)) ⟨by decide, by decide⟩ ⟨rfl, rfl⟩ hw hw rfl rfl rfl (Nat.le_of_ble_eq_true rfl) hl.1 dX5_bake_45 ⟨Nat.le_refl _, Nat.le_refl _⟩) hS (fun H locs hw hS => ?_)
          refine wa_if_ne (tgt := 53) F dX5_bake_48 (by decide) (by decide) (fun c48 => ?_) (fun c48 => absurd c48 (by decide))
          refine lv_aload_n hx hb dX5_bake_53 rfl (lv_at hl 1 rfl) ?_
          refine lv_iload_n hx hb dX5_bake_54 rfl (lv_at hl 2 rfl) ?_
          refine wa_cp (kX5_127 F (c_X5_isAlike l D cy ad S X (wa_s T 0 0 0) o (wf_th hwf (k := 0) (by decide)) ((j : Int)) (j) rfl (show (j : Int) < (wa_s T 0 0 0) 8 0 from (show (j : Int) < T 8 0 by omega)) b17) ⟨by decide, by decide⟩ ⟨rfl, rfl⟩ hw hw rfl rfl rfl (Nat.le_of_ble_eq_true rfl) hl.1 dX5_bake_55 ⟨Nat.le_refl _, Nat.le_refl _⟩) ?_
          rw [bI_f (fun h => b25 ((f_alike_th T 0 j).mp h))]
          refine wa_if_ne (tgt := 66) F dX5_bake_58 (by decide) (by decide) (fun c58 => absurd c58 (by decide)) (fun c58 => ?_)
          refine lv_aload_n hx hb dX5_bake_61 rfl (lv_at hl 1 rfl) ?_
          refine lv_iload_n hx hb dX5_bake_62 rfl (lv_at hl 2 rfl) ?_
          refine wa_cv (kX5_133 F (c_X5_makes l D cy ad S X (wa_s T 0 0 0) o A (wm_j hj _ _) (wf_th hwf (k := 0) (by decide)) ((j : Int)) j rfl (show (j : Int) < (wa_s T 0 0 0) 8 0 from (show (j : Int) < T 8 0 by omega)) b17 (show T 21 0 < 60 by omega) (show T 12 0 ≤ 295 by omega)) ⟨by decide, by decide⟩ ⟨rfl, rfl⟩ hw hw rfl rfl rfl (Nat.le_of_ble_eq_true rfl) hl.1 dX5_bake_63 ⟨Nat.le_refl _, Nat.le_refl _⟩) hS (fun H locs hw hS => ?_)
          refine lv_aload_n hx hb dX5_bake_66 rfl (lv_at hl 1 rfl) ?_
          refine gX5_25 F hw rfl (v := .ref (ad 6 7)) rfl dX5_bake_67 ?_
          refine lv_iload_n hx hb dX5_bake_70 rfl (lv_at hl 2 rfl) ?_
          refine aM_7 F hw j rfl (by omega) dX5_bake_71 ?_
          have ek : k_bake T (j : Int) = 0 := by simp only [k_bake, f_alike, f_hasBase, f_isImage, f_isBake, Int.toNat_natCast]; (repeat' split) <;> first | rfl | omega
          rw [ek]
          have ea : a_bake T (j : Int) = (f_makes (wa_s T 0 0 0) j) := by unfold a_bake; simp only [Int.toNat_natCast]; exact if_neg (fun h => b25 ((f_alike_th T 0 j).mp h))
          rw [ea]
          exact wa_ei F hw hS rfl dX5_bake_72
        · skip
          refine wa_const F dX5_bake_40 ?_
          refine wa_goto (tgt := 45) F dX5_bake_41 (by decide) ?_
          refine wa_ci (kX5_103 F (c_X5_isFine l D cy ad S X T o A (wm_j hj _ _) (2) (by decide)) ⟨by decide, by decide⟩ ⟨rfl, rfl⟩ hw hw rfl rfl rfl (Nat.le_of_ble_eq_true rfl) hl.1 dX5_bake_45 ⟨Nat.le_refl _, Nat.le_refl _⟩) hS (fun H locs hw hS => ?_)
          refine wa_if_ne (tgt := 53) F dX5_bake_48 (by decide) (by decide) (fun c48 => absurd c48 (by decide)) (fun c48 => ?_)
          refine wa_const F dX5_bake_51 ?_
          have ek : k_bake T (j : Int) = 2 := by simp only [k_bake, f_alike, f_hasBase, f_isImage, f_isBake, Int.toNat_natCast]; (repeat' split) <;> first | rfl | omega
          rw [ek]
          exact wa_ei F hw hS rfl dX5_bake_52
    · rw [bI_f b17]
      refine wa_if_eq (tgt := 40) F dX5_bake_20 (by decide) (by decide) (fun c20 => ?_) (fun c20 => absurd c20 (by decide))
      refine wa_const F dX5_bake_40 ?_
      refine wa_goto (tgt := 45) F dX5_bake_41 (by decide) ?_
      refine wa_ci (kX5_103 F (c_X5_isFine l D cy ad S X T o A (wm_j hj _ _) (2) (by decide)) ⟨by decide, by decide⟩ ⟨rfl, rfl⟩ hw hw rfl rfl rfl (Nat.le_of_ble_eq_true rfl) hl.1 dX5_bake_45 ⟨Nat.le_refl _, Nat.le_refl _⟩) hS (fun H locs hw hS => ?_)
      refine wa_if_ne (tgt := 53) F dX5_bake_48 (by decide) (by decide) (fun c48 => absurd c48 (by decide)) (fun c48 => ?_)
      refine wa_const F dX5_bake_51 ?_
      have ek : k_bake T (j : Int) = 2 := by simp only [k_bake, f_alike, f_hasBase, f_isImage, f_isBake, Int.toNat_natCast]; (repeat' split) <;> first | rfl | omega
      rw [ek]
      exact wa_ei F hw hS rfl dX5_bake_52
  · rw [bI_f b2]
    refine lv_istore_n (lv' := [(2, .int (iI 0)), (0, .ref (ad 6 0)), (1, .int (iI i))]) hx hb dX5_bake_5 rfl hl (by decide) rfl (fun ls hl => ?_)
    refine lv_aload_n hx hb dX5_bake_6 rfl (lv_at hl 1 rfl) ?_
    refine lv_iload_n hx hb dX5_bake_7 rfl (lv_at hl 0 rfl) ?_
    refine wa_if_ne (tgt := 15) F dX5_bake_8 (by decide) (by decide) (fun c8 => absurd c8 (by decide)) (fun c8 => ?_)
    refine wa_const F dX5_bake_11 ?_
    refine wa_goto (tgt := 45) F dX5_bake_12 (by decide) ?_
    refine wa_ci (kX5_103 F (c_X5_isFine l D cy ad S X T o A (wm_j hj _ _) (1) (by decide)) ⟨by decide, by decide⟩ ⟨rfl, rfl⟩ hw hw rfl rfl rfl (Nat.le_of_ble_eq_true rfl) hl.1 dX5_bake_45 ⟨Nat.le_refl _, Nat.le_refl _⟩) hS (fun H locs hw hS => ?_)
    refine wa_if_ne (tgt := 53) F dX5_bake_48 (by decide) (by decide) (fun c48 => absurd c48 (by decide)) (fun c48 => ?_)
    refine wa_const F dX5_bake_51 ?_
    have ek : k_bake T i = 1 := by simp only [k_bake, f_alike, f_hasBase, f_isImage, f_isBake, Int.toNat_natCast]; (repeat' split) <;> first | rfl | omega
    rw [ek]
    exact wa_ei F hw hS rfl dX5_bake_52
