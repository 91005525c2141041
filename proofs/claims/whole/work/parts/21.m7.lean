/-! contracts of the reference, seventh part: the calls (laid by program) -/
set_option maxRecDepth 100000 in
set_option maxHeartbeats 4000000 in
/-- test -/
theorem c_X5_test (l : Launch) (D : va_G) (cy : Nat → ClassId) (ad : Nat → Nat → Nat) (S X T : wa_St) (o : Int64) (A : Nat → Prop) (hj : wa_wj A ad (wW cy ad S X T o)) (hwf : wf T) (b9 q : Int) (rb9 : wa_r b9) (hq : q = 0 ∨ q = 1) : Met l yX5_test wX5_test ({ frames := 2, cells := 0, slots := 0, locals := 43 } : Room) (wa_pc [.ref (ad 6 0), .int (iI b9), .int (iI q)] D cy (fun H => wa_wd D ad (wW cy ad S X T o) H)) (wa_Qi A D ad (wW cy ad S X (o_s T (k_test T b9) (a_test T b9 q)) o) (bI (k_test T b9 = 0 ∧ (T 17 b9.toNat ≠ 0 ∨ q = 0)))) 0 0 A := by
  refine wa_en (by decide +kernel) (Nat.le_of_ble_eq_true rfl) ?_
  intro p e s m args below meth c F hw ls hl
  have F : wa_fx p s m c meth args cX5_test 4 RX5 "test" (Option.some FieldType.boolean) D cy := F
  have hw : wa_wd D ad (wW cy ad S X T o) s.heap := hw
  have hl : lv_has ls 4 [(0, .ref (ad 6 0)), (1, .int (iI b9)), (2, .int (iI q))] := hl
  obtain ⟨hx, hb, hml, hown, hts⟩ := id F.1
  obtain ⟨hB, w8, w21, w12, w29, w4, w7, w6, w5, w13, w25, w26, w28, w14, w3, wf17⟩ := id hwf
  have hS : va_S A s.heap s.heap [] := va_S.rf
  refine lv_aload_n hx hb dX5_test_0 rfl (lv_at hl 0 rfl) ?_
  refine lv_iload_n hx hb dX5_test_1 rfl (lv_at hl 1 rfl) ?_
  refine wa_cp (kX5_144 F (c_X5_isBake l D cy ad S X T o hwf (b9) (by have q0 := rb9; exact ⟨by omega, by omega⟩)) ⟨by decide, by decide⟩ ⟨rfl, rfl⟩ hw hw rfl rfl rfl (Nat.le_of_ble_eq_true rfl) hl.1 dX5_test_2 ⟨Nat.le_refl _, Nat.le_refl _⟩) ?_
  by_cases b2 : f_isBake T b9
  · rw [bI_t b2]
    obtain ⟨j, rfl⟩ := Int.eq_ofNat_of_zero_le b2.1
    refine lv_istore_n (lv' := [(3, .int (iI 1)), (0, .ref (ad 6 0)), (1, .int (iI (j : Int))), (2, .int (iI q))]) hx hb dX5_test_5 rfl hl (by decide) rfl (fun ls hl => ?_)
    refine lv_aload_n hx hb dX5_test_6 rfl (lv_at hl 1 rfl) ?_
    refine lv_iload_n hx hb dX5_test_7 rfl (lv_at hl 0 rfl) ?_
    refine wa_if_ne (tgt := 15) F dX5_test_8 (by decide) (by decide) (fun c8 => ?_) (fun c8 => absurd c8 (by decide))
    refine lv_aload_n hx hb dX5_test_15 rfl (lv_at hl 1 rfl) ?_
    refine gX5_53 F hw rfl (v := .ref (ad 6 18)) rfl dX5_test_16 ?_
    refine lv_iload_n hx hb dX5_test_19 rfl (lv_at hl 2 rfl) ?_
    refine aM_18 F hw j rfl (by omega) dX5_test_20 ?_
    refine wa_if_eq (tgt := 28) F dX5_test_21 (by decide) (by have q0 := hB 18 j; exact ⟨by omega, by omega⟩) (fun c21 => ?_) (fun c21 => ?_)
    · skip
      refine wa_const F dX5_test_28 ?_
      refine wa_ci (kX5_103 F (c_X5_isFine l D cy ad S X T o A (wm_j hj _ _) (0) (by decide)) ⟨by decide, by decide⟩ ⟨rfl, rfl⟩ hw hw rfl rfl rfl (Nat.le_of_ble_eq_true rfl) hl.1 dX5_test_29 ⟨Nat.le_refl _, Nat.le_refl _⟩) hS (fun H locs hw hS => ?_)
      refine wa_if_ne (tgt := 37) F dX5_test_32 (by decide) (by decide) (fun c32 => ?_) (fun c32 => absurd c32 (by decide))
      refine lv_aload_n hx hb dX5_test_37 rfl (lv_at hl 1 rfl) ?_
      refine gX5_56 F hw rfl (v := .ref (ad 6 19)) rfl dX5_test_38 ?_
      refine lv_iload_n hx hb dX5_test_41 rfl (lv_at hl 2 rfl) ?_
      refine lv_aload_n hx hb dX5_test_42 rfl (lv_at hl 1 rfl) ?_
      refine gX5_56 F hw rfl (v := .ref (ad 6 19)) rfl dX5_test_43 ?_
      refine lv_iload_n hx hb dX5_test_46 rfl (lv_at hl 2 rfl) ?_
      refine aM_19 F hw j rfl (by omega) dX5_test_47 ?_
      refine W.eq (g2 := F0 m 48 ls [.int (iI (T 19 j)), .int (iI (j : Int)), .ref (ad 6 19)]) rfl ?_
      refine wa_if_ne (tgt := 55) F dX5_test_48 (by decide) (by have q0 := hB 19 j; exact ⟨by omega, by omega⟩) (fun c48 => ?_) (fun c48 => ?_)
      · skip
        refine wa_const F dX5_test_55 ?_
        refine wa_goto (tgt := 60) F dX5_test_56 (by decide) ?_
        refine sM_19 F hw (wm_j hj _ _) hS (by decide) j rfl (by omega) dX5_test_60 (fun H locs hw hS => ?_)
        refine lv_aload_n hx hb dX5_test_61 rfl (lv_at hl 1 rfl) ?_
        refine gX5_49 F hw rfl (v := .ref (ad 6 17)) rfl dX5_test_62 ?_
        refine lv_iload_n hx hb dX5_test_65 rfl (lv_at hl 2 rfl) ?_
        refine lv_aload_n hx hb dX5_test_66 rfl (lv_at hl 1 rfl) ?_
        refine gX5_49 F hw rfl (v := .ref (ad 6 17)) rfl dX5_test_67 ?_
        refine lv_iload_n hx hb dX5_test_70 rfl (lv_at hl 2 rfl) ?_
        refine aM_17 F hw j rfl (by omega) dX5_test_71 ?_
        refine W.eq (g2 := F0 m 72 ls [.int (iI (T 17 j)), .int (iI (j : Int)), .ref (ad 6 17)]) rfl ?_
        refine wa_if_ne (tgt := 79) F dX5_test_72 (by decide) (by have q0 := hB 17 j; exact ⟨by omega, by omega⟩) (fun c72 => ?_) (fun c72 => ?_)
        · skip
          refine wa_const F dX5_test_79 ?_
          refine wa_goto (tgt := 84) F dX5_test_80 (by decide) ?_
          refine sM_17 F hw (wm_j hj _ _) hS (by decide) j rfl (by omega) dX5_test_84 (fun H locs hw hS => ?_)
          refine lv_aload_n hx hb dX5_test_85 rfl (lv_at hl 1 rfl) ?_
          refine gX5_49 F hw rfl (v := .ref (ad 6 17)) rfl dX5_test_86 ?_
          refine lv_iload_n hx hb dX5_test_89 rfl (lv_at hl 2 rfl) ?_
          refine aM_17 F hw j rfl (by omega) dX5_test_90 ?_
          rw [show (wa_s (wa_s (wa_s T 0 0 0) 19 j 1) 17 j 1) 17 j = 1 from by simp [wa_s]]
          have ek : k_test T (j : Int) = 0 := by simp only [k_test, f_isImage, f_isBake, Int.toNat_natCast]; (repeat' split) <;> first | rfl | omega
          rw [ek]
          rw [show o_s T 0 (a_test T (j : Int) q) = (wa_s (wa_s (wa_s T 0 0 0) 19 j 1) 17 j 1) from by simp only [o_s, a_test, if_true, Int.toNat_natCast]; rw [bI_t (show T 19 j ≠ 0 ∨ q ≠ 0 by omega), bI_t (show T 17 j ≠ 0 ∨ q = 0 by omega)]]
          exact wa_eiz F hw hS (bI_t ⟨rfl, (show T 17 j ≠ 0 ∨ q = 0 by omega)⟩).symm (by decide) dX5_test_91
        · skip
          refine lv_iload_n hx hb dX5_test_75 rfl (lv_at hl 3 rfl) ?_
          refine wa_if_ne (tgt := 83) F dX5_test_76 (by decide) (by exact ⟨by omega, by omega⟩) (fun c76 => ?_) (fun c76 => ?_)
          · skip
            refine wa_const F dX5_test_83 ?_
            refine sM_17 F hw (wm_j hj _ _) hS (by decide) j rfl (by omega) dX5_test_84 (fun H locs hw hS => ?_)
            refine lv_aload_n hx hb dX5_test_85 rfl (lv_at hl 1 rfl) ?_
            refine gX5_49 F hw rfl (v := .ref (ad 6 17)) rfl dX5_test_86 ?_
            refine lv_iload_n hx hb dX5_test_89 rfl (lv_at hl 2 rfl) ?_
            refine aM_17 F hw j rfl (by omega) dX5_test_90 ?_
            rw [show (wa_s (wa_s (wa_s T 0 0 0) 19 j 1) 17 j 0) 17 j = 0 from by simp [wa_s]]
            have ek : k_test T (j : Int) = 0 := by simp only [k_test, f_isImage, f_isBake, Int.toNat_natCast]; (repeat' split) <;> first | rfl | omega
            rw [ek]
            rw [show o_s T 0 (a_test T (j : Int) q) = (wa_s (wa_s (wa_s T 0 0 0) 19 j 1) 17 j 0) from by simp only [o_s, a_test, if_true, Int.toNat_natCast]; rw [bI_t (show T 19 j ≠ 0 ∨ q ≠ 0 by omega), bI_f (show ¬ (T 17 j ≠ 0 ∨ q = 0) by omega)]]
            exact wa_eiz F hw hS (bI_f (fun h => absurd h.2 (show ¬ (T 17 j ≠ 0 ∨ q = 0) by omega))).symm (by decide) dX5_test_91
          · skip
            refine wa_const F dX5_test_79 ?_
            refine wa_goto (tgt := 84) F dX5_test_80 (by decide) ?_
            refine sM_17 F hw (wm_j hj _ _) hS (by decide) j rfl (by omega) dX5_test_84 (fun H locs hw hS => ?_)
            refine lv_aload_n hx hb dX5_test_85 rfl (lv_at hl 1 rfl) ?_
            refine gX5_49 F hw rfl (v := .ref (ad 6 17)) rfl dX5_test_86 ?_
            refine lv_iload_n hx hb dX5_test_89 rfl (lv_at hl 2 rfl) ?_
            refine aM_17 F hw j rfl (by omega) dX5_test_90 ?_
            rw [show (wa_s (wa_s (wa_s T 0 0 0) 19 j 1) 17 j 1) 17 j = 1 from by simp [wa_s]]
            have ek : k_test T (j : Int) = 0 := by simp only [k_test, f_isImage, f_isBake, Int.toNat_natCast]; (repeat' split) <;> first | rfl | omega
            rw [ek]
            rw [show o_s T 0 (a_test T (j : Int) q) = (wa_s (wa_s (wa_s T 0 0 0) 19 j 1) 17 j 1) from by simp only [o_s, a_test, if_true, Int.toNat_natCast]; rw [bI_t (show T 19 j ≠ 0 ∨ q ≠ 0 by omega), bI_t (show T 17 j ≠ 0 ∨ q = 0 by omega)]]
            exact wa_eiz F hw hS (bI_t ⟨rfl, (show T 17 j ≠ 0 ∨ q = 0 by omega)⟩).symm (by decide) dX5_test_91
      · skip
        refine lv_iload_n hx hb dX5_test_51 rfl (lv_at hl 3 rfl) ?_
        refine wa_if_eq (tgt := 59) F dX5_test_52 (by decide) (by exact ⟨by omega, by omega⟩) (fun c52 => ?_) (fun c52 => ?_)
        · skip
          refine wa_const F dX5_test_59 ?_
          refine sM_19 F hw (wm_j hj _ _) hS (by decide) j rfl (by omega) dX5_test_60 (fun H locs hw hS => ?_)
          refine lv_aload_n hx hb dX5_test_61 rfl (lv_at hl 1 rfl) ?_
          refine gX5_49 F hw rfl (v := .ref (ad 6 17)) rfl dX5_test_62 ?_
          refine lv_iload_n hx hb dX5_test_65 rfl (lv_at hl 2 rfl) ?_
          refine lv_aload_n hx hb dX5_test_66 rfl (lv_at hl 1 rfl) ?_
          refine gX5_49 F hw rfl (v := .ref (ad 6 17)) rfl dX5_test_67 ?_
          refine lv_iload_n hx hb dX5_test_70 rfl (lv_at hl 2 rfl) ?_
          refine aM_17 F hw j rfl (by omega) dX5_test_71 ?_
          refine W.eq (g2 := F0 m 72 ls [.int (iI (T 17 j)), .int (iI (j : Int)), .ref (ad 6 17)]) rfl ?_
          refine wa_if_ne (tgt := 79) F dX5_test_72 (by decide) (by have q0 := hB 17 j; exact ⟨by omega, by omega⟩) (fun c72 => ?_) (fun c72 => ?_)
          · skip
            refine wa_const F dX5_test_79 ?_
            refine wa_goto (tgt := 84) F dX5_test_80 (by decide) ?_
            refine sM_17 F hw (wm_j hj _ _) hS (by decide) j rfl (by omega) dX5_test_84 (fun H locs hw hS => ?_)
            refine lv_aload_n hx hb dX5_test_85 rfl (lv_at hl 1 rfl) ?_
            refine gX5_49 F hw rfl (v := .ref (ad 6 17)) rfl dX5_test_86 ?_
            refine lv_iload_n hx hb dX5_test_89 rfl (lv_at hl 2 rfl) ?_
            refine aM_17 F hw j rfl (by omega) dX5_test_90 ?_
            rw [show (wa_s (wa_s (wa_s T 0 0 0) 19 j 0) 17 j 1) 17 j = 1 from by simp [wa_s]]
            have ek : k_test T (j : Int) = 0 := by simp only [k_test, f_isImage, f_isBake, Int.toNat_natCast]; (repeat' split) <;> first | rfl | omega
            rw [ek]
            rw [show o_s T 0 (a_test T (j : Int) q) = (wa_s (wa_s (wa_s T 0 0 0) 19 j 0) 17 j 1) from by simp only [o_s, a_test, if_true, Int.toNat_natCast]; rw [bI_f (show ¬ (T 19 j ≠ 0 ∨ q ≠ 0) by omega), bI_t (show T 17 j ≠ 0 ∨ q = 0 by omega)]]
            exact wa_eiz F hw hS (bI_t ⟨rfl, (show T 17 j ≠ 0 ∨ q = 0 by omega)⟩).symm (by decide) dX5_test_91
          · skip
            refine lv_iload_n hx hb dX5_test_75 rfl (lv_at hl 3 rfl) ?_
            refine wa_if_ne (tgt := 83) F dX5_test_76 (by decide) (by exact ⟨by omega, by omega⟩) (fun c76 => ?_) (fun c76 => ?_)
            · skip
              refine wa_const F dX5_test_83 ?_
              refine sM_17 F hw (wm_j hj _ _) hS (by decide) j rfl (by omega) dX5_test_84 (fun H locs hw hS => ?_)
              refine lv_aload_n hx hb dX5_test_85 rfl (lv_at hl 1 rfl) ?_
              refine gX5_49 F hw rfl (v := .ref (ad 6 17)) rfl dX5_test_86 ?_
              refine lv_iload_n hx hb dX5_test_89 rfl (lv_at hl 2 rfl) ?_
              refine aM_17 F hw j rfl (by omega) dX5_test_90 ?_
              rw [show (wa_s (wa_s (wa_s T 0 0 0) 19 j 0) 17 j 0) 17 j = 0 from by simp [wa_s]]
              have ek : k_test T (j : Int) = 0 := by simp only [k_test, f_isImage, f_isBake, Int.toNat_natCast]; (repeat' split) <;> first | rfl | omega
              rw [ek]
              rw [show o_s T 0 (a_test T (j : Int) q) = (wa_s (wa_s (wa_s T 0 0 0) 19 j 0) 17 j 0) from by simp only [o_s, a_test, if_true, Int.toNat_natCast]; rw [bI_f (show ¬ (T 19 j ≠ 0 ∨ q ≠ 0) by omega), bI_f (show ¬ (T 17 j ≠ 0 ∨ q = 0) by omega)]]
              exact wa_eiz F hw hS (bI_f (fun h => absurd h.2 (show ¬ (T 17 j ≠ 0 ∨ q = 0) by omega))).symm (by decide) dX5_test_91
            · skip
              refine wa_const F dX5_test_79 ?_
              refine wa_goto (tgt := 84) F dX5_test_80 (by decide) ?_
              refine sM_17 F hw (wm_j hj _ _) hS (by decide) j rfl (by omega) dX5_test_84 (fun H locs hw hS => ?_)
              refine lv_aload_n hx hb dX5_test_85 rfl (lv_at hl 1 rfl) ?_
              refine gX5_49 F hw rfl (v := .ref (ad 6 17)) rfl dX5_test_86 ?_
              refine lv_iload_n hx hb dX5_test_89 rfl (lv_at hl 2 rfl) ?_
              refine aM_17 F hw j rfl (by omega) dX5_test_90 ?_
              rw [show (wa_s (wa_s (wa_s T 0 0 0) 19 j 0) 17 j 1) 17 j = 1 from by simp [wa_s]]
              have ek : k_test T (j : Int) = 0 := by simp only [k_test, f_isImage, f_isBake, Int.toNat_natCast]; (repeat' split) <;> first | rfl | omega
              rw [ek]
              rw [show o_s T 0 (a_test T (j : Int) q) = (wa_s (wa_s (wa_s T 0 0 0) 19 j 0) 17 j 1) from by simp only [o_s, a_test, if_true, Int.toNat_natCast]; rw [bI_f (show ¬ (T 19 j ≠ 0 ∨ q ≠ 0) by omega), bI_t (show T 17 j ≠ 0 ∨ q = 0 by omega)]]
              exact wa_eiz F hw hS (bI_t ⟨rfl, (show T 17 j ≠ 0 ∨ q = 0 by omega)⟩).symm (by decide) dX5_test_91
        · skip
          refine wa_const F dX5_test_55 ?_
          refine wa_goto (tgt := 60) F dX5_test_56 (by decide) ?_
          refine sM_19 F hw (wm_j hj _ _) hS (by decide) j rfl (by omega) dX5_test_60 (fun H locs hw hS => ?_)
          refine lv_aload_n hx hb dX5_test_61 rfl (lv_at hl 1 rfl) ?_
          refine gX5_49 F hw rfl (v := .ref (ad 6 17)) rfl dX5_test_62 ?_
          refine lv_iload_n hx hb dX5_test_65 rfl (lv_at hl 2 rfl) ?_
          refine lv_aload_n hx hb dX5_test_66 rfl (lv_at hl 1 rfl) ?_
          refine gX5_49 F hw rfl (v := .ref (ad 6 17)) rfl dX5_test_67 ?_
          refine lv_iload_n hx hb dX5_test_70 rfl (lv_at hl 2 rfl) ?_
          refine aM_17 F hw j rfl (by omega) dX5_test_71 ?_
          refine W.eq (g2 := F0 m 72 ls [.int (iI (T 17 j)), .int (iI (j : Int)), .ref (ad 6 17)]) rfl ?_
          refine wa_if_ne (tgt := 79) F dX5_test_72 (by decide) (by have q0 := hB 17 j; exact ⟨by omega, by omega⟩) (fun c72 => ?_) (fun c72 => ?_)
          · skip
            refine wa_const F dX5_test_79 ?_
            refine wa_goto (tgt := 84) F dX5_test_80 (by decide) ?_
            refine sM_17 F hw (wm_j hj _ _) hS (by decide) j rfl (by omega) dX5_test_84 (fun H locs hw hS => ?_)
            refine lv_aload_n hx hb dX5_test_85 rfl (lv_at hl 1 rfl) ?_
            refine gX5_49 F hw rfl (v := .ref (ad 6 17)) rfl dX5_test_86 ?_
            refine lv_iload_n hx hb dX5_test_89 rfl (lv_at hl 2 rfl) ?_
            refine aM_17 F hw j rfl (by omega) dX5_test_90 ?_
            rw [show (wa_s (wa_s (wa_s T 0 0 0) 19 j 1) 17 j 1) 17 j = 1 from by simp [wa_s]]
            have ek : k_test T (j : Int) = 0 := by simp only [k_test, f_isImage, f_isBake, Int.toNat_natCast]; (repeat' split) <;> first | rfl | omega
            rw [ek]
            rw [show o_s T 0 (a_test T (j : Int) q) = (wa_s (wa_s (wa_s T 0 0 0) 19 j 1) 17 j 1) from by simp only [o_s, a_test, if_true, Int.toNat_natCast]; rw [bI_t (show T 19 j ≠ 0 ∨ q ≠ 0 by omega), bI_t (show T 17 j ≠ 0 ∨ q = 0 by omega)]]
            exact wa_eiz F hw hS (bI_t ⟨rfl, (show T 17 j ≠ 0 ∨ q = 0 by omega)⟩).symm (by decide) dX5_test_91
          · skip
            refine lv_iload_n hx hb dX5_test_75 rfl (lv_at hl 3 rfl) ?_
            refine wa_if_ne (tgt := 83) F dX5_test_76 (by decide) (by exact ⟨by omega, by omega⟩) (fun c76 => ?_) (fun c76 => ?_)
            · skip
              refine wa_const F dX5_test_83 ?_
              refine sM_17 F hw (wm_j hj _ _) hS (by decide) j rfl (by omega) dX5_test_84 (fun H locs hw hS => ?_)
              refine lv_aload_n hx hb dX5_test_85 rfl (lv_at hl 1 rfl) ?_
              refine gX5_49 F hw rfl (v := .ref (ad 6 17)) rfl dX5_test_86 ?_
              refine lv_iload_n hx hb dX5_test_89 rfl (lv_at hl 2 rfl) ?_
              refine aM_17 F hw j rfl (by omega) dX5_test_90 ?_
              rw [show (wa_s (wa_s (wa_s T 0 0 0) 19 j 1) 17 j 0) 17 j = 0 from by simp [wa_s]]
              have ek : k_test T (j : Int) = 0 := by simp only [k_test, f_isImage, f_isBake, Int.toNat_natCast]; (repeat' split) <;> first | rfl | omega
              rw [ek]
              rw [show o_s T 0 (a_test T (j : Int) q) = (wa_s (wa_s (wa_s T 0 0 0) 19 j 1) 17 j 0) from by simp only [o_s, a_test, if_true, Int.toNat_natCast]; rw [bI_t (show T 19 j ≠ 0 ∨ q ≠ 0 by omega), bI_f (show ¬ (T 17 j ≠ 0 ∨ q = 0) by omega)]]
              exact wa_eiz F hw hS (bI_f (fun h => absurd h.2 (show ¬ (T 17 j ≠ 0 ∨ q = 0) by omega))).symm (by decide) dX5_test_91
            · skip
              refine wa_const F dX5_test_79 ?_
              refine wa_goto (tgt := 84) F dX5_test_80 (by decide) ?_
              refine sM_17 F hw (wm_j hj _ _) hS (by decide) j rfl (by omega) dX5_test_84 (fun H locs hw hS => ?_)
              refine lv_aload_n hx hb dX5_test_85 rfl (lv_at hl 1 rfl) ?_
              refine gX5_49 F hw rfl (v := .ref (ad 6 17)) rfl dX5_test_86 ?_
              refine lv_iload_n hx hb dX5_test_89 rfl (lv_at hl 2 rfl) ?_
              refine aM_17 F hw j rfl (by omega) dX5_test_90 ?_
              rw [show (wa_s (wa_s (wa_s T 0 0 0) 19 j 1) 17 j 1) 17 j = 1 from by simp [wa_s]]
              have ek : k_test T (j : Int) = 0 := by simp only [k_test, f_isImage, f_isBake, Int.toNat_natCast]; (repeat' split) <;> first | rfl | omega
              rw [ek]
              rw [show o_s T 0 (a_test T (j : Int) q) = (wa_s (wa_s (wa_s T 0 0 0) 19 j 1) 17 j 1) from by simp only [o_s, a_test, if_true, Int.toNat_natCast]; rw [bI_t (show T 19 j ≠ 0 ∨ q ≠ 0 by omega), bI_t (show T 17 j ≠ 0 ∨ q = 0 by omega)]]
              exact wa_eiz F hw hS (bI_t ⟨rfl, (show T 17 j ≠ 0 ∨ q = 0 by omega)⟩).symm (by decide) dX5_test_91
    · skip
      refine wa_const F dX5_test_24 ?_
      refine wa_goto (tgt := 29) F dX5_test_25 (by decide) ?_
      refine wa_ci (kX5_103 F (c_X5_isFine l D cy ad S X T o A (wm_j hj _ _) (2) (by decide)) ⟨by decide, by decide⟩ ⟨rfl, rfl⟩ hw hw rfl rfl rfl (Nat.le_of_ble_eq_true rfl) hl.1 dX5_test_29 ⟨Nat.le_refl _, Nat.le_refl _⟩) hS (fun H locs hw hS => ?_)
      refine wa_if_ne (tgt := 37) F dX5_test_32 (by decide) (by decide) (fun c32 => absurd c32 (by decide)) (fun c32 => ?_)
      refine wa_const F dX5_test_35 ?_
      have ek : k_test T (j : Int) = 2 := by simp only [k_test, f_isImage, f_isBake, Int.toNat_natCast]; (repeat' split) <;> first | rfl | omega
      rw [ek]
      exact wa_eiz F hw hS (bI_f (fun h => absurd h.1 (by decide))).symm (by decide) dX5_test_36
  · rw [bI_f b2]
    refine lv_istore_n (lv' := [(3, .int (iI 0)), (0, .ref (ad 6 0)), (1, .int (iI b9)), (2, .int (iI q))]) hx hb dX5_test_5 rfl hl (by decide) rfl (fun ls hl => ?_)
    refine lv_aload_n hx hb dX5_test_6 rfl (lv_at hl 1 rfl) ?_
    refine lv_iload_n hx hb dX5_test_7 rfl (lv_at hl 0 rfl) ?_
    refine wa_if_ne (tgt := 15) F dX5_test_8 (by decide) (by decide) (fun c8 => absurd c8 (by decide)) (fun c8 => ?_)
    refine wa_const F dX5_test_11 ?_
    refine wa_goto (tgt := 29) F dX5_test_12 (by decide) ?_
    refine wa_ci (kX5_103 F (c_X5_isFine l D cy ad S X T o A (wm_j hj _ _) (1) (by decide)) ⟨by decide, by decide⟩ ⟨rfl, rfl⟩ hw hw rfl rfl rfl (Nat.le_of_ble_eq_true rfl) hl.1 dX5_test_29 ⟨Nat.le_refl _, Nat.le_refl _⟩) hS (fun H locs hw hS => ?_)
    refine wa_if_ne (tgt := 37) F dX5_test_32 (by decide) (by decide) (fun c32 => absurd c32 (by decide)) (fun c32 => ?_)
    refine wa_const F dX5_test_35 ?_
    have ek : k_test T b9 = 1 := by simp only [k_test, f_isImage, f_isBake, Int.toNat_natCast]; (repeat' split) <;> first | rfl | omega
    rw [ek]
    exact wa_eiz F hw hS (bI_f (fun h => absurd h.1 (by decide))).symm (by decide) dX5_test_36
set_option maxRecDepth 100000 in
set_option maxHeartbeats 4000000 in
/-- hold -/
theorem c_X5_hold (l : Launch) (D : va_G) (cy : Nat → ClassId) (ad : Nat → Nat → Nat) (S X T : wa_St) (o : Int64) (A : Nat → Prop) (hj : wa_wj A ad (wW cy ad S X T o)) (hwf : wf T) (b9 : Int) (rb9 : wa_r b9) : Met l yX5_hold wX5_hold ({ frames := 2, cells := 0, slots := 0, locals := 43 } : Room) (wa_pc [.ref (ad 6 0), .int (iI b9)] D cy (fun H => wa_wd D ad (wW cy ad S X T o) H)) (wa_Qi A D ad (wW cy ad S X (o_s T (k_hold T b9) (a_hold T b9)) o) (o_v (k_hold T b9) (f_run (a_hold T b9) b9))) 0 0 A := by
  refine wa_en (by decide +kernel) (Nat.le_of_ble_eq_true rfl) ?_
  intro p e s m args below meth c F hw ls hl
  have F : wa_fx p s m c meth args cX5_hold 3 RX5 "hold" (Option.some FieldType.int) D cy := F
  have hw : wa_wd D ad (wW cy ad S X T o) s.heap := hw
  have hl : lv_has ls 3 [(0, .ref (ad 6 0)), (1, .int (iI b9))] := hl
  obtain ⟨hx, hb, hml, hown, hts⟩ := id F.1
  obtain ⟨hB, w8, w21, w12, w29, w4, w7, w6, w5, w13, w25, w26, w28, w14, w3, wf17⟩ := id hwf
  have hS : va_S A s.heap s.heap [] := va_S.rf
  refine lv_aload_n hx hb dX5_hold_0 rfl (lv_at hl 0 rfl) ?_
  refine lv_iload_n hx hb dX5_hold_1 rfl (lv_at hl 1 rfl) ?_
  refine wa_cp (kX5_144 F (c_X5_isBake l D cy ad S X T o hwf (b9) (by have q0 := rb9; exact ⟨by omega, by omega⟩)) ⟨by decide, by decide⟩ ⟨rfl, rfl⟩ hw hw rfl rfl rfl (Nat.le_of_ble_eq_true rfl) hl.1 dX5_hold_2 ⟨Nat.le_refl _, Nat.le_refl _⟩) ?_
  by_cases b2 : f_isBake T b9
  · rw [bI_t b2]
    obtain ⟨j, rfl⟩ := Int.eq_ofNat_of_zero_le b2.1
    refine lv_istore_n (lv' := [(2, .int (iI 1)), (0, .ref (ad 6 0)), (1, .int (iI (j : Int)))]) hx hb dX5_hold_5 rfl hl (by decide) rfl (fun ls hl => ?_)
    refine lv_aload_n hx hb dX5_hold_6 rfl (lv_at hl 1 rfl) ?_
    refine lv_iload_n hx hb dX5_hold_7 rfl (lv_at hl 0 rfl) ?_
    refine wa_if_ne (tgt := 15) F dX5_hold_8 (by decide) (by decide) (fun c8 => ?_) (fun c8 => absurd c8 (by decide))
    refine lv_aload_n hx hb dX5_hold_15 rfl (lv_at hl 1 rfl) ?_
    refine gX5_53 F hw rfl (v := .ref (ad 6 18)) rfl dX5_hold_16 ?_
    refine lv_iload_n hx hb dX5_hold_19 rfl (lv_at hl 2 rfl) ?_
    refine aM_18 F hw j rfl (by omega) dX5_hold_20 ?_
    refine wa_if_ne (tgt := 33) F dX5_hold_21 (by decide) (by have q0 := hB 18 j; exact ⟨by omega, by omega⟩) (fun c21 => ?_) (fun c21 => ?_)
    · skip
      refine wa_const F dX5_hold_33 ?_
      refine wa_goto (tgt := 38) F dX5_hold_34 (by decide) ?_
      refine wa_ci (kX5_103 F (c_X5_isFine l D cy ad S X T o A (wm_j hj _ _) (2) (by decide)) ⟨by decide, by decide⟩ ⟨rfl, rfl⟩ hw hw rfl rfl rfl (Nat.le_of_ble_eq_true rfl) hl.1 dX5_hold_38 ⟨Nat.le_refl _, Nat.le_refl _⟩) hS (fun H locs hw hS => ?_)
      refine wa_if_ne (tgt := 46) F dX5_hold_41 (by decide) (by decide) (fun c41 => absurd c41 (by decide)) (fun c41 => ?_)
      refine wa_const F dX5_hold_44 ?_
      have ek : k_hold T (j : Int) = 2 := by simp only [k_hold, f_isImage, f_isBake, Int.toNat_natCast]; (repeat' split) <;> first | rfl | omega
      rw [ek]
      exact wa_ei F hw hS (by first | rfl | simp [wa_s] | omega) dX5_hold_45
    · skip
      refine lv_aload_n hx hb dX5_hold_24 rfl (lv_at hl 1 rfl) ?_
      refine gX5_49 F hw rfl (v := .ref (ad 6 17)) rfl dX5_hold_25 ?_
      refine lv_iload_n hx hb dX5_hold_28 rfl (lv_at hl 2 rfl) ?_
      refine aM_17 F hw j rfl (by omega) dX5_hold_29 ?_
      refine wa_if_eq (tgt := 37) F dX5_hold_30 (by decide) (by have q0 := hB 17 j; exact ⟨by omega, by omega⟩) (fun c30 => ?_) (fun c30 => ?_)
      · skip
        refine wa_const F dX5_hold_37 ?_
        refine wa_ci (kX5_103 F (c_X5_isFine l D cy ad S X T o A (wm_j hj _ _) (0) (by decide)) ⟨by decide, by decide⟩ ⟨rfl, rfl⟩ hw hw rfl rfl rfl (Nat.le_of_ble_eq_true rfl) hl.1 dX5_hold_38 ⟨Nat.le_refl _, Nat.le_refl _⟩) hS (fun H locs hw hS => ?_)
        refine wa_if_ne (tgt := 46) F dX5_hold_41 (by decide) (by decide) (fun c41 => ?_) (fun c41 => absurd c41 (by decide))
        refine lv_aload_n hx hb dX5_hold_46 rfl (lv_at hl 1 rfl) ?_
        refine gX5_49 F hw rfl (v := .ref (ad 6 17)) rfl dX5_hold_47 ?_
        refine lv_iload_n hx hb dX5_hold_50 rfl (lv_at hl 2 rfl) ?_
        refine wa_const F dX5_hold_51 ?_
        refine sM_17 F hw (wm_j hj _ _) hS (by decide) j rfl (by omega) dX5_hold_52 (fun H locs hw hS => ?_)
        refine lv_aload_n hx hb dX5_hold_53 rfl (lv_at hl 1 rfl) ?_
        refine lv_iload_n hx hb dX5_hold_54 rfl (lv_at hl 2 rfl) ?_
        refine wa_cp (kX5_150 F (c_X5_running l D cy ad S X (wa_s (wa_s T 0 0 0) 17 j 1) o (wf_17 (wf_th hwf (k := 0) (by decide)) j (v := 1) (by decide)) ((j : Int)) (by exact ⟨by omega, by omega⟩)) ⟨by decide, by decide⟩ ⟨rfl, rfl⟩ hw hw rfl rfl rfl (Nat.le_of_ble_eq_true rfl) hl.1 dX5_hold_55 ⟨Nat.le_refl _, Nat.le_refl _⟩) ?_
        have ek : k_hold T (j : Int) = 0 := by simp only [k_hold, f_isImage, f_isBake, Int.toNat_natCast]; (repeat' split) <;> first | rfl | omega
        rw [ek]
        exact wa_ei F hw hS (by first | rfl | simp [wa_s] | omega) dX5_hold_58
      · skip
        refine wa_const F dX5_hold_33 ?_
        refine wa_goto (tgt := 38) F dX5_hold_34 (by decide) ?_
        refine wa_ci (kX5_103 F (c_X5_isFine l D cy ad S X T o A (wm_j hj _ _) (2) (by decide)) ⟨by decide, by decide⟩ ⟨rfl, rfl⟩ hw hw rfl rfl rfl (Nat.le_of_ble_eq_true rfl) hl.1 dX5_hold_38 ⟨Nat.le_refl _, Nat.le_refl _⟩) hS (fun H locs hw hS => ?_)
        refine wa_if_ne (tgt := 46) F dX5_hold_41 (by decide) (by decide) (fun c41 => absurd c41 (by decide)) (fun c41 => ?_)
        refine wa_const F dX5_hold_44 ?_
        have ek : k_hold T (j : Int) = 2 := by simp only [k_hold, f_isImage, f_isBake, Int.toNat_natCast]; (repeat' split) <;> first | rfl | omega
        rw [ek]
        exact wa_ei F hw hS (by first | rfl | simp [wa_s] | omega) dX5_hold_45
  · rw [bI_f b2]
    refine lv_istore_n (lv' := [(2, .int (iI 0)), (0, .ref (ad 6 0)), (1, .int (iI b9))]) hx hb dX5_hold_5 rfl hl (by decide) rfl (fun ls hl => ?_)
    refine lv_aload_n hx hb dX5_hold_6 rfl (lv_at hl 1 rfl) ?_
    refine lv_iload_n hx hb dX5_hold_7 rfl (lv_at hl 0 rfl) ?_
    refine wa_if_ne (tgt := 15) F dX5_hold_8 (by decide) (by decide) (fun c8 => absurd c8 (by decide)) (fun c8 => ?_)
    refine wa_const F dX5_hold_11 ?_
    refine wa_goto (tgt := 38) F dX5_hold_12 (by decide) ?_
    refine wa_ci (kX5_103 F (c_X5_isFine l D cy ad S X T o A (wm_j hj _ _) (1) (by decide)) ⟨by decide, by decide⟩ ⟨rfl, rfl⟩ hw hw rfl rfl rfl (Nat.le_of_ble_eq_true rfl) hl.1 dX5_hold_38 ⟨Nat.le_refl _, Nat.le_refl _⟩) hS (fun H locs hw hS => ?_)
    refine wa_if_ne (tgt := 46) F dX5_hold_41 (by decide) (by decide) (fun c41 => absurd c41 (by decide)) (fun c41 => ?_)
    refine wa_const F dX5_hold_44 ?_
    have ek : k_hold T b9 = 1 := by simp only [k_hold, f_isImage, f_isBake, Int.toNat_natCast]; (repeat' split) <;> first | rfl | omega
    rw [ek]
    exact wa_ei F hw hS (by first | rfl | simp [wa_s] | omega) dX5_hold_45
set_option maxRecDepth 100000 in
set_option maxHeartbeats 4000000 in
/-- raise -/
theorem c_X5_raise (l : Launch) (D : va_G) (cy : Nat → ClassId) (ad : Nat → Nat → Nat) (S X T : wa_St) (o : Int64) (A : Nat → Prop) (hj : wa_wj A ad (wW cy ad S X T o)) (hwf : wf T) (b9 : Int) (rb9 : wa_r b9) : Met l yX5_raise wX5_raise ({ frames := 2, cells := 0, slots := 0, locals := 43 } : Room) (wa_pc [.ref (ad 6 0), .int (iI b9)] D cy (fun H => wa_wd D ad (wW cy ad S X T o) H)) (wa_Qi A D ad (wW cy ad S X (o_s T (k_raise T b9) (a_raise T b9)) o) (o_v (k_raise T b9) (T 16 b9.toNat + 1))) 0 0 A := by
  refine wa_en (by decide +kernel) (Nat.le_of_ble_eq_true rfl) ?_
  intro p e s m args below meth c F hw ls hl
  have F : wa_fx p s m c meth args cX5_raise 3 RX5 "raise" (Option.some FieldType.int) D cy := F
  have hw : wa_wd D ad (wW cy ad S X T o) s.heap := hw
  have hl : lv_has ls 3 [(0, .ref (ad 6 0)), (1, .int (iI b9))] := hl
  obtain ⟨hx, hb, hml, hown, hts⟩ := id F.1
  obtain ⟨hB, w8, w21, w12, w29, w4, w7, w6, w5, w13, w25, w26, w28, w14, w3, wf17⟩ := id hwf
  have hS : va_S A s.heap s.heap [] := va_S.rf
  refine lv_aload_n hx hb dX5_raise_0 rfl (lv_at hl 0 rfl) ?_
  refine lv_iload_n hx hb dX5_raise_1 rfl (lv_at hl 1 rfl) ?_
  refine wa_cp (kX5_144 F (c_X5_isBake l D cy ad S X T o hwf (b9) (by have q0 := rb9; exact ⟨by omega, by omega⟩)) ⟨by decide, by decide⟩ ⟨rfl, rfl⟩ hw hw rfl rfl rfl (Nat.le_of_ble_eq_true rfl) hl.1 dX5_raise_2 ⟨Nat.le_refl _, Nat.le_refl _⟩) ?_
  by_cases b2 : f_isBake T b9
  · rw [bI_t b2]
    obtain ⟨j, rfl⟩ := Int.eq_ofNat_of_zero_le b2.1
    refine lv_istore_n (lv' := [(2, .int (iI 1)), (0, .ref (ad 6 0)), (1, .int (iI (j : Int)))]) hx hb dX5_raise_5 rfl hl (by decide) rfl (fun ls hl => ?_)
    refine lv_aload_n hx hb dX5_raise_6 rfl (lv_at hl 1 rfl) ?_
    refine lv_iload_n hx hb dX5_raise_7 rfl (lv_at hl 0 rfl) ?_
    refine wa_if_ne (tgt := 15) F dX5_raise_8 (by decide) (by decide) (fun c8 => ?_) (fun c8 => absurd c8 (by decide))
    refine lv_aload_n hx hb dX5_raise_15 rfl (lv_at hl 1 rfl) ?_
    refine gX5_53 F hw rfl (v := .ref (ad 6 18)) rfl dX5_raise_16 ?_
    refine lv_iload_n hx hb dX5_raise_19 rfl (lv_at hl 2 rfl) ?_
    refine aM_18 F hw j rfl (by omega) dX5_raise_20 ?_
    refine wa_if_ne (tgt := 52) F dX5_raise_21 (by decide) (by have q0 := hB 18 j; exact ⟨by omega, by omega⟩) (fun c21 => ?_) (fun c21 => ?_)
    · skip
      refine wa_const F dX5_raise_52 ?_
      refine wa_goto (tgt := 57) F dX5_raise_53 (by decide) ?_
      refine wa_ci (kX5_103 F (c_X5_isFine l D cy ad S X T o A (wm_j hj _ _) (2) (by decide)) ⟨by decide, by decide⟩ ⟨rfl, rfl⟩ hw hw rfl rfl rfl (Nat.le_of_ble_eq_true rfl) hl.1 dX5_raise_57 ⟨Nat.le_refl _, Nat.le_refl _⟩) hS (fun H locs hw hS => ?_)
      refine wa_if_ne (tgt := 65) F dX5_raise_60 (by decide) (by decide) (fun c60 => absurd c60 (by decide)) (fun c60 => ?_)
      refine wa_const F dX5_raise_63 ?_
      have ek : k_raise T (j : Int) = 2 := by simp only [k_raise, f_isImage, f_isBake, Int.toNat_natCast]; (repeat' split) <;> first | rfl | omega
      rw [ek]
      exact wa_ei F hw hS (by first | rfl | simp [wa_s] | omega) dX5_raise_64
    · skip
      refine lv_aload_n hx hb dX5_raise_24 rfl (lv_at hl 1 rfl) ?_
      refine gX5_49 F hw rfl (v := .ref (ad 6 17)) rfl dX5_raise_25 ?_
      refine lv_iload_n hx hb dX5_raise_28 rfl (lv_at hl 2 rfl) ?_
      refine aM_17 F hw j rfl (by omega) dX5_raise_29 ?_
      refine wa_if_ne (tgt := 52) F dX5_raise_30 (by decide) (by have q0 := hB 17 j; exact ⟨by omega, by omega⟩) (fun c30 => ?_) (fun c30 => ?_)
      · skip
        refine wa_const F dX5_raise_52 ?_
        refine wa_goto (tgt := 57) F dX5_raise_53 (by decide) ?_
        refine wa_ci (kX5_103 F (c_X5_isFine l D cy ad S X T o A (wm_j hj _ _) (2) (by decide)) ⟨by decide, by decide⟩ ⟨rfl, rfl⟩ hw hw rfl rfl rfl (Nat.le_of_ble_eq_true rfl) hl.1 dX5_raise_57 ⟨Nat.le_refl _, Nat.le_refl _⟩) hS (fun H locs hw hS => ?_)
        refine wa_if_ne (tgt := 65) F dX5_raise_60 (by decide) (by decide) (fun c60 => absurd c60 (by decide)) (fun c60 => ?_)
        refine wa_const F dX5_raise_63 ?_
        have ek : k_raise T (j : Int) = 2 := by simp only [k_raise, f_isImage, f_isBake, Int.toNat_natCast]; (repeat' split) <;> first | rfl | omega
        rw [ek]
        exact wa_ei F hw hS (by first | rfl | simp [wa_s] | omega) dX5_raise_64
      · skip
        refine lv_aload_n hx hb dX5_raise_33 rfl (lv_at hl 1 rfl) ?_
        refine gX5_46 F hw rfl (v := .ref (ad 6 16)) rfl dX5_raise_34 ?_
        refine lv_iload_n hx hb dX5_raise_37 rfl (lv_at hl 2 rfl) ?_
        refine aM_16 F hw j rfl (by omega) dX5_raise_38 ?_
        refine wa_const F dX5_raise_39 ?_
        refine wa_ic_eq (tgt := 52) F dX5_raise_40 (by decide) (by have q0 := hB 16 j; exact ⟨by omega, by omega⟩) (by decide) (fun c40 => ?_) (fun c40 => ?_)
        · skip
          refine wa_const F dX5_raise_52 ?_
          refine wa_goto (tgt := 57) F dX5_raise_53 (by decide) ?_
          refine wa_ci (kX5_103 F (c_X5_isFine l D cy ad S X T o A (wm_j hj _ _) (2) (by decide)) ⟨by decide, by decide⟩ ⟨rfl, rfl⟩ hw hw rfl rfl rfl (Nat.le_of_ble_eq_true rfl) hl.1 dX5_raise_57 ⟨Nat.le_refl _, Nat.le_refl _⟩) hS (fun H locs hw hS => ?_)
          refine wa_if_ne (tgt := 65) F dX5_raise_60 (by decide) (by decide) (fun c60 => absurd c60 (by decide)) (fun c60 => ?_)
          refine wa_const F dX5_raise_63 ?_
          have ek : k_raise T (j : Int) = 2 := by simp only [k_raise, f_isImage, f_isBake, Int.toNat_natCast]; (repeat' split) <;> first | rfl | omega
          rw [ek]
          exact wa_ei F hw hS (by first | rfl | simp [wa_s] | omega) dX5_raise_64
        · skip
          refine lv_aload_n hx hb dX5_raise_43 rfl (lv_at hl 1 rfl) ?_
          refine gX5_56 F hw rfl (v := .ref (ad 6 19)) rfl dX5_raise_44 ?_
          refine lv_iload_n hx hb dX5_raise_47 rfl (lv_at hl 2 rfl) ?_
          refine aM_19 F hw j rfl (by omega) dX5_raise_48 ?_
          refine wa_if_ne (tgt := 56) F dX5_raise_49 (by decide) (by have q0 := hB 19 j; exact ⟨by omega, by omega⟩) (fun c49 => ?_) (fun c49 => ?_)
          · skip
            refine wa_const F dX5_raise_56 ?_
            refine wa_ci (kX5_103 F (c_X5_isFine l D cy ad S X T o A (wm_j hj _ _) (0) (by decide)) ⟨by decide, by decide⟩ ⟨rfl, rfl⟩ hw hw rfl rfl rfl (Nat.le_of_ble_eq_true rfl) hl.1 dX5_raise_57 ⟨Nat.le_refl _, Nat.le_refl _⟩) hS (fun H locs hw hS => ?_)
            refine wa_if_ne (tgt := 65) F dX5_raise_60 (by decide) (by decide) (fun c60 => ?_) (fun c60 => absurd c60 (by decide))
            refine lv_aload_n hx hb dX5_raise_65 rfl (lv_at hl 1 rfl) ?_
            refine gX5_46 F hw rfl (v := .ref (ad 6 16)) rfl dX5_raise_66 ?_
            refine lv_iload_n hx hb dX5_raise_69 rfl (lv_at hl 2 rfl) ?_
            refine lv_dup2_11 hx hb dX5_raise_70 rfl rfl ?_
            refine aM_16 F hw j rfl (by omega) dX5_raise_71 ?_
            refine W.eq (g2 := F0 m 72 ls [.int (iI (T 16 j)), .int (iI (j : Int)), .ref (ad 6 16)]) rfl ?_
            refine wa_const F dX5_raise_72 ?_
            refine wa_add F dX5_raise_73 ?_
            refine sM_16 F hw (wm_j hj _ _) hS j rfl (by omega) dX5_raise_74 (fun H locs hw hS => ?_)
            refine lv_aload_n hx hb dX5_raise_75 rfl (lv_at hl 1 rfl) ?_
            refine gX5_56 F hw rfl (v := .ref (ad 6 19)) rfl dX5_raise_76 ?_
            refine lv_iload_n hx hb dX5_raise_79 rfl (lv_at hl 2 rfl) ?_
            refine wa_const F dX5_raise_80 ?_
            refine sM_19 F hw (wm_j hj _ _) hS (by decide) j rfl (by omega) dX5_raise_81 (fun H locs hw hS => ?_)
            refine lv_aload_n hx hb dX5_raise_82 rfl (lv_at hl 1 rfl) ?_
            refine gX5_46 F hw rfl (v := .ref (ad 6 16)) rfl dX5_raise_83 ?_
            refine lv_iload_n hx hb dX5_raise_86 rfl (lv_at hl 2 rfl) ?_
            refine aM_16 F hw j rfl (by omega) dX5_raise_87 ?_
            rw [show (wa_s (wa_s (wa_s T 0 0 0) 16 j ((T 16 j) + 1)) 19 j 0) 16 j = ((T 16 j) + 1) from by simp [wa_s]]
            have ek : k_raise T (j : Int) = 0 := by simp only [k_raise, f_isImage, f_isBake, Int.toNat_natCast]; (repeat' split) <;> first | rfl | omega
            rw [ek]
            exact wa_ei F hw hS (by first | rfl | simp [wa_s] | omega) dX5_raise_88
          · skip
            refine wa_const F dX5_raise_52 ?_
            refine wa_goto (tgt := 57) F dX5_raise_53 (by decide) ?_
            refine wa_ci (kX5_103 F (c_X5_isFine l D cy ad S X T o A (wm_j hj _ _) (2) (by decide)) ⟨by decide, by decide⟩ ⟨rfl, rfl⟩ hw hw rfl rfl rfl (Nat.le_of_ble_eq_true rfl) hl.1 dX5_raise_57 ⟨Nat.le_refl _, Nat.le_refl _⟩) hS (fun H locs hw hS => ?_)
            refine wa_if_ne (tgt := 65) F dX5_raise_60 (by decide) (by decide) (fun c60 => absurd c60 (by decide)) (fun c60 => ?_)
            refine wa_const F dX5_raise_63 ?_
            have ek : k_raise T (j : Int) = 2 := by simp only [k_raise, f_isImage, f_isBake, Int.toNat_natCast]; (repeat' split) <;> first | rfl | omega
            rw [ek]
            exact wa_ei F hw hS (by first | rfl | simp [wa_s] | omega) dX5_raise_64
  · rw [bI_f b2]
    refine lv_istore_n (lv' := [(2, .int (iI 0)), (0, .ref (ad 6 0)), (1, .int (iI b9))]) hx hb dX5_raise_5 rfl hl (by decide) rfl (fun ls hl => ?_)
    refine lv_aload_n hx hb dX5_raise_6 rfl (lv_at hl 1 rfl) ?_
    refine lv_iload_n hx hb dX5_raise_7 rfl (lv_at hl 0 rfl) ?_
    refine wa_if_ne (tgt := 15) F dX5_raise_8 (by decide) (by decide) (fun c8 => absurd c8 (by decide)) (fun c8 => ?_)
    refine wa_const F dX5_raise_11 ?_
    refine wa_goto (tgt := 57) F dX5_raise_12 (by decide) ?_
    refine wa_ci (kX5_103 F (c_X5_isFine l D cy ad S X T o A (wm_j hj _ _) (1) (by decide)) ⟨by decide, by decide⟩ ⟨rfl, rfl⟩ hw hw rfl rfl rfl (Nat.le_of_ble_eq_true rfl) hl.1 dX5_raise_57 ⟨Nat.le_refl _, Nat.le_refl _⟩) hS (fun H locs hw hS => ?_)
    refine wa_if_ne (tgt := 65) F dX5_raise_60 (by decide) (by decide) (fun c60 => absurd c60 (by decide)) (fun c60 => ?_)
    refine wa_const F dX5_raise_63 ?_
    have ek : k_raise T b9 = 1 := by simp only [k_raise, f_isImage, f_isBake, Int.toNat_natCast]; (repeat' split) <;> first | rfl | omega
    rw [ek]
    exact wa_ei F hw hS (by first | rfl | simp [wa_s] | omega) dX5_raise_64
set_option maxRecDepth 100000 in
set_option maxHeartbeats 4000000 in
/-- copy -/
theorem c_X5_copy (l : Launch) (D : va_G) (cy : Nat → ClassId) (ad : Nat → Nat → Nat) (S X T : wa_St) (o : Int64) (A : Nat → Prop) (hj : wa_wj A ad (wW cy ad S X T o)) (hwf : wf T) (b9 q : Int) (rb9 : wa_r b9) (rq : wa_r q) : Met l yX5_copy wX5_copy ({ frames := 2, cells := 0, slots := 0, locals := 43 } : Room) (wa_pc [.ref (ad 6 0), .int (iI b9), .int (iI q)] D cy (fun H => wa_wd D ad (wW cy ad S X T o) H)) (wa_Qi A D ad (wW cy ad S X (o_s T (k_copy T b9 q) (a_copy T b9 q)) o) (o_v (k_copy T b9 q) (T 1 0 + T 22 q.toNat))) 0 0 A := by
  refine wa_en (by decide +kernel) (Nat.le_of_ble_eq_true rfl) ?_
  intro p e s m args below meth c F hw ls hl
  have F : wa_fx p s m c meth args cX5_copy 5 RX5 "copy" (Option.some FieldType.int) D cy := F
  have hw : wa_wd D ad (wW cy ad S X T o) s.heap := hw
  have hl : lv_has ls 5 [(0, .ref (ad 6 0)), (1, .int (iI b9)), (2, .int (iI q))] := hl
  obtain ⟨hx, hb, hml, hown, hts⟩ := id F.1
  obtain ⟨hB, w8, w21, w12, w29, w4, w7, w6, w5, w13, w25, w26, w28, w14, w3, wf17⟩ := id hwf
  have hS : va_S A s.heap s.heap [] := va_S.rf
  refine lv_aload_n hx hb dX5_copy_0 rfl (lv_at hl 0 rfl) ?_
  refine lv_iload_n hx hb dX5_copy_1 rfl (lv_at hl 1 rfl) ?_
  refine wa_cp (kX5_144 F (c_X5_isBake l D cy ad S X T o hwf (b9) (by have q0 := rb9; exact ⟨by omega, by omega⟩)) ⟨by decide, by decide⟩ ⟨rfl, rfl⟩ hw hw rfl rfl rfl (Nat.le_of_ble_eq_true rfl) hl.1 dX5_copy_2 ⟨Nat.le_refl _, Nat.le_refl _⟩) ?_
  by_cases b2 : f_isBake T b9
  · rw [bI_t b2]
    obtain ⟨j, rfl⟩ := Int.eq_ofNat_of_zero_le b2.1
    refine lv_istore_n (lv' := [(3, .int (iI 1)), (0, .ref (ad 6 0)), (1, .int (iI (j : Int))), (2, .int (iI q))]) hx hb dX5_copy_5 rfl hl (by decide) rfl (fun ls hl => ?_)
    refine lv_iload_n hx hb dX5_copy_6 rfl (lv_at hl 3 rfl) ?_
    refine wa_const F dX5_copy_7 ?_
    refine wa_const F dX5_copy_8 ?_
    refine wa_cp (kX5_96 F (c_X5_isIn l D cy ad S X T o (q) (0) (2) (by have q0 := rq; exact ⟨by omega, by omega⟩) (by decide) (by decide)) ⟨by decide, by decide⟩ ⟨rfl, rfl⟩ hw rfl rfl (Nat.le_of_ble_eq_true rfl) hl.1 dX5_copy_9 ⟨Nat.le_refl _, Nat.le_refl _⟩) ?_
    by_cases b9h : 0 ≤ q ∧ q ≤ 2
    · rw [bI_t b9h]
      obtain ⟨jq, rfl⟩ := Int.eq_ofNat_of_zero_le b9h.1
      refine lv_istore (lv' := [(4, .int (iI 1)), (3, .int (iI 1)), (0, .ref (ad 6 0)), (1, .int (iI (j : Int))), (2, .int (iI (jq : Int)))]) hx hb dX5_copy_12 hl (by decide) rfl (fun ls hl => ?_)
      refine lv_aload_n hx hb dX5_copy_14 rfl (lv_at hl 2 rfl) ?_
      refine lv_iload_n hx hb dX5_copy_15 rfl (lv_at hl 1 rfl) ?_
      refine wa_if_ne (tgt := 23) F dX5_copy_16 (by decide) (by decide) (fun c16 => ?_) (fun c16 => absurd c16 (by decide))
      refine lv_iload hx hb dX5_copy_23 (lv_at hl 0 rfl) ?_
      refine wa_if_ne (tgt := 32) F dX5_copy_25 (by decide) (by decide) (fun c25 => ?_) (fun c25 => absurd c25 (by decide))
      refine lv_aload_n hx hb dX5_copy_32 rfl (lv_at hl 2 rfl) ?_
      refine gX5_53 F hw rfl (v := .ref (ad 6 18)) rfl dX5_copy_33 ?_
      refine lv_iload_n hx hb dX5_copy_36 rfl (lv_at hl 3 rfl) ?_
      refine aM_18 F hw j rfl (by omega) dX5_copy_37 ?_
      refine wa_if_ne (tgt := 55) F dX5_copy_38 (by decide) (by have q0 := hB 18 j; exact ⟨by omega, by omega⟩) (fun c38 => ?_) (fun c38 => ?_)
      · skip
        refine wa_const F dX5_copy_55 ?_
        refine wa_goto (tgt := 60) F dX5_copy_56 (by decide) ?_
        refine wa_ci (kX5_103 F (c_X5_isFine l D cy ad S X T o A (wm_j hj _ _) (3) (by decide)) ⟨by decide, by decide⟩ ⟨rfl, rfl⟩ hw hw rfl rfl rfl (Nat.le_of_ble_eq_true rfl) hl.1 dX5_copy_60 ⟨Nat.le_refl _, Nat.le_refl _⟩) hS (fun H locs hw hS => ?_)
        refine wa_if_ne (tgt := 68) F dX5_copy_63 (by decide) (by decide) (fun c63 => absurd c63 (by decide)) (fun c63 => ?_)
        refine wa_const F dX5_copy_66 ?_
        have ek : k_copy T (j : Int) (jq : Int) = 3 := by simp only [k_copy, f_isImage, f_isBake, Int.toNat_natCast]; (repeat' split) <;> first | rfl | omega
        rw [ek]
        exact wa_ei F hw hS (by first | rfl | simp [wa_s] | omega) dX5_copy_67
      · skip
        refine lv_aload_n hx hb dX5_copy_41 rfl (lv_at hl 2 rfl) ?_
        refine gX5_59 F hw rfl (v := .ref (ad 6 20)) rfl dX5_copy_42 ?_
        refine wa_const F dX5_copy_45 ?_
        refine lv_iload_n hx hb dX5_copy_46 rfl (lv_at hl 3 rfl) ?_
        refine wa_mul F dX5_copy_47 ?_
        refine lv_iload_n hx hb dX5_copy_48 rfl (lv_at hl 4 rfl) ?_
        refine wa_add F dX5_copy_49 ?_
        refine aM_20 F hw (3 * j + jq) (by omega) (by omega) dX5_copy_50 ?_
        refine wa_const F dX5_copy_51 ?_
        refine wa_ic_eq (tgt := 59) F dX5_copy_52 (by decide) (by have q0 := hB 20 (3 * j + jq); exact ⟨by omega, by omega⟩) (by decide) (fun c52 => ?_) (fun c52 => ?_)
        · skip
          refine wa_const F dX5_copy_59 ?_
          refine wa_ci (kX5_103 F (c_X5_isFine l D cy ad S X T o A (wm_j hj _ _) (0) (by decide)) ⟨by decide, by decide⟩ ⟨rfl, rfl⟩ hw hw rfl rfl rfl (Nat.le_of_ble_eq_true rfl) hl.1 dX5_copy_60 ⟨Nat.le_refl _, Nat.le_refl _⟩) hS (fun H locs hw hS => ?_)
          refine wa_if_ne (tgt := 68) F dX5_copy_63 (by decide) (by decide) (fun c63 => ?_) (fun c63 => absurd c63 (by decide))
          refine lv_aload_n hx hb dX5_copy_68 rfl (lv_at hl 2 rfl) ?_
          refine gX5_59 F hw rfl (v := .ref (ad 6 20)) rfl dX5_copy_69 ?_
          refine wa_const F dX5_copy_72 ?_
          refine lv_iload_n hx hb dX5_copy_73 rfl (lv_at hl 3 rfl) ?_
          refine wa_mul F dX5_copy_74 ?_
          refine lv_iload_n hx hb dX5_copy_75 rfl (lv_at hl 4 rfl) ?_
          refine wa_add F dX5_copy_76 ?_
          refine lv_aload_n hx hb dX5_copy_77 rfl (lv_at hl 2 rfl) ?_
          refine gX5_130 F hw rfl (v := .int (iI (T 1 0))) rfl dX5_copy_78 ?_
          refine lv_aload_n hx hb dX5_copy_81 rfl (lv_at hl 2 rfl) ?_
          refine gX5_62 F hw rfl (v := .ref (ad 6 22)) rfl dX5_copy_82 ?_
          refine lv_iload_n hx hb dX5_copy_85 rfl (lv_at hl 4 rfl) ?_
          refine aM_22 F hw jq rfl (by omega) dX5_copy_86 ?_
          refine W.eq (g2 := F0 m 87 ls [.int (iI (T 22 jq)), .int (iI (T 1 0)), .int (iI ((3 * (j : Int)) + (jq : Int))), .ref (ad 6 20)]) rfl ?_
          refine wa_add F dX5_copy_87 ?_
          refine sM_20 F hw (wm_j hj _ _) hS (3 * j + jq) (by omega) (by omega) dX5_copy_88 (fun H locs hw hS => ?_)
          refine lv_aload_n hx hb dX5_copy_89 rfl (lv_at hl 2 rfl) ?_
          refine gX5_130 F hw rfl (v := .int (iI (T 1 0))) rfl dX5_copy_90 ?_
          refine lv_aload_n hx hb dX5_copy_93 rfl (lv_at hl 2 rfl) ?_
          refine gX5_62 F hw rfl (v := .ref (ad 6 22)) rfl dX5_copy_94 ?_
          refine lv_iload_n hx hb dX5_copy_97 rfl (lv_at hl 4 rfl) ?_
          refine aM_22 F hw jq rfl (by omega) dX5_copy_98 ?_
          refine W.eq (g2 := F0 m 99 ls [.int (iI (T 22 jq)), .int (iI (T 1 0))]) rfl ?_
          refine wa_add F dX5_copy_99 ?_
          have ek : k_copy T (j : Int) (jq : Int) = 0 := by simp only [k_copy, f_isImage, f_isBake, Int.toNat_natCast]; (repeat' split) <;> first | rfl | omega
          rw [ek]
          exact wa_ei F hw hS (by first | rfl | simp [wa_s] | omega) dX5_copy_100
        · skip
          refine wa_const F dX5_copy_55 ?_
          refine wa_goto (tgt := 60) F dX5_copy_56 (by decide) ?_
          refine wa_ci (kX5_103 F (c_X5_isFine l D cy ad S X T o A (wm_j hj _ _) (3) (by decide)) ⟨by decide, by decide⟩ ⟨rfl, rfl⟩ hw hw rfl rfl rfl (Nat.le_of_ble_eq_true rfl) hl.1 dX5_copy_60 ⟨Nat.le_refl _, Nat.le_refl _⟩) hS (fun H locs hw hS => ?_)
          refine wa_if_ne (tgt := 68) F dX5_copy_63 (by decide) (by decide) (fun c63 => absurd c63 (by decide)) (fun c63 => ?_)
          refine wa_const F dX5_copy_66 ?_
          have ek : k_copy T (j : Int) (jq : Int) = 3 := by simp only [k_copy, f_isImage, f_isBake, Int.toNat_natCast]; (repeat' split) <;> first | rfl | omega
          rw [ek]
          exact wa_ei F hw hS (by first | rfl | simp [wa_s] | omega) dX5_copy_67
    · rw [bI_f b9h]
      refine lv_istore (lv' := [(4, .int (iI 0)), (3, .int (iI 1)), (0, .ref (ad 6 0)), (1, .int (iI (j : Int))), (2, .int (iI q))]) hx hb dX5_copy_12 hl (by decide) rfl (fun ls hl => ?_)
      refine lv_aload_n hx hb dX5_copy_14 rfl (lv_at hl 2 rfl) ?_
      refine lv_iload_n hx hb dX5_copy_15 rfl (lv_at hl 1 rfl) ?_
      refine wa_if_ne (tgt := 23) F dX5_copy_16 (by decide) (by decide) (fun c16 => ?_) (fun c16 => absurd c16 (by decide))
      refine lv_iload hx hb dX5_copy_23 (lv_at hl 0 rfl) ?_
      refine wa_if_ne (tgt := 32) F dX5_copy_25 (by decide) (by decide) (fun c25 => absurd c25 (by decide)) (fun c25 => ?_)
      refine wa_const F dX5_copy_28 ?_
      refine wa_goto (tgt := 60) F dX5_copy_29 (by decide) ?_
      refine wa_ci (kX5_103 F (c_X5_isFine l D cy ad S X T o A (wm_j hj _ _) (2) (by decide)) ⟨by decide, by decide⟩ ⟨rfl, rfl⟩ hw hw rfl rfl rfl (Nat.le_of_ble_eq_true rfl) hl.1 dX5_copy_60 ⟨Nat.le_refl _, Nat.le_refl _⟩) hS (fun H locs hw hS => ?_)
      refine wa_if_ne (tgt := 68) F dX5_copy_63 (by decide) (by decide) (fun c63 => absurd c63 (by decide)) (fun c63 => ?_)
      refine wa_const F dX5_copy_66 ?_
      have ek : k_copy T (j : Int) q = 2 := by simp only [k_copy, f_isImage, f_isBake, Int.toNat_natCast]; (repeat' split) <;> first | rfl | omega
      rw [ek]
      exact wa_ei F hw hS (by first | rfl | simp [wa_s] | omega) dX5_copy_67
  · rw [bI_f b2]
    refine lv_istore_n (lv' := [(3, .int (iI 0)), (0, .ref (ad 6 0)), (1, .int (iI b9)), (2, .int (iI q))]) hx hb dX5_copy_5 rfl hl (by decide) rfl (fun ls hl => ?_)
    refine lv_iload_n hx hb dX5_copy_6 rfl (lv_at hl 3 rfl) ?_
    refine wa_const F dX5_copy_7 ?_
    refine wa_const F dX5_copy_8 ?_
    refine wa_cp (kX5_96 F (c_X5_isIn l D cy ad S X T o (q) (0) (2) (by have q0 := rq; exact ⟨by omega, by omega⟩) (by decide) (by decide)) ⟨by decide, by decide⟩ ⟨rfl, rfl⟩ hw rfl rfl (Nat.le_of_ble_eq_true rfl) hl.1 dX5_copy_9 ⟨Nat.le_refl _, Nat.le_refl _⟩) ?_
    by_cases b9h : 0 ≤ q ∧ q ≤ 2
    · rw [bI_t b9h]
      obtain ⟨jq, rfl⟩ := Int.eq_ofNat_of_zero_le b9h.1
      refine lv_istore (lv' := [(4, .int (iI 1)), (3, .int (iI 0)), (0, .ref (ad 6 0)), (1, .int (iI b9)), (2, .int (iI (jq : Int)))]) hx hb dX5_copy_12 hl (by decide) rfl (fun ls hl => ?_)
      refine lv_aload_n hx hb dX5_copy_14 rfl (lv_at hl 2 rfl) ?_
      refine lv_iload_n hx hb dX5_copy_15 rfl (lv_at hl 1 rfl) ?_
      refine wa_if_ne (tgt := 23) F dX5_copy_16 (by decide) (by decide) (fun c16 => absurd c16 (by decide)) (fun c16 => ?_)
      refine wa_const F dX5_copy_19 ?_
      refine wa_goto (tgt := 60) F dX5_copy_20 (by decide) ?_
      refine wa_ci (kX5_103 F (c_X5_isFine l D cy ad S X T o A (wm_j hj _ _) (1) (by decide)) ⟨by decide, by decide⟩ ⟨rfl, rfl⟩ hw hw rfl rfl rfl (Nat.le_of_ble_eq_true rfl) hl.1 dX5_copy_60 ⟨Nat.le_refl _, Nat.le_refl _⟩) hS (fun H locs hw hS => ?_)
      refine wa_if_ne (tgt := 68) F dX5_copy_63 (by decide) (by decide) (fun c63 => absurd c63 (by decide)) (fun c63 => ?_)
      refine wa_const F dX5_copy_66 ?_
      have ek : k_copy T b9 (jq : Int) = 1 := by simp only [k_copy, f_isImage, f_isBake, Int.toNat_natCast]; (repeat' split) <;> first | rfl | omega
      rw [ek]
      exact wa_ei F hw hS (by first | rfl | simp [wa_s] | omega) dX5_copy_67
    · rw [bI_f b9h]
      refine lv_istore (lv' := [(4, .int (iI 0)), (3, .int (iI 0)), (0, .ref (ad 6 0)), (1, .int (iI b9)), (2, .int (iI q))]) hx hb dX5_copy_12 hl (by decide) rfl (fun ls hl => ?_)
      refine lv_aload_n hx hb dX5_copy_14 rfl (lv_at hl 2 rfl) ?_
      refine lv_iload_n hx hb dX5_copy_15 rfl (lv_at hl 1 rfl) ?_
      refine wa_if_ne (tgt := 23) F dX5_copy_16 (by decide) (by decide) (fun c16 => absurd c16 (by decide)) (fun c16 => ?_)
      refine wa_const F dX5_copy_19 ?_
      refine wa_goto (tgt := 60) F dX5_copy_20 (by decide) ?_
      refine wa_ci (kX5_103 F (c_X5_isFine l D cy ad S X T o A (wm_j hj _ _) (1) (by decide)) ⟨by decide, by decide⟩ ⟨rfl, rfl⟩ hw hw rfl rfl rfl (Nat.le_of_ble_eq_true rfl) hl.1 dX5_copy_60 ⟨Nat.le_refl _, Nat.le_refl _⟩) hS (fun H locs hw hS => ?_)
      refine wa_if_ne (tgt := 68) F dX5_copy_63 (by decide) (by decide) (fun c63 => absurd c63 (by decide)) (fun c63 => ?_)
      refine wa_const F dX5_copy_66 ?_
      have ek : k_copy T b9 q = 1 := by simp only [k_copy, f_isImage, f_isBake, Int.toNat_natCast]; (repeat' split) <;> first | rfl | omega
      rw [ek]
      exact wa_ei F hw hS (by first | rfl | simp [wa_s] | omega) dX5_copy_67
set_option maxRecDepth 100000 in
set_option maxHeartbeats 4000000 in
/-- setRules -/
theorem c_X5_setRules (l : Launch) (D : va_G) (cy : Nat → ClassId) (ad : Nat → Nat → Nat) (S X T : wa_St) (o : Int64) (A : Nat → Prop) (hj : wa_wj A ad (wW cy ad S X T o)) (hwf : wf T) (q dl sa kp : Int) (rq : wa_r q) (rdl : wa_r dl) (rsa : wa_r sa) (rkp : wa_r kp) : Met l yX5_setRules wX5_setRules ({ frames := 1, cells := 0, slots := 0, locals := 22 } : Room) (wa_pc [.ref (ad 6 0), .int (iI q), .int (iI dl), .int (iI sa), .int (iI kp)] D cy (fun H => wa_wd D ad (wW cy ad S X T o) H)) (wa_Qv A D ad (wW cy ad S X (o_s T (k_rules q dl sa kp) (a_rules T q dl sa kp)) o)) 0 0 A := by
  refine wa_en (by decide +kernel) (Nat.le_of_ble_eq_true rfl) ?_
  intro p e s m args below meth c F hw ls hl
  have F : wa_fx p s m c meth args cX5_setRules 6 RX5 "setRules" (none) D cy := F
  have hw : wa_wd D ad (wW cy ad S X T o) s.heap := hw
  have hl : lv_has ls 6 [(0, .ref (ad 6 0)), (1, .int (iI q)), (2, .int (iI dl)), (3, .int (iI sa)), (4, .int (iI kp))] := hl
  obtain ⟨hx, hb, hml, hown, hts⟩ := id F.1
  obtain ⟨hB, w8, w21, w12, w29, w4, w7, w6, w5, w13, w25, w26, w28, w14, w3, wf17⟩ := id hwf
  have hS : va_S A s.heap s.heap [] := va_S.rf
  refine lv_iload_n hx hb dX5_setRules_0 rfl (lv_at hl 1 rfl) ?_
  refine wa_const F dX5_setRules_1 ?_
  refine wa_const F dX5_setRules_2 ?_
  refine wa_cp (kX5_96 F (c_X5_isIn l D cy ad S X T o (q) (0) (2) (by have q0 := rq; exact ⟨by omega, by omega⟩) (by decide) (by decide)) ⟨by decide, by decide⟩ ⟨rfl, rfl⟩ hw rfl rfl (Nat.le_of_ble_eq_true rfl) hl.1 dX5_setRules_3 ⟨Nat.le_refl _, Nat.le_refl _⟩) ?_
  by_cases b3 : 0 ≤ q ∧ q ≤ 2
  · rw [bI_t b3]
    obtain ⟨jq, rfl⟩ := Int.eq_ofNat_of_zero_le b3.1
    refine wa_if_eq (tgt := 44) F dX5_setRules_6 (by decide) (by decide) (fun c6 => absurd c6 (by decide)) (fun c6 => ?_)
    refine lv_iload_n hx hb dX5_setRules_9 rfl (lv_at hl 2 rfl) ?_
    refine wa_const F dX5_setRules_10 ?_
    refine wa_bi F dX5_setRules_11 (by decide +kernel) ?_
    refine wa_cp (kX5_96 F (c_X5_isIn l D cy ad S X T o (dl) (0) (9) (by have q0 := rdl; exact ⟨by omega, by omega⟩) (by decide) (by decide)) ⟨by decide, by decide⟩ ⟨rfl, rfl⟩ hw rfl rfl (Nat.le_of_ble_eq_true rfl) hl.1 dX5_setRules_13 ⟨Nat.le_refl _, Nat.le_refl _⟩) ?_
    by_cases b13 : 0 ≤ dl ∧ dl ≤ 9
    · rw [bI_t b13]
      refine wa_if_eq (tgt := 44) F dX5_setRules_16 (by decide) (by decide) (fun c16 => absurd c16 (by decide)) (fun c16 => ?_)
      refine lv_iload_n hx hb dX5_setRules_19 rfl (lv_at hl 3 rfl) ?_
      refine wa_const F dX5_setRules_20 ?_
      refine wa_bi F dX5_setRules_21 (by decide +kernel) ?_
      refine wa_cp (kX5_96 F (c_X5_isIn l D cy ad S X T o (sa) (0) (99) (by have q0 := rsa; exact ⟨by omega, by omega⟩) (by decide) (by decide)) ⟨by decide, by decide⟩ ⟨rfl, rfl⟩ hw rfl rfl (Nat.le_of_ble_eq_true rfl) hl.1 dX5_setRules_23 ⟨Nat.le_refl _, Nat.le_refl _⟩) ?_
      by_cases b23 : 0 ≤ sa ∧ sa ≤ 99
      · rw [bI_t b23]
        refine wa_if_eq (tgt := 44) F dX5_setRules_26 (by decide) (by decide) (fun c26 => absurd c26 (by decide)) (fun c26 => ?_)
        refine lv_iload hx hb dX5_setRules_29 (lv_at hl 4 rfl) ?_
        refine wa_const F dX5_setRules_31 ?_
        refine wa_bi F dX5_setRules_32 (by decide +kernel) ?_
        refine wa_cp (kX5_96 F (c_X5_isIn l D cy ad S X T o (kp) (0) (99) (by have q0 := rkp; exact ⟨by omega, by omega⟩) (by decide) (by decide)) ⟨by decide, by decide⟩ ⟨rfl, rfl⟩ hw rfl rfl (Nat.le_of_ble_eq_true rfl) hl.1 dX5_setRules_34 ⟨Nat.le_refl _, Nat.le_refl _⟩) ?_
        by_cases b34 : 0 ≤ kp ∧ kp ≤ 99
        · rw [bI_t b34]
          refine wa_if_eq (tgt := 44) F dX5_setRules_37 (by decide) (by decide) (fun c37 => absurd c37 (by decide)) (fun c37 => ?_)
          refine wa_const F dX5_setRules_40 ?_
          refine wa_goto (tgt := 45) F dX5_setRules_41 (by decide) ?_
          refine lv_istore (lv' := [(5, .int (iI 1)), (0, .ref (ad 6 0)), (1, .int (iI (jq : Int))), (2, .int (iI dl)), (3, .int (iI sa)), (4, .int (iI kp))]) hx hb dX5_setRules_45 hl (by decide) rfl (fun ls hl => ?_)
          refine lv_aload_n hx hb dX5_setRules_47 rfl (lv_at hl 1 rfl) ?_
          refine lv_iload hx hb dX5_setRules_48 (lv_at hl 0 rfl) ?_
          refine wa_if_eq (tgt := 57) F dX5_setRules_50 (by decide) (by decide) (fun c50 => absurd c50 (by decide)) (fun c50 => ?_)
          refine wa_const F dX5_setRules_53 ?_
          refine wa_goto (tgt := 58) F dX5_setRules_54 (by decide) ?_
          refine wa_ci (kX5_103 F (c_X5_isFine l D cy ad S X T o A (wm_j hj _ _) (0) (by decide)) ⟨by decide, by decide⟩ ⟨rfl, rfl⟩ hw hw rfl rfl rfl (Nat.le_of_ble_eq_true rfl) hl.1 dX5_setRules_58 ⟨Nat.le_refl _, Nat.le_refl _⟩) hS (fun H locs hw hS => ?_)
          refine wa_if_eq (tgt := 82) F dX5_setRules_61 (by decide) (by decide) (fun c61 => absurd c61 (by decide)) (fun c61 => ?_)
          refine lv_aload_n hx hb dX5_setRules_64 rfl (lv_at hl 1 rfl) ?_
          refine gX5_62 F hw rfl (v := .ref (ad 6 22)) rfl dX5_setRules_65 ?_
          refine lv_iload_n hx hb dX5_setRules_68 rfl (lv_at hl 2 rfl) ?_
          refine lv_iload_n hx hb dX5_setRules_69 rfl (lv_at hl 3 rfl) ?_
          refine sM_22 F hw (wm_j hj _ _) hS jq rfl (by omega) dX5_setRules_70 (fun H locs hw hS => ?_)
          refine lv_aload_n hx hb dX5_setRules_71 rfl (lv_at hl 1 rfl) ?_
          refine lv_iload_n hx hb dX5_setRules_72 rfl (lv_at hl 4 rfl) ?_
          refine pM_65 F hw (wm_j hj _ _) hS dX5_setRules_73 (fun H locs hw hS => ?_)
          refine lv_aload_n hx hb dX5_setRules_76 rfl (lv_at hl 1 rfl) ?_
          refine lv_iload hx hb dX5_setRules_77 (lv_at hl 5 rfl) ?_
          refine pM_69 F hw (wm_j hj _ _) hS dX5_setRules_79 (fun H locs hw hS => ?_)
          have ek : k_rules (jq : Int) dl sa kp = 0 := by simp only [k_rules, f_isImage, f_isBake, Int.toNat_natCast]; (repeat' split) <;> first | rfl | omega
          rw [ek]
          exact wa_ev F hw hS dX5_setRules_82
        · rw [bI_f b34]
          refine wa_if_eq (tgt := 44) F dX5_setRules_37 (by decide) (by decide) (fun c37 => ?_) (fun c37 => absurd c37 (by decide))
          refine wa_const F dX5_setRules_44 ?_
          refine lv_istore (lv' := [(5, .int (iI 0)), (0, .ref (ad 6 0)), (1, .int (iI (jq : Int))), (2, .int (iI dl)), (3, .int (iI sa)), (4, .int (iI kp))]) hx hb dX5_setRules_45 hl (by decide) rfl (fun ls hl => ?_)
          refine lv_aload_n hx hb dX5_setRules_47 rfl (lv_at hl 1 rfl) ?_
          refine lv_iload hx hb dX5_setRules_48 (lv_at hl 0 rfl) ?_
          refine wa_if_eq (tgt := 57) F dX5_setRules_50 (by decide) (by decide) (fun c50 => ?_) (fun c50 => absurd c50 (by decide))
          refine wa_const F dX5_setRules_57 ?_
          refine wa_ci (kX5_103 F (c_X5_isFine l D cy ad S X T o A (wm_j hj _ _) (1) (by decide)) ⟨by decide, by decide⟩ ⟨rfl, rfl⟩ hw hw rfl rfl rfl (Nat.le_of_ble_eq_true rfl) hl.1 dX5_setRules_58 ⟨Nat.le_refl _, Nat.le_refl _⟩) hS (fun H locs hw hS => ?_)
          refine wa_if_eq (tgt := 82) F dX5_setRules_61 (by decide) (by decide) (fun c61 => ?_) (fun c61 => absurd c61 (by decide))
          have ek : k_rules (jq : Int) dl sa kp = 1 := by simp only [k_rules, f_isImage, f_isBake, Int.toNat_natCast]; (repeat' split) <;> first | rfl | omega
          rw [ek]
          exact wa_ev F hw hS dX5_setRules_82
      · rw [bI_f b23]
        refine wa_if_eq (tgt := 44) F dX5_setRules_26 (by decide) (by decide) (fun c26 => ?_) (fun c26 => absurd c26 (by decide))
        refine wa_const F dX5_setRules_44 ?_
        refine lv_istore (lv' := [(5, .int (iI 0)), (0, .ref (ad 6 0)), (1, .int (iI (jq : Int))), (2, .int (iI dl)), (3, .int (iI sa)), (4, .int (iI kp))]) hx hb dX5_setRules_45 hl (by decide) rfl (fun ls hl => ?_)
        refine lv_aload_n hx hb dX5_setRules_47 rfl (lv_at hl 1 rfl) ?_
        refine lv_iload hx hb dX5_setRules_48 (lv_at hl 0 rfl) ?_
        refine wa_if_eq (tgt := 57) F dX5_setRules_50 (by decide) (by decide) (fun c50 => ?_) (fun c50 => absurd c50 (by decide))
        refine wa_const F dX5_setRules_57 ?_
        refine wa_ci (kX5_103 F (c_X5_isFine l D cy ad S X T o A (wm_j hj _ _) (1) (by decide)) ⟨by decide, by decide⟩ ⟨rfl, rfl⟩ hw hw rfl rfl rfl (Nat.le_of_ble_eq_true rfl) hl.1 dX5_setRules_58 ⟨Nat.le_refl _, Nat.le_refl _⟩) hS (fun H locs hw hS => ?_)
        refine wa_if_eq (tgt := 82) F dX5_setRules_61 (by decide) (by decide) (fun c61 => ?_) (fun c61 => absurd c61 (by decide))
        have ek : k_rules (jq : Int) dl sa kp = 1 := by simp only [k_rules, f_isImage, f_isBake, Int.toNat_natCast]; (repeat' split) <;> first | rfl | omega
        rw [ek]
        exact wa_ev F hw hS dX5_setRules_82
    · rw [bI_f b13]
      refine wa_if_eq (tgt := 44) F dX5_setRules_16 (by decide) (by decide) (fun c16 => ?_) (fun c16 => absurd c16 (by decide))
      refine wa_const F dX5_setRules_44 ?_
      refine lv_istore (lv' := [(5, .int (iI 0)), (0, .ref (ad 6 0)), (1, .int (iI (jq : Int))), (2, .int (iI dl)), (3, .int (iI sa)), (4, .int (iI kp))]) hx hb dX5_setRules_45 hl (by decide) rfl (fun ls hl => ?_)
      refine lv_aload_n hx hb dX5_setRules_47 rfl (lv_at hl 1 rfl) ?_
      refine lv_iload hx hb dX5_setRules_48 (lv_at hl 0 rfl) ?_
      refine wa_if_eq (tgt := 57) F dX5_setRules_50 (by decide) (by decide) (fun c50 => ?_) (fun c50 => absurd c50 (by decide))
      refine wa_const F dX5_setRules_57 ?_
      refine wa_ci (kX5_103 F (c_X5_isFine l D cy ad S X T o A (wm_j hj _ _) (1) (by decide)) ⟨by decide, by decide⟩ ⟨rfl, rfl⟩ hw hw rfl rfl rfl (Nat.le_of_ble_eq_true rfl) hl.1 dX5_setRules_58 ⟨Nat.le_refl _, Nat.le_refl _⟩) hS (fun H locs hw hS => ?_)
      refine wa_if_eq (tgt := 82) F dX5_setRules_61 (by decide) (by decide) (fun c61 => ?_) (fun c61 => absurd c61 (by decide))
      have ek : k_rules (jq : Int) dl sa kp = 1 := by simp only [k_rules, f_isImage, f_isBake, Int.toNat_natCast]; (repeat' split) <;> first | rfl | omega
      rw [ek]
      exact wa_ev F hw hS dX5_setRules_82
  · rw [bI_f b3]
    refine wa_if_eq (tgt := 44) F dX5_setRules_6 (by decide) (by decide) (fun c6 => ?_) (fun c6 => absurd c6 (by decide))
    refine wa_const F dX5_setRules_44 ?_
    refine lv_istore (lv' := [(5, .int (iI 0)), (0, .ref (ad 6 0)), (1, .int (iI q)), (2, .int (iI dl)), (3, .int (iI sa)), (4, .int (iI kp))]) hx hb dX5_setRules_45 hl (by decide) rfl (fun ls hl => ?_)
    refine lv_aload_n hx hb dX5_setRules_47 rfl (lv_at hl 1 rfl) ?_
    refine lv_iload hx hb dX5_setRules_48 (lv_at hl 0 rfl) ?_
    refine wa_if_eq (tgt := 57) F dX5_setRules_50 (by decide) (by decide) (fun c50 => ?_) (fun c50 => absurd c50 (by decide))
    refine wa_const F dX5_setRules_57 ?_
    refine wa_ci (kX5_103 F (c_X5_isFine l D cy ad S X T o A (wm_j hj _ _) (1) (by decide)) ⟨by decide, by decide⟩ ⟨rfl, rfl⟩ hw hw rfl rfl rfl (Nat.le_of_ble_eq_true rfl) hl.1 dX5_setRules_58 ⟨Nat.le_refl _, Nat.le_refl _⟩) hS (fun H locs hw hS => ?_)
    refine wa_if_eq (tgt := 82) F dX5_setRules_61 (by decide) (by decide) (fun c61 => ?_) (fun c61 => absurd c61 (by decide))
    have ek : k_rules q dl sa kp = 1 := by simp only [k_rules, f_isImage, f_isBake, Int.toNat_natCast]; (repeat' split) <;> first | rfl | omega
    rw [ek]
    exact wa_ev F hw hS dX5_setRules_82
set_option maxRecDepth 100000 in
set_option maxHeartbeats 4000000 in
/-- state -/
theorem c_X5_state (l : Launch) (D : va_G) (cy : Nat → ClassId) (ad : Nat → Nat → Nat) (S X T : wa_St) (o : Int64) (A : Nat → Prop) (hj : wa_wj A ad (wW cy ad S X T o)) (hwf : wf T) (b9 : Int) (rb9 : wa_r b9) : Met l yX5_state wX5_state ({ frames := 2, cells := 0, slots := 0, locals := 43 } : Room) (wa_pc [.ref (ad 6 0), .int (iI b9)] D cy (fun H => wa_wd D ad (wW cy ad S X T o) H)) (wa_Qi A D ad (wW cy ad S X (wa_s T 0 0 (k_bk T b9)) o) (o_v (k_bk T b9) (v_state T b9.toNat))) 0 0 A := by
  refine wa_en (by decide +kernel) (Nat.le_of_ble_eq_true rfl) ?_
  intro p e s m args below meth c F hw ls hl
  have F : wa_fx p s m c meth args cX5_state 2 RX5 "state" (Option.some FieldType.int) D cy := F
  have hw : wa_wd D ad (wW cy ad S X T o) s.heap := hw
  have hl : lv_has ls 2 [(0, .ref (ad 6 0)), (1, .int (iI b9))] := hl
  obtain ⟨hx, hb, hml, hown, hts⟩ := id F.1
  obtain ⟨hB, w8, w21, w12, w29, w4, w7, w6, w5, w13, w25, w26, w28, w14, w3, wf17⟩ := id hwf
  have hS : va_S A s.heap s.heap [] := va_S.rf
  refine lv_aload_n hx hb dX5_state_0 rfl (lv_at hl 0 rfl) ?_
  refine lv_aload_n hx hb dX5_state_1 rfl (lv_at hl 0 rfl) ?_
  refine lv_iload_n hx hb dX5_state_2 rfl (lv_at hl 1 rfl) ?_
  refine wa_cp (kX5_144 F (c_X5_isBake l D cy ad S X T o hwf (b9) (by have q0 := rb9; exact ⟨by omega, by omega⟩)) ⟨by decide, by decide⟩ ⟨rfl, rfl⟩ hw hw rfl rfl rfl (Nat.le_of_ble_eq_true rfl) hl.1 dX5_state_3 ⟨Nat.le_refl _, Nat.le_refl _⟩) ?_
  by_cases b3 : f_isBake T b9
  · rw [bI_t b3]
    obtain ⟨j, rfl⟩ := Int.eq_ofNat_of_zero_le b3.1
    refine wa_if_eq (tgt := 13) F dX5_state_6 (by decide) (by decide) (fun c6 => absurd c6 (by decide)) (fun c6 => ?_)
    refine wa_const F dX5_state_9 ?_
    refine wa_goto (tgt := 14) F dX5_state_10 (by decide) ?_
    refine wa_ci (kX5_103 F (c_X5_isFine l D cy ad S X T o A (wm_j hj _ _) (0) (by decide)) ⟨by decide, by decide⟩ ⟨rfl, rfl⟩ hw hw rfl rfl rfl (Nat.le_of_ble_eq_true rfl) hl.1 dX5_state_14 ⟨Nat.le_refl _, Nat.le_refl _⟩) hS (fun H locs hw hS => ?_)
    refine wa_if_ne (tgt := 22) F dX5_state_17 (by decide) (by decide) (fun c17 => ?_) (fun c17 => absurd c17 (by decide))
    refine lv_aload_n hx hb dX5_state_22 rfl (lv_at hl 0 rfl) ?_
    refine gX5_46 F hw rfl (v := .ref (ad 6 16)) rfl dX5_state_23 ?_
    refine lv_iload_n hx hb dX5_state_26 rfl (lv_at hl 1 rfl) ?_
    refine aM_16 F hw j rfl (by omega) dX5_state_27 ?_
    refine W.eq (g2 := F0 m 28 ls [.int (iI (T 16 j))]) rfl ?_
    refine lv_aload_n hx hb dX5_state_28 rfl (lv_at hl 0 rfl) ?_
    refine gX5_49 F hw rfl (v := .ref (ad 6 17)) rfl dX5_state_29 ?_
    refine lv_iload_n hx hb dX5_state_32 rfl (lv_at hl 1 rfl) ?_
    refine aM_17 F hw j rfl (by omega) dX5_state_33 ?_
    refine W.eq (g2 := F0 m 34 ls [.int (iI (T 17 j)), .int (iI (T 16 j))]) rfl ?_
    refine wa_if_eq (tgt := 42) F dX5_state_34 (by decide) (by have q0 := hB 17 j; exact ⟨by omega, by omega⟩) (fun c34 => ?_) (fun c34 => ?_)
    · skip
      refine wa_const F dX5_state_42 ?_
      refine wa_add F dX5_state_43 ?_
      refine lv_aload_n hx hb dX5_state_44 rfl (lv_at hl 0 rfl) ?_
      refine lv_iload_n hx hb dX5_state_45 rfl (lv_at hl 1 rfl) ?_
      refine wa_cp (kX5_153 F (c_X5_isTooOld l D cy ad S X (wa_s T 0 0 0) o (wf_th hwf (k := 0) (by decide)) ((j : Int)) j rfl (show (j : Int) < (wa_s T 0 0 0) 21 0 from (show (j : Int) < T 21 0 by omega))) ⟨by decide, by decide⟩ ⟨rfl, rfl⟩ hw hw rfl rfl rfl (Nat.le_of_ble_eq_true rfl) hl.1 dX5_state_46 ⟨Nat.le_refl _, Nat.le_refl _⟩) ?_
      by_cases b46 : f_old (wa_s T 0 0 0) j
      · rw [bI_t b46]
        refine wa_if_eq (tgt := 57) F dX5_state_49 (by decide) (by decide) (fun c49 => absurd c49 (by decide)) (fun c49 => ?_)
        refine wa_bi F dX5_state_52 (by decide +kernel) ?_
        refine wa_goto (tgt := 58) F dX5_state_54 (by decide) ?_
        refine wa_add F dX5_state_58 ?_
        refine lv_aload_n hx hb dX5_state_59 rfl (lv_at hl 0 rfl) ?_
        refine gX5_53 F hw rfl (v := .ref (ad 6 18)) rfl dX5_state_60 ?_
        refine lv_iload_n hx hb dX5_state_63 rfl (lv_at hl 1 rfl) ?_
        refine aM_18 F hw j rfl (by omega) dX5_state_64 ?_
        refine W.eq (g2 := F0 m 65 ls [.int (iI (T 18 j)), .int (iI (((T 16 j) + 0) + 20))]) rfl ?_
        refine wa_if_eq (tgt := 73) F dX5_state_65 (by decide) (by have q0 := hB 18 j; exact ⟨by omega, by omega⟩) (fun c65 => ?_) (fun c65 => ?_)
        · skip
          refine wa_const F dX5_state_73 ?_
          refine wa_add F dX5_state_74 ?_
          have ek : k_bk T (j : Int) = 0 := by simp only [k_bk, f_isImage, f_isBake, Int.toNat_natCast]; (repeat' split) <;> first | rfl | omega
          rw [ek]
          exact wa_ei F hw hS (by simp only [o_v, v_state, Int.toNat_natCast, if_true]; rw [if_neg (show ¬ T 17 j ≠ 0 by simpa using c34), if_pos (show f_old T j by exact b46), if_neg (show ¬ T 18 j ≠ 0 by simpa using c65)]) dX5_state_75
        · skip
          refine wa_bi F dX5_state_68 (by decide +kernel) ?_
          refine wa_goto (tgt := 74) F dX5_state_70 (by decide) ?_
          refine wa_add F dX5_state_74 ?_
          have ek : k_bk T (j : Int) = 0 := by simp only [k_bk, f_isImage, f_isBake, Int.toNat_natCast]; (repeat' split) <;> first | rfl | omega
          rw [ek]
          exact wa_ei F hw hS (by simp only [o_v, v_state, Int.toNat_natCast, if_true]; rw [if_neg (show ¬ T 17 j ≠ 0 by simpa using c34), if_pos (show f_old T j by exact b46), if_pos (show T 18 j ≠ 0 by omega)]) dX5_state_75
      · rw [bI_f b46]
        refine wa_if_eq (tgt := 57) F dX5_state_49 (by decide) (by decide) (fun c49 => ?_) (fun c49 => absurd c49 (by decide))
        refine wa_const F dX5_state_57 ?_
        refine wa_add F dX5_state_58 ?_
        refine lv_aload_n hx hb dX5_state_59 rfl (lv_at hl 0 rfl) ?_
        refine gX5_53 F hw rfl (v := .ref (ad 6 18)) rfl dX5_state_60 ?_
        refine lv_iload_n hx hb dX5_state_63 rfl (lv_at hl 1 rfl) ?_
        refine aM_18 F hw j rfl (by omega) dX5_state_64 ?_
        refine W.eq (g2 := F0 m 65 ls [.int (iI (T 18 j)), .int (iI (((T 16 j) + 0) + 0))]) rfl ?_
        refine wa_if_eq (tgt := 73) F dX5_state_65 (by decide) (by have q0 := hB 18 j; exact ⟨by omega, by omega⟩) (fun c65 => ?_) (fun c65 => ?_)
        · skip
          refine wa_const F dX5_state_73 ?_
          refine wa_add F dX5_state_74 ?_
          have ek : k_bk T (j : Int) = 0 := by simp only [k_bk, f_isImage, f_isBake, Int.toNat_natCast]; (repeat' split) <;> first | rfl | omega
          rw [ek]
          exact wa_ei F hw hS (by simp only [o_v, v_state, Int.toNat_natCast, if_true]; rw [if_neg (show ¬ T 17 j ≠ 0 by simpa using c34), if_neg (show ¬ f_old T j by exact b46), if_neg (show ¬ T 18 j ≠ 0 by simpa using c65)]) dX5_state_75
        · skip
          refine wa_bi F dX5_state_68 (by decide +kernel) ?_
          refine wa_goto (tgt := 74) F dX5_state_70 (by decide) ?_
          refine wa_add F dX5_state_74 ?_
          have ek : k_bk T (j : Int) = 0 := by simp only [k_bk, f_isImage, f_isBake, Int.toNat_natCast]; (repeat' split) <;> first | rfl | omega
          rw [ek]
          exact wa_ei F hw hS (by simp only [o_v, v_state, Int.toNat_natCast, if_true]; rw [if_neg (show ¬ T 17 j ≠ 0 by simpa using c34), if_neg (show ¬ f_old T j by exact b46), if_pos (show T 18 j ≠ 0 by omega)]) dX5_state_75
    · skip
      refine wa_bi F dX5_state_37 (by decide +kernel) ?_
      refine wa_goto (tgt := 43) F dX5_state_39 (by decide) ?_
      refine wa_add F dX5_state_43 ?_
      refine lv_aload_n hx hb dX5_state_44 rfl (lv_at hl 0 rfl) ?_
      refine lv_iload_n hx hb dX5_state_45 rfl (lv_at hl 1 rfl) ?_
      refine wa_cp (kX5_153 F (c_X5_isTooOld l D cy ad S X (wa_s T 0 0 0) o (wf_th hwf (k := 0) (by decide)) ((j : Int)) j rfl (show (j : Int) < (wa_s T 0 0 0) 21 0 from (show (j : Int) < T 21 0 by omega))) ⟨by decide, by decide⟩ ⟨rfl, rfl⟩ hw hw rfl rfl rfl (Nat.le_of_ble_eq_true rfl) hl.1 dX5_state_46 ⟨Nat.le_refl _, Nat.le_refl _⟩) ?_
      by_cases b46 : f_old (wa_s T 0 0 0) j
      · rw [bI_t b46]
        refine wa_if_eq (tgt := 57) F dX5_state_49 (by decide) (by decide) (fun c49 => absurd c49 (by decide)) (fun c49 => ?_)
        refine wa_bi F dX5_state_52 (by decide +kernel) ?_
        refine wa_goto (tgt := 58) F dX5_state_54 (by decide) ?_
        refine wa_add F dX5_state_58 ?_
        refine lv_aload_n hx hb dX5_state_59 rfl (lv_at hl 0 rfl) ?_
        refine gX5_53 F hw rfl (v := .ref (ad 6 18)) rfl dX5_state_60 ?_
        refine lv_iload_n hx hb dX5_state_63 rfl (lv_at hl 1 rfl) ?_
        refine aM_18 F hw j rfl (by omega) dX5_state_64 ?_
        refine W.eq (g2 := F0 m 65 ls [.int (iI (T 18 j)), .int (iI (((T 16 j) + 10) + 20))]) rfl ?_
        refine wa_if_eq (tgt := 73) F dX5_state_65 (by decide) (by have q0 := hB 18 j; exact ⟨by omega, by omega⟩) (fun c65 => ?_) (fun c65 => ?_)
        · skip
          refine wa_const F dX5_state_73 ?_
          refine wa_add F dX5_state_74 ?_
          have ek : k_bk T (j : Int) = 0 := by simp only [k_bk, f_isImage, f_isBake, Int.toNat_natCast]; (repeat' split) <;> first | rfl | omega
          rw [ek]
          exact wa_ei F hw hS (by simp only [o_v, v_state, Int.toNat_natCast, if_true]; rw [if_pos (show T 17 j ≠ 0 by omega), if_pos (show f_old T j by exact b46), if_neg (show ¬ T 18 j ≠ 0 by simpa using c65)]) dX5_state_75
        · skip
          refine wa_bi F dX5_state_68 (by decide +kernel) ?_
          refine wa_goto (tgt := 74) F dX5_state_70 (by decide) ?_
          refine wa_add F dX5_state_74 ?_
          have ek : k_bk T (j : Int) = 0 := by simp only [k_bk, f_isImage, f_isBake, Int.toNat_natCast]; (repeat' split) <;> first | rfl | omega
          rw [ek]
          exact wa_ei F hw hS (by simp only [o_v, v_state, Int.toNat_natCast, if_true]; rw [if_pos (show T 17 j ≠ 0 by omega), if_pos (show f_old T j by exact b46), if_pos (show T 18 j ≠ 0 by omega)]) dX5_state_75
      · rw [bI_f b46]
        refine wa_if_eq (tgt := 57) F dX5_state_49 (by decide) (by decide) (fun c49 => ?_) (fun c49 => absurd c49 (by decide))
        refine wa_const F dX5_state_57 ?_
        refine wa_add F dX5_state_58 ?_
        refine lv_aload_n hx hb dX5_state_59 rfl (lv_at hl 0 rfl) ?_
        refine gX5_53 F hw rfl (v := .ref (ad 6 18)) rfl dX5_state_60 ?_
        refine lv_iload_n hx hb dX5_state_63 rfl (lv_at hl 1 rfl) ?_
        refine aM_18 F hw j rfl (by omega) dX5_state_64 ?_
        refine W.eq (g2 := F0 m 65 ls [.int (iI (T 18 j)), .int (iI (((T 16 j) + 10) + 0))]) rfl ?_
        refine wa_if_eq (tgt := 73) F dX5_state_65 (by decide) (by have q0 := hB 18 j; exact ⟨by omega, by omega⟩) (fun c65 => ?_) (fun c65 => ?_)
        · skip
          refine wa_const F dX5_state_73 ?_
          refine wa_add F dX5_state_74 ?_
          have ek : k_bk T (j : Int) = 0 := by simp only [k_bk, f_isImage, f_isBake, Int.toNat_natCast]; (repeat' split) <;> first | rfl | omega
          rw [ek]
          exact wa_ei F hw hS (by simp only [o_v, v_state, Int.toNat_natCast, if_true]; rw [if_pos (show T 17 j ≠ 0 by omega), if_neg (show ¬ f_old T j by exact b46), if_neg (show ¬ T 18 j ≠ 0 by simpa using c65)]) dX5_state_75
        · skip
          refine wa_bi F dX5_state_68 (by decide +kernel) ?_
          refine wa_goto (tgt := 74) F dX5_state_70 (by decide) ?_
          refine wa_add F dX5_state_74 ?_
          have ek : k_bk T (j : Int) = 0 := by simp only [k_bk, f_isImage, f_isBake, Int.toNat_natCast]; (repeat' split) <;> first | rfl | omega
          rw [ek]
          exact wa_ei F hw hS (by simp only [o_v, v_state, Int.toNat_natCast, if_true]; rw [if_pos (show T 17 j ≠ 0 by omega), if_neg (show ¬ f_old T j by exact b46), if_pos (show T 18 j ≠ 0 by omega)]) dX5_state_75
  · rw [bI_f b3]
    refine wa_if_eq (tgt := 13) F dX5_state_6 (by decide) (by decide) (fun c6 => ?_) (fun c6 => absurd c6 (by decide))
    refine wa_const F dX5_state_13 ?_
    refine wa_ci (kX5_103 F (c_X5_isFine l D cy ad S X T o A (wm_j hj _ _) (1) (by decide)) ⟨by decide, by decide⟩ ⟨rfl, rfl⟩ hw hw rfl rfl rfl (Nat.le_of_ble_eq_true rfl) hl.1 dX5_state_14 ⟨Nat.le_refl _, Nat.le_refl _⟩) hS (fun H locs hw hS => ?_)
    refine wa_if_ne (tgt := 22) F dX5_state_17 (by decide) (by decide) (fun c17 => absurd c17 (by decide)) (fun c17 => ?_)
    refine wa_const F dX5_state_20 ?_
    have ek : k_bk T b9 = 1 := by simp only [k_bk, f_isImage, f_isBake, Int.toNat_natCast]; (repeat' split) <;> first | rfl | omega
    rw [ek]
    exact wa_ei F hw hS rfl dX5_state_21
set_option maxRecDepth 100000 in
set_option maxHeartbeats 4000000 in
/-- start -/
theorem c_X5_start (l : Launch) (D : va_G) (cy : Nat → ClassId) (ad : Nat → Nat → Nat) (S X T : wa_St) (o : Int64) (A : Nat → Prop) (hj : wa_wj A ad (wW cy ad S X T o)) (hwf : wf T) (i q r : Int) (ri : wa_r i) (rq : wa_r q) (rr : wa_r r) : Met l yX5_start wX5_start ({ frames := 2, cells := 0, slots := 0, locals := 48 } : Room) (wa_pc [.ref (ad 6 0), .int (iI i), .int (iI q), .int (iI r)] D cy (fun H => wa_wd D ad (wW cy ad S X T o) H)) (wa_Qi A D ad (wW cy ad S X (o_s T (k_start T i q r) (a_start T i q r)) o) (o_v (k_start T i q r) (T 29 0 + 1 - 1))) 0 0 A := by
  refine wa_en (by decide +kernel) (Nat.le_of_ble_eq_true rfl) ?_
  intro p e s m args below meth c F hw ls hl
  have F : wa_fx p s m c meth args cX5_start 7 RX5 "start" (Option.some FieldType.int) D cy := F
  have hw : wa_wd D ad (wW cy ad S X T o) s.heap := hw
  have hl : lv_has ls 7 [(0, .ref (ad 6 0)), (1, .int (iI i)), (2, .int (iI q)), (3, .int (iI r))] := hl
  obtain ⟨hx, hb, hml, hown, hts⟩ := id F.1
  obtain ⟨hB, w8, w21, w12, w29, w4, w7, w6, w5, w13, w25, w26, w28, w14, w3, wf17⟩ := id hwf
  have hS : va_S A s.heap s.heap [] := va_S.rf
  refine lv_aload_n hx hb dX5_start_0 rfl (lv_at hl 0 rfl) ?_
  refine lv_iload_n hx hb dX5_start_1 rfl (lv_at hl 1 rfl) ?_
  refine wa_cp (kX5_107 F (c_X5_isImage l D cy ad S X T o hwf (i) (by have q0 := ri; exact ⟨by omega, by omega⟩)) ⟨by decide, by decide⟩ ⟨rfl, rfl⟩ hw hw rfl rfl rfl (Nat.le_of_ble_eq_true rfl) hl.1 dX5_start_2 ⟨Nat.le_refl _, Nat.le_refl _⟩) ?_
  by_cases b2 : f_isImage T i
  · rw [bI_t b2]
    refine lv_istore (lv' := [(4, .int (iI 1)), (0, .ref (ad 6 0)), (1, .int (iI i)), (2, .int (iI q)), (3, .int (iI r))]) hx hb dX5_start_5 hl (by decide) rfl (fun ls hl => ?_)
    refine lv_iload_n hx hb dX5_start_7 rfl (lv_at hl 3 rfl) ?_
    refine wa_const F dX5_start_8 ?_
    refine wa_const F dX5_start_9 ?_
    refine wa_cp (kX5_96 F (c_X5_isIn l D cy ad S X T o (q) (0) (2) (by have q0 := rq; exact ⟨by omega, by omega⟩) (by decide) (by decide)) ⟨by decide, by decide⟩ ⟨rfl, rfl⟩ hw rfl rfl (Nat.le_of_ble_eq_true rfl) hl.1 dX5_start_10 ⟨Nat.le_refl _, Nat.le_refl _⟩) ?_
    by_cases b10 : 0 ≤ q ∧ q ≤ 2
    · rw [bI_t b10]
      refine wa_if_eq (tgt := 29) F dX5_start_13 (by decide) (by decide) (fun c13 => absurd c13 (by decide)) (fun c13 => ?_)
      refine lv_iload_n hx hb dX5_start_16 rfl (lv_at hl 4 rfl) ?_
      refine wa_const F dX5_start_17 ?_
      refine wa_const F dX5_start_18 ?_
      refine wa_cp (kX5_96 F (c_X5_isIn l D cy ad S X T o (r) (0) (2) (by have q0 := rr; exact ⟨by omega, by omega⟩) (by decide) (by decide)) ⟨by decide, by decide⟩ ⟨rfl, rfl⟩ hw rfl rfl (Nat.le_of_ble_eq_true rfl) hl.1 dX5_start_19 ⟨Nat.le_refl _, Nat.le_refl _⟩) ?_
      by_cases b19 : 0 ≤ r ∧ r ≤ 2
      · rw [bI_t b19]
        refine wa_if_eq (tgt := 29) F dX5_start_22 (by decide) (by decide) (fun c22 => absurd c22 (by decide)) (fun c22 => ?_)
        refine wa_const F dX5_start_25 ?_
        refine wa_goto (tgt := 30) F dX5_start_26 (by decide) ?_
        refine lv_istore (lv' := [(5, .int (iI 1)), (4, .int (iI 1)), (0, .ref (ad 6 0)), (1, .int (iI i)), (2, .int (iI q)), (3, .int (iI r))]) hx hb dX5_start_30 hl (by decide) rfl (fun ls hl => ?_)
        refine lv_iload hx hb dX5_start_32 (lv_at hl 1 rfl) ?_
        refine wa_if_eq (tgt := 52) F dX5_start_34 (by decide) (by decide) (fun c34 => absurd c34 (by decide)) (fun c34 => ?_)
        refine lv_iload hx hb dX5_start_37 (lv_at hl 0 rfl) ?_
        refine wa_if_eq (tgt := 52) F dX5_start_39 (by decide) (by decide) (fun c39 => absurd c39 (by decide)) (fun c39 => ?_)
        refine lv_aload_n hx hb dX5_start_42 rfl (lv_at hl 2 rfl) ?_
        refine lv_iload_n hx hb dX5_start_43 rfl (lv_at hl 3 rfl) ?_
        refine lv_iload_n hx hb dX5_start_44 rfl (lv_at hl 4 rfl) ?_
        refine lv_iload_n hx hb dX5_start_45 rfl (lv_at hl 5 rfl) ?_
        refine wa_cp (kX5_156 F (c_X5_bakeFor l D cy ad S X T o hwf (i) (q) (r) (by have q0 := ri; exact ⟨by omega, by omega⟩) b10 (by have q0 := rr; exact ⟨by omega, by omega⟩)) ⟨by decide, by decide⟩ ⟨rfl, rfl⟩ hw hw rfl rfl rfl (Nat.le_of_ble_eq_true rfl) hl.1 dX5_start_46 ⟨Nat.le_refl _, Nat.le_refl _⟩) ?_
        refine wa_goto (tgt := 53) F dX5_start_49 (by decide) ?_
        refine lv_istore (lv' := [(6, .int (iI (f_bakeFor T (i) (q) (r)))), (5, .int (iI 1)), (4, .int (iI 1)), (0, .ref (ad 6 0)), (1, .int (iI i)), (2, .int (iI q)), (3, .int (iI r))]) hx hb dX5_start_53 hl (by decide) rfl (fun ls hl => ?_)
        refine lv_aload_n hx hb dX5_start_55 rfl (lv_at hl 3 rfl) ?_
        refine lv_iload hx hb dX5_start_56 (lv_at hl 2 rfl) ?_
        refine wa_if_ne (tgt := 65) F dX5_start_58 (by decide) (by decide) (fun c58 => ?_) (fun c58 => absurd c58 (by decide))
        refine lv_iload hx hb dX5_start_65 (lv_at hl 1 rfl) ?_
        refine wa_if_ne (tgt := 74) F dX5_start_67 (by decide) (by decide) (fun c67 => ?_) (fun c67 => absurd c67 (by decide))
        refine lv_iload hx hb dX5_start_74 (lv_at hl 0 rfl) ?_
        refine wa_const F dX5_start_76 ?_
        refine wa_ic_eq (tgt := 89) F dX5_start_77 (by decide) (by have q0 := f_bakeFor_rng hwf (i) (q) (r); exact ⟨by omega, by omega⟩) (by decide) (fun c77 => ?_) (fun c77 => ?_)
        · skip
          refine wa_const F dX5_start_89 ?_
          refine wa_goto (tgt := 94) F dX5_start_90 (by decide) ?_
          refine wa_ci (kX5_103 F (c_X5_isFine l D cy ad S X T o A (wm_j hj _ _) (3) (by decide)) ⟨by decide, by decide⟩ ⟨rfl, rfl⟩ hw hw rfl rfl rfl (Nat.le_of_ble_eq_true rfl) hl.1 dX5_start_94 ⟨Nat.le_refl _, Nat.le_refl _⟩) hS (fun H locs hw hS => ?_)
          refine wa_if_ne (tgt := 102) F dX5_start_97 (by decide) (by decide) (fun c97 => absurd c97 (by decide)) (fun c97 => ?_)
          refine wa_const F dX5_start_100 ?_
          have ek : k_start T i q r = 3 := by simp only [k_start, f_isImage, f_isBake, Int.toNat_natCast]; (repeat' split) <;> first | rfl | omega
          rw [ek]
          exact wa_ei F hw hS (by first | rfl | simp [wa_s] | omega) dX5_start_101
        · skip
          refine lv_aload_n hx hb dX5_start_80 rfl (lv_at hl 3 rfl) ?_
          refine gX5_147 F hw rfl (v := .int (iI (T 29 0))) rfl dX5_start_81 ?_
          refine wa_bi F dX5_start_84 (by decide +kernel) ?_
          refine wa_ic_ne (tgt := 93) F dX5_start_86 (by decide) (by have q0 := hB 29 0; exact ⟨by omega, by omega⟩) (by decide) (fun c86 => ?_) (fun c86 => ?_)
          · skip
            refine wa_const F dX5_start_93 ?_
            refine wa_ci (kX5_103 F (c_X5_isFine l D cy ad S X T o A (wm_j hj _ _) (0) (by decide)) ⟨by decide, by decide⟩ ⟨rfl, rfl⟩ hw hw rfl rfl rfl (Nat.le_of_ble_eq_true rfl) hl.1 dX5_start_94 ⟨Nat.le_refl _, Nat.le_refl _⟩) hS (fun H locs hw hS => ?_)
            refine wa_if_ne (tgt := 102) F dX5_start_97 (by decide) (by decide) (fun c97 => ?_) (fun c97 => absurd c97 (by decide))
            refine lv_aload_n hx hb dX5_start_102 rfl (lv_at hl 3 rfl) ?_
            refine gX5_72 F hw rfl (v := .ref (ad 6 25)) rfl dX5_start_103 ?_
            refine lv_aload_n hx hb dX5_start_106 rfl (lv_at hl 3 rfl) ?_
            refine gX5_147 F hw rfl (v := .int (iI (T 29 0))) rfl dX5_start_107 ?_
            refine lv_iload_n hx hb dX5_start_110 rfl (lv_at hl 4 rfl) ?_
            refine sM_25 F hw (wm_j hj _ _) hS (((T 29 0)).toNat) (by have q0 := hB 29 0; omega) (by have q0 := hB 29 0; omega) dX5_start_111 (fun H locs hw hS => ?_)
            refine lv_aload_n hx hb dX5_start_112 rfl (lv_at hl 3 rfl) ?_
            refine gX5_75 F hw rfl (v := .ref (ad 6 26)) rfl dX5_start_113 ?_
            refine lv_aload_n hx hb dX5_start_116 rfl (lv_at hl 3 rfl) ?_
            refine gX5_147 F hw rfl (v := .int (iI (T 29 0))) rfl dX5_start_117 ?_
            refine lv_iload_n hx hb dX5_start_120 rfl (lv_at hl 5 rfl) ?_
            refine sM_26 F hw (wm_j hj _ _) hS (((T 29 0)).toNat) (by have q0 := hB 29 0; omega) (by have q0 := hB 29 0; omega) dX5_start_121 (fun H locs hw hS => ?_)
            refine lv_aload_n hx hb dX5_start_122 rfl (lv_at hl 3 rfl) ?_
            refine gX5_78 F hw rfl (v := .ref (ad 6 27)) rfl dX5_start_123 ?_
            refine lv_aload_n hx hb dX5_start_126 rfl (lv_at hl 3 rfl) ?_
            refine gX5_147 F hw rfl (v := .int (iI (T 29 0))) rfl dX5_start_127 ?_
            refine lv_iload_n hx hb dX5_start_130 rfl (lv_at hl 6 rfl) ?_
            refine sM_27 F hw (wm_j hj _ _) hS (((T 29 0)).toNat) (by have q0 := hB 29 0; omega) (by have q0 := hB 29 0; omega) dX5_start_131 (fun H locs hw hS => ?_)
            refine lv_aload_n hx hb dX5_start_132 rfl (lv_at hl 3 rfl) ?_
            refine gX5_81 F hw rfl (v := .ref (ad 6 28)) rfl dX5_start_133 ?_
            refine lv_aload_n hx hb dX5_start_136 rfl (lv_at hl 3 rfl) ?_
            refine gX5_147 F hw rfl (v := .int (iI (T 29 0))) rfl dX5_start_137 ?_
            refine lv_iload hx hb dX5_start_140 (lv_at hl 0 rfl) ?_
            refine sM_28 F hw (wm_j hj _ _) hS (((T 29 0)).toNat) (by have q0 := hB 29 0; omega) (by have q0 := hB 29 0; omega) dX5_start_142 (fun H locs hw hS => ?_)
            refine lv_aload_n hx hb dX5_start_143 rfl (lv_at hl 3 rfl) ?_
            refine lv_dup hx hb dX5_start_144 rfl ?_
            refine gX5_147 F hw rfl (v := .int (iI (T 29 0))) rfl dX5_start_145 ?_
            refine wa_const F dX5_start_148 ?_
            refine wa_add F dX5_start_149 ?_
            refine pM_147 F hw (wm_j hj _ _) hS dX5_start_150 (fun H locs hw hS => ?_)
            refine lv_aload_n hx hb dX5_start_153 rfl (lv_at hl 3 rfl) ?_
            refine gX5_147 F hw rfl (v := .int (iI ((T 29 0) + 1))) rfl dX5_start_154 ?_
            refine wa_const F dX5_start_157 ?_
            refine wa_sub F dX5_start_158 ?_
            have ek : k_start T i q r = 0 := by simp only [k_start, f_isImage, f_isBake, Int.toNat_natCast]; (repeat' split) <;> first | rfl | omega
            rw [ek]
            exact wa_ei F hw hS (by first | rfl | simp [wa_s] | omega) dX5_start_159
          · skip
            refine wa_const F dX5_start_89 ?_
            refine wa_goto (tgt := 94) F dX5_start_90 (by decide) ?_
            refine wa_ci (kX5_103 F (c_X5_isFine l D cy ad S X T o A (wm_j hj _ _) (3) (by decide)) ⟨by decide, by decide⟩ ⟨rfl, rfl⟩ hw hw rfl rfl rfl (Nat.le_of_ble_eq_true rfl) hl.1 dX5_start_94 ⟨Nat.le_refl _, Nat.le_refl _⟩) hS (fun H locs hw hS => ?_)
            refine wa_if_ne (tgt := 102) F dX5_start_97 (by decide) (by decide) (fun c97 => absurd c97 (by decide)) (fun c97 => ?_)
            refine wa_const F dX5_start_100 ?_
            have ek : k_start T i q r = 3 := by simp only [k_start, f_isImage, f_isBake, Int.toNat_natCast]; (repeat' split) <;> first | rfl | omega
            rw [ek]
            exact wa_ei F hw hS (by first | rfl | simp [wa_s] | omega) dX5_start_101
      · rw [bI_f b19]
        refine wa_if_eq (tgt := 29) F dX5_start_22 (by decide) (by decide) (fun c22 => ?_) (fun c22 => absurd c22 (by decide))
        refine wa_const F dX5_start_29 ?_
        refine lv_istore (lv' := [(5, .int (iI 0)), (4, .int (iI 1)), (0, .ref (ad 6 0)), (1, .int (iI i)), (2, .int (iI q)), (3, .int (iI r))]) hx hb dX5_start_30 hl (by decide) rfl (fun ls hl => ?_)
        refine lv_iload hx hb dX5_start_32 (lv_at hl 1 rfl) ?_
        refine wa_if_eq (tgt := 52) F dX5_start_34 (by decide) (by decide) (fun c34 => absurd c34 (by decide)) (fun c34 => ?_)
        refine lv_iload hx hb dX5_start_37 (lv_at hl 0 rfl) ?_
        refine wa_if_eq (tgt := 52) F dX5_start_39 (by decide) (by decide) (fun c39 => ?_) (fun c39 => absurd c39 (by decide))
        refine wa_const F dX5_start_52 ?_
        refine lv_istore (lv' := [(6, .int (iI (-1))), (5, .int (iI 0)), (4, .int (iI 1)), (0, .ref (ad 6 0)), (1, .int (iI i)), (2, .int (iI q)), (3, .int (iI r))]) hx hb dX5_start_53 hl (by decide) rfl (fun ls hl => ?_)
        refine lv_aload_n hx hb dX5_start_55 rfl (lv_at hl 3 rfl) ?_
        refine lv_iload hx hb dX5_start_56 (lv_at hl 2 rfl) ?_
        refine wa_if_ne (tgt := 65) F dX5_start_58 (by decide) (by decide) (fun c58 => ?_) (fun c58 => absurd c58 (by decide))
        refine lv_iload hx hb dX5_start_65 (lv_at hl 1 rfl) ?_
        refine wa_if_ne (tgt := 74) F dX5_start_67 (by decide) (by decide) (fun c67 => absurd c67 (by decide)) (fun c67 => ?_)
        refine wa_const F dX5_start_70 ?_
        refine wa_goto (tgt := 94) F dX5_start_71 (by decide) ?_
        refine wa_ci (kX5_103 F (c_X5_isFine l D cy ad S X T o A (wm_j hj _ _) (2) (by decide)) ⟨by decide, by decide⟩ ⟨rfl, rfl⟩ hw hw rfl rfl rfl (Nat.le_of_ble_eq_true rfl) hl.1 dX5_start_94 ⟨Nat.le_refl _, Nat.le_refl _⟩) hS (fun H locs hw hS => ?_)
        refine wa_if_ne (tgt := 102) F dX5_start_97 (by decide) (by decide) (fun c97 => absurd c97 (by decide)) (fun c97 => ?_)
        refine wa_const F dX5_start_100 ?_
        have ek : k_start T i q r = 2 := by simp only [k_start, f_isImage, f_isBake, Int.toNat_natCast]; (repeat' split) <;> first | rfl | omega
        rw [ek]
        exact wa_ei F hw hS (by first | rfl | simp [wa_s] | omega) dX5_start_101
    · rw [bI_f b10]
      refine wa_if_eq (tgt := 29) F dX5_start_13 (by decide) (by decide) (fun c13 => ?_) (fun c13 => absurd c13 (by decide))
      refine wa_const F dX5_start_29 ?_
      refine lv_istore (lv' := [(5, .int (iI 0)), (4, .int (iI 1)), (0, .ref (ad 6 0)), (1, .int (iI i)), (2, .int (iI q)), (3, .int (iI r))]) hx hb dX5_start_30 hl (by decide) rfl (fun ls hl => ?_)
      refine lv_iload hx hb dX5_start_32 (lv_at hl 1 rfl) ?_
      refine wa_if_eq (tgt := 52) F dX5_start_34 (by decide) (by decide) (fun c34 => absurd c34 (by decide)) (fun c34 => ?_)
      refine lv_iload hx hb dX5_start_37 (lv_at hl 0 rfl) ?_
      refine wa_if_eq (tgt := 52) F dX5_start_39 (by decide) (by decide) (fun c39 => ?_) (fun c39 => absurd c39 (by decide))
      refine wa_const F dX5_start_52 ?_
      refine lv_istore (lv' := [(6, .int (iI (-1))), (5, .int (iI 0)), (4, .int (iI 1)), (0, .ref (ad 6 0)), (1, .int (iI i)), (2, .int (iI q)), (3, .int (iI r))]) hx hb dX5_start_53 hl (by decide) rfl (fun ls hl => ?_)
      refine lv_aload_n hx hb dX5_start_55 rfl (lv_at hl 3 rfl) ?_
      refine lv_iload hx hb dX5_start_56 (lv_at hl 2 rfl) ?_
      refine wa_if_ne (tgt := 65) F dX5_start_58 (by decide) (by decide) (fun c58 => ?_) (fun c58 => absurd c58 (by decide))
      refine lv_iload hx hb dX5_start_65 (lv_at hl 1 rfl) ?_
      refine wa_if_ne (tgt := 74) F dX5_start_67 (by decide) (by decide) (fun c67 => absurd c67 (by decide)) (fun c67 => ?_)
      refine wa_const F dX5_start_70 ?_
      refine wa_goto (tgt := 94) F dX5_start_71 (by decide) ?_
      refine wa_ci (kX5_103 F (c_X5_isFine l D cy ad S X T o A (wm_j hj _ _) (2) (by decide)) ⟨by decide, by decide⟩ ⟨rfl, rfl⟩ hw hw rfl rfl rfl (Nat.le_of_ble_eq_true rfl) hl.1 dX5_start_94 ⟨Nat.le_refl _, Nat.le_refl _⟩) hS (fun H locs hw hS => ?_)
      refine wa_if_ne (tgt := 102) F dX5_start_97 (by decide) (by decide) (fun c97 => absurd c97 (by decide)) (fun c97 => ?_)
      refine wa_const F dX5_start_100 ?_
      have ek : k_start T i q r = 2 := by simp only [k_start, f_isImage, f_isBake, Int.toNat_natCast]; (repeat' split) <;> first | rfl | omega
      rw [ek]
      exact wa_ei F hw hS (by first | rfl | simp [wa_s] | omega) dX5_start_101
  · rw [bI_f b2]
    refine lv_istore (lv' := [(4, .int (iI 0)), (0, .ref (ad 6 0)), (1, .int (iI i)), (2, .int (iI q)), (3, .int (iI r))]) hx hb dX5_start_5 hl (by decide) rfl (fun ls hl => ?_)
    refine lv_iload_n hx hb dX5_start_7 rfl (lv_at hl 3 rfl) ?_
    refine wa_const F dX5_start_8 ?_
    refine wa_const F dX5_start_9 ?_
    refine wa_cp (kX5_96 F (c_X5_isIn l D cy ad S X T o (q) (0) (2) (by have q0 := rq; exact ⟨by omega, by omega⟩) (by decide) (by decide)) ⟨by decide, by decide⟩ ⟨rfl, rfl⟩ hw rfl rfl (Nat.le_of_ble_eq_true rfl) hl.1 dX5_start_10 ⟨Nat.le_refl _, Nat.le_refl _⟩) ?_
    by_cases b10 : 0 ≤ q ∧ q ≤ 2
    · rw [bI_t b10]
      refine wa_if_eq (tgt := 29) F dX5_start_13 (by decide) (by decide) (fun c13 => absurd c13 (by decide)) (fun c13 => ?_)
      refine lv_iload_n hx hb dX5_start_16 rfl (lv_at hl 4 rfl) ?_
      refine wa_const F dX5_start_17 ?_
      refine wa_const F dX5_start_18 ?_
      refine wa_cp (kX5_96 F (c_X5_isIn l D cy ad S X T o (r) (0) (2) (by have q0 := rr; exact ⟨by omega, by omega⟩) (by decide) (by decide)) ⟨by decide, by decide⟩ ⟨rfl, rfl⟩ hw rfl rfl (Nat.le_of_ble_eq_true rfl) hl.1 dX5_start_19 ⟨Nat.le_refl _, Nat.le_refl _⟩) ?_
      by_cases b19 : 0 ≤ r ∧ r ≤ 2
      · rw [bI_t b19]
        refine wa_if_eq (tgt := 29) F dX5_start_22 (by decide) (by decide) (fun c22 => absurd c22 (by decide)) (fun c22 => ?_)
        refine wa_const F dX5_start_25 ?_
        refine wa_goto (tgt := 30) F dX5_start_26 (by decide) ?_
        refine lv_istore (lv' := [(5, .int (iI 1)), (4, .int (iI 0)), (0, .ref (ad 6 0)), (1, .int (iI i)), (2, .int (iI q)), (3, .int (iI r))]) hx hb dX5_start_30 hl (by decide) rfl (fun ls hl => ?_)
        refine lv_iload hx hb dX5_start_32 (lv_at hl 1 rfl) ?_
        refine wa_if_eq (tgt := 52) F dX5_start_34 (by decide) (by decide) (fun c34 => ?_) (fun c34 => absurd c34 (by decide))
        refine wa_const F dX5_start_52 ?_
        refine lv_istore (lv' := [(6, .int (iI (-1))), (5, .int (iI 1)), (4, .int (iI 0)), (0, .ref (ad 6 0)), (1, .int (iI i)), (2, .int (iI q)), (3, .int (iI r))]) hx hb dX5_start_53 hl (by decide) rfl (fun ls hl => ?_)
        refine lv_aload_n hx hb dX5_start_55 rfl (lv_at hl 3 rfl) ?_
        refine lv_iload hx hb dX5_start_56 (lv_at hl 2 rfl) ?_
        refine wa_if_ne (tgt := 65) F dX5_start_58 (by decide) (by decide) (fun c58 => absurd c58 (by decide)) (fun c58 => ?_)
        refine wa_const F dX5_start_61 ?_
        refine wa_goto (tgt := 94) F dX5_start_62 (by decide) ?_
        refine wa_ci (kX5_103 F (c_X5_isFine l D cy ad S X T o A (wm_j hj _ _) (1) (by decide)) ⟨by decide, by decide⟩ ⟨rfl, rfl⟩ hw hw rfl rfl rfl (Nat.le_of_ble_eq_true rfl) hl.1 dX5_start_94 ⟨Nat.le_refl _, Nat.le_refl _⟩) hS (fun H locs hw hS => ?_)
        refine wa_if_ne (tgt := 102) F dX5_start_97 (by decide) (by decide) (fun c97 => absurd c97 (by decide)) (fun c97 => ?_)
        refine wa_const F dX5_start_100 ?_
        have ek : k_start T i q r = 1 := by simp only [k_start, f_isImage, f_isBake, Int.toNat_natCast]; (repeat' split) <;> first | rfl | omega
        rw [ek]
        exact wa_ei F hw hS (by first | rfl | simp [wa_s] | omega) dX5_start_101
      · rw [bI_f b19]
        refine wa_if_eq (tgt := 29) F dX5_start_22 (by decide) (by decide) (fun c22 => ?_) (fun c22 => absurd c22 (by decide))
        refine wa_const F dX5_start_29 ?_
        refine lv_istore (lv' := [(5, .int (iI 0)), (4, .int (iI 0)), (0, .ref (ad 6 0)), (1, .int (iI i)), (2, .int (iI q)), (3, .int (iI r))]) hx hb dX5_start_30 hl (by decide) rfl (fun ls hl => ?_)
        refine lv_iload hx hb dX5_start_32 (lv_at hl 1 rfl) ?_
        refine wa_if_eq (tgt := 52) F dX5_start_34 (by decide) (by decide) (fun c34 => ?_) (fun c34 => absurd c34 (by decide))
        refine wa_const F dX5_start_52 ?_
        refine lv_istore (lv' := [(6, .int (iI (-1))), (5, .int (iI 0)), (4, .int (iI 0)), (0, .ref (ad 6 0)), (1, .int (iI i)), (2, .int (iI q)), (3, .int (iI r))]) hx hb dX5_start_53 hl (by decide) rfl (fun ls hl => ?_)
        refine lv_aload_n hx hb dX5_start_55 rfl (lv_at hl 3 rfl) ?_
        refine lv_iload hx hb dX5_start_56 (lv_at hl 2 rfl) ?_
        refine wa_if_ne (tgt := 65) F dX5_start_58 (by decide) (by decide) (fun c58 => absurd c58 (by decide)) (fun c58 => ?_)
        refine wa_const F dX5_start_61 ?_
        refine wa_goto (tgt := 94) F dX5_start_62 (by decide) ?_
        refine wa_ci (kX5_103 F (c_X5_isFine l D cy ad S X T o A (wm_j hj _ _) (1) (by decide)) ⟨by decide, by decide⟩ ⟨rfl, rfl⟩ hw hw rfl rfl rfl (Nat.le_of_ble_eq_true rfl) hl.1 dX5_start_94 ⟨Nat.le_refl _, Nat.le_refl _⟩) hS (fun H locs hw hS => ?_)
        refine wa_if_ne (tgt := 102) F dX5_start_97 (by decide) (by decide) (fun c97 => absurd c97 (by decide)) (fun c97 => ?_)
        refine wa_const F dX5_start_100 ?_
        have ek : k_start T i q r = 1 := by simp only [k_start, f_isImage, f_isBake, Int.toNat_natCast]; (repeat' split) <;> first | rfl | omega
        rw [ek]
        exact wa_ei F hw hS (by first | rfl | simp [wa_s] | omega) dX5_start_101
    · rw [bI_f b10]
      refine wa_if_eq (tgt := 29) F dX5_start_13 (by decide) (by decide) (fun c13 => ?_) (fun c13 => absurd c13 (by decide))
      refine wa_const F dX5_start_29 ?_
      refine lv_istore (lv' := [(5, .int (iI 0)), (4, .int (iI 0)), (0, .ref (ad 6 0)), (1, .int (iI i)), (2, .int (iI q)), (3, .int (iI r))]) hx hb dX5_start_30 hl (by decide) rfl (fun ls hl => ?_)
      refine lv_iload hx hb dX5_start_32 (lv_at hl 1 rfl) ?_
      refine wa_if_eq (tgt := 52) F dX5_start_34 (by decide) (by decide) (fun c34 => ?_) (fun c34 => absurd c34 (by decide))
      refine wa_const F dX5_start_52 ?_
      refine lv_istore (lv' := [(6, .int (iI (-1))), (5, .int (iI 0)), (4, .int (iI 0)), (0, .ref (ad 6 0)), (1, .int (iI i)), (2, .int (iI q)), (3, .int (iI r))]) hx hb dX5_start_53 hl (by decide) rfl (fun ls hl => ?_)
      refine lv_aload_n hx hb dX5_start_55 rfl (lv_at hl 3 rfl) ?_
      refine lv_iload hx hb dX5_start_56 (lv_at hl 2 rfl) ?_
      refine wa_if_ne (tgt := 65) F dX5_start_58 (by decide) (by decide) (fun c58 => absurd c58 (by decide)) (fun c58 => ?_)
      refine wa_const F dX5_start_61 ?_
      refine wa_goto (tgt := 94) F dX5_start_62 (by decide) ?_
      refine wa_ci (kX5_103 F (c_X5_isFine l D cy ad S X T o A (wm_j hj _ _) (1) (by decide)) ⟨by decide, by decide⟩ ⟨rfl, rfl⟩ hw hw rfl rfl rfl (Nat.le_of_ble_eq_true rfl) hl.1 dX5_start_94 ⟨Nat.le_refl _, Nat.le_refl _⟩) hS (fun H locs hw hS => ?_)
      refine wa_if_ne (tgt := 102) F dX5_start_97 (by decide) (by decide) (fun c97 => absurd c97 (by decide)) (fun c97 => ?_)
      refine wa_const F dX5_start_100 ?_
      have ek : k_start T i q r = 1 := by simp only [k_start, f_isImage, f_isBake, Int.toNat_natCast]; (repeat' split) <;> first | rfl | omega
      rw [ek]
      exact wa_ei F hw hS (by first | rfl | simp [wa_s] | omega) dX5_start_101
set_option maxRecDepth 100000 in
set_option maxHeartbeats 4000000 in
/-- renew -/
theorem c_X5_renew (l : Launch) (D : va_G) (cy : Nat → ClassId) (ad : Nat → Nat → Nat) (S X T : wa_St) (o : Int64) (A : Nat → Prop) (hj : wa_wj A ad (wW cy ad S X T o)) (hwf : wf T) (u : Int) (ru : wa_r u) : Met l yX5_renew wX5_renew ({ frames := 3, cells := 0, slots := 0, locals := 69 } : Room) (wa_pc [.ref (ad 6 0), .int (iI u)] D cy (fun H => wa_wd D ad (wW cy ad S X T o) H)) (wa_Qi A D ad (wW cy ad S X (o_s T (k_renew T u) (a_renew T u)) o) (o_v (k_renew T u) (f_next (wa_s T 0 0 0) u.toNat))) 0 0 A := by
  refine wa_en (by decide +kernel) (Nat.le_of_ble_eq_true rfl) ?_
  intro p e s m args below meth c F hw ls hl
  have F : wa_fx p s m c meth args cX5_renew 3 RX5 "renew" (Option.some FieldType.int) D cy := F
  have hw : wa_wd D ad (wW cy ad S X T o) s.heap := hw
  have hl : lv_has ls 3 [(0, .ref (ad 6 0)), (1, .int (iI u))] := hl
  obtain ⟨hx, hb, hml, hown, hts⟩ := id F.1
  obtain ⟨hB, w8, w21, w12, w29, w4, w7, w6, w5, w13, w25, w26, w28, w14, w3, wf17⟩ := id hwf
  have hS : va_S A s.heap s.heap [] := va_S.rf
  refine lv_aload_n hx hb dX5_renew_0 rfl (lv_at hl 0 rfl) ?_
  refine lv_iload_n hx hb dX5_renew_1 rfl (lv_at hl 1 rfl) ?_
  refine wa_cp (kX5_159 F (c_X5_isRunning l D cy ad S X T o hwf (u) (by have q0 := ru; exact ⟨by omega, by omega⟩)) ⟨by decide, by decide⟩ ⟨rfl, rfl⟩ hw hw rfl rfl rfl (Nat.le_of_ble_eq_true rfl) hl.1 dX5_renew_2 ⟨Nat.le_refl _, Nat.le_refl _⟩) ?_
  by_cases b2 : f_isRunning T u
  · rw [bI_t b2]
    obtain ⟨j, rfl⟩ := Int.eq_ofNat_of_zero_le b2.1.1
    refine lv_istore_n (lv' := [(2, .int (iI 1)), (0, .ref (ad 6 0)), (1, .int (iI (j : Int)))]) hx hb dX5_renew_5 rfl hl (by decide) rfl (fun ls hl => ?_)
    refine lv_aload_n hx hb dX5_renew_6 rfl (lv_at hl 1 rfl) ?_
    refine lv_iload_n hx hb dX5_renew_7 rfl (lv_at hl 0 rfl) ?_
    refine wa_if_ne (tgt := 15) F dX5_renew_8 (by decide) (by decide) (fun c8 => ?_) (fun c8 => absurd c8 (by decide))
    refine lv_aload_n hx hb dX5_renew_15 rfl (lv_at hl 1 rfl) ?_
    refine lv_iload_n hx hb dX5_renew_16 rfl (lv_at hl 2 rfl) ?_
    refine wa_cp (kX5_162 F (c_X5_next l D cy ad S X T o hwf ((j : Int)) j rfl (by omega)) ⟨by decide, by decide⟩ ⟨rfl, rfl⟩ hw hw rfl rfl rfl (Nat.le_of_ble_eq_true rfl) hl.1 dX5_renew_17 ⟨Nat.le_refl _, Nat.le_refl _⟩) ?_
    refine wa_const F dX5_renew_20 ?_
    refine wa_ic_ne (tgt := 28) F dX5_renew_21 (by decide) (by have q0 := (show -1 ≤ f_next T j ∧ f_next T j < 60 from f_bakeFor_rng hwf _ _ _); exact ⟨by omega, by omega⟩) (by decide) (fun c21 => ?_) (fun c21 => ?_)
    · skip
      refine wa_const F dX5_renew_28 ?_
      refine wa_ci (kX5_103 F (c_X5_isFine l D cy ad S X T o A (wm_j hj _ _) (0) (by decide)) ⟨by decide, by decide⟩ ⟨rfl, rfl⟩ hw hw rfl rfl rfl (Nat.le_of_ble_eq_true rfl) hl.1 dX5_renew_29 ⟨Nat.le_refl _, Nat.le_refl _⟩) hS (fun H locs hw hS => ?_)
      refine wa_if_ne (tgt := 37) F dX5_renew_32 (by decide) (by decide) (fun c32 => ?_) (fun c32 => absurd c32 (by decide))
      refine lv_aload_n hx hb dX5_renew_37 rfl (lv_at hl 1 rfl) ?_
      refine gX5_81 F hw rfl (v := .ref (ad 6 28)) rfl dX5_renew_38 ?_
      refine lv_iload_n hx hb dX5_renew_41 rfl (lv_at hl 2 rfl) ?_
      refine lv_aload_n hx hb dX5_renew_42 rfl (lv_at hl 1 rfl) ?_
      refine lv_iload_n hx hb dX5_renew_43 rfl (lv_at hl 2 rfl) ?_
      refine wa_cp (kX5_162 F (c_X5_next l D cy ad S X (wa_s T 0 0 0) o (wf_th hwf (k := 0) (by decide)) ((j : Int)) j rfl (show (j : Int) < (wa_s T 0 0 0) 29 0 from (show (j : Int) < T 29 0 by omega))) ⟨by decide, by decide⟩ ⟨rfl, rfl⟩ hw hw rfl rfl rfl (Nat.le_of_ble_eq_true rfl) hl.1 dX5_renew_44 ⟨Nat.le_refl _, Nat.le_refl _⟩) ?_
      refine sM_28 F hw (wm_j hj _ _) hS j rfl (by omega) dX5_renew_47 (fun H locs hw hS => ?_)
      refine lv_aload_n hx hb dX5_renew_48 rfl (lv_at hl 1 rfl) ?_
      refine gX5_81 F hw rfl (v := .ref (ad 6 28)) rfl dX5_renew_49 ?_
      refine lv_iload_n hx hb dX5_renew_52 rfl (lv_at hl 2 rfl) ?_
      refine aM_28 F hw j rfl (by omega) dX5_renew_53 ?_
      rw [show (wa_s (wa_s T 0 0 0) 28 j (f_next (wa_s T 0 0 0) j)) 28 j = (f_next (wa_s T 0 0 0) j) from by simp [wa_s]]
      have ek : k_renew T (j : Int) = 0 := by unfold k_renew; rw [if_neg (fun h => h b2), if_neg (by simpa using c21)]
      rw [ek]
      exact wa_ei F hw hS rfl dX5_renew_54
    · skip
      refine wa_const F dX5_renew_24 ?_
      refine wa_goto (tgt := 29) F dX5_renew_25 (by decide) ?_
      refine wa_ci (kX5_103 F (c_X5_isFine l D cy ad S X T o A (wm_j hj _ _) (2) (by decide)) ⟨by decide, by decide⟩ ⟨rfl, rfl⟩ hw hw rfl rfl rfl (Nat.le_of_ble_eq_true rfl) hl.1 dX5_renew_29 ⟨Nat.le_refl _, Nat.le_refl _⟩) hS (fun H locs hw hS => ?_)
      refine wa_if_ne (tgt := 37) F dX5_renew_32 (by decide) (by decide) (fun c32 => absurd c32 (by decide)) (fun c32 => ?_)
      refine wa_const F dX5_renew_35 ?_
      have ek : k_renew T (j : Int) = 2 := by unfold k_renew; rw [if_neg (fun h => h b2), if_pos (by simpa using c21)]
      rw [ek]
      exact wa_ei F hw hS rfl dX5_renew_36
  · rw [bI_f b2]
    refine lv_istore_n (lv' := [(2, .int (iI 0)), (0, .ref (ad 6 0)), (1, .int (iI u))]) hx hb dX5_renew_5 rfl hl (by decide) rfl (fun ls hl => ?_)
    refine lv_aload_n hx hb dX5_renew_6 rfl (lv_at hl 1 rfl) ?_
    refine lv_iload_n hx hb dX5_renew_7 rfl (lv_at hl 0 rfl) ?_
    refine wa_if_ne (tgt := 15) F dX5_renew_8 (by decide) (by decide) (fun c8 => absurd c8 (by decide)) (fun c8 => ?_)
    refine wa_const F dX5_renew_11 ?_
    refine wa_goto (tgt := 29) F dX5_renew_12 (by decide) ?_
    refine wa_ci (kX5_103 F (c_X5_isFine l D cy ad S X T o A (wm_j hj _ _) (1) (by decide)) ⟨by decide, by decide⟩ ⟨rfl, rfl⟩ hw hw rfl rfl rfl (Nat.le_of_ble_eq_true rfl) hl.1 dX5_renew_29 ⟨Nat.le_refl _, Nat.le_refl _⟩) hS (fun H locs hw hS => ?_)
    refine wa_if_ne (tgt := 37) F dX5_renew_32 (by decide) (by decide) (fun c32 => absurd c32 (by decide)) (fun c32 => ?_)
    refine wa_const F dX5_renew_35 ?_
    have ek : k_renew T u = 1 := by unfold k_renew; rw [if_pos b2]
    rw [ek]
    exact wa_ei F hw hS rfl dX5_renew_36
set_option maxRecDepth 100000 in
set_option maxHeartbeats 4000000 in
/-- stop -/
theorem c_X5_stop (l : Launch) (D : va_G) (cy : Nat → ClassId) (ad : Nat → Nat → Nat) (S X T : wa_St) (o : Int64) (A : Nat → Prop) (hj : wa_wj A ad (wW cy ad S X T o)) (hwf : wf T) (u : Int) (ru : wa_r u) : Met l yX5_stop wX5_stop ({ frames := 2, cells := 0, slots := 0, locals := 43 } : Room) (wa_pc [.ref (ad 6 0), .int (iI u)] D cy (fun H => wa_wd D ad (wW cy ad S X T o) H)) (wa_Qi A D ad (wW cy ad S X (o_s T (k_stop T u) (a_stop T u)) o) (o_v (k_stop T u) (T 28 u.toNat))) 0 0 A := by
  refine wa_en (by decide +kernel) (Nat.le_of_ble_eq_true rfl) ?_
  intro p e s m args below meth c F hw ls hl
  have F : wa_fx p s m c meth args cX5_stop 3 RX5 "stop" (Option.some FieldType.int) D cy := F
  have hw : wa_wd D ad (wW cy ad S X T o) s.heap := hw
  have hl : lv_has ls 3 [(0, .ref (ad 6 0)), (1, .int (iI u))] := hl
  obtain ⟨hx, hb, hml, hown, hts⟩ := id F.1
  obtain ⟨hB, w8, w21, w12, w29, w4, w7, w6, w5, w13, w25, w26, w28, w14, w3, wf17⟩ := id hwf
  have hS : va_S A s.heap s.heap [] := va_S.rf
  refine lv_aload_n hx hb dX5_stop_0 rfl (lv_at hl 0 rfl) ?_
  refine lv_aload_n hx hb dX5_stop_1 rfl (lv_at hl 0 rfl) ?_
  refine lv_iload_n hx hb dX5_stop_2 rfl (lv_at hl 1 rfl) ?_
  refine wa_cp (kX5_159 F (c_X5_isRunning l D cy ad S X T o hwf (u) (by have q0 := ru; exact ⟨by omega, by omega⟩)) ⟨by decide, by decide⟩ ⟨rfl, rfl⟩ hw hw rfl rfl rfl (Nat.le_of_ble_eq_true rfl) hl.1 dX5_stop_3 ⟨Nat.le_refl _, Nat.le_refl _⟩) ?_
  by_cases b3 : f_isRunning T u
  · rw [bI_t b3]
    obtain ⟨j, rfl⟩ := Int.eq_ofNat_of_zero_le b3.1.1
    refine wa_if_eq (tgt := 13) F dX5_stop_6 (by decide) (by decide) (fun c6 => absurd c6 (by decide)) (fun c6 => ?_)
    refine wa_const F dX5_stop_9 ?_
    refine wa_goto (tgt := 14) F dX5_stop_10 (by decide) ?_
    refine wa_ci (kX5_103 F (c_X5_isFine l D cy ad S X T o A (wm_j hj _ _) (0) (by decide)) ⟨by decide, by decide⟩ ⟨rfl, rfl⟩ hw hw rfl rfl rfl (Nat.le_of_ble_eq_true rfl) hl.1 dX5_stop_14 ⟨Nat.le_refl _, Nat.le_refl _⟩) hS (fun H locs hw hS => ?_)
    refine wa_if_ne (tgt := 22) F dX5_stop_17 (by decide) (by decide) (fun c17 => ?_) (fun c17 => absurd c17 (by decide))
    refine lv_aload_n hx hb dX5_stop_22 rfl (lv_at hl 0 rfl) ?_
    refine gX5_81 F hw rfl (v := .ref (ad 6 28)) rfl dX5_stop_23 ?_
    refine lv_iload_n hx hb dX5_stop_26 rfl (lv_at hl 1 rfl) ?_
    refine aM_28 F hw j rfl (by omega) dX5_stop_27 ?_
    refine W.eq (g2 := F0 m 28 ls [.int (iI (T 28 j))]) rfl ?_
    refine lv_istore_n (lv' := [(2, .int (iI (T 28 j))), (0, .ref (ad 6 0)), (1, .int (iI (j : Int)))]) hx hb dX5_stop_28 rfl hl (by decide) rfl (fun ls hl => ?_)
    refine lv_aload_n hx hb dX5_stop_29 rfl (lv_at hl 1 rfl) ?_
    refine gX5_81 F hw rfl (v := .ref (ad 6 28)) rfl dX5_stop_30 ?_
    refine lv_iload_n hx hb dX5_stop_33 rfl (lv_at hl 2 rfl) ?_
    refine wa_const F dX5_stop_34 ?_
    refine sM_28 F hw (wm_j hj _ _) hS j rfl (by omega) dX5_stop_35 (fun H locs hw hS => ?_)
    refine lv_iload_n hx hb dX5_stop_36 rfl (lv_at hl 0 rfl) ?_
    have ek : k_stop T (j : Int) = 0 := if_pos b3
    rw [ek]
    exact wa_ei F hw hS rfl dX5_stop_37
  · rw [bI_f b3]
    refine wa_if_eq (tgt := 13) F dX5_stop_6 (by decide) (by decide) (fun c6 => ?_) (fun c6 => absurd c6 (by decide))
    refine wa_const F dX5_stop_13 ?_
    refine wa_ci (kX5_103 F (c_X5_isFine l D cy ad S X T o A (wm_j hj _ _) (1) (by decide)) ⟨by decide, by decide⟩ ⟨rfl, rfl⟩ hw hw rfl rfl rfl (Nat.le_of_ble_eq_true rfl) hl.1 dX5_stop_14 ⟨Nat.le_refl _, Nat.le_refl _⟩) hS (fun H locs hw hS => ?_)
    refine wa_if_ne (tgt := 22) F dX5_stop_17 (by decide) (by decide) (fun c17 => absurd c17 (by decide)) (fun c17 => ?_)
    refine wa_const F dX5_stop_20 ?_
    have ek : k_stop T u = 1 := if_neg b3
    rw [ek]
    exact wa_ei F hw hS rfl dX5_stop_21
set_option maxRecDepth 100000 in
set_option maxHeartbeats 4000000 in
/-- runsFrom -/
theorem c_X5_runsFrom (l : Launch) (D : va_G) (cy : Nat → ClassId) (ad : Nat → Nat → Nat) (S X T : wa_St) (o : Int64) (A : Nat → Prop) (hj : wa_wj A ad (wW cy ad S X T o)) (hwf : wf T) (u : Int) (ru : wa_r u) : Met l yX5_runsFrom wX5_runsFrom ({ frames := 1, cells := 0, slots := 0, locals := 22 } : Room) (wa_pc [.ref (ad 6 0), .int (iI u)] D cy (fun H => wa_wd D ad (wW cy ad S X T o) H)) (wa_Qi A D ad (wW cy ad S X (wa_s T 0 0 (k_from T u)) o) (o_v (k_from T u) (T 28 u.toNat))) 0 0 A := by
  refine wa_en (by decide +kernel) (Nat.le_of_ble_eq_true rfl) ?_
  intro p e s m args below meth c F hw ls hl
  have F : wa_fx p s m c meth args cX5_runsFrom 2 RX5 "runsFrom" (Option.some FieldType.int) D cy := F
  have hw : wa_wd D ad (wW cy ad S X T o) s.heap := hw
  have hl : lv_has ls 2 [(0, .ref (ad 6 0)), (1, .int (iI u))] := hl
  obtain ⟨hx, hb, hml, hown, hts⟩ := id F.1
  obtain ⟨hB, w8, w21, w12, w29, w4, w7, w6, w5, w13, w25, w26, w28, w14, w3, wf17⟩ := id hwf
  have hS : va_S A s.heap s.heap [] := va_S.rf
  refine lv_aload_n hx hb dX5_runsFrom_0 rfl (lv_at hl 0 rfl) ?_
  refine lv_iload_n hx hb dX5_runsFrom_1 rfl (lv_at hl 1 rfl) ?_
  refine wa_const F dX5_runsFrom_2 ?_
  refine lv_aload_n hx hb dX5_runsFrom_3 rfl (lv_at hl 0 rfl) ?_
  refine gX5_147 F hw rfl (v := .int (iI (T 29 0))) rfl dX5_runsFrom_4 ?_
  refine wa_const F dX5_runsFrom_7 ?_
  refine wa_sub F dX5_runsFrom_8 ?_
  refine wa_cp (kX5_96 F (c_X5_isIn l D cy ad S X T o (u) (0) (((T 29 0) - 1)) (by have q0 := ru; exact ⟨by omega, by omega⟩) (by decide) (by have q0 := hB 29 0; exact ⟨by omega, by omega⟩)) ⟨by decide, by decide⟩ ⟨rfl, rfl⟩ hw rfl rfl (Nat.le_of_ble_eq_true rfl) hl.1 dX5_runsFrom_9 ⟨Nat.le_refl _, Nat.le_refl _⟩) ?_
  by_cases b9h : 0 ≤ u ∧ u ≤ ((T 29 0) - 1)
  · rw [bI_t b9h]
    obtain ⟨j, rfl⟩ := Int.eq_ofNat_of_zero_le b9h.1
    refine wa_if_eq (tgt := 19) F dX5_runsFrom_12 (by decide) (by decide) (fun c12 => absurd c12 (by decide)) (fun c12 => ?_)
    refine wa_const F dX5_runsFrom_15 ?_
    refine wa_goto (tgt := 20) F dX5_runsFrom_16 (by decide) ?_
    refine wa_ci (kX5_103 F (c_X5_isFine l D cy ad S X T o A (wm_j hj _ _) (0) (by decide)) ⟨by decide, by decide⟩ ⟨rfl, rfl⟩ hw hw rfl rfl rfl (Nat.le_of_ble_eq_true rfl) hl.1 dX5_runsFrom_20 ⟨Nat.le_refl _, Nat.le_refl _⟩) hS (fun H locs hw hS => ?_)
    refine wa_if_eq (tgt := 35) F dX5_runsFrom_23 (by decide) (by decide) (fun c23 => absurd c23 (by decide)) (fun c23 => ?_)
    refine lv_aload_n hx hb dX5_runsFrom_26 rfl (lv_at hl 0 rfl) ?_
    refine gX5_81 F hw rfl (v := .ref (ad 6 28)) rfl dX5_runsFrom_27 ?_
    refine lv_iload_n hx hb dX5_runsFrom_30 rfl (lv_at hl 1 rfl) ?_
    refine aM_28 F hw j rfl (by omega) dX5_runsFrom_31 ?_
    refine W.eq (g2 := F0 m 32 ls [.int (iI (T 28 j))]) rfl ?_
    refine wa_goto (tgt := 36) F dX5_runsFrom_32 (by decide) ?_
    have ek : k_from T (j : Int) = 0 := by simp only [k_from, f_isImage, f_isBake, Int.toNat_natCast]; (repeat' split) <;> first | rfl | omega
    rw [ek]
    exact wa_ei F hw hS (by first | rfl | simp [wa_s] | omega) dX5_runsFrom_36
  · rw [bI_f b9h]
    refine wa_if_eq (tgt := 19) F dX5_runsFrom_12 (by decide) (by decide) (fun c12 => ?_) (fun c12 => absurd c12 (by decide))
    refine wa_const F dX5_runsFrom_19 ?_
    refine wa_ci (kX5_103 F (c_X5_isFine l D cy ad S X T o A (wm_j hj _ _) (1) (by decide)) ⟨by decide, by decide⟩ ⟨rfl, rfl⟩ hw hw rfl rfl rfl (Nat.le_of_ble_eq_true rfl) hl.1 dX5_runsFrom_20 ⟨Nat.le_refl _, Nat.le_refl _⟩) hS (fun H locs hw hS => ?_)
    refine wa_if_eq (tgt := 35) F dX5_runsFrom_23 (by decide) (by decide) (fun c23 => ?_) (fun c23 => absurd c23 (by decide))
    refine wa_const F dX5_runsFrom_35 ?_
    have ek : k_from T u = 1 := by simp only [k_from, f_isImage, f_isBake, Int.toNat_natCast]; (repeat' split) <;> first | rfl | omega
    rw [ek]
    exact wa_ei F hw hS (by first | rfl | simp [wa_s] | omega) dX5_runsFrom_36
