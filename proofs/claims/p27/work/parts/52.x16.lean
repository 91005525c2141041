/-! contracts of the class: public methods, second part (laid by program) -/
set_option maxRecDepth 100000 in
set_option maxHeartbeats 4000000 in
/-- raise -/
theorem c_X4_raise (l : Launch) (hlt : l.stackTraces = false) (D : va_G) (cy : Nat → ClassId) (ad : Nat → Nat → Nat) (S X T : wa_St) (o : Int64) (A : Nat → Prop) (hj : wa_wj A ad (wW cy ad S X T o)) (hA : wa_Up A) (hwf : wf S) (hxr : xr S X) (hin : wx_inj ad S) (b9 : Int) (rb9 : wa_r b9) (h16 : ∀ b, 0 ≤ S 16 b ∧ S 16 b ≤ 2) : vx_Met l yX4_raise wX4_raise ({ frames := 7, cells := 2, slots := 12, locals := 104 } : Room) (wx_pc [.ref (ad 0 0), .int (iI b9)] D cy A (fun H => wa_wd D ad (wW cy ad S X T o) H)) (va_Qi (fun r (u : (Nat → Nat → Nat) × wa_St) => r = iI (S 16 b9.toNat + 1) ∧ k_raise S b9 = 0 ∧ wx_P A cy ad T o S (a_raise S b9) u) (fun u t => wx_B D cy T o (a_raise S b9) u t.heap) A) (wx_XC A exB (k_raise S b9) (wx_P A cy ad T o S S) (wx_B D cy T o S)) 2 12 A := by
  refine wx_en (by decide +kernel) (Nat.le_of_ble_eq_true rfl) ?_
  intro p e s m args below meth c F hTB hno hw ls hl
  have F : wa_fx p s m c meth args cX4_raise 3 RX4 "raise" (Option.some FieldType.int) D cy := F
  have hw : wa_wd D ad (wW cy ad S X T o) s.heap := hw
  have hl : lv_has ls 3 [(0, .ref (ad 0 0)), (1, .int (iI b9))] := hl
  obtain ⟨hx, hb, hml, hown, hts⟩ := id F.1
  obtain ⟨hSB, w8, w21, w12, w29, w4, w7, w6, w5, w13, w25, w26, w28, w14, w3, wf17⟩ := id hwf
  obtain ⟨hx1, hXB, hx11, hx12, hx13, hx14, hx15, hx16⟩ := id hxr
  have w16 := h16 b9.toNat
  have hS : va_S A s.heap s.heap [] := va_S.rf
  refine lv_aload_n hx hb dX4_raise_0 rfl (lv_at hl 0 rfl) ?_
  refine lv_iload_n hx hb dX4_raise_1 rfl (lv_at hl 1 rfl) ?_
  refine wx_cq (vX4_141 F hTB hS (c_X4_bakeAt l hlt D cy ad S X T o A hj hA hwf hxr hin (b9) (by have q0 := rb9; exact ⟨by omega, by omega⟩)) ⟨by decide, by decide⟩ ⟨rfl, rfl⟩ hw hw rfl rfl rfl (Nat.le_of_ble_eq_true rfl) hl.1 dX4_raise_2 ⟨(Nat.le_of_ble_eq_true rfl), (Nat.le_of_ble_eq_true rfl)⟩) hS (fun E ce q9 u H1 locs1 hE hk0 hp hB hS1 hce hcv hcl => wx_prop (ad, X) F hno hE (by have hni : ¬ f_isBake S b9 := fun hq => hk0 (if_pos hq); rw [show k_raise S b9 = 1 from if_pos hni, if_neg hni]; exact ⟨rfl, by decide⟩) ⟨hxr, hj, x_ext.rf S ad⟩ hB hS1 hce hcv hcl (Nat.le_of_ble_eq_true rfl) (Nat.le_of_ble_eq_true rfl)) (fun locs hK2 hS => ?_)
  have hK2 : f_isBake S b9 := hK2
  refine W.eq (g2 := F0 m 5 ls [.ref (ad 3 b9.toNat)]) rfl ?_
  refine lv_astore_n (lv' := [(2, .ref (ad 3 b9.toNat)), (0, .ref (ad 0 0)), (1, .int (iI b9))]) hx hb dX4_raise_5 rfl hl (by decide) rfl (fun ls hl => ?_)
  refine lv_aload_n hx hb dX4_raise_6 rfl (lv_at hl 0 rfl) ?_
  refine gX4_148 F hw (wW_3 (show ((b9.toNat : Nat) : Int) < S 21 0 by have q := hK2; omega)) (v := .int (iI (S 18 (b9.toNat)))) rfl dX4_raise_7 ?_
  refine wa_if_ne (tgt := 35) F dX4_raise_10 (by decide) (by have q0 := hSB 18 (b9.toNat); exact ⟨by omega, by omega⟩) (fun c10 => ?_) (fun c10 => ?_)
  · skip
    exact tX4_70 (is := 168) (text := "the bake cannot be raised") 2 (((if_neg (not_not_intro hK2)).trans (if_pos (by omega)))) (by decide) rfl (ad, X) F hlt hTB (by decide) hS (wa_fresh hA hw hj (rfl : wW cy ad S X T o 0 0 = some (.inr (4, wx_fs ad S)))) hA hl.1 hno dX4_raise_35 dX4_raise_38 dX4_raise_39 dX4_raise_41 dX4_raise_44 (by decide) (Nat.le_of_ble_eq_true rfl) (Nat.le_of_ble_eq_true rfl) (Nat.le_of_ble_eq_true rfl) (Nat.le_of_ble_eq_true rfl) (Nat.le_of_ble_eq_true rfl) ⟨hxr, hj, x_ext.rf S ad⟩ (fun H1 hz hk => hw.grow hk)
  · skip
    refine lv_aload_n hx hb dX4_raise_13 rfl (lv_at hl 0 rfl) ?_
    refine gX4_157 F hw (wW_3 (show ((b9.toNat : Nat) : Int) < S 21 0 by have q := hK2; omega)) (v := .int (iI (S 17 (b9.toNat)))) rfl dX4_raise_14 ?_
    refine wa_if_ne (tgt := 35) F dX4_raise_17 (by decide) (by have q0 := hSB 17 (b9.toNat); exact ⟨by omega, by omega⟩) (fun c17 => ?_) (fun c17 => ?_)
    · skip
      exact tX4_70 (is := 168) (text := "the bake cannot be raised") 2 (((if_neg (not_not_intro hK2)).trans (if_pos (by omega)))) (by decide) rfl (ad, X) F hlt hTB (by decide) hS (wa_fresh hA hw hj (rfl : wW cy ad S X T o 0 0 = some (.inr (4, wx_fs ad S)))) hA hl.1 hno dX4_raise_35 dX4_raise_38 dX4_raise_39 dX4_raise_41 dX4_raise_44 (by decide) (Nat.le_of_ble_eq_true rfl) (Nat.le_of_ble_eq_true rfl) (Nat.le_of_ble_eq_true rfl) (Nat.le_of_ble_eq_true rfl) (Nat.le_of_ble_eq_true rfl) ⟨hxr, hj, x_ext.rf S ad⟩ (fun H1 hz hk => hw.grow hk)
    · skip
      refine lv_aload_n hx hb dX4_raise_20 rfl (lv_at hl 0 rfl) ?_
      refine gX4_165 F hw (wW_3 (show ((b9.toNat : Nat) : Int) < S 21 0 by have q := hK2; omega)) (v := .int (iI (S 16 (b9.toNat)))) rfl dX4_raise_21 ?_
      refine wa_const F dX4_raise_24 ?_
      refine wa_ic_ge (tgt := 35) F dX4_raise_25 (by decide) (by have q0 := hSB 16 (b9.toNat); exact ⟨by omega, by omega⟩) (by decide) (fun c25 => ?_) (fun c25 => ?_)
      · skip
        exact tX4_70 (is := 168) (text := "the bake cannot be raised") 2 (((if_neg (not_not_intro hK2)).trans (if_pos (by omega)))) (by decide) rfl (ad, X) F hlt hTB (by decide) hS (wa_fresh hA hw hj (rfl : wW cy ad S X T o 0 0 = some (.inr (4, wx_fs ad S)))) hA hl.1 hno dX4_raise_35 dX4_raise_38 dX4_raise_39 dX4_raise_41 dX4_raise_44 (by decide) (Nat.le_of_ble_eq_true rfl) (Nat.le_of_ble_eq_true rfl) (Nat.le_of_ble_eq_true rfl) (Nat.le_of_ble_eq_true rfl) (Nat.le_of_ble_eq_true rfl) ⟨hxr, hj, x_ext.rf S ad⟩ (fun H1 hz hk => hw.grow hk)
      · skip
        refine lv_aload_n hx hb dX4_raise_28 rfl (lv_at hl 0 rfl) ?_
        refine gX4_154 F hw (wW_3 (show ((b9.toNat : Nat) : Int) < S 21 0 by have q := hK2; omega)) (v := .int (iI (S 19 (b9.toNat)))) rfl dX4_raise_29 ?_
        refine wa_if_ne (tgt := 45) F dX4_raise_32 (by decide) (by have q0 := hSB 19 (b9.toNat); exact ⟨by omega, by omega⟩) (fun c32 => ?_) (fun c32 => ?_)
        · skip
          refine lv_aload_n hx hb dX4_raise_45 rfl (lv_at hl 0 rfl) ?_
          refine lv_dup hx hb dX4_raise_46 rfl ?_
          refine gX4_165 F hw (wW_3 (show ((b9.toNat : Nat) : Int) < S 21 0 by have q := hK2; omega)) (v := .int (iI (S 16 (b9.toNat)))) rfl dX4_raise_47 ?_
          refine wa_const F dX4_raise_50 ?_
          refine wa_add F dX4_raise_51 ?_
          refine qX4_165 F hw hj hS (show ((b9.toNat : Nat) : Int) < S 21 0 by have q := hK2; omega) dX4_raise_52 (fun H locs hw hS => ?_)
          refine lv_aload_n hx hb dX4_raise_55 rfl (lv_at hl 0 rfl) ?_
          refine wa_const F dX4_raise_56 ?_
          refine qX4_154 F hw (wj_of hj rfl rfl rfl) hS (by decide) (show ((b9.toNat : Nat) : Int) < S 21 0 by have q := hK2; omega) dX4_raise_57 (fun H locs hw hS => ?_)
          refine lv_aload_n hx hb dX4_raise_60 rfl (lv_at hl 0 rfl) ?_
          refine gX4_165 F hw (wW_3 (show ((b9.toNat : Nat) : Int) < S 21 0 by have q := hK2; omega)) (v := .int (iI ((S 16 (b9.toNat)) + 1))) (by first | rfl | simp [wx_fI, wx_fB, wx_fM, wa_s]) dX4_raise_61 ?_
          exact wx_rI (ad, X) F ⟨congrArg iI rfl, ((if_neg (not_not_intro hK2)).trans (if_neg (by omega))), ⟨hxr, wj_of hj rfl rfl rfl, x_ext.rf S ad⟩⟩ hw hS (Nat.le_of_ble_eq_true rfl) (Nat.le_of_ble_eq_true rfl) dX4_raise_64
        · skip
          exact tX4_70 (is := 168) (text := "the bake cannot be raised") 2 (((if_neg (not_not_intro hK2)).trans (if_pos (by omega)))) (by decide) rfl (ad, X) F hlt hTB (by decide) hS (wa_fresh hA hw hj (rfl : wW cy ad S X T o 0 0 = some (.inr (4, wx_fs ad S)))) hA hl.1 hno dX4_raise_35 dX4_raise_38 dX4_raise_39 dX4_raise_41 dX4_raise_44 (by decide) (Nat.le_of_ble_eq_true rfl) (Nat.le_of_ble_eq_true rfl) (Nat.le_of_ble_eq_true rfl) (Nat.le_of_ble_eq_true rfl) (Nat.le_of_ble_eq_true rfl) ⟨hxr, hj, x_ext.rf S ad⟩ (fun H1 hz hk => hw.grow hk)
set_option maxRecDepth 100000 in
set_option maxHeartbeats 4000000 in
/-- renew -/
theorem c_X4_renew (l : Launch) (hlt : l.stackTraces = false) (D : va_G) (cy : Nat → ClassId) (ad : Nat → Nat → Nat) (S X T : wa_St) (o : Int64) (A : Nat → Prop) (hj : wa_wj A ad (wW cy ad S X T o)) (hA : wa_Up A) (hwf : wf S) (hxr : xr S X) (hin : wx_inj ad S) (u9 : Int) (ru9 : wa_r u9) (h27 : ∀ u : Nat, (u : Int) < S 29 0 → -2 ≤ S 27 u ∧ S 27 u ≤ 2) : vx_Met l yX4_renew wX4_renew ({ frames := 8, cells := 3, slots := 18, locals := 126 } : Room) (wx_pc [.ref (ad 0 0), .int (iI u9)] D cy A (fun H => wa_wd D ad (wW cy ad S X T o) H)) (va_Qi (fun r (u : (Nat → Nat → Nat) × wa_St) => r = iI (f_next S u9.toNat) ∧ k_renew S u9 = 0 ∧ wx_P A cy ad T o S (a_renew S u9) u) (fun u t => wx_B D cy T o (a_renew S u9) u t.heap) A) (wx_XC A exB (k_renew S u9) (wx_P A cy ad T o S S) (wx_B D cy T o S)) 3 18 A := by
  refine wx_en (by decide +kernel) (Nat.le_of_ble_eq_true rfl) ?_
  intro p e s m args below meth c F hTB hno hw ls hl
  have F : wa_fx p s m c meth args cX4_renew 4 RX4 "renew" (Option.some FieldType.int) D cy := F
  have hw : wa_wd D ad (wW cy ad S X T o) s.heap := hw
  have hl : lv_has ls 4 [(0, .ref (ad 0 0)), (1, .int (iI u9))] := hl
  obtain ⟨hx, hb, hml, hown, hts⟩ := id F.1
  obtain ⟨hSB, w8, w21, w12, w29, w4, w7, w6, w5, w13, w25, w26, w28, w14, w3, wf17⟩ := id hwf
  obtain ⟨hx1, hXB, hx11, hx12, hx13, hx14, hx15, hx16⟩ := id hxr
  have hS : va_S A s.heap s.heap [] := va_S.rf
  refine lv_aload_n hx hb dX4_renew_0 rfl (lv_at hl 0 rfl) ?_
  refine lv_iload_n hx hb dX4_renew_1 rfl (lv_at hl 1 rfl) ?_
  refine wx_cq (vX4_217 F hTB hS (c_X4_runningAt l hlt D cy ad S X T o A hj hA hwf hxr hin (u9) (by have q0 := ru9; exact ⟨by omega, by omega⟩)) ⟨by decide, by decide⟩ ⟨rfl, rfl⟩ hw hw rfl rfl rfl (Nat.le_of_ble_eq_true rfl) hl.1 dX4_renew_2 ⟨(Nat.le_of_ble_eq_true rfl), (Nat.le_of_ble_eq_true rfl)⟩) hS (fun E ce q9 u H1 locs1 hE hk0 hp hB hS1 hce hcv hcl => wx_prop (ad, X) F hno hE (by have hni : ¬ f_isRunning S u9 := fun hq => hk0 (if_pos hq); rw [show k_renew S u9 = 1 from if_pos hni, if_neg hni]; exact ⟨rfl, by decide⟩) ⟨hxr, hj, x_ext.rf S ad⟩ hB hS1 hce hcv hcl (Nat.le_of_ble_eq_true rfl) (Nat.le_of_ble_eq_true rfl)) (fun locs hK2 hS => ?_)
  have hK2 : f_isRunning S u9 := hK2
  refine W.eq (g2 := F0 m 5 ls [.ref (ad 5 u9.toNat)]) rfl ?_
  refine lv_astore_n (lv' := [(2, .ref (ad 5 u9.toNat)), (0, .ref (ad 0 0)), (1, .int (iI u9))]) hx hb dX4_renew_5 rfl hl (by decide) rfl (fun ls hl => ?_)
  refine lv_aload_n hx hb dX4_renew_6 rfl (lv_at hl 1 rfl) ?_
  refine lv_aload_n hx hb dX4_renew_7 rfl (lv_at hl 0 rfl) ?_
  refine gX4_221 F hw (wW_5 (show ((u9.toNat : Nat) : Int) < S 29 0 by have q := hK2; omega)) (v := .ref (ad 1 ((S 25 (u9.toNat)).toNat))) rfl dX4_renew_8 ?_
  refine lv_aload_n hx hb dX4_renew_11 rfl (lv_at hl 0 rfl) ?_
  refine gX4_224 F hw (wW_5 (show ((u9.toNat : Nat) : Int) < S 29 0 by have q := hK2; omega)) (v := .int (iI (S 26 (u9.toNat)))) rfl dX4_renew_12 ?_
  refine lv_aload_n hx hb dX4_renew_15 rfl (lv_at hl 0 rfl) ?_
  refine gX4_227 F hw (wW_5 (show ((u9.toNat : Nat) : Int) < S 29 0 by have q := hK2; omega)) (v := .int (iI (S 27 (u9.toNat)))) rfl dX4_renew_16 ?_
  refine wa_cq (kX4_204 F (c_X4_bakeFor l D cy ad S X T o hwf hxr hin (S 25 u9.toNat) (w25 u9.toNat (by have := hK2; omega)) ((S 26 (u9.toNat))) ((S 27 (u9.toNat))) (w26 u9.toNat (by have := hK2; omega)) (by have q0 := hSB 27 (u9.toNat); exact ⟨by omega, by omega⟩)) ⟨by decide, by decide⟩ ⟨rfl, rfl⟩ hw hw rfl rfl rfl (Nat.le_of_ble_eq_true rfl) hl.1 dX4_renew_19 ⟨Nat.le_of_ble_eq_true rfl, Nat.le_of_ble_eq_true rfl⟩) ?_
  refine wa_stq_n (lv' := [(3, va_rf (wa_op ad 3 (f_next S u9.toNat))), (2, .ref (ad 5 u9.toNat)), (0, .ref (ad 0 0)), (1, .int (iI u9))]) F dX4_renew_22 rfl hl (by decide) rfl (fun ls hl => ?_)
  refine wa_ldq_n F dX4_renew_23 rfl (lv_at hl 0 rfl) ?_
  refine wa_nn_op (tgt := 37) F dX4_renew_24 (by decide) (fun c24 => ?_) (fun c24 => ?_)
  · skip
    rw [wa_op_ref (ad := ad) (kd := 3) c24] at hl
    have hl : lv_has ls 4 [(3, .ref (ad 3 ((f_next S u9.toNat).toNat))), (2, .ref (ad 5 u9.toNat)), (0, .ref (ad 0 0)), (1, .int (iI u9))] := hl
    refine lv_aload_n hx hb dX4_renew_37 rfl (lv_at hl 1 rfl) ?_
    refine lv_aload_n hx hb dX4_renew_38 rfl (lv_at hl 0 rfl) ?_
    refine W.eq (g2 := F0 m 39 ls [va_rf (wa_op ad 3 (f_next S u9.toNat)), .ref (ad 5 u9.toNat)]) (by rw [wa_op_ref c24]) ?_
    refine qX4_230 F hw hj hS (show ((u9.toNat : Nat) : Int) < S 29 0 by have q := hK2; omega) dX4_renew_39 (fun H locs hw hS => ?_)
    refine lv_aload_n hx hb dX4_renew_42 rfl (lv_at hl 0 rfl) ?_
    refine gX4_233 F hw (wW_3 (show (((f_next S u9.toNat).toNat : Nat) : Int) < S 21 0 by have q3 := (show -1 ≤ f_next S u9.toNat ∧ f_next S u9.toNat < S 21 0 from f_bakeFor_rng3 hwf _ _ _); have q4 := c24; omega)) (v := .int (iI ((f_next S u9.toNat).toNat : Int))) (by first | rfl | simp [wx_fI, wx_fB, wx_fM, wa_s]) dX4_renew_43 ?_
    exact wx_rI (ad, X) F ⟨congrArg iI (by omega), ((if_neg (not_not_intro hK2)).trans (if_neg (by omega))), ⟨hxr, wj_of hj rfl rfl rfl, x_ext.rf S ad⟩⟩ hw hS (Nat.le_of_ble_eq_true rfl) (Nat.le_of_ble_eq_true rfl) dX4_renew_46
  · skip
    exact tX4_70 (is := 228) (text := "there is no bake for it") 2 (((if_neg (not_not_intro hK2)).trans (if_pos (by have q := f_bakeFor_rng3 hwf (S 25 u9.toNat) (S 26 u9.toNat) (S 27 u9.toNat); have q2 : f_next S u9.toNat = f_bakeFor S (S 25 u9.toNat) (S 26 u9.toNat) (S 27 u9.toNat) := rfl; omega)))) (by decide) rfl (ad, X) F hlt hTB (by decide) hS (wa_fresh hA hw hj (rfl : wW cy ad S X T o 0 0 = some (.inr (4, wx_fs ad S)))) hA hl.1 hno dX4_renew_27 dX4_renew_30 dX4_renew_31 dX4_renew_33 dX4_renew_36 (by decide) (Nat.le_of_ble_eq_true rfl) (Nat.le_of_ble_eq_true rfl) (Nat.le_of_ble_eq_true rfl) (Nat.le_of_ble_eq_true rfl) (Nat.le_of_ble_eq_true rfl) ⟨hxr, hj, x_ext.rf S ad⟩ (fun H1 hz hk => hw.grow hk)
set_option maxRecDepth 100000 in
set_option maxHeartbeats 4000000 in
/-- stop -/
theorem c_X4_stop (l : Launch) (hlt : l.stackTraces = false) (D : va_G) (cy : Nat → ClassId) (ad : Nat → Nat → Nat) (S X T : wa_St) (o : Int64) (A : Nat → Prop) (hj : wa_wj A ad (wW cy ad S X T o)) (hA : wa_Up A) (hwf : wf S) (hxr : xr S X) (hin : wx_inj ad S) (u9 : Int) (ru9 : wa_r u9) : vx_Met l yX4_stop wX4_stop ({ frames := 8, cells := 2, slots := 12, locals := 126 } : Room) (wx_pc [.ref (ad 0 0), .int (iI u9)] D cy A (fun H => wa_wd D ad (wW cy ad S X T o) H)) (va_Qi (fun r (u : (Nat → Nat → Nat) × wa_St) => r = iI (S 28 u9.toNat) ∧ k_stop S u9 = 0 ∧ wx_P A cy ad T o S (a_stop S u9) u) (fun u t => wx_B D cy T o (a_stop S u9) u t.heap) A) (wx_XC A exA (k_stop S u9) (wx_P A cy ad T o S S) (wx_B D cy T o S)) 2 12 A := by
  refine wx_en (by decide +kernel) (Nat.le_of_ble_eq_true rfl) ?_
  intro p e s m args below meth c F hTB hno hw ls hl
  have F : wa_fx p s m c meth args cX4_stop 4 RX4 "stop" (Option.some FieldType.int) D cy := F
  have hw : wa_wd D ad (wW cy ad S X T o) s.heap := hw
  have hl : lv_has ls 4 [(0, .ref (ad 0 0)), (1, .int (iI u9))] := hl
  obtain ⟨hx, hb, hml, hown, hts⟩ := id F.1
  obtain ⟨hSB, w8, w21, w12, w29, w4, w7, w6, w5, w13, w25, w26, w28, w14, w3, wf17⟩ := id hwf
  obtain ⟨hx1, hXB, hx11, hx12, hx13, hx14, hx15, hx16⟩ := id hxr
  have hS : va_S A s.heap s.heap [] := va_S.rf
  refine lv_aload_n hx hb dX4_stop_0 rfl (lv_at hl 0 rfl) ?_
  refine lv_iload_n hx hb dX4_stop_1 rfl (lv_at hl 1 rfl) ?_
  refine wx_cq (vX4_217 F hTB hS (c_X4_runningAt l hlt D cy ad S X T o A hj hA hwf hxr hin (u9) (by have q0 := ru9; exact ⟨by omega, by omega⟩)) ⟨by decide, by decide⟩ ⟨rfl, rfl⟩ hw hw rfl rfl rfl (Nat.le_of_ble_eq_true rfl) hl.1 dX4_stop_2 ⟨(Nat.le_of_ble_eq_true rfl), (Nat.le_of_ble_eq_true rfl)⟩) hS (fun E ce q9 u H1 locs1 hE hk0 hp hB hS1 hce hcv hcl => wx_prop (ad, X) F hno hE (by have hni : ¬ f_isRunning S u9 := fun hq => hk0 (if_pos hq); rw [show k_stop S u9 = 1 from if_neg hni, if_neg hni]; exact ⟨rfl, by decide⟩) ⟨hxr, hj, x_ext.rf S ad⟩ hB hS1 hce hcv hcl (Nat.le_of_ble_eq_true rfl) (Nat.le_of_ble_eq_true rfl)) (fun locs hK2 hS => ?_)
  have hK2 : f_isRunning S u9 := hK2
  refine W.eq (g2 := F0 m 5 ls [.ref (ad 5 u9.toNat)]) rfl ?_
  refine lv_astore_n (lv' := [(2, .ref (ad 5 u9.toNat)), (0, .ref (ad 0 0)), (1, .int (iI u9))]) hx hb dX4_stop_5 rfl hl (by decide) rfl (fun ls hl => ?_)
  refine lv_aload_n hx hb dX4_stop_6 rfl (lv_at hl 0 rfl) ?_
  refine gX4_230 F hw (wW_5 (show ((u9.toNat : Nat) : Int) < S 29 0 by have q := hK2; omega)) (v := va_rf (wa_op ad 3 (S 28 (u9.toNat)))) rfl dX4_stop_7 ?_
  refine wa_cp (kX4_122 F (c_X4_numberOf l D cy ad S X T o hwf hxr hin ((S 28 (u9.toNat))) (show -1 ≤ (S 28 (u9.toNat)) ∧ (S 28 (u9.toNat)) < S 21 0 by have q := w28 (u9.toNat) (show ((u9.toNat : Nat) : Int) < S 29 0 by have q := hK2; omega); omega)) ⟨by decide, by decide⟩ ⟨rfl, rfl⟩ hw rfl rfl (Nat.le_of_ble_eq_true rfl) hl.1 dX4_stop_10 ⟨Nat.le_of_ble_eq_true rfl, Nat.le_of_ble_eq_true rfl⟩) ?_
  refine lv_istore_n (lv' := [(3, .int (iI (S 28 (u9.toNat)))), (2, .ref (ad 5 u9.toNat)), (0, .ref (ad 0 0)), (1, .int (iI u9))]) hx hb dX4_stop_13 rfl hl (by decide) rfl (fun ls hl => ?_)
  refine lv_aload_n hx hb dX4_stop_14 rfl (lv_at hl 1 rfl) ?_
  refine lv_null hx hb dX4_stop_15 ?_
  refine W.eq (g2 := F0 m 16 ls [va_rf (wa_op ad 3 (-1)), .ref (ad 5 u9.toNat)]) rfl ?_
  refine qX4_230 F hw hj hS (show ((u9.toNat : Nat) : Int) < S 29 0 by have q := hK2; omega) dX4_stop_16 (fun H locs hw hS => ?_)
  refine lv_iload_n hx hb dX4_stop_19 rfl (lv_at hl 0 rfl) ?_
  exact wx_rI (ad, X) F ⟨congrArg iI rfl, (if_pos hK2), ⟨hxr, wj_of hj rfl rfl rfl, x_ext.rf S ad⟩⟩ hw hS (Nat.le_of_ble_eq_true rfl) (Nat.le_of_ble_eq_true rfl) dX4_stop_20
set_option maxRecDepth 100000 in
set_option maxHeartbeats 4000000 in
/-- setRules -/
theorem c_X4_setRules (l : Launch) (hlt : l.stackTraces = false) (D : va_G) (cy : Nat → ClassId) (ad : Nat → Nat → Nat) (S X T : wa_St) (o : Int64) (A : Nat → Prop) (hj : wa_wj A ad (wW cy ad S X T o)) (hA : wa_Up A) (hwf : wf S) (hxr : xr S X) (hin : wx_inj ad S) (q d9 st kp : Int) (rq : wa_r q) (rd : wa_r d9) (rst : wa_r st) (rkp : wa_r kp) : vx_Met l yX4_setRules wX4_setRules ({ frames := 6, cells := 1, slots := 6, locals := 82 } : Room) (wx_pc [.ref (ad 0 0), .int (iI q), .int (iI d9), .int (iI st), .int (iI kp)] D cy A (fun H => wa_wd D ad (wW cy ad S X T o) H)) (va_Qv (fun (u : (Nat → Nat → Nat) × wa_St) => k_rules q d9 st kp = 0 ∧ wx_P A cy ad T o S (a_rules S q d9 st kp) u) (fun u t => wx_B D cy T o (a_rules S q d9 st kp) u t.heap) A) (wx_XC A exC (k_rules q d9 st kp) (wx_P A cy ad T o S S) (wx_B D cy T o S)) 1 6 A := by
  refine wx_en (by decide +kernel) (Nat.le_of_ble_eq_true rfl) ?_
  intro p e s m args below meth c F hTB hno hw ls hl
  have F : wa_fx p s m c meth args cX4_setRules 5 RX4 "setRules" (none) D cy := F
  have hw : wa_wd D ad (wW cy ad S X T o) s.heap := hw
  have hl : lv_has ls 5 [(0, .ref (ad 0 0)), (1, .int (iI q)), (2, .int (iI d9)), (3, .int (iI st)), (4, .int (iI kp))] := hl
  obtain ⟨hx, hb, hml, hown, hts⟩ := id F.1
  obtain ⟨hSB, w8, w21, w12, w29, w4, w7, w6, w5, w13, w25, w26, w28, w14, w3, wf17⟩ := id hwf
  obtain ⟨hx1, hXB, hx11, hx12, hx13, hx14, hx15, hx16⟩ := id hxr
  have hS : va_S A s.heap s.heap [] := va_S.rf
  refine lv_iload_n hx hb dX4_setRules_0 rfl (lv_at hl 1 rfl) ?_
  refine wa_if_lt (tgt := 13) F dX4_setRules_1 (by decide) (by have q0 := rq; exact ⟨by omega, by omega⟩) (fun c1 => ?_) (fun c1 => ?_)
  · skip
    exact tX4_83 (is := 170) (text := "place is out of range") 1 (if_neg (by omega)) (by decide) rfl (ad, X) F hlt hTB (by decide) hS (wa_fresh hA hw hj (rfl : wW cy ad S X T o 0 0 = some (.inr (4, wx_fs ad S)))) hA hl.1 hno dX4_setRules_13 dX4_setRules_16 dX4_setRules_17 dX4_setRules_19 dX4_setRules_22 (by decide) (Nat.le_of_ble_eq_true rfl) (Nat.le_of_ble_eq_true rfl) (Nat.le_of_ble_eq_true rfl) (Nat.le_of_ble_eq_true rfl) (Nat.le_of_ble_eq_true rfl) ⟨hxr, hj, x_ext.rf S ad⟩ (fun H1 hz hk => hw.grow hk)
  · skip
    refine lv_iload_n hx hb dX4_setRules_4 rfl (lv_at hl 1 rfl) ?_
    refine lv_aload_n hx hb dX4_setRules_5 rfl (lv_at hl 0 rfl) ?_
    refine gX4_41 F hw rfl (v := .ref (ad 0 10)) rfl dX4_setRules_6 ?_
    refine wa_alen (t0 := 0) F hw rfl rfl 3 rfl (by decide) dX4_setRules_9 ?_
    refine W.eq (g2 := F0 m 10 ls [.int (iI 3), .int (iI q)]) rfl ?_
    refine wa_ic_lt (tgt := 23) F dX4_setRules_10 (by decide) (by have q0 := rq; exact ⟨by omega, by omega⟩) (by decide) (fun c10 => ?_) (fun c10 => ?_)
    · skip
      refine lv_iload_n hx hb dX4_setRules_23 rfl (lv_at hl 2 rfl) ?_
      refine wa_if_lt (tgt := 33) F dX4_setRules_24 (by decide) (by have q0 := rd; exact ⟨by omega, by omega⟩) (fun c24 => ?_) (fun c24 => ?_)
      · skip
        exact tX4_83 (is := 189) (text := "delay is out of range") 1 (if_neg (by omega)) (by decide) rfl (ad, X) F hlt hTB (by decide) hS (wa_fresh hA hw hj (rfl : wW cy ad S X T o 0 0 = some (.inr (4, wx_fs ad S)))) hA hl.1 hno dX4_setRules_33 dX4_setRules_36 dX4_setRules_37 dX4_setRules_39 dX4_setRules_42 (by decide) (Nat.le_of_ble_eq_true rfl) (Nat.le_of_ble_eq_true rfl) (Nat.le_of_ble_eq_true rfl) (Nat.le_of_ble_eq_true rfl) (Nat.le_of_ble_eq_true rfl) ⟨hxr, hj, x_ext.rf S ad⟩ (fun H1 hz hk => hw.grow hk)
      · skip
        refine lv_iload_n hx hb dX4_setRules_27 rfl (lv_at hl 2 rfl) ?_
        refine wa_bi F dX4_setRules_28 (by decide +kernel) ?_
        refine wa_ic_le (tgt := 43) F dX4_setRules_30 (by decide) (by have q0 := rd; exact ⟨by omega, by omega⟩) (by decide) (fun c30 => ?_) (fun c30 => ?_)
        · skip
          refine lv_iload_n hx hb dX4_setRules_43 rfl (lv_at hl 3 rfl) ?_
          refine wa_if_lt (tgt := 65) F dX4_setRules_44 (by decide) (by have q0 := rst; exact ⟨by omega, by omega⟩) (fun c44 => ?_) (fun c44 => ?_)
          · skip
            exact tX4_83 (is := 191) (text := "an age is out of range") 1 (if_neg (by omega)) (by decide) rfl (ad, X) F hlt hTB (by decide) hS (wa_fresh hA hw hj (rfl : wW cy ad S X T o 0 0 = some (.inr (4, wx_fs ad S)))) hA hl.1 hno dX4_setRules_65 dX4_setRules_68 dX4_setRules_69 dX4_setRules_71 dX4_setRules_74 (by decide) (Nat.le_of_ble_eq_true rfl) (Nat.le_of_ble_eq_true rfl) (Nat.le_of_ble_eq_true rfl) (Nat.le_of_ble_eq_true rfl) (Nat.le_of_ble_eq_true rfl) ⟨hxr, hj, x_ext.rf S ad⟩ (fun H1 hz hk => hw.grow hk)
          · skip
            refine lv_iload_n hx hb dX4_setRules_47 rfl (lv_at hl 3 rfl) ?_
            refine wa_bi F dX4_setRules_48 (by decide +kernel) ?_
            refine wa_ic_gt (tgt := 65) F dX4_setRules_50 (by decide) (by have q0 := rst; exact ⟨by omega, by omega⟩) (by decide) (fun c50 => ?_) (fun c50 => ?_)
            · skip
              exact tX4_83 (is := 191) (text := "an age is out of range") 1 (if_neg (by omega)) (by decide) rfl (ad, X) F hlt hTB (by decide) hS (wa_fresh hA hw hj (rfl : wW cy ad S X T o 0 0 = some (.inr (4, wx_fs ad S)))) hA hl.1 hno dX4_setRules_65 dX4_setRules_68 dX4_setRules_69 dX4_setRules_71 dX4_setRules_74 (by decide) (Nat.le_of_ble_eq_true rfl) (Nat.le_of_ble_eq_true rfl) (Nat.le_of_ble_eq_true rfl) (Nat.le_of_ble_eq_true rfl) (Nat.le_of_ble_eq_true rfl) ⟨hxr, hj, x_ext.rf S ad⟩ (fun H1 hz hk => hw.grow hk)
            · skip
              refine lv_iload hx hb dX4_setRules_53 (lv_at hl 4 rfl) ?_
              refine wa_if_lt (tgt := 65) F dX4_setRules_55 (by decide) (by have q0 := rkp; exact ⟨by omega, by omega⟩) (fun c55 => ?_) (fun c55 => ?_)
              · skip
                exact tX4_83 (is := 191) (text := "an age is out of range") 1 (if_neg (by omega)) (by decide) rfl (ad, X) F hlt hTB (by decide) hS (wa_fresh hA hw hj (rfl : wW cy ad S X T o 0 0 = some (.inr (4, wx_fs ad S)))) hA hl.1 hno dX4_setRules_65 dX4_setRules_68 dX4_setRules_69 dX4_setRules_71 dX4_setRules_74 (by decide) (Nat.le_of_ble_eq_true rfl) (Nat.le_of_ble_eq_true rfl) (Nat.le_of_ble_eq_true rfl) (Nat.le_of_ble_eq_true rfl) (Nat.le_of_ble_eq_true rfl) ⟨hxr, hj, x_ext.rf S ad⟩ (fun H1 hz hk => hw.grow hk)
              · skip
                refine lv_iload hx hb dX4_setRules_58 (lv_at hl 4 rfl) ?_
                refine wa_bi F dX4_setRules_60 (by decide +kernel) ?_
                refine wa_ic_le (tgt := 75) F dX4_setRules_62 (by decide) (by have q0 := rkp; exact ⟨by omega, by omega⟩) (by decide) (fun c62 => ?_) (fun c62 => ?_)
                · skip
                  refine lv_aload_n hx hb dX4_setRules_75 rfl (lv_at hl 0 rfl) ?_
                  refine gX4_41 F hw rfl (v := .ref (ad 0 10)) rfl dX4_setRules_76 ?_
                  refine lv_iload_n hx hb dX4_setRules_79 rfl (lv_at hl 1 rfl) ?_
                  refine lv_iload_n hx hb dX4_setRules_80 rfl (lv_at hl 2 rfl) ?_
                  refine sX_10 F hw hj hS ((q).toNat) (by have q0 := rq; omega) (by have q0 := rq; omega) dX4_setRules_81 (fun H locs hw hS => ?_)
                  refine lv_aload_n hx hb dX4_setRules_82 rfl (lv_at hl 0 rfl) ?_
                  refine lv_iload_n hx hb dX4_setRules_83 rfl (lv_at hl 3 rfl) ?_
                  refine qX4_56 F hw (wj_of hj rfl rfl rfl) hS dX4_setRules_84 (fun H locs hw hS => ?_)
                  refine lv_aload_n hx hb dX4_setRules_87 rfl (lv_at hl 0 rfl) ?_
                  refine lv_iload hx hb dX4_setRules_88 (lv_at hl 4 rfl) ?_
                  refine qX4_60 F hw (wj_of hj rfl rfl rfl) hS dX4_setRules_90 (fun H locs hw hS => ?_)
                  exact wx_rV (ad, X) F ⟨(if_pos (by omega)), ⟨hxr, wj_of hj rfl rfl rfl, x_ext.rf S ad⟩⟩ hw hS (Nat.le_of_ble_eq_true rfl) (Nat.le_of_ble_eq_true rfl) dX4_setRules_93
                · skip
                  exact tX4_83 (is := 191) (text := "an age is out of range") 1 (if_neg (by omega)) (by decide) rfl (ad, X) F hlt hTB (by decide) hS (wa_fresh hA hw hj (rfl : wW cy ad S X T o 0 0 = some (.inr (4, wx_fs ad S)))) hA hl.1 hno dX4_setRules_65 dX4_setRules_68 dX4_setRules_69 dX4_setRules_71 dX4_setRules_74 (by decide) (Nat.le_of_ble_eq_true rfl) (Nat.le_of_ble_eq_true rfl) (Nat.le_of_ble_eq_true rfl) (Nat.le_of_ble_eq_true rfl) (Nat.le_of_ble_eq_true rfl) ⟨hxr, hj, x_ext.rf S ad⟩ (fun H1 hz hk => hw.grow hk)
        · skip
          exact tX4_83 (is := 189) (text := "delay is out of range") 1 (if_neg (by omega)) (by decide) rfl (ad, X) F hlt hTB (by decide) hS (wa_fresh hA hw hj (rfl : wW cy ad S X T o 0 0 = some (.inr (4, wx_fs ad S)))) hA hl.1 hno dX4_setRules_33 dX4_setRules_36 dX4_setRules_37 dX4_setRules_39 dX4_setRules_42 (by decide) (Nat.le_of_ble_eq_true rfl) (Nat.le_of_ble_eq_true rfl) (Nat.le_of_ble_eq_true rfl) (Nat.le_of_ble_eq_true rfl) (Nat.le_of_ble_eq_true rfl) ⟨hxr, hj, x_ext.rf S ad⟩ (fun H1 hz hk => hw.grow hk)
    · skip
      exact tX4_83 (is := 170) (text := "place is out of range") 1 (if_neg (by omega)) (by decide) rfl (ad, X) F hlt hTB (by decide) hS (wa_fresh hA hw hj (rfl : wW cy ad S X T o 0 0 = some (.inr (4, wx_fs ad S)))) hA hl.1 hno dX4_setRules_13 dX4_setRules_16 dX4_setRules_17 dX4_setRules_19 dX4_setRules_22 (by decide) (Nat.le_of_ble_eq_true rfl) (Nat.le_of_ble_eq_true rfl) (Nat.le_of_ble_eq_true rfl) (Nat.le_of_ble_eq_true rfl) (Nat.le_of_ble_eq_true rfl) ⟨hxr, hj, x_ext.rf S ad⟩ (fun H1 hz hk => hw.grow hk)
theorem a_change_n {S : wa_St} {q v : Int} (h : v ≠ -1) : a_change S q v = wa_s (wa_s S 0 0 0) 2 q.toNat v := by
  unfold a_change
  rw [if_neg h]
  congr 1
  funext a b
  unfold wa_s
  by_cases g : a = 3 ∧ b = q.toNat
  · obtain ⟨rfl, rfl⟩ := g
    simp
  · rw [if_neg g]
theorem a_change_y {S : wa_St} {q v : Int} (h : v = -1) : a_change S q v = wa_s (wa_s (wa_s S 0 0 0) 3 q.toNat (S 3 q.toNat + 1)) 2 q.toNat (S 3 q.toNat + 1) := if_pos h
set_option maxRecDepth 100000 in
set_option maxHeartbeats 4000000 in
/-- change -/
theorem c_X4_change (l : Launch) (hlt : l.stackTraces = false) (D : va_G) (cy : Nat → ClassId) (ad : Nat → Nat → Nat) (S X T : wa_St) (o : Int64) (A : Nat → Prop) (hj : wa_wj A ad (wW cy ad S X T o)) (hA : wa_Up A) (hwf : wf S) (hxr : xr S X) (hin : wx_inj ad S) (q v : Int) (rq : wa_r q) (rv : wa_r v) : vx_Met l yX4_change wX4_change ({ frames := 6, cells := 1, slots := 6, locals := 82 } : Room) (wx_pc [.ref (ad 0 0), .int (iI q), .int (iI v)] D cy A (fun H => wa_wd D ad (wW cy ad S X T o) H)) (va_Qi (fun r (u : (Nat → Nat → Nat) × wa_St) => r = iI ((a_change S q v) 2 q.toNat) ∧ k_change S q v = 0 ∧ wx_P A cy ad T o S (a_change S q v) u) (fun u t => wx_B D cy T o (a_change S q v) u t.heap) A) (wx_XC A exC (k_change S q v) (wx_P A cy ad T o S S) (wx_B D cy T o S)) 1 6 A := by
  refine wx_en (by decide +kernel) (Nat.le_of_ble_eq_true rfl) ?_
  intro p e s m args below meth c F hTB hno hw ls hl
  have F : wa_fx p s m c meth args cX4_change 3 RX4 "change" (Option.some FieldType.int) D cy := F
  have hw : wa_wd D ad (wW cy ad S X T o) s.heap := hw
  have hl : lv_has ls 3 [(0, .ref (ad 0 0)), (1, .int (iI q)), (2, .int (iI v))] := hl
  obtain ⟨hx, hb, hml, hown, hts⟩ := id F.1
  obtain ⟨hSB, w8, w21, w12, w29, w4, w7, w6, w5, w13, w25, w26, w28, w14, w3, wf17⟩ := id hwf
  obtain ⟨hx1, hXB, hx11, hx12, hx13, hx14, hx15, hx16⟩ := id hxr
  have w3q := w3 q.toNat
  have hS : va_S A s.heap s.heap [] := va_S.rf
  refine lv_iload_n hx hb dX4_change_0 rfl (lv_at hl 1 rfl) ?_
  refine wa_if_lt (tgt := 22) F dX4_change_1 (by decide) (by have q0 := rq; exact ⟨by omega, by omega⟩) (fun c1 => ?_) (fun c1 => ?_)
  · skip
    exact tX4_83 (is := 85) (text := "input is out of range") 1 (if_neg (by omega)) (by decide) rfl (ad, X) F hlt hTB (by decide) hS (wa_fresh hA hw hj (rfl : wW cy ad S X T o 0 0 = some (.inr (4, wx_fs ad S)))) hA hl.1 hno dX4_change_22 dX4_change_25 dX4_change_26 dX4_change_28 dX4_change_31 (by decide) (Nat.le_of_ble_eq_true rfl) (Nat.le_of_ble_eq_true rfl) (Nat.le_of_ble_eq_true rfl) (Nat.le_of_ble_eq_true rfl) (Nat.le_of_ble_eq_true rfl) ⟨hxr, hj, x_ext.rf S ad⟩ (fun H1 hz hk => hw.grow hk)
  · skip
    refine lv_iload_n hx hb dX4_change_4 rfl (lv_at hl 1 rfl) ?_
    refine lv_aload_n hx hb dX4_change_5 rfl (lv_at hl 0 rfl) ?_
    refine gX4_16 F hw rfl (v := .ref (ad 0 5)) rfl dX4_change_6 ?_
    refine wa_alen (t0 := 0) F hw rfl rfl 10 rfl (by decide) dX4_change_9 ?_
    refine W.eq (g2 := F0 m 10 ls [.int (iI 10), .int (iI q)]) rfl ?_
    refine wa_ic_ge (tgt := 22) F dX4_change_10 (by decide) (by have q0 := rq; exact ⟨by omega, by omega⟩) (by decide) (fun c10 => ?_) (fun c10 => ?_)
    · skip
      exact tX4_83 (is := 85) (text := "input is out of range") 1 (if_neg (by omega)) (by decide) rfl (ad, X) F hlt hTB (by decide) hS (wa_fresh hA hw hj (rfl : wW cy ad S X T o 0 0 = some (.inr (4, wx_fs ad S)))) hA hl.1 hno dX4_change_22 dX4_change_25 dX4_change_26 dX4_change_28 dX4_change_31 (by decide) (Nat.le_of_ble_eq_true rfl) (Nat.le_of_ble_eq_true rfl) (Nat.le_of_ble_eq_true rfl) (Nat.le_of_ble_eq_true rfl) (Nat.le_of_ble_eq_true rfl) ⟨hxr, hj, x_ext.rf S ad⟩ (fun H1 hz hk => hw.grow hk)
    · skip
      refine lv_iload_n hx hb dX4_change_13 rfl (lv_at hl 1 rfl) ?_
      refine lv_aload_n hx hb dX4_change_14 rfl (lv_at hl 0 rfl) ?_
      refine gX4_20 F hw rfl (v := .ref (ad 0 6)) rfl dX4_change_15 ?_
      refine wa_alen (t0 := 0) F hw rfl rfl 10 rfl (by decide) dX4_change_18 ?_
      refine W.eq (g2 := F0 m 19 ls [.int (iI 10), .int (iI q)]) rfl ?_
      refine wa_ic_lt (tgt := 32) F dX4_change_19 (by decide) (by have q0 := rq; exact ⟨by omega, by omega⟩) (by decide) (fun c19 => ?_) (fun c19 => ?_)
      · skip
        refine lv_iload_n hx hb dX4_change_32 rfl (lv_at hl 2 rfl) ?_
        refine wa_const F dX4_change_33 ?_
        refine wa_ic_lt (tgt := 47) F dX4_change_34 (by decide) (by have q0 := rv; exact ⟨by omega, by omega⟩) (by decide) (fun c34 => ?_) (fun c34 => ?_)
        · skip
          exact tX4_83 (is := 97) (text := "version is neither new nor an earlier one") 1 (if_neg (by omega)) (by decide) rfl (ad, X) F hlt hTB (by decide) hS (wa_fresh hA hw hj (rfl : wW cy ad S X T o 0 0 = some (.inr (4, wx_fs ad S)))) hA hl.1 hno dX4_change_47 dX4_change_50 dX4_change_51 dX4_change_53 dX4_change_56 (by decide) (Nat.le_of_ble_eq_true rfl) (Nat.le_of_ble_eq_true rfl) (Nat.le_of_ble_eq_true rfl) (Nat.le_of_ble_eq_true rfl) (Nat.le_of_ble_eq_true rfl) ⟨hxr, hj, x_ext.rf S ad⟩ (fun H1 hz hk => hw.grow hk)
        · skip
          refine lv_iload_n hx hb dX4_change_37 rfl (lv_at hl 2 rfl) ?_
          refine lv_aload_n hx hb dX4_change_38 rfl (lv_at hl 0 rfl) ?_
          refine gX4_20 F hw rfl (v := .ref (ad 0 6)) rfl dX4_change_39 ?_
          refine lv_iload_n hx hb dX4_change_42 rfl (lv_at hl 1 rfl) ?_
          refine wa_iald (g := (S 3)) F hw rfl ((q).toNat) (by have q0 := rq; omega) (by have q0 := rq; omega) (by decide) dX4_change_43 ?_
          refine wa_ic_lt (tgt := 57) F dX4_change_44 (by decide) (by have q0 := rv; exact ⟨by omega, by omega⟩) (by have q0 := hSB 3 ((q).toNat); exact ⟨by omega, by omega⟩) (fun c44 => ?_) (fun c44 => ?_)
          · skip
            refine lv_iload_n hx hb dX4_change_57 rfl (lv_at hl 2 rfl) ?_
            refine wa_const F dX4_change_58 ?_
            refine wa_ic_ne (tgt := 72) F dX4_change_59 (by decide) (by have q0 := rv; exact ⟨by omega, by omega⟩) (by decide) (fun c59 => ?_) (fun c59 => ?_)
            · skip
              refine lv_aload_n hx hb dX4_change_72 rfl (lv_at hl 0 rfl) ?_
              refine gX4_16 F hw rfl (v := .ref (ad 0 5)) rfl dX4_change_73 ?_
              refine lv_iload_n hx hb dX4_change_76 rfl (lv_at hl 1 rfl) ?_
              refine lv_iload_n hx hb dX4_change_77 rfl (lv_at hl 2 rfl) ?_
              refine wa_const F dX4_change_78 ?_
              refine wa_ic_ne (tgt := 91) F dX4_change_79 (by decide) (by have q0 := rv; exact ⟨by omega, by omega⟩) (by decide) (fun c79 => ?_) (fun c79 => absurd c79 (by omega))
              refine lv_iload_n hx hb dX4_change_91 rfl (lv_at hl 2 rfl) ?_
              refine sX_5 F hw hj hS ((q).toNat) (by have q0 := rq; omega) (by have q0 := rq; omega) dX4_change_92 (fun H locs hw hS => ?_)
              refine lv_aload_n hx hb dX4_change_93 rfl (lv_at hl 0 rfl) ?_
              refine gX4_16 F hw rfl (v := .ref (ad 0 5)) rfl dX4_change_94 ?_
              refine lv_iload_n hx hb dX4_change_97 rfl (lv_at hl 1 rfl) ?_
              refine wa_iald (g := ((wa_s S 2 ((q).toNat) v) 2)) F hw rfl ((q).toNat) (by have q0 := rq; omega) (by have q0 := rq; omega) (by decide) dX4_change_98 ?_
              refine W.eq (g2 := F0 m 99 ls [.int (iI v)]) (by first | rfl | simp [wa_s]) ?_
              rw [a_change_n (by omega)]
              exact wx_rI (ad, X) F ⟨congrArg iI wa_s_eq.symm, (if_pos (by omega)), ⟨hxr, wj_of hj rfl rfl rfl, x_ext.rf S ad⟩⟩ hw hS (Nat.le_of_ble_eq_true rfl) (Nat.le_of_ble_eq_true rfl) dX4_change_99
            · skip
              refine lv_aload_n hx hb dX4_change_62 rfl (lv_at hl 0 rfl) ?_
              refine gX4_20 F hw rfl (v := .ref (ad 0 6)) rfl dX4_change_63 ?_
              refine lv_iload_n hx hb dX4_change_66 rfl (lv_at hl 1 rfl) ?_
              refine lv_dup2_11 hx hb dX4_change_67 rfl rfl ?_
              refine wa_iald (g := (S 3)) F hw rfl ((q).toNat) (by have q0 := rq; omega) (by have q0 := rq; omega) (by decide) dX4_change_68 ?_
              refine wa_const F dX4_change_69 ?_
              refine wa_add F dX4_change_70 ?_
              refine sX_6 F hw hj hS ((q).toNat) (by have q0 := rq; omega) (by have q0 := rq; omega) dX4_change_71 (fun H locs hw hS => ?_)
              refine lv_aload_n hx hb dX4_change_72 rfl (lv_at hl 0 rfl) ?_
              refine gX4_16 F hw rfl (v := .ref (ad 0 5)) rfl dX4_change_73 ?_
              refine lv_iload_n hx hb dX4_change_76 rfl (lv_at hl 1 rfl) ?_
              refine lv_iload_n hx hb dX4_change_77 rfl (lv_at hl 2 rfl) ?_
              refine wa_const F dX4_change_78 ?_
              refine wa_ic_ne (tgt := 91) F dX4_change_79 (by decide) (by have q0 := rv; exact ⟨by omega, by omega⟩) (by decide) (fun c79 => absurd c79 (by omega)) (fun c79 => ?_)
              refine lv_aload_n hx hb dX4_change_82 rfl (lv_at hl 0 rfl) ?_
              refine gX4_20 F hw rfl (v := .ref (ad 0 6)) rfl dX4_change_83 ?_
              refine lv_iload_n hx hb dX4_change_86 rfl (lv_at hl 1 rfl) ?_
              refine wa_iald (g := ((wa_s S 3 ((q).toNat) ((S 3 ((q).toNat)) + 1)) 3)) F hw rfl ((q).toNat) (by have q0 := rq; omega) (by have q0 := rq; omega) (by decide) dX4_change_87 ?_
              refine W.eq (g2 := F0 m 88 ls [.int (iI ((S 3 ((q).toNat)) + 1)), .int (iI q), .ref (ad 0 5)]) (by first | rfl | simp [wa_s]) ?_
              refine wa_goto (tgt := 92) F dX4_change_88 (by decide) ?_
              refine sX_5 F hw (wj_of hj rfl rfl rfl) hS ((q).toNat) (by have q0 := rq; omega) (by have q0 := rq; omega) dX4_change_92 (fun H locs hw hS => ?_)
              refine lv_aload_n hx hb dX4_change_93 rfl (lv_at hl 0 rfl) ?_
              refine gX4_16 F hw rfl (v := .ref (ad 0 5)) rfl dX4_change_94 ?_
              refine lv_iload_n hx hb dX4_change_97 rfl (lv_at hl 1 rfl) ?_
              refine wa_iald (g := ((wa_s (wa_s S 3 ((q).toNat) ((S 3 ((q).toNat)) + 1)) 2 ((q).toNat) ((S 3 ((q).toNat)) + 1)) 2)) F hw rfl ((q).toNat) (by have q0 := rq; omega) (by have q0 := rq; omega) (by decide) dX4_change_98 ?_
              refine W.eq (g2 := F0 m 99 ls [.int (iI ((S 3 ((q).toNat)) + 1))]) (by first | rfl | simp [wa_s]) ?_
              rw [a_change_y (by omega)]
              exact wx_rI (ad, X) F ⟨congrArg iI wa_s_eq.symm, (if_pos (by omega)), ⟨hxr, wj_of hj rfl rfl rfl, x_ext.rf S ad⟩⟩ hw hS (Nat.le_of_ble_eq_true rfl) (Nat.le_of_ble_eq_true rfl) dX4_change_99
          · skip
            exact tX4_83 (is := 97) (text := "version is neither new nor an earlier one") 1 (if_neg (by omega)) (by decide) rfl (ad, X) F hlt hTB (by decide) hS (wa_fresh hA hw hj (rfl : wW cy ad S X T o 0 0 = some (.inr (4, wx_fs ad S)))) hA hl.1 hno dX4_change_47 dX4_change_50 dX4_change_51 dX4_change_53 dX4_change_56 (by decide) (Nat.le_of_ble_eq_true rfl) (Nat.le_of_ble_eq_true rfl) (Nat.le_of_ble_eq_true rfl) (Nat.le_of_ble_eq_true rfl) (Nat.le_of_ble_eq_true rfl) ⟨hxr, hj, x_ext.rf S ad⟩ (fun H1 hz hk => hw.grow hk)
      · skip
        exact tX4_83 (is := 85) (text := "input is out of range") 1 (if_neg (by omega)) (by decide) rfl (ad, X) F hlt hTB (by decide) hS (wa_fresh hA hw hj (rfl : wW cy ad S X T o 0 0 = some (.inr (4, wx_fs ad S)))) hA hl.1 hno dX4_change_22 dX4_change_25 dX4_change_26 dX4_change_28 dX4_change_31 (by decide) (Nat.le_of_ble_eq_true rfl) (Nat.le_of_ble_eq_true rfl) (Nat.le_of_ble_eq_true rfl) (Nat.le_of_ble_eq_true rfl) (Nat.le_of_ble_eq_true rfl) ⟨hxr, hj, x_ext.rf S ad⟩ (fun H1 hz hk => hw.grow hk)
