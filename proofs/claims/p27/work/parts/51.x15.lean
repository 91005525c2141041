/-! contracts of the class: public methods (laid by program) -/
set_option maxRecDepth 100000 in
set_option maxHeartbeats 4000000 in
/-- latest -/
theorem c_X4_latest (l : Launch) (hlt : l.stackTraces = false) (D : va_G) (cy : Nat → ClassId) (ad : Nat → Nat → Nat) (S X T : wa_St) (o : Int64) (A : Nat → Prop) (hj : wa_wj A ad (wW cy ad S X T o)) (hA : wa_Up A) (hwf : wf S) (hxr : xr S X) (hin : wx_inj ad S) (i : Int) (ri : wa_r i) : vx_Met l yX4_latest wX4_latest ({ frames := 7, cells := 1, slots := 6, locals := 104 } : Room) (wx_pc [.ref (ad 0 0), .int (iI i)] D cy A (fun H => wa_wd D ad (wW cy ad S X T o) H)) (va_Qi (fun r (u : (Nat → Nat → Nat) × wa_St) => r = iI (S 7 i.toNat) ∧ k_img S i = 0 ∧ wx_P A cy ad T o S (S) u) (fun u t => wx_B D cy T o (S) u t.heap) A) (wx_XC A exA (k_img S i) (wx_P A cy ad T o S S) (wx_B D cy T o S)) 1 6 A := by
  refine wx_en (by decide +kernel) (Nat.le_of_ble_eq_true rfl) ?_
  intro p e s m args below meth c F hTB hno hw ls hl
  have F : wa_fx p s m c meth args cX4_latest 2 RX4 "latest" (Option.some FieldType.int) D cy := F
  have hw : wa_wd D ad (wW cy ad S X T o) s.heap := hw
  have hl : lv_has ls 2 [(0, .ref (ad 0 0)), (1, .int (iI i))] := hl
  obtain ⟨hx, hb, hml, hown, hts⟩ := id F.1
  obtain ⟨hSB, w8, w21, w12, w29, w4, w7, w6, w5, w13, w25, w26, w28, w14, w3, wf17⟩ := id hwf
  obtain ⟨hx1, hXB, hx11, hx12, hx13, hx14, hx15, hx16⟩ := id hxr
  have hS : va_S A s.heap s.heap [] := va_S.rf
  refine lv_aload_n hx hb dX4_latest_0 rfl (lv_at hl 0 rfl) ?_
  refine lv_iload_n hx hb dX4_latest_1 rfl (lv_at hl 1 rfl) ?_
  refine wx_cq (vX4_63 F hTB hS (c_X4_imageAt l hlt D cy ad S X T o A hj hA hwf hxr hin (i) (by have q0 := ri; exact ⟨by omega, by omega⟩)) ⟨by decide, by decide⟩ ⟨rfl, rfl⟩ hw hw rfl rfl rfl (Nat.le_of_ble_eq_true rfl) hl.1 dX4_latest_2 ⟨(Nat.le_of_ble_eq_true rfl), (Nat.le_of_ble_eq_true rfl)⟩) hS (fun E ce q9 u H1 locs1 hE hk0 hp hB hS1 hce hcv hcl => wx_prop (ad, X) F hno hE (by have hni : ¬ f_isImage S i := fun hq => hk0 (if_pos hq); rw [show k_img S i = 1 from if_neg hni, if_neg hni]; exact ⟨rfl, by decide⟩) ⟨hxr, hj, x_ext.rf S ad⟩ hB hS1 hce hcv hcl (Nat.le_of_ble_eq_true rfl) (Nat.le_of_ble_eq_true rfl)) (fun locs hK2 hS => ?_)
  have hK2 : f_isImage S i := hK2
  refine W.eq (g2 := F0 m 5 ls [.ref (ad 1 i.toNat)]) rfl ?_
  refine gX4_103 F hw (wW_1 (show ((i.toNat : Nat) : Int) < S 8 0 by have q := hK2; omega)) (v := va_rf (wa_op ad 3 (S 7 (i.toNat)))) rfl dX4_latest_5 ?_
  refine wa_cp (kX4_122 F (c_X4_numberOf l D cy ad S X T o hwf hxr hin ((S 7 (i.toNat))) (show -1 ≤ (S 7 (i.toNat)) ∧ (S 7 (i.toNat)) < S 21 0 by have q := w7 (i.toNat) (show ((i.toNat : Nat) : Int) < S 8 0 by have q := hK2; omega); omega)) ⟨by decide, by decide⟩ ⟨rfl, rfl⟩ hw rfl rfl (Nat.le_of_ble_eq_true rfl) hl.1 dX4_latest_8 ⟨Nat.le_of_ble_eq_true rfl, Nat.le_of_ble_eq_true rfl⟩) ?_
  exact wx_rI (ad, X) F ⟨congrArg iI rfl, (if_pos hK2), ⟨hxr, hj, x_ext.rf S ad⟩⟩ hw hS (Nat.le_of_ble_eq_true rfl) (Nat.le_of_ble_eq_true rfl) dX4_latest_11
set_option maxRecDepth 100000 in
set_option maxHeartbeats 4000000 in
/-- top -/
theorem c_X4_top (l : Launch) (hlt : l.stackTraces = false) (D : va_G) (cy : Nat → ClassId) (ad : Nat → Nat → Nat) (S X T : wa_St) (o : Int64) (A : Nat → Prop) (hj : wa_wj A ad (wW cy ad S X T o)) (hA : wa_Up A) (hwf : wf S) (hxr : xr S X) (hin : wx_inj ad S) (b9 : Int) (rb9 : wa_r b9) : vx_Met l yX4_top wX4_top ({ frames := 7, cells := 1, slots := 6, locals := 104 } : Room) (wx_pc [.ref (ad 0 0), .int (iI b9)] D cy A (fun H => wa_wd D ad (wW cy ad S X T o) H)) (va_Qi (fun r (u : (Nat → Nat → Nat) × wa_St) => r = iI (S 14 b9.toNat) ∧ k_bk S b9 = 0 ∧ wx_P A cy ad T o S (S) u) (fun u t => wx_B D cy T o (S) u t.heap) A) (wx_XC A exA (k_bk S b9) (wx_P A cy ad T o S S) (wx_B D cy T o S)) 1 6 A := by
  refine wx_en (by decide +kernel) (Nat.le_of_ble_eq_true rfl) ?_
  intro p e s m args below meth c F hTB hno hw ls hl
  have F : wa_fx p s m c meth args cX4_top 2 RX4 "top" (Option.some FieldType.int) D cy := F
  have hw : wa_wd D ad (wW cy ad S X T o) s.heap := hw
  have hl : lv_has ls 2 [(0, .ref (ad 0 0)), (1, .int (iI b9))] := hl
  obtain ⟨hx, hb, hml, hown, hts⟩ := id F.1
  obtain ⟨hSB, w8, w21, w12, w29, w4, w7, w6, w5, w13, w25, w26, w28, w14, w3, wf17⟩ := id hwf
  obtain ⟨hx1, hXB, hx11, hx12, hx13, hx14, hx15, hx16⟩ := id hxr
  have hS : va_S A s.heap s.heap [] := va_S.rf
  refine lv_aload_n hx hb dX4_top_0 rfl (lv_at hl 0 rfl) ?_
  refine lv_iload_n hx hb dX4_top_1 rfl (lv_at hl 1 rfl) ?_
  refine wx_cq (vX4_141 F hTB hS (c_X4_bakeAt l hlt D cy ad S X T o A hj hA hwf hxr hin (b9) (by have q0 := rb9; exact ⟨by omega, by omega⟩)) ⟨by decide, by decide⟩ ⟨rfl, rfl⟩ hw hw rfl rfl rfl (Nat.le_of_ble_eq_true rfl) hl.1 dX4_top_2 ⟨(Nat.le_of_ble_eq_true rfl), (Nat.le_of_ble_eq_true rfl)⟩) hS (fun E ce q9 u H1 locs1 hE hk0 hp hB hS1 hce hcv hcl => wx_prop (ad, X) F hno hE (by have hni : ¬ f_isBake S b9 := fun hq => hk0 (if_pos hq); rw [show k_bk S b9 = 1 from if_neg hni, if_neg hni]; exact ⟨rfl, by decide⟩) ⟨hxr, hj, x_ext.rf S ad⟩ hB hS1 hce hcv hcl (Nat.le_of_ble_eq_true rfl) (Nat.le_of_ble_eq_true rfl)) (fun locs hK2 hS => ?_)
  have hK2 : f_isBake S b9 := hK2
  refine W.eq (g2 := F0 m 5 ls [.ref (ad 3 b9.toNat)]) rfl ?_
  refine gX4_145 F hw (wW_3 (show ((b9.toNat : Nat) : Int) < S 21 0 by have q := hK2; omega)) (v := .int (iI (S 14 (b9.toNat)))) rfl dX4_top_5 ?_
  exact wx_rI (ad, X) F ⟨congrArg iI rfl, (if_pos hK2), ⟨hxr, hj, x_ext.rf S ad⟩⟩ hw hS (Nat.le_of_ble_eq_true rfl) (Nat.le_of_ble_eq_true rfl) dX4_top_8
set_option maxRecDepth 100000 in
set_option maxHeartbeats 4000000 in
/-- runsFrom -/
theorem c_X4_runsFrom (l : Launch) (hlt : l.stackTraces = false) (D : va_G) (cy : Nat → ClassId) (ad : Nat → Nat → Nat) (S X T : wa_St) (o : Int64) (A : Nat → Prop) (hj : wa_wj A ad (wW cy ad S X T o)) (hA : wa_Up A) (hwf : wf S) (hxr : xr S X) (hin : wx_inj ad S) (u9 : Int) (ru9 : wa_r u9) : vx_Met l yX4_runsFrom wX4_runsFrom ({ frames := 7, cells := 1, slots := 6, locals := 104 } : Room) (wx_pc [.ref (ad 0 0), .int (iI u9)] D cy A (fun H => wa_wd D ad (wW cy ad S X T o) H)) (va_Qi (fun r (u : (Nat → Nat → Nat) × wa_St) => r = iI (S 28 u9.toNat) ∧ k_from S u9 = 0 ∧ wx_P A cy ad T o S (S) u) (fun u t => wx_B D cy T o (S) u t.heap) A) (wx_XC A exA (k_from S u9) (wx_P A cy ad T o S S) (wx_B D cy T o S)) 1 6 A := by
  refine wx_en (by decide +kernel) (Nat.le_of_ble_eq_true rfl) ?_
  intro p e s m args below meth c F hTB hno hw ls hl
  have F : wa_fx p s m c meth args cX4_runsFrom 2 RX4 "runsFrom" (Option.some FieldType.int) D cy := F
  have hw : wa_wd D ad (wW cy ad S X T o) s.heap := hw
  have hl : lv_has ls 2 [(0, .ref (ad 0 0)), (1, .int (iI u9))] := hl
  obtain ⟨hx, hb, hml, hown, hts⟩ := id F.1
  obtain ⟨hSB, w8, w21, w12, w29, w4, w7, w6, w5, w13, w25, w26, w28, w14, w3, wf17⟩ := id hwf
  obtain ⟨hx1, hXB, hx11, hx12, hx13, hx14, hx15, hx16⟩ := id hxr
  have hS : va_S A s.heap s.heap [] := va_S.rf
  refine lv_aload_n hx hb dX4_runsFrom_0 rfl (lv_at hl 0 rfl) ?_
  refine lv_iload_n hx hb dX4_runsFrom_1 rfl (lv_at hl 1 rfl) ?_
  refine wx_cq (vX4_234 F hTB hS (c_X4_machineAt l hlt D cy ad S X T o A hj hA hwf hxr hin (u9) (by have q0 := ru9; exact ⟨by omega, by omega⟩)) ⟨by decide, by decide⟩ ⟨rfl, rfl⟩ hw hw rfl rfl rfl (Nat.le_of_ble_eq_true rfl) hl.1 dX4_runsFrom_2 ⟨(Nat.le_of_ble_eq_true rfl), (Nat.le_of_ble_eq_true rfl)⟩) hS (fun E ce q9 u H1 locs1 hE hk0 hp hB hS1 hce hcv hcl => wx_prop (ad, X) F hno hE (by have hni : ¬ f_isMach S u9 := fun hq => hk0 (if_pos hq); rw [show k_from S u9 = 1 from if_neg hni, if_neg hni]; exact ⟨rfl, by decide⟩) ⟨hxr, hj, x_ext.rf S ad⟩ hB hS1 hce hcv hcl (Nat.le_of_ble_eq_true rfl) (Nat.le_of_ble_eq_true rfl)) (fun locs hK2 hS => ?_)
  have hK2 : f_isMach S u9 := hK2
  refine W.eq (g2 := F0 m 5 ls [.ref (ad 5 u9.toNat)]) rfl ?_
  refine gX4_230 F hw (wW_5 (show ((u9.toNat : Nat) : Int) < S 29 0 by have q := hK2; omega)) (v := va_rf (wa_op ad 3 (S 28 (u9.toNat)))) rfl dX4_runsFrom_5 ?_
  refine wa_cp (kX4_122 F (c_X4_numberOf l D cy ad S X T o hwf hxr hin ((S 28 (u9.toNat))) (show -1 ≤ (S 28 (u9.toNat)) ∧ (S 28 (u9.toNat)) < S 21 0 by have q := w28 (u9.toNat) (show ((u9.toNat : Nat) : Int) < S 29 0 by have q := hK2; omega); omega)) ⟨by decide, by decide⟩ ⟨rfl, rfl⟩ hw rfl rfl (Nat.le_of_ble_eq_true rfl) hl.1 dX4_runsFrom_8 ⟨Nat.le_of_ble_eq_true rfl, Nat.le_of_ble_eq_true rfl⟩) ?_
  exact wx_rI (ad, X) F ⟨congrArg iI rfl, (if_pos hK2), ⟨hxr, hj, x_ext.rf S ad⟩⟩ hw hS (Nat.le_of_ble_eq_true rfl) (Nat.le_of_ble_eq_true rfl) dX4_runsFrom_11
set_option maxRecDepth 100000 in
set_option maxHeartbeats 4000000 in
/-- state -/
theorem c_X4_state (l : Launch) (hlt : l.stackTraces = false) (D : va_G) (cy : Nat → ClassId) (ad : Nat → Nat → Nat) (S X T : wa_St) (o : Int64) (A : Nat → Prop) (hj : wa_wj A ad (wW cy ad S X T o)) (hA : wa_Up A) (hwf : wf S) (hxr : xr S X) (hin : wx_inj ad S) (b9 : Int) (rb9 : wa_r b9) : vx_Met l yX4_state wX4_state ({ frames := 7, cells := 1, slots := 6, locals := 104 } : Room) (wx_pc [.ref (ad 0 0), .int (iI b9)] D cy A (fun H => wa_wd D ad (wW cy ad S X T o) H)) (va_Qi (fun r (u : (Nat → Nat → Nat) × wa_St) => r = iI (v_state S b9.toNat) ∧ k_bk S b9 = 0 ∧ wx_P A cy ad T o S (S) u) (fun u t => wx_B D cy T o (S) u t.heap) A) (wx_XC A exA (k_bk S b9) (wx_P A cy ad T o S S) (wx_B D cy T o S)) 1 6 A := by
  refine wx_en (by decide +kernel) (Nat.le_of_ble_eq_true rfl) ?_
  intro p e s m args below meth c F hTB hno hw ls hl
  have F : wa_fx p s m c meth args cX4_state 4 RX4 "state" (Option.some FieldType.int) D cy := F
  have hw : wa_wd D ad (wW cy ad S X T o) s.heap := hw
  have hl : lv_has ls 4 [(0, .ref (ad 0 0)), (1, .int (iI b9))] := hl
  obtain ⟨hx, hb, hml, hown, hts⟩ := id F.1
  obtain ⟨hSB, w8, w21, w12, w29, w4, w7, w6, w5, w13, w25, w26, w28, w14, w3, wf17⟩ := id hwf
  obtain ⟨hx1, hXB, hx11, hx12, hx13, hx14, hx15, hx16⟩ := id hxr
  have hS : va_S A s.heap s.heap [] := va_S.rf
  refine lv_aload_n hx hb dX4_state_0 rfl (lv_at hl 0 rfl) ?_
  refine lv_iload_n hx hb dX4_state_1 rfl (lv_at hl 1 rfl) ?_
  refine wx_cq (vX4_141 F hTB hS (c_X4_bakeAt l hlt D cy ad S X T o A hj hA hwf hxr hin (b9) (by have q0 := rb9; exact ⟨by omega, by omega⟩)) ⟨by decide, by decide⟩ ⟨rfl, rfl⟩ hw hw rfl rfl rfl (Nat.le_of_ble_eq_true rfl) hl.1 dX4_state_2 ⟨(Nat.le_of_ble_eq_true rfl), (Nat.le_of_ble_eq_true rfl)⟩) hS (fun E ce q9 u H1 locs1 hE hk0 hp hB hS1 hce hcv hcl => wx_prop (ad, X) F hno hE (by have hni : ¬ f_isBake S b9 := fun hq => hk0 (if_pos hq); rw [show k_bk S b9 = 1 from if_neg hni, if_neg hni]; exact ⟨rfl, by decide⟩) ⟨hxr, hj, x_ext.rf S ad⟩ hB hS1 hce hcv hcl (Nat.le_of_ble_eq_true rfl) (Nat.le_of_ble_eq_true rfl)) (fun locs hK2 hS => ?_)
  have hK2 : f_isBake S b9 := hK2
  refine W.eq (g2 := F0 m 5 ls [.ref (ad 3 b9.toNat)]) rfl ?_
  refine lv_astore_n (lv' := [(2, .ref (ad 3 b9.toNat)), (0, .ref (ad 0 0)), (1, .int (iI b9))]) hx hb dX4_state_5 rfl hl (by decide) rfl (fun ls hl => ?_)
  refine lv_aload_n hx hb dX4_state_6 rfl (lv_at hl 0 rfl) ?_
  refine gX4_165 F hw (wW_3 (show ((b9.toNat : Nat) : Int) < S 21 0 by have q := hK2; omega)) (v := .int (iI (S 16 (b9.toNat)))) rfl dX4_state_7 ?_
  refine lv_istore_n (lv' := [(3, .int (iI (S 16 (b9.toNat)))), (2, .ref (ad 3 b9.toNat)), (0, .ref (ad 0 0)), (1, .int (iI b9))]) hx hb dX4_state_10 rfl hl (by decide) rfl (fun ls hl => ?_)
  refine lv_aload_n hx hb dX4_state_11 rfl (lv_at hl 1 rfl) ?_
  refine gX4_157 F hw (wW_3 (show ((b9.toNat : Nat) : Int) < S 21 0 by have q := hK2; omega)) (v := .int (iI (S 17 (b9.toNat)))) rfl dX4_state_12 ?_
  refine wa_if_eq (tgt := 21) F dX4_state_15 (by decide) (by have q0 := hSB 17 (b9.toNat); exact ⟨by omega, by omega⟩) (fun c15 => ?_) (fun c15 => ?_)
  · skip
    refine lv_aload_n hx hb dX4_state_21 rfl (lv_at hl 2 rfl) ?_
    refine lv_aload_n hx hb dX4_state_22 rfl (lv_at hl 1 rfl) ?_
    refine wa_cp (kX4_199 F (c_X4_isTooOld l D cy ad S X T o hwf hxr hin (b9.toNat) (show ((b9.toNat : Nat) : Int) < S 21 0 by have q := hK2; omega)) ⟨by decide, by decide⟩ ⟨rfl, rfl⟩ hw hw rfl rfl rfl (Nat.le_of_ble_eq_true rfl) hl.1 dX4_state_23 ⟨Nat.le_of_ble_eq_true rfl, Nat.le_of_ble_eq_true rfl⟩) ?_
    by_cases b23 : f_old S (b9.toNat)
    · rw [bI_t b23]
      refine wa_if_eq (tgt := 32) F dX4_state_26 (by decide) (by decide) (fun c26 => absurd c26 (by decide)) (fun c26 => ?_)
      refine wa_inc (k := 0) (b := ((S 16 (b9.toNat)) + 20)) (lv' := [(3, .int (iI ((S 16 (b9.toNat)) + 20))), (2, .ref (ad 3 b9.toNat)), (0, .ref (ad 0 0)), (1, .int (iI b9))]) F dX4_state_29 hl rfl rfl (by decide) rfl (fun ls hl => ?_)
      refine lv_aload_n hx hb dX4_state_32 rfl (lv_at hl 1 rfl) ?_
      refine gX4_148 F hw (wW_3 (show ((b9.toNat : Nat) : Int) < S 21 0 by have q := hK2; omega)) (v := .int (iI (S 18 (b9.toNat)))) rfl dX4_state_33 ?_
      refine wa_if_eq (tgt := 42) F dX4_state_36 (by decide) (by have q0 := hSB 18 (b9.toNat); exact ⟨by omega, by omega⟩) (fun c36 => ?_) (fun c36 => ?_)
      · skip
        refine lv_iload_n hx hb dX4_state_42 rfl (lv_at hl 0 rfl) ?_
        exact wx_rI (ad, X) F ⟨congrArg iI (by unfold v_state; (repeat (first | rw [if_pos (by first | assumption | omega)] | rw [if_neg (by first | assumption | omega)])); try omega), (if_pos hK2), ⟨hxr, hj, x_ext.rf S ad⟩⟩ hw hS (Nat.le_of_ble_eq_true rfl) (Nat.le_of_ble_eq_true rfl) dX4_state_43
      · skip
        refine wa_inc (k := 0) (b := (((S 16 (b9.toNat)) + 20) + 40)) (lv' := [(3, .int (iI (((S 16 (b9.toNat)) + 20) + 40))), (2, .ref (ad 3 b9.toNat)), (0, .ref (ad 0 0)), (1, .int (iI b9))]) F dX4_state_39 hl rfl rfl (by decide) rfl (fun ls hl => ?_)
        refine lv_iload_n hx hb dX4_state_42 rfl (lv_at hl 0 rfl) ?_
        exact wx_rI (ad, X) F ⟨congrArg iI (by unfold v_state; (repeat (first | rw [if_pos (by first | assumption | omega)] | rw [if_neg (by first | assumption | omega)])); try omega), (if_pos hK2), ⟨hxr, hj, x_ext.rf S ad⟩⟩ hw hS (Nat.le_of_ble_eq_true rfl) (Nat.le_of_ble_eq_true rfl) dX4_state_43
    · rw [bI_f b23]
      refine wa_if_eq (tgt := 32) F dX4_state_26 (by decide) (by decide) (fun c26 => ?_) (fun c26 => absurd c26 (by decide))
      refine lv_aload_n hx hb dX4_state_32 rfl (lv_at hl 1 rfl) ?_
      refine gX4_148 F hw (wW_3 (show ((b9.toNat : Nat) : Int) < S 21 0 by have q := hK2; omega)) (v := .int (iI (S 18 (b9.toNat)))) rfl dX4_state_33 ?_
      refine wa_if_eq (tgt := 42) F dX4_state_36 (by decide) (by have q0 := hSB 18 (b9.toNat); exact ⟨by omega, by omega⟩) (fun c36 => ?_) (fun c36 => ?_)
      · skip
        refine lv_iload_n hx hb dX4_state_42 rfl (lv_at hl 0 rfl) ?_
        exact wx_rI (ad, X) F ⟨congrArg iI (by unfold v_state; (repeat (first | rw [if_pos (by first | assumption | omega)] | rw [if_neg (by first | assumption | omega)])); try omega), (if_pos hK2), ⟨hxr, hj, x_ext.rf S ad⟩⟩ hw hS (Nat.le_of_ble_eq_true rfl) (Nat.le_of_ble_eq_true rfl) dX4_state_43
      · skip
        refine wa_inc (k := 0) (b := ((S 16 (b9.toNat)) + 40)) (lv' := [(3, .int (iI ((S 16 (b9.toNat)) + 40))), (2, .ref (ad 3 b9.toNat)), (0, .ref (ad 0 0)), (1, .int (iI b9))]) F dX4_state_39 hl rfl rfl (by decide) rfl (fun ls hl => ?_)
        refine lv_iload_n hx hb dX4_state_42 rfl (lv_at hl 0 rfl) ?_
        exact wx_rI (ad, X) F ⟨congrArg iI (by unfold v_state; (repeat (first | rw [if_pos (by first | assumption | omega)] | rw [if_neg (by first | assumption | omega)])); try omega), (if_pos hK2), ⟨hxr, hj, x_ext.rf S ad⟩⟩ hw hS (Nat.le_of_ble_eq_true rfl) (Nat.le_of_ble_eq_true rfl) dX4_state_43
  · skip
    refine wa_inc (k := 0) (b := ((S 16 (b9.toNat)) + 10)) (lv' := [(3, .int (iI ((S 16 (b9.toNat)) + 10))), (2, .ref (ad 3 b9.toNat)), (0, .ref (ad 0 0)), (1, .int (iI b9))]) F dX4_state_18 hl rfl rfl (by decide) rfl (fun ls hl => ?_)
    refine lv_aload_n hx hb dX4_state_21 rfl (lv_at hl 2 rfl) ?_
    refine lv_aload_n hx hb dX4_state_22 rfl (lv_at hl 1 rfl) ?_
    refine wa_cp (kX4_199 F (c_X4_isTooOld l D cy ad S X T o hwf hxr hin (b9.toNat) (show ((b9.toNat : Nat) : Int) < S 21 0 by have q := hK2; omega)) ⟨by decide, by decide⟩ ⟨rfl, rfl⟩ hw hw rfl rfl rfl (Nat.le_of_ble_eq_true rfl) hl.1 dX4_state_23 ⟨Nat.le_of_ble_eq_true rfl, Nat.le_of_ble_eq_true rfl⟩) ?_
    by_cases b23 : f_old S (b9.toNat)
    · rw [bI_t b23]
      refine wa_if_eq (tgt := 32) F dX4_state_26 (by decide) (by decide) (fun c26 => absurd c26 (by decide)) (fun c26 => ?_)
      refine wa_inc (k := 0) (b := (((S 16 (b9.toNat)) + 10) + 20)) (lv' := [(3, .int (iI (((S 16 (b9.toNat)) + 10) + 20))), (2, .ref (ad 3 b9.toNat)), (0, .ref (ad 0 0)), (1, .int (iI b9))]) F dX4_state_29 hl rfl rfl (by decide) rfl (fun ls hl => ?_)
      refine lv_aload_n hx hb dX4_state_32 rfl (lv_at hl 1 rfl) ?_
      refine gX4_148 F hw (wW_3 (show ((b9.toNat : Nat) : Int) < S 21 0 by have q := hK2; omega)) (v := .int (iI (S 18 (b9.toNat)))) rfl dX4_state_33 ?_
      refine wa_if_eq (tgt := 42) F dX4_state_36 (by decide) (by have q0 := hSB 18 (b9.toNat); exact ⟨by omega, by omega⟩) (fun c36 => ?_) (fun c36 => ?_)
      · skip
        refine lv_iload_n hx hb dX4_state_42 rfl (lv_at hl 0 rfl) ?_
        exact wx_rI (ad, X) F ⟨congrArg iI (by unfold v_state; (repeat (first | rw [if_pos (by first | assumption | omega)] | rw [if_neg (by first | assumption | omega)])); try omega), (if_pos hK2), ⟨hxr, hj, x_ext.rf S ad⟩⟩ hw hS (Nat.le_of_ble_eq_true rfl) (Nat.le_of_ble_eq_true rfl) dX4_state_43
      · skip
        refine wa_inc (k := 0) (b := ((((S 16 (b9.toNat)) + 10) + 20) + 40)) (lv' := [(3, .int (iI ((((S 16 (b9.toNat)) + 10) + 20) + 40))), (2, .ref (ad 3 b9.toNat)), (0, .ref (ad 0 0)), (1, .int (iI b9))]) F dX4_state_39 hl rfl rfl (by decide) rfl (fun ls hl => ?_)
        refine lv_iload_n hx hb dX4_state_42 rfl (lv_at hl 0 rfl) ?_
        exact wx_rI (ad, X) F ⟨congrArg iI (by unfold v_state; (repeat (first | rw [if_pos (by first | assumption | omega)] | rw [if_neg (by first | assumption | omega)])); try omega), (if_pos hK2), ⟨hxr, hj, x_ext.rf S ad⟩⟩ hw hS (Nat.le_of_ble_eq_true rfl) (Nat.le_of_ble_eq_true rfl) dX4_state_43
    · rw [bI_f b23]
      refine wa_if_eq (tgt := 32) F dX4_state_26 (by decide) (by decide) (fun c26 => ?_) (fun c26 => absurd c26 (by decide))
      refine lv_aload_n hx hb dX4_state_32 rfl (lv_at hl 1 rfl) ?_
      refine gX4_148 F hw (wW_3 (show ((b9.toNat : Nat) : Int) < S 21 0 by have q := hK2; omega)) (v := .int (iI (S 18 (b9.toNat)))) rfl dX4_state_33 ?_
      refine wa_if_eq (tgt := 42) F dX4_state_36 (by decide) (by have q0 := hSB 18 (b9.toNat); exact ⟨by omega, by omega⟩) (fun c36 => ?_) (fun c36 => ?_)
      · skip
        refine lv_iload_n hx hb dX4_state_42 rfl (lv_at hl 0 rfl) ?_
        exact wx_rI (ad, X) F ⟨congrArg iI (by unfold v_state; (repeat (first | rw [if_pos (by first | assumption | omega)] | rw [if_neg (by first | assumption | omega)])); try omega), (if_pos hK2), ⟨hxr, hj, x_ext.rf S ad⟩⟩ hw hS (Nat.le_of_ble_eq_true rfl) (Nat.le_of_ble_eq_true rfl) dX4_state_43
      · skip
        refine wa_inc (k := 0) (b := (((S 16 (b9.toNat)) + 10) + 40)) (lv' := [(3, .int (iI (((S 16 (b9.toNat)) + 10) + 40))), (2, .ref (ad 3 b9.toNat)), (0, .ref (ad 0 0)), (1, .int (iI b9))]) F dX4_state_39 hl rfl rfl (by decide) rfl (fun ls hl => ?_)
        refine lv_iload_n hx hb dX4_state_42 rfl (lv_at hl 0 rfl) ?_
        exact wx_rI (ad, X) F ⟨congrArg iI (by unfold v_state; (repeat (first | rw [if_pos (by first | assumption | omega)] | rw [if_neg (by first | assumption | omega)])); try omega), (if_pos hK2), ⟨hxr, hj, x_ext.rf S ad⟩⟩ hw hS (Nat.le_of_ble_eq_true rfl) (Nat.le_of_ble_eq_true rfl) dX4_state_43
set_option maxRecDepth 100000 in
set_option maxHeartbeats 4000000 in
/-- hold -/
theorem c_X4_hold (l : Launch) (hlt : l.stackTraces = false) (D : va_G) (cy : Nat → ClassId) (ad : Nat → Nat → Nat) (S X T : wa_St) (o : Int64) (A : Nat → Prop) (hj : wa_wj A ad (wW cy ad S X T o)) (hA : wa_Up A) (hwf : wf S) (hxr : xr S X) (hin : wx_inj ad S) (b9 : Int) (rb9 : wa_r b9) : vx_Met l yX4_hold wX4_hold ({ frames := 7, cells := 2, slots := 12, locals := 104 } : Room) (wx_pc [.ref (ad 0 0), .int (iI b9)] D cy A (fun H => wa_wd D ad (wW cy ad S X T o) H)) (va_Qi (fun r (u : (Nat → Nat → Nat) × wa_St) => r = iI (f_run S b9) ∧ k_hold S b9 = 0 ∧ wx_P A cy ad T o S (a_hold S b9) u) (fun u t => wx_B D cy T o (a_hold S b9) u t.heap) A) (wx_XC A exB (k_hold S b9) (wx_P A cy ad T o S S) (wx_B D cy T o S)) 2 12 A := by
  refine wx_en (by decide +kernel) (Nat.le_of_ble_eq_true rfl) ?_
  intro p e s m args below meth c F hTB hno hw ls hl
  have F : wa_fx p s m c meth args cX4_hold 3 RX4 "hold" (Option.some FieldType.int) D cy := F
  have hw : wa_wd D ad (wW cy ad S X T o) s.heap := hw
  have hl : lv_has ls 3 [(0, .ref (ad 0 0)), (1, .int (iI b9))] := hl
  obtain ⟨hx, hb, hml, hown, hts⟩ := id F.1
  obtain ⟨hSB, w8, w21, w12, w29, w4, w7, w6, w5, w13, w25, w26, w28, w14, w3, wf17⟩ := id hwf
  obtain ⟨hx1, hXB, hx11, hx12, hx13, hx14, hx15, hx16⟩ := id hxr
  have hS : va_S A s.heap s.heap [] := va_S.rf
  refine lv_aload_n hx hb dX4_hold_0 rfl (lv_at hl 0 rfl) ?_
  refine lv_iload_n hx hb dX4_hold_1 rfl (lv_at hl 1 rfl) ?_
  refine wx_cq (vX4_141 F hTB hS (c_X4_bakeAt l hlt D cy ad S X T o A hj hA hwf hxr hin (b9) (by have q0 := rb9; exact ⟨by omega, by omega⟩)) ⟨by decide, by decide⟩ ⟨rfl, rfl⟩ hw hw rfl rfl rfl (Nat.le_of_ble_eq_true rfl) hl.1 dX4_hold_2 ⟨(Nat.le_of_ble_eq_true rfl), (Nat.le_of_ble_eq_true rfl)⟩) hS (fun E ce q9 u H1 locs1 hE hk0 hp hB hS1 hce hcv hcl => wx_prop (ad, X) F hno hE (by have hni : ¬ f_isBake S b9 := fun hq => hk0 (if_pos hq); rw [show k_hold S b9 = 1 from if_pos hni, if_neg hni]; exact ⟨rfl, by decide⟩) ⟨hxr, hj, x_ext.rf S ad⟩ hB hS1 hce hcv hcl (Nat.le_of_ble_eq_true rfl) (Nat.le_of_ble_eq_true rfl)) (fun locs hK2 hS => ?_)
  have hK2 : f_isBake S b9 := hK2
  refine W.eq (g2 := F0 m 5 ls [.ref (ad 3 b9.toNat)]) rfl ?_
  refine lv_astore_n (lv' := [(2, .ref (ad 3 b9.toNat)), (0, .ref (ad 0 0)), (1, .int (iI b9))]) hx hb dX4_hold_5 rfl hl (by decide) rfl (fun ls hl => ?_)
  refine lv_aload_n hx hb dX4_hold_6 rfl (lv_at hl 0 rfl) ?_
  refine gX4_148 F hw (wW_3 (show ((b9.toNat : Nat) : Int) < S 21 0 by have q := hK2; omega)) (v := .int (iI (S 18 (b9.toNat)))) rfl dX4_hold_7 ?_
  refine wa_if_ne (tgt := 20) F dX4_hold_10 (by decide) (by have q0 := hSB 18 (b9.toNat); exact ⟨by omega, by omega⟩) (fun c10 => ?_) (fun c10 => ?_)
  · skip
    exact tX4_70 (is := 160) (text := "the bake is gone or held") 2 (((if_neg (not_not_intro hK2)).trans (if_pos (by omega)))) (by decide) rfl (ad, X) F hlt hTB (by decide) hS (wa_fresh hA hw hj (rfl : wW cy ad S X T o 0 0 = some (.inr (4, wx_fs ad S)))) hA hl.1 hno dX4_hold_20 dX4_hold_23 dX4_hold_24 dX4_hold_26 dX4_hold_29 (by decide) (Nat.le_of_ble_eq_true rfl) (Nat.le_of_ble_eq_true rfl) (Nat.le_of_ble_eq_true rfl) (Nat.le_of_ble_eq_true rfl) (Nat.le_of_ble_eq_true rfl) ⟨hxr, hj, x_ext.rf S ad⟩ (fun H1 hz hk => hw.grow hk)
  · skip
    refine lv_aload_n hx hb dX4_hold_13 rfl (lv_at hl 0 rfl) ?_
    refine gX4_157 F hw (wW_3 (show ((b9.toNat : Nat) : Int) < S 21 0 by have q := hK2; omega)) (v := .int (iI (S 17 (b9.toNat)))) rfl dX4_hold_14 ?_
    refine wa_if_eq (tgt := 30) F dX4_hold_17 (by decide) (by have q0 := hSB 17 (b9.toNat); exact ⟨by omega, by omega⟩) (fun c17 => ?_) (fun c17 => ?_)
    · skip
      refine lv_aload_n hx hb dX4_hold_30 rfl (lv_at hl 0 rfl) ?_
      refine wa_const F dX4_hold_31 ?_
      refine qX4_157 F hw hj hS (by decide) (show ((b9.toNat : Nat) : Int) < S 21 0 by have q := hK2; omega) dX4_hold_32 (fun H locs hw hS => ?_)
      have hwf1 : wf (wa_s S 17 b9.toNat 1) := wf_17 hwf _ (by decide)
      have hxr1 : xr (wa_s S 17 b9.toNat 1) X := hxr
      have hin1 : wx_inj ad (wa_s S 17 b9.toNat 1) := hin
      refine lv_aload_n hx hb dX4_hold_35 rfl (lv_at hl 1 rfl) ?_
      refine lv_aload_n hx hb dX4_hold_36 rfl (lv_at hl 0 rfl) ?_
      refine wa_cp (kX4_162 F (c_X4_countMachinesFrom l D cy ad ((wa_s S 17 (b9.toNat) 1)) X T o hwf1 hxr1 hin1 (b9.toNat) (show ((b9.toNat : Nat) : Int) < S 21 0 by have q := hK2; omega)) ⟨by decide, by decide⟩ ⟨rfl, rfl⟩ hw hw rfl rfl rfl (Nat.le_of_ble_eq_true rfl) hl.1 dX4_hold_37 ⟨Nat.le_of_ble_eq_true rfl, Nat.le_of_ble_eq_true rfl⟩) ?_
      exact wx_rI (ad, X) F ⟨congrArg iI (show f_run (wa_s S 17 b9.toNat 1) ((b9.toNat : Nat) : Int) = f_run S b9 by rw [Int.toNat_of_nonneg hK2.1]; rfl), ((if_neg (not_not_intro hK2)).trans (if_neg (by omega))), ⟨hxr, wj_of hj rfl rfl rfl, x_ext.rf S ad⟩⟩ hw hS (Nat.le_of_ble_eq_true rfl) (Nat.le_of_ble_eq_true rfl) dX4_hold_40
    · skip
      exact tX4_70 (is := 160) (text := "the bake is gone or held") 2 (((if_neg (not_not_intro hK2)).trans (if_pos (by omega)))) (by decide) rfl (ad, X) F hlt hTB (by decide) hS (wa_fresh hA hw hj (rfl : wW cy ad S X T o 0 0 = some (.inr (4, wx_fs ad S)))) hA hl.1 hno dX4_hold_20 dX4_hold_23 dX4_hold_24 dX4_hold_26 dX4_hold_29 (by decide) (Nat.le_of_ble_eq_true rfl) (Nat.le_of_ble_eq_true rfl) (Nat.le_of_ble_eq_true rfl) (Nat.le_of_ble_eq_true rfl) (Nat.le_of_ble_eq_true rfl) ⟨hxr, hj, x_ext.rf S ad⟩ (fun H1 hz hk => hw.grow hk)
