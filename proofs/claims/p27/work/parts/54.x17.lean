/-! contracts of the class: public methods, third part (laid by program) -/
set_option maxRecDepth 100000 in
set_option maxHeartbeats 4000000 in
/-- copy -/
theorem c_X4_copy (l : Launch) (hlt : l.stackTraces = false) (D : va_G) (cy : Nat → ClassId) (ad : Nat → Nat → Nat) (S X T : wa_St) (o : Int64) (A : Nat → Prop) (hj : wa_wj A ad (wW cy ad S X T o)) (hA : wa_Up A) (hwf : wf S) (hxr : xr S X) (hin : wx_inj ad S) (b9 : Int) (rb9 : wa_r b9) (q : Int) (rq : wa_r q) (hd9 : ∀ j, -2 ≤ S 1 0 + S 22 j ∧ S 1 0 + S 22 j ≤ 100000) : vx_Met l yX4_copy wX4_copy ({ frames := 7, cells := 2, slots := 12, locals := 104 } : Room) (wx_pc [.ref (ad 0 0), .int (iI b9), .int (iI q)] D cy A (fun H => wa_wd D ad (wW cy ad S X T o) H)) (va_Qi (fun r (u : (Nat → Nat → Nat) × wa_St) => r = iI (S 1 0 + S 22 q.toNat) ∧ k_copy S b9 q = 0 ∧ wx_P A cy ad T o S (a_copy S b9 q) u) (fun u t => wx_B D cy T o (a_copy S b9 q) u t.heap) A) (wx_XC A exA (k_copy S b9 q) (wx_P A cy ad T o S S) (wx_B D cy T o S)) 2 12 A := by
  refine wx_en (by decide +kernel) (Nat.le_of_ble_eq_true rfl) ?_
  intro p e s m args below meth c F hTB hno hw ls hl
  have F : wa_fx p s m c meth args cX4_copy 4 RX4 "copy" (Option.some FieldType.int) D cy := F
  have hw : wa_wd D ad (wW cy ad S X T o) s.heap := hw
  have hl : lv_has ls 4 [(0, .ref (ad 0 0)), (1, .int (iI b9)), (2, .int (iI q))] := hl
  obtain ⟨hx, hb, hml, hown, hts⟩ := id F.1
  obtain ⟨hSB, w8, w21, w12, w29, w4, w7, w6, w5, w13, w25, w26, w28, w14, w3, wf17⟩ := id hwf
  obtain ⟨hx1, hXB, hx11, hx12, hx13, hx14, hx15, hx16⟩ := id hxr
  have hS : va_S A s.heap s.heap [] := va_S.rf
  refine lv_aload_n hx hb dX4_copy_0 rfl (lv_at hl 0 rfl) ?_
  refine lv_iload_n hx hb dX4_copy_1 rfl (lv_at hl 1 rfl) ?_
  refine wx_cq (vX4_141 F hTB hS (c_X4_bakeAt l hlt D cy ad S X T o A hj hA hwf hxr hin (b9) (by have q0 := rb9; exact ⟨by omega, by omega⟩)) ⟨by decide, by decide⟩ ⟨rfl, rfl⟩ hw hw rfl rfl rfl (Nat.le_of_ble_eq_true rfl) hl.1 dX4_copy_2 ⟨(Nat.le_of_ble_eq_true rfl), (Nat.le_of_ble_eq_true rfl)⟩) hS (fun E ce q9 u H1 locs1 hE hk0 hp hB hS1 hce hcv hcl => wx_prop (ad, X) F hno hE (by have hni : ¬ f_isBake S b9 := fun hq => hk0 (if_pos hq); rw [show k_copy S b9 q = 1 from if_pos hni, if_neg hni]; exact ⟨rfl, by decide⟩) ⟨hxr, hj, x_ext.rf S ad⟩ hB hS1 hce hcv hcl (Nat.le_of_ble_eq_true rfl) (Nat.le_of_ble_eq_true rfl)) (fun locs hK2 hS => ?_)
  have hK2 : f_isBake S b9 := hK2
  refine W.eq (g2 := F0 m 5 ls [.ref (ad 3 b9.toNat)]) rfl ?_
  refine lv_astore_n (lv' := [(3, .ref (ad 3 b9.toNat)), (0, .ref (ad 0 0)), (1, .int (iI b9)), (2, .int (iI q))]) hx hb dX4_copy_5 rfl hl (by decide) rfl (fun ls hl => ?_)
  refine lv_iload_n hx hb dX4_copy_6 rfl (lv_at hl 3 rfl) ?_
  refine wa_if_lt (tgt := 15) F dX4_copy_7 (by decide) (by have q0 := rq; exact ⟨by omega, by omega⟩) (fun c7 => ?_) (fun c7 => ?_)
  · skip
    exact tX4_83 (is := 170) (text := "place is out of range") 2 (((if_neg (not_not_intro hK2)).trans (if_pos (by omega)))) (by decide) rfl (ad, X) F hlt hTB (by decide) hS (wa_fresh hA hw hj (rfl : wW cy ad S X T o 0 0 = some (.inr (4, wx_fs ad S)))) hA hl.1 hno dX4_copy_15 dX4_copy_18 dX4_copy_19 dX4_copy_21 dX4_copy_24 (by decide) (Nat.le_of_ble_eq_true rfl) (Nat.le_of_ble_eq_true rfl) (Nat.le_of_ble_eq_true rfl) (Nat.le_of_ble_eq_true rfl) (Nat.le_of_ble_eq_true rfl) ⟨hxr, hj, x_ext.rf S ad⟩ (fun H1 hz hk => hw.grow hk)
  · skip
    refine lv_iload_n hx hb dX4_copy_10 rfl (lv_at hl 3 rfl) ?_
    refine wa_const F dX4_copy_11 ?_
    refine wa_ic_lt (tgt := 25) F dX4_copy_12 (by decide) (by have q0 := rq; exact ⟨by omega, by omega⟩) (by decide) (fun c12 => ?_) (fun c12 => ?_)
    · skip
      refine lv_aload_n hx hb dX4_copy_25 rfl (lv_at hl 0 rfl) ?_
      refine gX4_148 F hw (wW_3 (show ((b9.toNat : Nat) : Int) < S 21 0 by have q := hK2; omega)) (v := .int (iI (S 18 (b9.toNat)))) rfl dX4_copy_26 ?_
      refine wa_if_ne (tgt := 41) F dX4_copy_29 (by decide) (by have q0 := hSB 18 (b9.toNat); exact ⟨by omega, by omega⟩) (fun c29 => ?_) (fun c29 => ?_)
      · skip
        exact tX4_70 (is := 176) (text := "the bake is gone or was copied there") 3 (((if_neg (not_not_intro hK2)).trans ((if_neg (by omega)).trans (if_pos (by omega))))) (by decide) rfl (ad, X) F hlt hTB (by decide) hS (wa_fresh hA hw hj (rfl : wW cy ad S X T o 0 0 = some (.inr (4, wx_fs ad S)))) hA hl.1 hno dX4_copy_41 dX4_copy_44 dX4_copy_45 dX4_copy_47 dX4_copy_50 (by decide) (Nat.le_of_ble_eq_true rfl) (Nat.le_of_ble_eq_true rfl) (Nat.le_of_ble_eq_true rfl) (Nat.le_of_ble_eq_true rfl) (Nat.le_of_ble_eq_true rfl) ⟨hxr, hj, x_ext.rf S ad⟩ (fun H1 hz hk => hw.grow hk)
      · skip
        refine lv_aload_n hx hb dX4_copy_32 rfl (lv_at hl 0 rfl) ?_
        refine lv_iload_n hx hb dX4_copy_33 rfl (lv_at hl 3 rfl) ?_
        refine wa_cp (kX4_172 F (c_X0_firstDayAt l D cy ad S X T o hwf hxr hin (b9.toNat) (show ((b9.toNat : Nat) : Int) < S 21 0 by have q := hK2; omega) (q) (show 0 ≤ q ∧ q ≤ 2 by omega)) ⟨by decide, by decide⟩ ⟨rfl, rfl⟩ hw hw (wW_3 (show ((b9.toNat : Nat) : Int) < S 21 0 by have q := hK2; omega)) rfl rfl (Nat.le_of_ble_eq_true rfl) hl.1 dX4_copy_34 ⟨Nat.le_of_ble_eq_true rfl, Nat.le_of_ble_eq_true rfl⟩) ?_
        refine wa_const F dX4_copy_37 ?_
        refine wa_ic_eq (tgt := 51) F dX4_copy_38 (by decide) (by have q0 := hSB 20 (3 * (b9.toNat) + (q).toNat); exact ⟨by omega, by omega⟩) (by decide) (fun c38 => ?_) (fun c38 => ?_)
        · skip
          refine lv_aload_n hx hb dX4_copy_51 rfl (lv_at hl 0 rfl) ?_
          refine lv_iload_n hx hb dX4_copy_52 rfl (lv_at hl 3 rfl) ?_
          refine lv_aload_n hx hb dX4_copy_53 rfl (lv_at hl 1 rfl) ?_
          refine gX4_178 F hw rfl (v := .int (iI (S 1 0))) rfl dX4_copy_54 ?_
          refine lv_aload_n hx hb dX4_copy_57 rfl (lv_at hl 1 rfl) ?_
          refine gX4_41 F hw rfl (v := .ref (ad 0 10)) rfl dX4_copy_58 ?_
          refine lv_iload_n hx hb dX4_copy_61 rfl (lv_at hl 3 rfl) ?_
          refine wa_cp (kX4_181 F (c_X4_at l D cy ad S X T o hwf hxr hin 0 10 3 (S 22) rfl (by decide) (q) (by have q0 := rq; exact ⟨by omega, by omega⟩)) ⟨by decide, by decide⟩ ⟨rfl, rfl⟩ hw rfl rfl (Nat.le_of_ble_eq_true rfl) hl.1 dX4_copy_62 ⟨Nat.le_of_ble_eq_true rfl, Nat.le_of_ble_eq_true rfl⟩) ?_
          rw [f_at_in ((q).toNat) (by have q0 := rq; omega) (by have q0 := rq; omega)]
          refine W.eq (g2 := F0 m 65 ls [.int (iI (S 22 ((q).toNat))), .int (iI (S 1 0)), .int (iI q), .ref (ad 3 b9.toNat)]) rfl ?_
          refine wa_add F dX4_copy_65 ?_
          refine wx_cv (kX4_185 F (c_X0_arriveAt l D cy ad S X T o A hj hwf hxr hin (b9.toNat) (show ((b9.toNat : Nat) : Int) < S 21 0 by have q := hK2; omega) (q) (((S 1 0) + (S 22 ((q).toNat)))) (show 0 ≤ q ∧ q ≤ 2 by omega) (hd9 q.toNat)) ⟨by decide, by decide⟩ ⟨rfl, rfl⟩ hw hw (wW_3 (show ((b9.toNat : Nat) : Int) < S 21 0 by have q := hK2; omega)) rfl rfl (Nat.le_of_ble_eq_true rfl) hl.1 dX4_copy_66 ⟨Nat.le_of_ble_eq_true rfl, Nat.le_of_ble_eq_true rfl⟩) hS (fun X1_1 H locs hP hw hS => ?_)
          rw [hP] at hw
          have hwf1 : wf (wa_s S 20 (3 * b9.toNat + q.toNat) (S 1 0 + S 22 q.toNat)) := wf_20 hwf _ (hd9 q.toNat)
          refine lv_aload_n hx hb dX4_copy_69 rfl (lv_at hl 0 rfl) ?_
          refine lv_iload_n hx hb dX4_copy_70 rfl (lv_at hl 3 rfl) ?_
          refine wa_cp (kX4_172 F (c_X0_firstDayAt l D cy ad ((wa_s S 20 (3 * b9.toNat + (q).toNat) (((S 1 0) + (S 22 ((q).toNat)))))) X T o hwf1 hxr hin (b9.toNat) (show ((b9.toNat : Nat) : Int) < S 21 0 by have q := hK2; omega) (q) (show 0 ≤ q ∧ q ≤ 2 by omega)) ⟨by decide, by decide⟩ ⟨rfl, rfl⟩ hw hw (wW_3 (show ((b9.toNat : Nat) : Int) < S 21 0 by have q := hK2; omega)) rfl rfl (Nat.le_of_ble_eq_true rfl) hl.1 dX4_copy_71 ⟨Nat.le_of_ble_eq_true rfl, Nat.le_of_ble_eq_true rfl⟩) ?_
          exact wx_rI (ad, X) F ⟨congrArg iI wa_s_eq, ((if_neg (not_not_intro hK2)).trans ((if_neg (by omega)).trans (if_neg (by omega)))), ⟨hxr, wj_of hj rfl rfl rfl, x_ext.rf S ad⟩⟩ hw hS (Nat.le_of_ble_eq_true rfl) (Nat.le_of_ble_eq_true rfl) dX4_copy_74
        · skip
          exact tX4_70 (is := 176) (text := "the bake is gone or was copied there") 3 (((if_neg (not_not_intro hK2)).trans ((if_neg (by omega)).trans (if_pos (by omega))))) (by decide) rfl (ad, X) F hlt hTB (by decide) hS (wa_fresh hA hw hj (rfl : wW cy ad S X T o 0 0 = some (.inr (4, wx_fs ad S)))) hA hl.1 hno dX4_copy_41 dX4_copy_44 dX4_copy_45 dX4_copy_47 dX4_copy_50 (by decide) (Nat.le_of_ble_eq_true rfl) (Nat.le_of_ble_eq_true rfl) (Nat.le_of_ble_eq_true rfl) (Nat.le_of_ble_eq_true rfl) (Nat.le_of_ble_eq_true rfl) ⟨hxr, hj, x_ext.rf S ad⟩ (fun H1 hz hk => hw.grow hk)
    · skip
      exact tX4_83 (is := 170) (text := "place is out of range") 2 (((if_neg (not_not_intro hK2)).trans (if_pos (by omega)))) (by decide) rfl (ad, X) F hlt hTB (by decide) hS (wa_fresh hA hw hj (rfl : wW cy ad S X T o 0 0 = some (.inr (4, wx_fs ad S)))) hA hl.1 hno dX4_copy_15 dX4_copy_18 dX4_copy_19 dX4_copy_21 dX4_copy_24 (by decide) (Nat.le_of_ble_eq_true rfl) (Nat.le_of_ble_eq_true rfl) (Nat.le_of_ble_eq_true rfl) (Nat.le_of_ble_eq_true rfl) (Nat.le_of_ble_eq_true rfl) ⟨hxr, hj, x_ext.rf S ad⟩ (fun H1 hz hk => hw.grow hk)
set_option maxRecDepth 100000 in
set_option maxHeartbeats 4000000 in
/-- layers -/
theorem c_X4_layers (l : Launch) (D : va_G) (cy : Nat → ClassId) (ad : Nat → Nat → Nat) (S X T : wa_St) (o : Int64) (hwf : wf S) (hxr : xr S X) (hin : wx_inj ad S) : Met l yX4_layers wX4_layers ({ frames := 0, cells := 0, slots := 0, locals := 0 } : Room) (wa_pc [.ref (ad 0 0)] D cy (fun H => wa_wd D ad (wW cy ad S X T o) H)) (wa_Qp (S 12 0)) 0 0 (fun _ => False) := by
  refine wa_en (by decide +kernel) (Nat.le_of_ble_eq_true rfl) ?_
  intro p e s m args below meth c F hw ls hl
  have F : wa_fx p s m c meth args cX4_layers 1 RX4 "layers" (Option.some FieldType.int) D cy := F
  have hw : wa_wd D ad (wW cy ad S X T o) s.heap := hw
  have hl : lv_has ls 1 [(0, .ref (ad 0 0))] := hl
  obtain ⟨hx, hb, hml, hown, hts⟩ := id F.1
  obtain ⟨hSB, w8, w21, w12, w29, w4, w7, w6, w5, w13, w25, w26, w28, w14, w3, wf17⟩ := id hwf
  obtain ⟨hx1, hXB, hx11, hx12, hx13, hx14, hx15, hx16⟩ := id hxr
  refine lv_aload_n hx hb dX4_layers_0 rfl (lv_at hl 0 rfl) ?_
  refine gX4_12 F hw rfl (v := .ref (ad 0 1)) rfl dX4_layers_1 ?_
  refine gX4_138 F hw rfl (v := .int (iI (S 12 0))) rfl dX4_layers_4 ?_
  exact wa_ep F rfl dX4_layers_7
set_option maxRecDepth 100000 in
set_option maxHeartbeats 4000000 in
/-- bakes -/
theorem c_X4_bakes (l : Launch) (D : va_G) (cy : Nat → ClassId) (ad : Nat → Nat → Nat) (S X T : wa_St) (o : Int64) (hwf : wf S) (hxr : xr S X) (hin : wx_inj ad S) : Met l yX4_bakes wX4_bakes ({ frames := 0, cells := 0, slots := 0, locals := 0 } : Room) (wa_pc [.ref (ad 0 0)] D cy (fun H => wa_wd D ad (wW cy ad S X T o) H)) (wa_Qp (S 21 0)) 0 0 (fun _ => False) := by
  refine wa_en (by decide +kernel) (Nat.le_of_ble_eq_true rfl) ?_
  intro p e s m args below meth c F hw ls hl
  have F : wa_fx p s m c meth args cX4_bakes 1 RX4 "bakes" (Option.some FieldType.int) D cy := F
  have hw : wa_wd D ad (wW cy ad S X T o) s.heap := hw
  have hl : lv_has ls 1 [(0, .ref (ad 0 0))] := hl
  obtain ⟨hx, hb, hml, hown, hts⟩ := id F.1
  obtain ⟨hSB, w8, w21, w12, w29, w4, w7, w6, w5, w13, w25, w26, w28, w14, w3, wf17⟩ := id hwf
  obtain ⟨hx1, hXB, hx11, hx12, hx13, hx14, hx15, hx16⟩ := id hxr
  refine lv_aload_n hx hb dX4_bakes_0 rfl (lv_at hl 0 rfl) ?_
  refine gX4_113 F hw rfl (v := .int (iI (S 21 0))) rfl dX4_bakes_1 ?_
  exact wa_ep F rfl dX4_bakes_4
set_option maxRecDepth 100000 in
set_option maxHeartbeats 4000000 in
/-- old -/
theorem c_X4_old (l : Launch) (D : va_G) (cy : Nat → ClassId) (ad : Nat → Nat → Nat) (S X T : wa_St) (o : Int64) (A : Nat → Prop) (hj : wa_wj A ad (wW cy ad S X T o)) (hwf : wf S) (hxr : xr S X) (hin : wx_inj ad S) : Met l yX4_old wX4_old ({ frames := 6, cells := 0, slots := 0, locals := 139 } : Room) (wa_pc [.ref (ad 0 0)] D cy (fun H => wa_wd D ad (wW cy ad S X T o) H)) (wx_Qi A D cy ad T o (S) (fun u => xr S u) (f_cnt (f_isOld S) (S 29 0).toNat)) 0 0 A := by
  refine wa_en (by decide +kernel) (Nat.le_of_ble_eq_true rfl) ?_
  intro p e s m args below meth c F hw ls hl
  have F : wa_fx p s m c meth args cX4_old 1 RX4 "old" (Option.some FieldType.int) D cy := F
  have hw : wa_wd D ad (wW cy ad S X T o) s.heap := hw
  have hl : lv_has ls 1 [(0, .ref (ad 0 0))] := hl
  obtain ⟨hx, hb, hml, hown, hts⟩ := id F.1
  obtain ⟨hSB, w8, w21, w12, w29, w4, w7, w6, w5, w13, w25, w26, w28, w14, w3, wf17⟩ := id hwf
  obtain ⟨hx1, hXB, hx11, hx12, hx13, hx14, hx15, hx16⟩ := id hxr
  have hS : va_S A s.heap s.heap [] := va_S.rf
  refine lv_aload_n hx hb dX4_old_0 rfl (lv_at hl 0 rfl) ?_
  refine wx_ci (kX4_237 F (c_X4_fillWaiting l D cy ad S X T o A hj hwf hxr hin) ⟨by decide, by decide⟩ ⟨rfl, rfl⟩ hw hw rfl rfl rfl (Nat.le_of_ble_eq_true rfl) hl.1 dX4_old_1 ⟨Nat.le_of_ble_eq_true rfl, Nat.le_of_ble_eq_true rfl⟩) hS (fun X1_1 H locs hP hw hS => ?_)
  obtain ⟨hxr_X1_1, hW_X1_1⟩ := hP
  obtain ⟨hx1, hXB, hx11, hx12, hx13, hx14, hx15, hx16⟩ := id hxr_X1_1
  exact wx_ei F hw hS rfl hxr_X1_1 dX4_old_4
set_option maxRecDepth 100000 in
set_option maxHeartbeats 4000000 in
/-- oldAt -/
theorem c_X4_oldAt (l : Launch) (hlt : l.stackTraces = false) (D : va_G) (cy : Nat → ClassId) (ad : Nat → Nat → Nat) (S X T : wa_St) (o : Int64) (A : Nat → Prop) (hj : wa_wj A ad (wW cy ad S X T o)) (hA : wa_Up A) (hwf : wf S) (hxr : xr S X) (hin : wx_inj ad S) (q : Int) (rq : wa_r q) : vx_Met l yX4_oldAt wX4_oldAt ({ frames := 6, cells := 1, slots := 6, locals := 139 } : Room) (wx_pc [.ref (ad 0 0), .int (iI q)] D cy A (fun H => wa_wd D ad (wW cy ad S X T o) H)) (va_Qi (fun r (u : (Nat → Nat → Nat) × wa_St) => r = iI (f_oldAt S q) ∧ k_oldAt S q = 0 ∧ wx_P A cy ad T o S (S) u) (fun u t => wx_B D cy T o (S) u t.heap) A) (wx_XC A exA (k_oldAt S q) (wx_P A cy ad T o S S) (wx_B D cy T o S)) 1 6 A := by
  refine wx_en (by decide +kernel) (Nat.le_of_ble_eq_true rfl) ?_
  intro p e s m args below meth c F hTB hno hw ls hl
  have F : wa_fx p s m c meth args cX4_oldAt 4 RX4 "oldAt" (Option.some FieldType.int) D cy := F
  have hw : wa_wd D ad (wW cy ad S X T o) s.heap := hw
  have hl : lv_has ls 4 [(0, .ref (ad 0 0)), (1, .int (iI q))] := hl
  obtain ⟨hx, hb, hml, hown, hts⟩ := id F.1
  obtain ⟨hSB, w8, w21, w12, w29, w4, w7, w6, w5, w13, w25, w26, w28, w14, w3, wf17⟩ := id hwf
  obtain ⟨hx1, hXB, hx11, hx12, hx13, hx14, hx15, hx16⟩ := id hxr
  have hcr := f_cnt_rng (f_isOld S) (S 29 0).toNat
  have hS : va_S A s.heap s.heap [] := va_S.rf
  refine lv_aload_n hx hb dX4_oldAt_0 rfl (lv_at hl 0 rfl) ?_
  refine wx_ci (kX4_237 F (c_X4_fillWaiting l D cy ad S X T o A hj hwf hxr hin) ⟨by decide, by decide⟩ ⟨rfl, rfl⟩ hw hw rfl rfl rfl (Nat.le_of_ble_eq_true rfl) hl.1 dX4_oldAt_1 ⟨Nat.le_of_ble_eq_true rfl, Nat.le_of_ble_eq_true rfl⟩) hS (fun X1_1 H locs hP hw hS => ?_)
  obtain ⟨hxr_X1_1, hW_X1_1⟩ := hP
  obtain ⟨hx1, hXB, hx11, hx12, hx13, hx14, hx15, hx16⟩ := id hxr_X1_1
  refine lv_istore_n (lv' := [(2, .int (iI (f_cnt (f_isOld S) (S 29 0).toNat))), (0, .ref (ad 0 0)), (1, .int (iI q))]) hx hb dX4_oldAt_4 rfl hl (by decide) rfl (fun ls hl => ?_)
  refine lv_iload_n hx hb dX4_oldAt_5 rfl (lv_at hl 2 rfl) ?_
  refine wa_if_lt (tgt := 32) F dX4_oldAt_6 (by decide) (by have q0 := rq; exact ⟨by omega, by omega⟩) (fun c6 => ?_) (fun c6 => ?_)
  · skip
    refine lv_null hx hb dX4_oldAt_32 ?_
    refine lv_astore_nN (lv' := [(3, .null), (2, .int (iI (f_cnt (f_isOld S) (S 29 0).toNat))), (0, .ref (ad 0 0)), (1, .int (iI q))]) hx hb dX4_oldAt_33 rfl hl (by decide) rfl (fun ls hl => ?_)
    refine lv_aload_nN hx hb dX4_oldAt_34 rfl (lv_at hl 0 rfl) ?_
    refine lv_ifnonnullN hx hb dX4_oldAt_35 ?_
    exact tX4_240 (is := 242) (text := "there are not so many") 1 (if_pos (hW_X1_1.oldAtN hwf (q := q) (by omega))) (by decide) rfl (ad, X1_1) F hlt hTB (by decide) hS (wa_fresh hA hw (wj_of hj rfl rfl rfl) (rfl : wW cy ad S X1_1 T o 0 0 = some (.inr (4, wx_fs ad S)))) hA hl.1 hno dX4_oldAt_38 dX4_oldAt_41 dX4_oldAt_42 dX4_oldAt_44 dX4_oldAt_47 (by decide) (Nat.le_of_ble_eq_true rfl) (Nat.le_of_ble_eq_true rfl) (Nat.le_of_ble_eq_true rfl) (Nat.le_of_ble_eq_true rfl) (Nat.le_of_ble_eq_true rfl) ⟨hxr_X1_1, (wj_of hj rfl rfl rfl), x_ext.rf S ad⟩ (fun H1 hz hk => hw.grow hk)
  · skip
    refine lv_iload_n hx hb dX4_oldAt_9 rfl (lv_at hl 2 rfl) ?_
    refine lv_iload_n hx hb dX4_oldAt_10 rfl (lv_at hl 0 rfl) ?_
    refine wa_ic_ge (tgt := 32) F dX4_oldAt_11 (by decide) (by have q0 := rq; exact ⟨by omega, by omega⟩) (by have q0 := f_cnt_rng (f_isOld S) (S 29 0).toNat; exact ⟨by omega, by omega⟩) (fun c11 => ?_) (fun c11 => ?_)
    · skip
      refine lv_null hx hb dX4_oldAt_32 ?_
      refine lv_astore_nN (lv' := [(3, .null), (2, .int (iI (f_cnt (f_isOld S) (S 29 0).toNat))), (0, .ref (ad 0 0)), (1, .int (iI q))]) hx hb dX4_oldAt_33 rfl hl (by decide) rfl (fun ls hl => ?_)
      refine lv_aload_nN hx hb dX4_oldAt_34 rfl (lv_at hl 0 rfl) ?_
      refine lv_ifnonnullN hx hb dX4_oldAt_35 ?_
      exact tX4_240 (is := 242) (text := "there are not so many") 1 (if_pos (hW_X1_1.oldAtN hwf (q := q) (by omega))) (by decide) rfl (ad, X1_1) F hlt hTB (by decide) hS (wa_fresh hA hw (wj_of hj rfl rfl rfl) (rfl : wW cy ad S X1_1 T o 0 0 = some (.inr (4, wx_fs ad S)))) hA hl.1 hno dX4_oldAt_38 dX4_oldAt_41 dX4_oldAt_42 dX4_oldAt_44 dX4_oldAt_47 (by decide) (Nat.le_of_ble_eq_true rfl) (Nat.le_of_ble_eq_true rfl) (Nat.le_of_ble_eq_true rfl) (Nat.le_of_ble_eq_true rfl) (Nat.le_of_ble_eq_true rfl) ⟨hxr_X1_1, (wj_of hj rfl rfl rfl), x_ext.rf S ad⟩ (fun H1 hz hk => hw.grow hk)
    · skip
      refine lv_iload_n hx hb dX4_oldAt_14 rfl (lv_at hl 2 rfl) ?_
      refine lv_aload_n hx hb dX4_oldAt_15 rfl (lv_at hl 1 rfl) ?_
      refine gX4_53 F hw rfl (v := .ref (ad 0 14)) rfl dX4_oldAt_16 ?_
      refine wa_alen (t0 := 4) F hw rfl rfl 30 rfl (by decide) dX4_oldAt_19 ?_
      refine W.eq (g2 := F0 m 20 ls [.int (iI 30), .int (iI q)]) rfl ?_
      refine wa_ic_ge (tgt := 32) F dX4_oldAt_20 (by decide) (by have q0 := rq; exact ⟨by omega, by omega⟩) (by decide) (fun c20 => absurd c20 (by omega)) (fun c20 => ?_)
      refine lv_aload_n hx hb dX4_oldAt_23 rfl (lv_at hl 1 rfl) ?_
      refine gX4_53 F hw rfl (v := .ref (ad 0 14)) rfl dX4_oldAt_24 ?_
      refine lv_iload_n hx hb dX4_oldAt_27 rfl (lv_at hl 2 rfl) ?_
      refine wa_aald (g := (fun j => wa_op ad 5 (X1_1 14 j))) (t0 := 4) F hw rfl rfl ((q).toNat) (by have q0 := rq; omega) (by have q0 := rq; omega) (by decide) dX4_oldAt_28 ?_
      refine W.eq (g2 := F0 m 29 ls [va_rf (wa_op ad 5 (X1_1 14 ((q).toNat)))]) rfl ?_
      refine wa_goto (tgt := 33) F dX4_oldAt_29 (by decide) ?_
      refine wa_stq_n (lv' := [(3, va_rf (wa_op ad 5 (X1_1 14 ((q).toNat)))), (2, .int (iI (f_cnt (f_isOld S) (S 29 0).toNat))), (0, .ref (ad 0 0)), (1, .int (iI q))]) F dX4_oldAt_33 rfl hl (by decide) rfl (fun ls hl => ?_)
      refine wa_ldq_n F dX4_oldAt_34 rfl (lv_at hl 0 rfl) ?_
      refine wa_nn_op (tgt := 48) F dX4_oldAt_35 (by decide) (fun c35 => ?_) (fun c35 => absurd c35 (by have q2 := hW_X1_1.2.1 q.toNat (by omega); omega))
      rw [wa_op_ref (ad := ad) (kd := 5) c35] at hl
      have hl : lv_has ls 4 [(3, .ref (ad 5 ((X1_1 14 ((q).toNat)).toNat))), (2, .int (iI (f_cnt (f_isOld S) (S 29 0).toNat))), (0, .ref (ad 0 0)), (1, .int (iI q))] := hl
      refine lv_aload_n hx hb dX4_oldAt_48 rfl (lv_at hl 0 rfl) ?_
      refine gX4_216 F hw (wW_5 (show (((X1_1 14 ((q).toNat)).toNat : Nat) : Int) < S 29 0 by have q3 := (hx15 (q).toNat); have q4 := c35; omega)) (v := .int (iI ((X1_1 14 ((q).toNat)).toNat : Int))) rfl dX4_oldAt_49 ?_
      exact wx_rI (ad, X1_1) F ⟨congrArg iI (by have q3 := hW_X1_1.oldAt hwf (q := q.toNat) (by omega); rw [show ((q.toNat : Nat) : Int) = q by omega] at q3; omega), (if_neg (by have q3 := hW_X1_1.oldAt hwf (q := q.toNat) (by omega); rw [show ((q.toNat : Nat) : Int) = q by omega] at q3; omega)), ⟨hxr_X1_1, (wj_of hj rfl rfl rfl), x_ext.rf S ad⟩⟩ hw hS (Nat.le_of_ble_eq_true rfl) (Nat.le_of_ble_eq_true rfl) dX4_oldAt_52
set_option maxRecDepth 100000 in
set_option maxHeartbeats 4000000 in
/-- step -/
theorem c_X4_step (l : Launch) (hlt : l.stackTraces = false) (D : va_G) (cy : Nat → ClassId) (ad : Nat → Nat → Nat) (S X T : wa_St) (o : Int64) (A : Nat → Prop) (hj : wa_wj A ad (wW cy ad S X T o)) (hA : wa_Up A) (hwf : wf S) (hxr : xr S X) (hin : wx_inj ad S) (i : Int) (ri : wa_r i) (q : Int) (rq : wa_r q) : vx_Met l yX4_step wX4_step ({ frames := 7, cells := 2, slots := 12, locals := 104 } : Room) (wx_pc [.ref (ad 0 0), .int (iI i), .int (iI q)] D cy A (fun H => wa_wd D ad (wW cy ad S X T o) H)) (va_Qi (fun r (u : (Nat → Nat → Nat) × wa_St) => r = iI (S 6 i.toNat + 1) ∧ k_step S i q = 0 ∧ wx_P A cy ad T o S (a_step S i q) u) (fun u t => wx_B D cy T o (a_step S i q) u t.heap) A) (wx_XC A exA (k_step S i q) (wx_P A cy ad T o S S) (wx_B D cy T o S)) 2 12 A := by
  refine wx_en (by decide +kernel) (Nat.le_of_ble_eq_true rfl) ?_
  intro p e s m args below meth c F hTB hno hw ls hl
  have F : wa_fx p s m c meth args cX4_step 4 RX4 "step" (Option.some FieldType.int) D cy := F
  have hw : wa_wd D ad (wW cy ad S X T o) s.heap := hw
  have hl : lv_has ls 4 [(0, .ref (ad 0 0)), (1, .int (iI i)), (2, .int (iI q))] := hl
  obtain ⟨hx, hb, hml, hown, hts⟩ := id F.1
  obtain ⟨hSB, w8, w21, w12, w29, w4, w7, w6, w5, w13, w25, w26, w28, w14, w3, wf17⟩ := id hwf
  obtain ⟨hx1, hXB, hx11, hx12, hx13, hx14, hx15, hx16⟩ := id hxr
  have w6i := w6 i.toNat
  have hS : va_S A s.heap s.heap [] := va_S.rf
  refine lv_aload_n hx hb dX4_step_0 rfl (lv_at hl 0 rfl) ?_
  refine lv_iload_n hx hb dX4_step_1 rfl (lv_at hl 1 rfl) ?_
  refine wx_cq (vX4_63 F hTB hS (c_X4_imageAt l hlt D cy ad S X T o A hj hA hwf hxr hin (i) (by have q0 := ri; exact ⟨by omega, by omega⟩)) ⟨by decide, by decide⟩ ⟨rfl, rfl⟩ hw hw rfl rfl rfl (Nat.le_of_ble_eq_true rfl) hl.1 dX4_step_2 ⟨(Nat.le_of_ble_eq_true rfl), (Nat.le_of_ble_eq_true rfl)⟩) hS (fun E ce q9 u H1 locs1 hE hk0 hp hB hS1 hce hcv hcl => wx_prop (ad, X) F hno hE (by have hni : ¬ f_isImage S i := fun hq => hk0 (if_pos hq); rw [show k_step S i q = 1 from if_pos hni, if_neg hni]; exact ⟨rfl, by decide⟩) ⟨hxr, hj, x_ext.rf S ad⟩ hB hS1 hce hcv hcl (Nat.le_of_ble_eq_true rfl) (Nat.le_of_ble_eq_true rfl)) (fun locs hK2 hS => ?_)
  have hK2 : f_isImage S i := hK2
  refine W.eq (g2 := F0 m 5 ls [.ref (ad 1 i.toNat)]) rfl ?_
  refine lv_astore_n (lv' := [(3, .ref (ad 1 i.toNat)), (0, .ref (ad 0 0)), (1, .int (iI i)), (2, .int (iI q))]) hx hb dX4_step_5 rfl hl (by decide) rfl (fun ls hl => ?_)
  refine lv_iload_n hx hb dX4_step_6 rfl (lv_at hl 3 rfl) ?_
  refine wa_if_lt (tgt := 16) F dX4_step_7 (by decide) (by have q0 := rq; exact ⟨by omega, by omega⟩) (fun c7 => ?_) (fun c7 => ?_)
  · skip
    exact tX4_83 (is := 85) (text := "input is out of range") 2 (((if_neg (not_not_intro hK2)).trans (if_pos (by omega)))) (by decide) rfl (ad, X) F hlt hTB (by decide) hS (wa_fresh hA hw hj (rfl : wW cy ad S X T o 0 0 = some (.inr (4, wx_fs ad S)))) hA hl.1 hno dX4_step_16 dX4_step_19 dX4_step_20 dX4_step_22 dX4_step_25 (by decide) (Nat.le_of_ble_eq_true rfl) (Nat.le_of_ble_eq_true rfl) (Nat.le_of_ble_eq_true rfl) (Nat.le_of_ble_eq_true rfl) (Nat.le_of_ble_eq_true rfl) ⟨hxr, hj, x_ext.rf S ad⟩ (fun H1 hz hk => hw.grow hk)
  · skip
    refine lv_iload_n hx hb dX4_step_10 rfl (lv_at hl 3 rfl) ?_
    refine wa_bi F dX4_step_11 (by decide +kernel) ?_
    refine wa_ic_lt (tgt := 26) F dX4_step_13 (by decide) (by have q0 := rq; exact ⟨by omega, by omega⟩) (by decide) (fun c13 => ?_) (fun c13 => ?_)
    · skip
      refine lv_aload_n hx hb dX4_step_26 rfl (lv_at hl 0 rfl) ?_
      refine lv_iload_n hx hb dX4_step_27 rfl (lv_at hl 3 rfl) ?_
      refine wx_ci (kX4_88 F (c_X1_takesStep l D cy ad S X T o A hj hwf hxr hin (i.toNat) (show ((i.toNat : Nat) : Int) < S 8 0 by have q := hK2; omega) (q) (by omega)) ⟨by decide, by decide⟩ ⟨rfl, rfl⟩ hw hw (wW_1 (show ((i.toNat : Nat) : Int) < S 8 0 by have q := hK2; omega)) rfl rfl (Nat.le_of_ble_eq_true rfl) hl.1 dX4_step_28 ⟨Nat.le_of_ble_eq_true rfl, Nat.le_of_ble_eq_true rfl⟩) hS (fun X1_1 H locs hP hw hS => ?_)
      rw [hP] at hw
      by_cases b28 : S 6 i.toNat < 5
      · rw [bI_t b28]
        rw [if_pos b28] at hw
        refine wa_if_ne (tgt := 44) F dX4_step_31 (by decide) (by decide) (fun c31 => ?_) (fun c31 => absurd c31 (by decide))
        refine lv_aload_n hx hb dX4_step_44 rfl (lv_at hl 0 rfl) ?_
        refine gX4_94 F hw (wW_1 (show ((i.toNat : Nat) : Int) < S 8 0 by have q := hK2; omega)) (v := .int (iI ((x_ts S i.toNat q) 6 (i.toNat)))) rfl dX4_step_45 ?_
        exact wx_rI (ad, X) F ⟨congrArg iI wa_s_eq, ((if_neg (not_not_intro hK2)).trans ((if_neg (by omega)).trans (if_neg (by omega)))), ⟨hxr, wj_of hj rfl rfl rfl, x_ext.rf S ad⟩⟩ hw hS (Nat.le_of_ble_eq_true rfl) (Nat.le_of_ble_eq_true rfl) dX4_step_48
      · rw [bI_f b28]
        rw [if_neg b28] at hw
        refine wa_if_ne (tgt := 44) F dX4_step_31 (by decide) (by decide) (fun c31 => absurd c31 (by decide)) (fun c31 => ?_)
        exact tX4_70 (is := 92) (text := "the image has 5 steps") 3 (((if_neg (not_not_intro hK2)).trans ((if_neg (by omega)).trans (if_pos (by omega))))) (by decide) rfl (ad, X) F hlt hTB (by decide) hS (wa_fresh hA hw hj (rfl : wW cy ad S X T o 0 0 = some (.inr (4, wx_fs ad S)))) hA hl.1 hno dX4_step_34 dX4_step_37 dX4_step_38 dX4_step_40 dX4_step_43 (by decide) (Nat.le_of_ble_eq_true rfl) (Nat.le_of_ble_eq_true rfl) (Nat.le_of_ble_eq_true rfl) (Nat.le_of_ble_eq_true rfl) (Nat.le_of_ble_eq_true rfl) ⟨hxr, hj, x_ext.rf S ad⟩ (fun H1 hz hk => hw.grow hk)
    · skip
      exact tX4_83 (is := 85) (text := "input is out of range") 2 (((if_neg (not_not_intro hK2)).trans (if_pos (by omega)))) (by decide) rfl (ad, X) F hlt hTB (by decide) hS (wa_fresh hA hw hj (rfl : wW cy ad S X T o 0 0 = some (.inr (4, wx_fs ad S)))) hA hl.1 hno dX4_step_16 dX4_step_19 dX4_step_20 dX4_step_22 dX4_step_25 (by decide) (Nat.le_of_ble_eq_true rfl) (Nat.le_of_ble_eq_true rfl) (Nat.le_of_ble_eq_true rfl) (Nat.le_of_ble_eq_true rfl) (Nat.le_of_ble_eq_true rfl) ⟨hxr, hj, x_ext.rf S ad⟩ (fun H1 hz hk => hw.grow hk)
