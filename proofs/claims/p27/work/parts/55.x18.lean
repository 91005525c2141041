/-! contracts of the class: public methods, fourth part (laid by program) -/
set_option maxRecDepth 100000 in
set_option maxHeartbeats 4000000 in
/-- isFresh -/
theorem c_X4_isFresh (l : Launch) (hlt : l.stackTraces = false) (D : va_G) (cy : Nat → ClassId) (ad : Nat → Nat → Nat) (S X T : wa_St) (o : Int64) (A : Nat → Prop) (hj : wa_wj A ad (wW cy ad S X T o)) (hA : wa_Up A) (hwf : wf S) (hxr : xr S X) (hin : wx_inj ad S) (i : Int) (ri : wa_r i) : vx_Met l yX4_isFresh wX4_isFresh ({ frames := 7, cells := 1, slots := 6, locals := 114 } : Room) (wx_pc [.ref (ad 0 0), .int (iI i)] D cy A (fun H => wa_wd D ad (wW cy ad S X T o) H)) (va_Qi (fun r (u : (Nat → Nat → Nat) × wa_St) => r = iI (bI (x_frs S 10 i = true)) ∧ k_img S i = 0 ∧ wx_P A cy ad T o S (S) u) (fun u t => wx_B D cy T o (S) u t.heap) A) (wx_XC A exA (k_img S i) (wx_P A cy ad T o S S) (wx_B D cy T o S)) 1 6 A := by
  refine wx_en (by decide +kernel) (Nat.le_of_ble_eq_true rfl) ?_
  intro p e s m args below meth c F hTB hno hw ls hl
  have F : wa_fx p s m c meth args cX4_isFresh 3 RX4 "isFresh" (Option.some FieldType.boolean) D cy := F
  have hw : wa_wd D ad (wW cy ad S X T o) s.heap := hw
  have hl : lv_has ls 3 [(0, .ref (ad 0 0)), (1, .int (iI i))] := hl
  obtain ⟨hx, hb, hml, hown, hts⟩ := id F.1
  obtain ⟨hSB, w8, w21, w12, w29, w4, w7, w6, w5, w13, w25, w26, w28, w14, w3, wf17⟩ := id hwf
  obtain ⟨hx1, hXB, hx11, hx12, hx13, hx14, hx15, hx16⟩ := id hxr
  have hS : va_S A s.heap s.heap [] := va_S.rf
  refine lv_aload_n hx hb dX4_isFresh_0 rfl (lv_at hl 0 rfl) ?_
  refine lv_iload_n hx hb dX4_isFresh_1 rfl (lv_at hl 1 rfl) ?_
  refine wx_cq (vX4_63 F hTB hS (c_X4_imageAt l hlt D cy ad S X T o A hj hA hwf hxr hin (i) (by have q0 := ri; exact ⟨by omega, by omega⟩)) ⟨by decide, by decide⟩ ⟨rfl, rfl⟩ hw hw rfl rfl rfl (Nat.le_of_ble_eq_true rfl) hl.1 dX4_isFresh_2 ⟨(Nat.le_of_ble_eq_true rfl), (Nat.le_of_ble_eq_true rfl)⟩) hS (fun E ce q9 u H1 locs1 hE hk0 hp hB hS1 hce hcv hcl => wx_prop (ad, X) F hno hE (by have hni : ¬ f_isImage S i := fun hq => hk0 (if_pos hq); rw [show k_img S i = 1 from if_neg hni, if_neg hni]; exact ⟨rfl, by decide⟩) ⟨hxr, hj, x_ext.rf S ad⟩ hB hS1 hce hcv hcl (Nat.le_of_ble_eq_true rfl) (Nat.le_of_ble_eq_true rfl)) (fun locs hK2 hS => ?_)
  have hK2 : f_isImage S i := hK2
  refine W.eq (g2 := F0 m 5 ls [.ref (ad 1 i.toNat)]) rfl ?_
  refine lv_astore_n (lv' := [(2, .ref (ad 1 i.toNat)), (0, .ref (ad 0 0)), (1, .int (iI i))]) hx hb dX4_isFresh_5 rfl hl (by decide) rfl (fun ls hl => ?_)
  rw [show Value.ref (ad 1 i.toNat) = va_rf (wa_op ad 1 i) from (wa_op_ref hK2.1).symm] at hl
  have hl : lv_has ls 3 [(2, va_rf (wa_op ad 1 i)), (0, .ref (ad 0 0)), (1, .int (iI i))] := hl
  have loop6 : ∀ (k : Nat) (zz : Int), (-1 ≤ zz ∧ zz < S 8 0) → (zz < (k : Int)) → (x_frs S k zz = x_frs S 10 i) → ∀ ls : Array Slot, lv_has ls 3 [(0, .ref (ad 0 0)), (1, .int (iI i)), (2, va_rf (wa_op ad 1 zz))] → W p l e ({ frames := 7, cells := 1, slots := 6, locals := 114 } : Room) s m args below meth c s.heap locs (0 + 1) (0 + 6) (vx_MQ below (va_Qi (fun r (u : (Nat → Nat → Nat) × wa_St) => r = iI (bI (x_frs S 10 i = true)) ∧ k_img S i = 0 ∧ wx_P A cy ad T o S (S) u) (fun u t => wx_B D cy T o (S) u t.heap) A) (wx_XC A exA (k_img S i) (wx_P A cy ad T o S S) (wx_B D cy T o S)) args s 1 6 A) (F0 m 6 ls []) := by
    intro k
    induction k with
    | zero =>
      intro zz rzz hzk hz ls hl
      refine wa_ldq_n F dX4_isFresh_6 rfl (lv_at hl 2 rfl) ?_
      refine wa_nu_op (tgt := 28) F dX4_isFresh_7 (by decide) (fun c7 => ?_) (fun c7 => absurd c7 (by omega))
      refine wa_const F dX4_isFresh_28 ?_
      exact wx_rZ (ad, X) F (by decide) ⟨congrArg iI (bI_t (by rw [← hz]; first | rfl | (simp only [x_frs]; rw [decide_eq_true c7]; rfl))).symm, (if_pos hK2), ⟨hxr, hj, x_ext.rf S ad⟩⟩ hw hS (Nat.le_of_ble_eq_true rfl) (Nat.le_of_ble_eq_true rfl) dX4_isFresh_29
    | succ k ih6 =>
      intro zz rzz hzk hz ls hl
      refine wa_ldq_n F dX4_isFresh_6 rfl (lv_at hl 2 rfl) ?_
      refine wa_nu_op (tgt := 28) F dX4_isFresh_7 (by decide) (fun c7 => ?_) (fun c7 => ?_)
      · skip
        refine wa_const F dX4_isFresh_28 ?_
        exact wx_rZ (ad, X) F (by decide) ⟨congrArg iI (bI_t (by rw [← hz]; first | rfl | (simp only [x_frs]; rw [decide_eq_true c7]; rfl))).symm, (if_pos hK2), ⟨hxr, hj, x_ext.rf S ad⟩⟩ hw hS (Nat.le_of_ble_eq_true rfl) (Nat.le_of_ble_eq_true rfl) dX4_isFresh_29
      · skip
        rw [wa_op_ref (ad := ad) (kd := 1) c7] at hl
        have hl : lv_has ls 3 [(0, .ref (ad 0 0)), (1, .int (iI i)), (2, .ref (ad 1 (zz.toNat)))] := hl
        refine lv_aload_n hx hb dX4_isFresh_10 rfl (lv_at hl 0 rfl) ?_
        refine lv_aload_n hx hb dX4_isFresh_11 rfl (lv_at hl 2 rfl) ?_
        refine wa_cp (kX4_109 F (c_X4_wouldMakeBake l D cy ad S X T o hwf hxr hin (zz.toNat) (show ((zz.toNat : Nat) : Int) < S 8 0 by have q3 := rzz; have q4 := c7; omega)) ⟨by decide, by decide⟩ ⟨rfl, rfl⟩ hw hw rfl rfl rfl (Nat.le_of_ble_eq_true rfl) hl.1 dX4_isFresh_12 ⟨Nat.le_of_ble_eq_true rfl, Nat.le_of_ble_eq_true rfl⟩) ?_
        by_cases b12 : x_needs S (zz.toNat)
        · rw [bI_t b12]
          refine wa_if_eq (tgt := 20) F dX4_isFresh_15 (by decide) (by decide) (fun c15 => absurd c15 (by decide)) (fun c15 => ?_)
          refine wa_const F dX4_isFresh_18 ?_
          exact wx_rZ (ad, X) F (by decide) ⟨congrArg iI (bI_f (by rw [← hz]; simp only [x_frs]; rw [decide_eq_false (show ¬ zz < 0 by omega), decide_eq_false (not_not_intro b12)]; simp)).symm, (if_pos hK2), ⟨hxr, hj, x_ext.rf S ad⟩⟩ hw hS (Nat.le_of_ble_eq_true rfl) (Nat.le_of_ble_eq_true rfl) dX4_isFresh_19
        · rw [bI_f b12]
          refine wa_if_eq (tgt := 20) F dX4_isFresh_15 (by decide) (by decide) (fun c15 => ?_) (fun c15 => absurd c15 (by decide))
          refine lv_aload_n hx hb dX4_isFresh_20 rfl (lv_at hl 2 rfl) ?_
          refine gX4_99 F hw (wW_1 (show ((zz.toNat : Nat) : Int) < S 8 0 by have q3 := rzz; have q4 := c7; omega)) (v := va_rf (wa_op ad 1 (S 4 (zz.toNat)))) rfl dX4_isFresh_21 ?_
          refine wa_stq_n (lv' := [(2, va_rf (wa_op ad 1 (S 4 (zz.toNat)))), (0, .ref (ad 0 0)), (1, .int (iI i))]) F dX4_isFresh_24 rfl hl (by decide) rfl (fun ls hl => ?_)
          refine wa_goto (tgt := 6) F dX4_isFresh_25 (by decide) ?_
          exact ih6 (S 4 (zz.toNat)) (show -1 ≤ S 4 zz.toNat ∧ S 4 zz.toNat < S 8 0 by have q := w4 zz.toNat (by omega); omega) (by have q := w4 zz.toNat (by omega); omega) (by rw [← hz]; simp only [x_frs]; rw [decide_eq_false (show ¬ zz < 0 by omega), decide_eq_true b12]; simp) ls (lv_sub hl [1, 2, 0] rfl)
  exact loop6 (10) i (by have := hK2; omega) (by have := hK2; omega) rfl ls (lv_sub hl [1, 2, 0] rfl)
set_option maxRecDepth 100000 in
set_option maxHeartbeats 4000000 in
/-- isFreshAnew -/
theorem c_X4_isFreshAnew (l : Launch) (hlt : l.stackTraces = false) (D : va_G) (cy : Nat → ClassId) (ad : Nat → Nat → Nat) (S X T : wa_St) (o : Int64) (A : Nat → Prop) (hj : wa_wj A ad (wW cy ad S X T o)) (hA : wa_Up A) (hwf : wf S) (hxr : xr S X) (hin : wx_inj ad S) (i : Int) (ri : wa_r i) : vx_Met l yX4_isFreshAnew wX4_isFreshAnew ({ frames := 7, cells := 1, slots := 6, locals := 104 } : Room) (wx_pc [.ref (ad 0 0), .int (iI i)] D cy A (fun H => wa_wd D ad (wW cy ad S X T o) H)) (va_Qi (fun r (u : (Nat → Nat → Nat) × wa_St) => r = iI (bI (x_mds S 10 i = true)) ∧ k_img S i = 0 ∧ wx_P A cy ad T o S (S) u) (fun u t => wx_B D cy T o (S) u t.heap) A) (wx_XC A exA (k_img S i) (wx_P A cy ad T o S S) (wx_B D cy T o S)) 1 6 A := by
  refine wx_en (by decide +kernel) (Nat.le_of_ble_eq_true rfl) ?_
  intro p e s m args below meth c F hTB hno hw ls hl
  have F : wa_fx p s m c meth args cX4_isFreshAnew 3 RX4 "isFreshAnew" (Option.some FieldType.boolean) D cy := F
  have hw : wa_wd D ad (wW cy ad S X T o) s.heap := hw
  have hl : lv_has ls 3 [(0, .ref (ad 0 0)), (1, .int (iI i))] := hl
  obtain ⟨hx, hb, hml, hown, hts⟩ := id F.1
  obtain ⟨hSB, w8, w21, w12, w29, w4, w7, w6, w5, w13, w25, w26, w28, w14, w3, wf17⟩ := id hwf
  obtain ⟨hx1, hXB, hx11, hx12, hx13, hx14, hx15, hx16⟩ := id hxr
  have hS : va_S A s.heap s.heap [] := va_S.rf
  refine lv_aload_n hx hb dX4_isFreshAnew_0 rfl (lv_at hl 0 rfl) ?_
  refine lv_iload_n hx hb dX4_isFreshAnew_1 rfl (lv_at hl 1 rfl) ?_
  refine wx_cq (vX4_63 F hTB hS (c_X4_imageAt l hlt D cy ad S X T o A hj hA hwf hxr hin (i) (by have q0 := ri; exact ⟨by omega, by omega⟩)) ⟨by decide, by decide⟩ ⟨rfl, rfl⟩ hw hw rfl rfl rfl (Nat.le_of_ble_eq_true rfl) hl.1 dX4_isFreshAnew_2 ⟨(Nat.le_of_ble_eq_true rfl), (Nat.le_of_ble_eq_true rfl)⟩) hS (fun E ce q9 u H1 locs1 hE hk0 hp hB hS1 hce hcv hcl => wx_prop (ad, X) F hno hE (by have hni : ¬ f_isImage S i := fun hq => hk0 (if_pos hq); rw [show k_img S i = 1 from if_neg hni, if_neg hni]; exact ⟨rfl, by decide⟩) ⟨hxr, hj, x_ext.rf S ad⟩ hB hS1 hce hcv hcl (Nat.le_of_ble_eq_true rfl) (Nat.le_of_ble_eq_true rfl)) (fun locs hK2 hS => ?_)
  have hK2 : f_isImage S i := hK2
  refine W.eq (g2 := F0 m 5 ls [.ref (ad 1 i.toNat)]) rfl ?_
  refine lv_astore_n (lv' := [(2, .ref (ad 1 i.toNat)), (0, .ref (ad 0 0)), (1, .int (iI i))]) hx hb dX4_isFreshAnew_5 rfl hl (by decide) rfl (fun ls hl => ?_)
  rw [show Value.ref (ad 1 i.toNat) = va_rf (wa_op ad 1 i) from (wa_op_ref hK2.1).symm] at hl
  have hl : lv_has ls 3 [(2, va_rf (wa_op ad 1 i)), (0, .ref (ad 0 0)), (1, .int (iI i))] := hl
  have loop6 : ∀ (k : Nat) (zz : Int) (X0 : wa_St) (H : Heap) (locs : List Loc), (-1 ≤ zz ∧ zz < S 8 0) → (zz < (k : Int)) → (x_mds S k zz = x_mds S 10 i) → (xr S X0) → wa_wd D ad (wW cy ad S X0 T o) H → va_S A s.heap H locs → ∀ ls : Array Slot, lv_has ls 3 [(0, .ref (ad 0 0)), (1, .int (iI i)), (2, va_rf (wa_op ad 1 zz))] → W p l e ({ frames := 7, cells := 1, slots := 6, locals := 104 } : Room) s m args below meth c H locs (0 + 1) (0 + 6) (vx_MQ below (va_Qi (fun r (u : (Nat → Nat → Nat) × wa_St) => r = iI (bI (x_mds S 10 i = true)) ∧ k_img S i = 0 ∧ wx_P A cy ad T o S (S) u) (fun u t => wx_B D cy T o (S) u t.heap) A) (wx_XC A exA (k_img S i) (wx_P A cy ad T o S S) (wx_B D cy T o S)) args s 1 6 A) (F0 m 6 ls []) := by
    intro k
    induction k with
    | zero =>
      intro zz X0 H locs rzz hzk hz hxr0 hw hS ls hl
      obtain ⟨hx1, hXB, hx11, hx12, hx13, hx14, hx15, hx16⟩ := id hxr0
      refine wa_ldq_n F dX4_isFreshAnew_6 rfl (lv_at hl 2 rfl) ?_
      refine wa_nu_op (tgt := 28) F dX4_isFreshAnew_7 (by decide) (fun c7 => ?_) (fun c7 => absurd c7 (by omega))
      refine wa_const F dX4_isFreshAnew_28 ?_
      exact wx_rZ (ad, X0) F (by decide) ⟨congrArg iI (bI_t (by rw [← hz]; first | rfl | (simp only [x_mds]; rw [decide_eq_true c7]; rfl))).symm, (if_pos hK2), ⟨hxr0, (wj_of hj rfl rfl rfl), x_ext.rf S ad⟩⟩ hw hS (Nat.le_of_ble_eq_true rfl) (Nat.le_of_ble_eq_true rfl) dX4_isFreshAnew_29
    | succ k ih6 =>
      intro zz X0 H locs rzz hzk hz hxr0 hw hS ls hl
      obtain ⟨hx1, hXB, hx11, hx12, hx13, hx14, hx15, hx16⟩ := id hxr0
      refine wa_ldq_n F dX4_isFreshAnew_6 rfl (lv_at hl 2 rfl) ?_
      refine wa_nu_op (tgt := 28) F dX4_isFreshAnew_7 (by decide) (fun c7 => ?_) (fun c7 => ?_)
      · skip
        refine wa_const F dX4_isFreshAnew_28 ?_
        exact wx_rZ (ad, X0) F (by decide) ⟨congrArg iI (bI_t (by rw [← hz]; first | rfl | (simp only [x_mds]; rw [decide_eq_true c7]; rfl))).symm, (if_pos hK2), ⟨hxr0, (wj_of hj rfl rfl rfl), x_ext.rf S ad⟩⟩ hw hS (Nat.le_of_ble_eq_true rfl) (Nat.le_of_ble_eq_true rfl) dX4_isFreshAnew_29
      · skip
        rw [wa_op_ref (ad := ad) (kd := 1) c7] at hl
        have hl : lv_has ls 3 [(0, .ref (ad 0 0)), (1, .int (iI i)), (2, .ref (ad 1 (zz.toNat)))] := hl
        refine lv_aload_n hx hb dX4_isFreshAnew_10 rfl (lv_at hl 0 rfl) ?_
        refine lv_aload_n hx hb dX4_isFreshAnew_11 rfl (lv_at hl 2 rfl) ?_
        refine wx_ci (kX4_135 F (c_X4_isMadeAsNow l D cy ad S X0 T o A (wj_of hj rfl rfl rfl) hwf hxr0 hin (zz.toNat) (show ((zz.toNat : Nat) : Int) < S 8 0 by have q3 := rzz; have q4 := c7; omega)) ⟨by decide, by decide⟩ ⟨rfl, rfl⟩ hw hw rfl rfl rfl (Nat.le_of_ble_eq_true rfl) hl.1 dX4_isFreshAnew_12 ⟨Nat.le_of_ble_eq_true rfl, Nat.le_of_ble_eq_true rfl⟩) hS (fun X1_1 H locs hP hw hS => ?_)
        have hxr_X1_1 := hP
        obtain ⟨hx1, hXB, hx11, hx12, hx13, hx14, hx15, hx16⟩ := id hxr_X1_1
        by_cases b12 : x_made S (zz.toNat)
        · rw [bI_t b12]
          refine wa_if_ne (tgt := 20) F dX4_isFreshAnew_15 (by decide) (by decide) (fun c15 => ?_) (fun c15 => absurd c15 (by decide))
          refine lv_aload_n hx hb dX4_isFreshAnew_20 rfl (lv_at hl 2 rfl) ?_
          refine gX4_99 F hw (wW_1 (show ((zz.toNat : Nat) : Int) < S 8 0 by have q3 := rzz; have q4 := c7; omega)) (v := va_rf (wa_op ad 1 (S 4 (zz.toNat)))) rfl dX4_isFreshAnew_21 ?_
          refine wa_stq_n (lv' := [(2, va_rf (wa_op ad 1 (S 4 (zz.toNat)))), (0, .ref (ad 0 0)), (1, .int (iI i))]) F dX4_isFreshAnew_24 rfl hl (by decide) rfl (fun ls hl => ?_)
          refine wa_goto (tgt := 6) F dX4_isFreshAnew_25 (by decide) ?_
          exact ih6 (S 4 (zz.toNat)) X1_1 _ _ (show -1 ≤ S 4 zz.toNat ∧ S 4 zz.toNat < S 8 0 by have q := w4 zz.toNat (by omega); omega) (by have q := w4 zz.toNat (by omega); omega) (by rw [← hz]; simp only [x_mds]; rw [decide_eq_false (show ¬ zz < 0 by omega), decide_eq_true b12]; simp) hxr_X1_1 hw hS ls (lv_sub hl [1, 2, 0] rfl)
        · rw [bI_f b12]
          refine wa_if_ne (tgt := 20) F dX4_isFreshAnew_15 (by decide) (by decide) (fun c15 => absurd c15 (by decide)) (fun c15 => ?_)
          refine wa_const F dX4_isFreshAnew_18 ?_
          exact wx_rZ (ad, X1_1) F (by decide) ⟨congrArg iI (bI_f (by rw [← hz]; simp only [x_mds]; rw [decide_eq_false (show ¬ zz < 0 by omega), decide_eq_false b12]; simp)).symm, (if_pos hK2), ⟨hxr_X1_1, (wj_of hj rfl rfl rfl), x_ext.rf S ad⟩⟩ hw hS (Nat.le_of_ble_eq_true rfl) (Nat.le_of_ble_eq_true rfl) dX4_isFreshAnew_19
  exact loop6 (10) i X _ _ (by have := hK2; omega) (by have := hK2; omega) rfl hxr hw hS ls (lv_sub hl [1, 2, 0] rfl)
