/-! contracts of the class: public methods, sixth part: bake (laid by program) -/
def j_bake (S : wa_St) (i : Int) : Int := if ¬ f_isImage S i then 1 else if (0 ≤ S 4 i.toNat ∧ S 7 (S 4 i.toNat).toNat < 0) ∨ (x_needs S i.toNat ∧ 60 ≤ S 21 0) then 2 else 0
theorem x_make_6 {S : wa_St} (hwf : wf S) {i : Nat} (hi : (i : Int) < S 8 0) (l5 : S 12 0 ≤ 295) : m_inv S 0 (f_mk (S 6 i).toNat (5 * i) S (x_begin S i)).1 (f_mk (S 6 i).toNat (5 * i) S (x_begin S i)).2 := by
  have w6 := hwf.2.2.2.2.2.2.2.1 i
  exact f_mk_inv (T := S) (S 6 i).toNat (5 * i) S (x_begin S i) ⟨fun _ _ _ _ _ _ => rfl, hwf, by omega, x_begin_lt hwf hi⟩
theorem wf_bn {S : wa_St} (hwf : wf S) (l5 : S 21 0 < 60 → S 12 0 ≤ 295) {z : Int} (hz : -1 ≤ z ∧ z < S 8 0) : wf (x_bn S z) ∧ x_bn S z 8 0 = S 8 0 ∧ S 21 0 ≤ x_bn S z 21 0 ∧ x_bn S z 29 0 = S 29 0 := by
  unfold x_bn
  by_cases q : 0 ≤ z ∧ x_needs S z.toNat ∧ S 21 0 < 60
  · rw [if_pos q]
    have hm := x_make_6 hwf (i := z.toNat) (by omega) (l5 q.2.2)
    unfold x_make
    generalize (f_mk (S 6 z.toNat).toNat (5 * z.toNat) S (x_begin S z.toNat)).1 = S1 at *
    generalize (f_mk (S 6 z.toNat).toNat (5 * z.toNat) S (x_begin S z.toNat)).2 = tz at *
    have e8 := hm.1 8 0 (by decide) (by decide) (by decide) (by decide)
    have e21 := hm.1 21 0 (by decide) (by decide) (by decide) (by decide)
    have e29 := hm.1 29 0 (by decide) (by decide) (by decide) (by decide)
    refine ⟨wf_newB hm.2.1 (by omega) (by omega) hm.2.2.2, (f_newB_o (by decide)).trans e8, ?_, (f_newB_o (by decide)).trans e29⟩
    rw [show f_newB S1 z.toNat tz 21 0 = S1 21 0 + 1 from wa_s_eq]
    omega
  · rw [if_neg q]
    exact ⟨hwf, rfl, Int.le_refl _, rfl⟩

set_option maxRecDepth 100000 in
set_option maxHeartbeats 4000000 in
/-- bake -/
theorem c_X4_bake (l : Launch) (hlt : l.stackTraces = false) (D : va_G) (cy : Nat → ClassId) (ad : Nat → Nat → Nat) (S X T : wa_St) (o : Int64) (A : Nat → Prop) (hj : wa_wj A ad (wW cy ad S X T o)) (hA : wa_Up A) (hwf : wf S) (hxr : xr S X) (hin : wx_inj ad S) (i : Int) (ri : wa_r i) (l5 : S 21 0 < 60 → S 12 0 ≤ 295) : vx_Met l yX4_bake wX4_bake ({ frames := 7, cells := 3, slots := 18, locals := 141 } : Room) (wx_pc [.ref (ad 0 0), .int (iI i)] D cy A (fun H => wa_wd D ad (wW cy ad S X T o) H)) (va_Qi (fun r (u : (Nat → Nat → Nat) × wa_St) => r = iI ((x_bn S i) 7 i.toNat) ∧ j_bake S i = 0 ∧ wx_P A cy ad T o S (x_bn S i) u) (fun u t => wx_B D cy T o (x_bn S i) u t.heap) A) (wx_XC A exB (j_bake S i) (wx_P A cy ad T o S S) (wx_B D cy T o S)) 3 18 A := by
  refine wx_en (by decide +kernel) (Nat.le_of_ble_eq_true rfl) ?_
  intro p e s m args below meth c F hTB hno hw ls hl
  have F : wa_fx p s m c meth args cX4_bake 3 RX4 "bake" (Option.some FieldType.int) D cy := F
  have hw : wa_wd D ad (wW cy ad S X T o) s.heap := hw
  have hl : lv_has ls 3 [(0, .ref (ad 0 0)), (1, .int (iI i))] := hl
  obtain ⟨hx, hb, hml, hown, hts⟩ := id F.1
  obtain ⟨hSB, w8, w21, w12, w29, w4, w7, w6, w5, w13, w25, w26, w28, w14, w3, wf17⟩ := id hwf
  obtain ⟨hx1, hXB, hx11, hx12, hx13, hx14, hx15, hx16⟩ := id hxr
  have hS : va_S A s.heap s.heap [] := va_S.rf
  refine lv_aload_n hx hb dX4_bake_0 rfl (lv_at hl 0 rfl) ?_
  refine lv_iload_n hx hb dX4_bake_1 rfl (lv_at hl 1 rfl) ?_
  refine wx_cq (vX4_63 F hTB hS (c_X4_imageAt l hlt D cy ad S X T o A hj hA hwf hxr hin (i) (by have q0 := ri; exact ⟨by omega, by omega⟩)) ⟨by decide, by decide⟩ ⟨rfl, rfl⟩ hw hw rfl rfl rfl (Nat.le_of_ble_eq_true rfl) hl.1 dX4_bake_2 ⟨(Nat.le_of_ble_eq_true rfl), (Nat.le_of_ble_eq_true rfl)⟩) hS (fun E ce q9 u H1 locs1 hE hk0 hp hB hS1 hce hcv hcl => wx_prop (ad, X) F hno hE (by have hni : ¬ f_isImage S i := fun hq => hk0 (if_pos hq); rw [show j_bake S i = 1 from if_pos hni, if_neg hni]; exact ⟨rfl, by decide⟩) ⟨hxr, hj, x_ext.rf S ad⟩ hB hS1 hce hcv hcl (Nat.le_of_ble_eq_true rfl) (Nat.le_of_ble_eq_true rfl)) (fun locs hK2 hS => ?_)
  have hK2 : f_isImage S i := hK2
  refine W.eq (g2 := F0 m 5 ls [.ref (ad 1 i.toNat)]) rfl ?_
  refine lv_astore_n (lv' := [(2, .ref (ad 1 i.toNat)), (0, .ref (ad 0 0)), (1, .int (iI i))]) hx hb dX4_bake_5 rfl hl (by decide) rfl (fun ls hl => ?_)
  refine lv_aload_n hx hb dX4_bake_6 rfl (lv_at hl 0 rfl) ?_
  refine gX4_99 F hw (wW_1 (show ((i.toNat : Nat) : Int) < S 8 0 by have q := hK2; omega)) (v := va_rf (wa_op ad 1 (S 4 (i.toNat)))) rfl dX4_bake_7 ?_
  refine wa_nu_op (tgt := 33) F dX4_bake_10 (by decide) (fun c10 => ?_) (fun c10 => ?_)
  · skip
    refine lv_aload_n hx hb dX4_bake_33 rfl (lv_at hl 1 rfl) ?_
    refine lv_aload_n hx hb dX4_bake_34 rfl (lv_at hl 0 rfl) ?_
    refine wa_cp (kX4_109 F (c_X4_wouldMakeBake l D cy ad S X T o hwf hxr hin (i.toNat) (show ((i.toNat : Nat) : Int) < S 8 0 by have q := hK2; omega)) ⟨by decide, by decide⟩ ⟨rfl, rfl⟩ hw hw rfl rfl rfl (Nat.le_of_ble_eq_true rfl) hl.1 dX4_bake_35 ⟨Nat.le_of_ble_eq_true rfl, Nat.le_of_ble_eq_true rfl⟩) ?_
    by_cases b35 : x_needs S (i.toNat)
    · rw [bI_t b35]
      refine wa_if_eq (tgt := 60) F dX4_bake_38 (by decide) (by decide) (fun c38 => absurd c38 (by decide)) (fun c38 => ?_)
      refine lv_aload_n hx hb dX4_bake_41 rfl (lv_at hl 1 rfl) ?_
      refine gX4_113 F hw rfl (v := .int (iI (S 21 0))) rfl dX4_bake_42 ?_
      refine wa_bi F dX4_bake_45 (by decide +kernel) ?_
      refine wa_ic_lt (tgt := 60) F dX4_bake_47 (by decide) (by have q0 := hSB 21 0; exact ⟨by omega, by omega⟩) (by decide) (fun c47 => ?_) (fun c47 => ?_)
      · skip
        refine lv_aload_n hx hb dX4_bake_60 rfl (lv_at hl 1 rfl) ?_
        refine lv_aload_n hx hb dX4_bake_61 rfl (lv_at hl 0 rfl) ?_
        refine W.eq (g2 := F0 m 62 ls [va_rf (wa_op ad 1 i), .ref (ad 0 0)]) (by rw [wa_op_ref hK2.1]) ?_
        refine wa_cV (kX4_118 F (c_X4_bakeIfNeeded l D cy ad S X T o A hj hwf hxr hin hA i (show -1 ≤ i ∧ i < S 8 0 by have := hK2; omega) l5) ⟨by decide, by decide⟩ ⟨rfl, rfl⟩ hw hw rfl rfl rfl (Nat.le_of_ble_eq_true rfl) hl.1 dX4_bake_62 ⟨(Nat.le_of_ble_eq_true rfl), (Nat.le_of_ble_eq_true rfl)⟩) hS (fun u H locs hP hw hS hz9 => ?_)
        obtain ⟨ad2, X2⟩ := u
        obtain ⟨⟨hxr2, hj2, hex2⟩, -⟩ := hP
        have hwb := wf_bn hwf l5 (z := i) (by have := hK2; omega)
        have hi2 : ((i.toNat : Nat) : Int) < S 8 0 := by have := hK2; omega
        replace hw : wa_wd D ad2 (wW cy ad2 (x_bn S i) X2 T o) H := hw
        replace hj2 : wa_wj A ad2 (wW cy ad2 (x_bn S i) X2 T o) := hj2
        replace hex2 : x_ext S ad ad2 := hex2
        replace hxr2 : xr (x_bn S i) X2 := hxr2
        have hwf2 := hwb.1
        have hi3 : ((i.toNat : Nat) : Int) < x_bn S i 8 0 := by rw [hwb.2.1]; exact hi2
        refine lv_aload_n hx hb dX4_bake_65 rfl (lv_at hl 0 rfl) ?_
        refine W.eq (g2 := F0 m 66 ls [.ref (ad2 1 i.toNat)]) (by rw [(hex2.2.1 i.toNat hi2).1]) ?_
        refine gX4_103 (kd := 1) (i := i.toNat) (ad := ad2) F hw (wW_1 hi3) (v := va_rf (wa_op ad2 3 ((x_bn S i) 7 i.toNat))) rfl dX4_bake_66 ?_
        refine wa_cp (kX4_122 F (c_X4_numberOf l D cy ad2 (x_bn S i) X2 T o hwf2 hxr2 (wx_inj.of hj2) ((x_bn S i) 7 i.toNat) (hwf2.2.2.2.2.2.2.1 i.toNat hi3)) ⟨by decide, by decide⟩ ⟨rfl, rfl⟩ hw rfl rfl (Nat.le_of_ble_eq_true rfl) hl.1 dX4_bake_69 ⟨(Nat.le_of_ble_eq_true rfl), (Nat.le_of_ble_eq_true rfl)⟩) ?_
        exact wx_rI (ad2, X2) F ⟨rfl, (if_neg (not_not_intro hK2)).trans (if_neg (fun hq => hq.elim (fun g => by omega) (fun g => by omega))), ⟨hxr2, hj2, hex2⟩⟩ hw hS (Nat.le_of_ble_eq_true rfl) (Nat.le_of_ble_eq_true rfl) dX4_bake_72
      · skip
        exact tX4_70 (is := 116) (text := "there were 60 bakes") 2 (((if_neg (not_not_intro hK2)).trans (if_pos (Or.inr ⟨b35, by omega⟩)))) (by decide) rfl (ad, X) F hlt hTB (by decide) hS (wa_fresh hA hw hj (rfl : wW cy ad S X T o 0 0 = some (.inr (4, wx_fs ad S)))) hA hl.1 hno dX4_bake_50 dX4_bake_53 dX4_bake_54 dX4_bake_56 dX4_bake_59 (by decide) (Nat.le_of_ble_eq_true rfl) (Nat.le_of_ble_eq_true rfl) (Nat.le_of_ble_eq_true rfl) (Nat.le_of_ble_eq_true rfl) (Nat.le_of_ble_eq_true rfl) ⟨hxr, hj, x_ext.rf S ad⟩ (fun H1 hz hk => hw.grow hk)
    · rw [bI_f b35]
      refine wa_if_eq (tgt := 60) F dX4_bake_38 (by decide) (by decide) (fun c38 => ?_) (fun c38 => absurd c38 (by decide))
      refine lv_aload_n hx hb dX4_bake_60 rfl (lv_at hl 1 rfl) ?_
      refine lv_aload_n hx hb dX4_bake_61 rfl (lv_at hl 0 rfl) ?_
      refine W.eq (g2 := F0 m 62 ls [va_rf (wa_op ad 1 i), .ref (ad 0 0)]) (by rw [wa_op_ref hK2.1]) ?_
      refine wa_cV (kX4_118 F (c_X4_bakeIfNeeded l D cy ad S X T o A hj hwf hxr hin hA i (show -1 ≤ i ∧ i < S 8 0 by have := hK2; omega) l5) ⟨by decide, by decide⟩ ⟨rfl, rfl⟩ hw hw rfl rfl rfl (Nat.le_of_ble_eq_true rfl) hl.1 dX4_bake_62 ⟨(Nat.le_of_ble_eq_true rfl), (Nat.le_of_ble_eq_true rfl)⟩) hS (fun u H locs hP hw hS hz9 => ?_)
      obtain ⟨ad2, X2⟩ := u
      obtain ⟨⟨hxr2, hj2, hex2⟩, -⟩ := hP
      have hwb := wf_bn hwf l5 (z := i) (by have := hK2; omega)
      have hi2 : ((i.toNat : Nat) : Int) < S 8 0 := by have := hK2; omega
      replace hw : wa_wd D ad2 (wW cy ad2 (x_bn S i) X2 T o) H := hw
      replace hj2 : wa_wj A ad2 (wW cy ad2 (x_bn S i) X2 T o) := hj2
      replace hex2 : x_ext S ad ad2 := hex2
      replace hxr2 : xr (x_bn S i) X2 := hxr2
      have hwf2 := hwb.1
      have hi3 : ((i.toNat : Nat) : Int) < x_bn S i 8 0 := by rw [hwb.2.1]; exact hi2
      refine lv_aload_n hx hb dX4_bake_65 rfl (lv_at hl 0 rfl) ?_
      refine W.eq (g2 := F0 m 66 ls [.ref (ad2 1 i.toNat)]) (by rw [(hex2.2.1 i.toNat hi2).1]) ?_
      refine gX4_103 (kd := 1) (i := i.toNat) (ad := ad2) F hw (wW_1 hi3) (v := va_rf (wa_op ad2 3 ((x_bn S i) 7 i.toNat))) rfl dX4_bake_66 ?_
      refine wa_cp (kX4_122 F (c_X4_numberOf l D cy ad2 (x_bn S i) X2 T o hwf2 hxr2 (wx_inj.of hj2) ((x_bn S i) 7 i.toNat) (hwf2.2.2.2.2.2.2.1 i.toNat hi3)) ⟨by decide, by decide⟩ ⟨rfl, rfl⟩ hw rfl rfl (Nat.le_of_ble_eq_true rfl) hl.1 dX4_bake_69 ⟨(Nat.le_of_ble_eq_true rfl), (Nat.le_of_ble_eq_true rfl)⟩) ?_
      exact wx_rI (ad2, X2) F ⟨rfl, (if_neg (not_not_intro hK2)).trans (if_neg (fun hq => hq.elim (fun g => by omega) (fun g => b35 g.1))), ⟨hxr2, hj2, hex2⟩⟩ hw hS (Nat.le_of_ble_eq_true rfl) (Nat.le_of_ble_eq_true rfl) dX4_bake_72
  · skip
    refine lv_aload_n hx hb dX4_bake_13 rfl (lv_at hl 0 rfl) ?_
    refine gX4_99 F hw (wW_1 (show ((i.toNat : Nat) : Int) < S 8 0 by have q := hK2; omega)) (v := va_rf (wa_op ad 1 (S 4 (i.toNat)))) rfl dX4_bake_14 ?_
    rw [wa_op_ref c10]
    refine gX4_103 F hw (wW_1 (show (((S 4 (i.toNat)).toNat : Nat) : Int) < S 8 0 by have q3 := (show -1 ≤ (S 4 (i.toNat)) ∧ (S 4 (i.toNat)) < S 8 0 by have q := w4 (i.toNat) (show ((i.toNat : Nat) : Int) < S 8 0 by have q := hK2; omega); have q2 := (show ((i.toNat : Nat) : Int) < S 8 0 by have q := hK2; omega); omega); have q4 := c10; omega)) (v := va_rf (wa_op ad 3 (S 7 ((S 4 (i.toNat)).toNat)))) rfl dX4_bake_17 ?_
    refine wa_nn_op (tgt := 33) F dX4_bake_20 (by decide) (fun c20 => ?_) (fun c20 => ?_)
    · skip
      refine lv_aload_n hx hb dX4_bake_33 rfl (lv_at hl 1 rfl) ?_
      refine lv_aload_n hx hb dX4_bake_34 rfl (lv_at hl 0 rfl) ?_
      refine wa_cp (kX4_109 F (c_X4_wouldMakeBake l D cy ad S X T o hwf hxr hin (i.toNat) (show ((i.toNat : Nat) : Int) < S 8 0 by have q := hK2; omega)) ⟨by decide, by decide⟩ ⟨rfl, rfl⟩ hw hw rfl rfl rfl (Nat.le_of_ble_eq_true rfl) hl.1 dX4_bake_35 ⟨Nat.le_of_ble_eq_true rfl, Nat.le_of_ble_eq_true rfl⟩) ?_
      by_cases b35 : x_needs S (i.toNat)
      · rw [bI_t b35]
        refine wa_if_eq (tgt := 60) F dX4_bake_38 (by decide) (by decide) (fun c38 => absurd c38 (by decide)) (fun c38 => ?_)
        refine lv_aload_n hx hb dX4_bake_41 rfl (lv_at hl 1 rfl) ?_
        refine gX4_113 F hw rfl (v := .int (iI (S 21 0))) rfl dX4_bake_42 ?_
        refine wa_bi F dX4_bake_45 (by decide +kernel) ?_
        refine wa_ic_lt (tgt := 60) F dX4_bake_47 (by decide) (by have q0 := hSB 21 0; exact ⟨by omega, by omega⟩) (by decide) (fun c47 => ?_) (fun c47 => ?_)
        · skip
          refine lv_aload_n hx hb dX4_bake_60 rfl (lv_at hl 1 rfl) ?_
          refine lv_aload_n hx hb dX4_bake_61 rfl (lv_at hl 0 rfl) ?_
          refine W.eq (g2 := F0 m 62 ls [va_rf (wa_op ad 1 i), .ref (ad 0 0)]) (by rw [wa_op_ref hK2.1]) ?_
          refine wa_cV (kX4_118 F (c_X4_bakeIfNeeded l D cy ad S X T o A hj hwf hxr hin hA i (show -1 ≤ i ∧ i < S 8 0 by have := hK2; omega) l5) ⟨by decide, by decide⟩ ⟨rfl, rfl⟩ hw hw rfl rfl rfl (Nat.le_of_ble_eq_true rfl) hl.1 dX4_bake_62 ⟨(Nat.le_of_ble_eq_true rfl), (Nat.le_of_ble_eq_true rfl)⟩) hS (fun u H locs hP hw hS hz9 => ?_)
          obtain ⟨ad2, X2⟩ := u
          obtain ⟨⟨hxr2, hj2, hex2⟩, -⟩ := hP
          have hwb := wf_bn hwf l5 (z := i) (by have := hK2; omega)
          have hi2 : ((i.toNat : Nat) : Int) < S 8 0 := by have := hK2; omega
          replace hw : wa_wd D ad2 (wW cy ad2 (x_bn S i) X2 T o) H := hw
          replace hj2 : wa_wj A ad2 (wW cy ad2 (x_bn S i) X2 T o) := hj2
          replace hex2 : x_ext S ad ad2 := hex2
          replace hxr2 : xr (x_bn S i) X2 := hxr2
          have hwf2 := hwb.1
          have hi3 : ((i.toNat : Nat) : Int) < x_bn S i 8 0 := by rw [hwb.2.1]; exact hi2
          refine lv_aload_n hx hb dX4_bake_65 rfl (lv_at hl 0 rfl) ?_
          refine W.eq (g2 := F0 m 66 ls [.ref (ad2 1 i.toNat)]) (by rw [(hex2.2.1 i.toNat hi2).1]) ?_
          refine gX4_103 (kd := 1) (i := i.toNat) (ad := ad2) F hw (wW_1 hi3) (v := va_rf (wa_op ad2 3 ((x_bn S i) 7 i.toNat))) rfl dX4_bake_66 ?_
          refine wa_cp (kX4_122 F (c_X4_numberOf l D cy ad2 (x_bn S i) X2 T o hwf2 hxr2 (wx_inj.of hj2) ((x_bn S i) 7 i.toNat) (hwf2.2.2.2.2.2.2.1 i.toNat hi3)) ⟨by decide, by decide⟩ ⟨rfl, rfl⟩ hw rfl rfl (Nat.le_of_ble_eq_true rfl) hl.1 dX4_bake_69 ⟨(Nat.le_of_ble_eq_true rfl), (Nat.le_of_ble_eq_true rfl)⟩) ?_
          exact wx_rI (ad2, X2) F ⟨rfl, (if_neg (not_not_intro hK2)).trans (if_neg (fun hq => hq.elim (fun g => by omega) (fun g => by omega))), ⟨hxr2, hj2, hex2⟩⟩ hw hS (Nat.le_of_ble_eq_true rfl) (Nat.le_of_ble_eq_true rfl) dX4_bake_72
        · skip
          exact tX4_70 (is := 116) (text := "there were 60 bakes") 2 (((if_neg (not_not_intro hK2)).trans (if_pos (Or.inr ⟨b35, by omega⟩)))) (by decide) rfl (ad, X) F hlt hTB (by decide) hS (wa_fresh hA hw hj (rfl : wW cy ad S X T o 0 0 = some (.inr (4, wx_fs ad S)))) hA hl.1 hno dX4_bake_50 dX4_bake_53 dX4_bake_54 dX4_bake_56 dX4_bake_59 (by decide) (Nat.le_of_ble_eq_true rfl) (Nat.le_of_ble_eq_true rfl) (Nat.le_of_ble_eq_true rfl) (Nat.le_of_ble_eq_true rfl) (Nat.le_of_ble_eq_true rfl) ⟨hxr, hj, x_ext.rf S ad⟩ (fun H1 hz hk => hw.grow hk)
      · rw [bI_f b35]
        refine wa_if_eq (tgt := 60) F dX4_bake_38 (by decide) (by decide) (fun c38 => ?_) (fun c38 => absurd c38 (by decide))
        refine lv_aload_n hx hb dX4_bake_60 rfl (lv_at hl 1 rfl) ?_
        refine lv_aload_n hx hb dX4_bake_61 rfl (lv_at hl 0 rfl) ?_
        refine W.eq (g2 := F0 m 62 ls [va_rf (wa_op ad 1 i), .ref (ad 0 0)]) (by rw [wa_op_ref hK2.1]) ?_
        refine wa_cV (kX4_118 F (c_X4_bakeIfNeeded l D cy ad S X T o A hj hwf hxr hin hA i (show -1 ≤ i ∧ i < S 8 0 by have := hK2; omega) l5) ⟨by decide, by decide⟩ ⟨rfl, rfl⟩ hw hw rfl rfl rfl (Nat.le_of_ble_eq_true rfl) hl.1 dX4_bake_62 ⟨(Nat.le_of_ble_eq_true rfl), (Nat.le_of_ble_eq_true rfl)⟩) hS (fun u H locs hP hw hS hz9 => ?_)
        obtain ⟨ad2, X2⟩ := u
        obtain ⟨⟨hxr2, hj2, hex2⟩, -⟩ := hP
        have hwb := wf_bn hwf l5 (z := i) (by have := hK2; omega)
        have hi2 : ((i.toNat : Nat) : Int) < S 8 0 := by have := hK2; omega
        replace hw : wa_wd D ad2 (wW cy ad2 (x_bn S i) X2 T o) H := hw
        replace hj2 : wa_wj A ad2 (wW cy ad2 (x_bn S i) X2 T o) := hj2
        replace hex2 : x_ext S ad ad2 := hex2
        replace hxr2 : xr (x_bn S i) X2 := hxr2
        have hwf2 := hwb.1
        have hi3 : ((i.toNat : Nat) : Int) < x_bn S i 8 0 := by rw [hwb.2.1]; exact hi2
        refine lv_aload_n hx hb dX4_bake_65 rfl (lv_at hl 0 rfl) ?_
        refine W.eq (g2 := F0 m 66 ls [.ref (ad2 1 i.toNat)]) (by rw [(hex2.2.1 i.toNat hi2).1]) ?_
        refine gX4_103 (kd := 1) (i := i.toNat) (ad := ad2) F hw (wW_1 hi3) (v := va_rf (wa_op ad2 3 ((x_bn S i) 7 i.toNat))) rfl dX4_bake_66 ?_
        refine wa_cp (kX4_122 F (c_X4_numberOf l D cy ad2 (x_bn S i) X2 T o hwf2 hxr2 (wx_inj.of hj2) ((x_bn S i) 7 i.toNat) (hwf2.2.2.2.2.2.2.1 i.toNat hi3)) ⟨by decide, by decide⟩ ⟨rfl, rfl⟩ hw rfl rfl (Nat.le_of_ble_eq_true rfl) hl.1 dX4_bake_69 ⟨(Nat.le_of_ble_eq_true rfl), (Nat.le_of_ble_eq_true rfl)⟩) ?_
        exact wx_rI (ad2, X2) F ⟨rfl, (if_neg (not_not_intro hK2)).trans (if_neg (fun hq => hq.elim (fun g => by omega) (fun g => b35 g.1))), ⟨hxr2, hj2, hex2⟩⟩ hw hS (Nat.le_of_ble_eq_true rfl) (Nat.le_of_ble_eq_true rfl) dX4_bake_72
    · skip
      exact tX4_70 (is := 107) (text := "the parent was not baked") 2 (((if_neg (not_not_intro hK2)).trans (if_pos (Or.inl (by omega))))) (by decide) rfl (ad, X) F hlt hTB (by decide) hS (wa_fresh hA hw hj (rfl : wW cy ad S X T o 0 0 = some (.inr (4, wx_fs ad S)))) hA hl.1 hno dX4_bake_23 dX4_bake_26 dX4_bake_27 dX4_bake_29 dX4_bake_32 (by decide) (Nat.le_of_ble_eq_true rfl) (Nat.le_of_ble_eq_true rfl) (Nat.le_of_ble_eq_true rfl) (Nat.le_of_ble_eq_true rfl) (Nat.le_of_ble_eq_true rfl) ⟨hxr, hj, x_ext.rf S ad⟩ (fun H1 hz hk => hw.grow hk)
