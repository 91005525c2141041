/-! contracts of the class: imageAt and its like (laid by program) -/
set_option maxRecDepth 100000 in
set_option maxHeartbeats 4000000 in
/-- imageAt -/
theorem c_X4_imageAt (l : Launch) (hlt : l.stackTraces = false) (D : va_G) (cy : Nat → ClassId) (ad : Nat → Nat → Nat) (S X T : wa_St) (o : Int64) (A : Nat → Prop) (hj : wa_wj A ad (wW cy ad S X T o)) (hA : wa_Up A) (hwf : wf S) (hxr : xr S X) (hin : wx_inj ad S) (z : Int) (rz : wa_r z) : vx_Met l yX4_imageAt wX4_imageAt ({ frames := 6, cells := 1, slots := 6, locals := 82 } : Room) (wx_pc [.ref (ad 0 0), .int (iI z)] D cy A (fun H => wa_wd D ad (wW cy ad S X T o) H)) (va_Sq (fun r => r = some (ad 1 z.toNat) ∧ f_isImage S z)) (wx_XC A exA ((if f_isImage S z then 0 else 1)) (fun (_ : Unit) => True) (fun _ H => wa_wd D ad (wW cy ad S X T o) H)) 1 6 A := by
  refine wx_en (by decide +kernel) (Nat.le_of_ble_eq_true rfl) ?_
  intro p e s m args below meth c F hTB hno hw ls hl
  have F : wa_fx p s m c meth args cX4_imageAt 3 RX4 "imageAt" (Option.some (FieldType.object "ImageBaker$Image")) D cy := F
  have hw : wa_wd D ad (wW cy ad S X T o) s.heap := hw
  have hl : lv_has ls 3 [(0, .ref (ad 0 0)), (1, .int (iI z))] := hl
  obtain ⟨hx, hb, hml, hown, hts⟩ := id F.1
  obtain ⟨hSB, w8, w21, w12, w29, w4, w7, w6, w5, w13, w25, w26, w28, w14, w3, wf17⟩ := id hwf
  obtain ⟨hx1, hXB, hx11, hx12, hx13, hx14, hx15, hx16⟩ := id hxr
  have hS : va_S A s.heap s.heap [] := va_S.rf
  refine lv_iload_n hx hb dX4_imageAt_0 rfl (lv_at hl 1 rfl) ?_
  refine wa_if_lt (tgt := 22) F dX4_imageAt_1 (by decide) (by have q0 := rz; exact ⟨by omega, by omega⟩) (fun c1 => ?_) (fun c1 => ?_)
  · skip
    refine lv_null hx hb dX4_imageAt_22 ?_
    refine lv_astore_nN (lv' := [(2, .null), (0, .ref (ad 0 0)), (1, .int (iI z))]) hx hb dX4_imageAt_23 rfl hl (by decide) rfl (fun ls hl => ?_)
    refine lv_aload_nN hx hb dX4_imageAt_24 rfl (lv_at hl 0 rfl) ?_
    refine lv_ifnonnullN hx hb dX4_imageAt_25 ?_
    exact tX4_240 (is := 245) (text := "there is no such image") 1 (if_neg (fun hq => by omega)) (by decide) rfl () F hlt hTB (by decide) hS (wa_fresh hA hw hj (rfl : wW cy ad S X T o 0 0 = some (.inr (4, wx_fs ad S)))) hA hl.1 hno dX4_imageAt_28 dX4_imageAt_31 dX4_imageAt_32 dX4_imageAt_34 dX4_imageAt_37 (by decide) (Nat.le_of_ble_eq_true rfl) (Nat.le_of_ble_eq_true rfl) (Nat.le_of_ble_eq_true rfl) (Nat.le_of_ble_eq_true rfl) (Nat.le_of_ble_eq_true rfl) trivial (fun H1 hz hk => hw.grow hk)
  · skip
    refine lv_iload_n hx hb dX4_imageAt_4 rfl (lv_at hl 1 rfl) ?_
    refine lv_aload_n hx hb dX4_imageAt_5 rfl (lv_at hl 0 rfl) ?_
    refine gX4_25 F hw rfl (v := .ref (ad 0 7)) rfl dX4_imageAt_6 ?_
    refine wa_alen (t0 := 3) F hw rfl rfl 10 rfl (by decide) dX4_imageAt_9 ?_
    refine W.eq (g2 := F0 m 10 ls [.int (iI 10), .int (iI z)]) rfl ?_
    refine wa_ic_ge (tgt := 22) F dX4_imageAt_10 (by decide) (by have q0 := rz; exact ⟨by omega, by omega⟩) (by decide) (fun c10 => ?_) (fun c10 => ?_)
    · skip
      refine lv_null hx hb dX4_imageAt_22 ?_
      refine lv_astore_nN (lv' := [(2, .null), (0, .ref (ad 0 0)), (1, .int (iI z))]) hx hb dX4_imageAt_23 rfl hl (by decide) rfl (fun ls hl => ?_)
      refine lv_aload_nN hx hb dX4_imageAt_24 rfl (lv_at hl 0 rfl) ?_
      refine lv_ifnonnullN hx hb dX4_imageAt_25 ?_
      exact tX4_240 (is := 245) (text := "there is no such image") 1 (if_neg (fun hq => by omega)) (by decide) rfl () F hlt hTB (by decide) hS (wa_fresh hA hw hj (rfl : wW cy ad S X T o 0 0 = some (.inr (4, wx_fs ad S)))) hA hl.1 hno dX4_imageAt_28 dX4_imageAt_31 dX4_imageAt_32 dX4_imageAt_34 dX4_imageAt_37 (by decide) (Nat.le_of_ble_eq_true rfl) (Nat.le_of_ble_eq_true rfl) (Nat.le_of_ble_eq_true rfl) (Nat.le_of_ble_eq_true rfl) (Nat.le_of_ble_eq_true rfl) trivial (fun H1 hz hk => hw.grow hk)
    · skip
      refine lv_aload_n hx hb dX4_imageAt_13 rfl (lv_at hl 0 rfl) ?_
      refine gX4_25 F hw rfl (v := .ref (ad 0 7)) rfl dX4_imageAt_14 ?_
      refine lv_iload_n hx hb dX4_imageAt_17 rfl (lv_at hl 1 rfl) ?_
      refine wa_aald (g := (wx_in ad 1 (S 8 0))) (t0 := 3) F hw rfl rfl ((z).toNat) (by have q0 := rz; omega) (by have q0 := rz; omega) (by decide) dX4_imageAt_18 ?_
      refine wa_goto (tgt := 23) F dX4_imageAt_19 (by decide) ?_
      refine wa_stq_n (lv' := [(2, va_rf (wx_in ad 1 (S 8 0) ((z).toNat))), (0, .ref (ad 0 0)), (1, .int (iI z))]) F dX4_imageAt_23 rfl hl (by decide) rfl (fun ls hl => ?_)
      refine wa_ldq_n F dX4_imageAt_24 rfl (lv_at hl 0 rfl) ?_
      refine wa_nn_in (tgt := 38) F dX4_imageAt_25 (by decide) (fun c25 => ?_) (fun c25 => ?_)
      · skip
        rw [wx_in_ref (ad := ad) (kd := 1) c25] at hl
        have hl : lv_has ls 3 [(2, .ref (ad 1 ((z).toNat))), (0, .ref (ad 0 0)), (1, .int (iI z))] := hl
        refine lv_aload_n hx hb dX4_imageAt_38 rfl (lv_at hl 0 rfl) ?_
        exact wx_er F rfl (by omega) dX4_imageAt_39 hS (Nat.le_of_ble_eq_true rfl) (Nat.le_of_ble_eq_true rfl)
      · skip
        exact tX4_240 (is := 245) (text := "there is no such image") 1 (if_neg (fun hq => by omega)) (by decide) rfl () F hlt hTB (by decide) hS (wa_fresh hA hw hj (rfl : wW cy ad S X T o 0 0 = some (.inr (4, wx_fs ad S)))) hA hl.1 hno dX4_imageAt_28 dX4_imageAt_31 dX4_imageAt_32 dX4_imageAt_34 dX4_imageAt_37 (by decide) (Nat.le_of_ble_eq_true rfl) (Nat.le_of_ble_eq_true rfl) (Nat.le_of_ble_eq_true rfl) (Nat.le_of_ble_eq_true rfl) (Nat.le_of_ble_eq_true rfl) trivial (fun H1 hz hk => hw.grow hk)
set_option maxRecDepth 100000 in
set_option maxHeartbeats 4000000 in
/-- bakeAt -/
theorem c_X4_bakeAt (l : Launch) (hlt : l.stackTraces = false) (D : va_G) (cy : Nat → ClassId) (ad : Nat → Nat → Nat) (S X T : wa_St) (o : Int64) (A : Nat → Prop) (hj : wa_wj A ad (wW cy ad S X T o)) (hA : wa_Up A) (hwf : wf S) (hxr : xr S X) (hin : wx_inj ad S) (z : Int) (rz : wa_r z) : vx_Met l yX4_bakeAt wX4_bakeAt ({ frames := 6, cells := 1, slots := 6, locals := 82 } : Room) (wx_pc [.ref (ad 0 0), .int (iI z)] D cy A (fun H => wa_wd D ad (wW cy ad S X T o) H)) (va_Sq (fun r => r = some (ad 3 z.toNat) ∧ f_isBake S z)) (wx_XC A exA ((if f_isBake S z then 0 else 1)) (fun (_ : Unit) => True) (fun _ H => wa_wd D ad (wW cy ad S X T o) H)) 1 6 A := by
  refine wx_en (by decide +kernel) (Nat.le_of_ble_eq_true rfl) ?_
  intro p e s m args below meth c F hTB hno hw ls hl
  have F : wa_fx p s m c meth args cX4_bakeAt 3 RX4 "bakeAt" (Option.some (FieldType.object "ImageBaker$Bake")) D cy := F
  have hw : wa_wd D ad (wW cy ad S X T o) s.heap := hw
  have hl : lv_has ls 3 [(0, .ref (ad 0 0)), (1, .int (iI z))] := hl
  obtain ⟨hx, hb, hml, hown, hts⟩ := id F.1
  obtain ⟨hSB, w8, w21, w12, w29, w4, w7, w6, w5, w13, w25, w26, w28, w14, w3, wf17⟩ := id hwf
  obtain ⟨hx1, hXB, hx11, hx12, hx13, hx14, hx15, hx16⟩ := id hxr
  have hS : va_S A s.heap s.heap [] := va_S.rf
  refine lv_iload_n hx hb dX4_bakeAt_0 rfl (lv_at hl 1 rfl) ?_
  refine wa_if_lt (tgt := 22) F dX4_bakeAt_1 (by decide) (by have q0 := rz; exact ⟨by omega, by omega⟩) (fun c1 => ?_) (fun c1 => ?_)
  · skip
    refine lv_null hx hb dX4_bakeAt_22 ?_
    refine lv_astore_nN (lv' := [(2, .null), (0, .ref (ad 0 0)), (1, .int (iI z))]) hx hb dX4_bakeAt_23 rfl hl (by decide) rfl (fun ls hl => ?_)
    refine lv_aload_nN hx hb dX4_bakeAt_24 rfl (lv_at hl 0 rfl) ?_
    refine lv_ifnonnullN hx hb dX4_bakeAt_25 ?_
    exact tX4_240w (is := 293) (text := "there never was such a bake") 1 (if_neg (fun hq => by omega)) (by decide) rfl () F hlt hTB (by decide) hS (wa_fresh hA hw hj (rfl : wW cy ad S X T o 0 0 = some (.inr (4, wx_fs ad S)))) hA hl.1 hno dX4_bakeAt_28 dX4_bakeAt_31 dX4_bakeAt_32 dX4_bakeAt_35 dX4_bakeAt_38 (by decide) (Nat.le_of_ble_eq_true rfl) (Nat.le_of_ble_eq_true rfl) (Nat.le_of_ble_eq_true rfl) (Nat.le_of_ble_eq_true rfl) (Nat.le_of_ble_eq_true rfl) trivial (fun H1 hz hk => hw.grow hk)
  · skip
    refine lv_iload_n hx hb dX4_bakeAt_4 rfl (lv_at hl 1 rfl) ?_
    refine lv_aload_n hx hb dX4_bakeAt_5 rfl (lv_at hl 0 rfl) ?_
    refine gX4_31 F hw rfl (v := .ref (ad 0 8)) rfl dX4_bakeAt_6 ?_
    refine wa_alen (t0 := 2) F hw rfl rfl 60 rfl (by decide) dX4_bakeAt_9 ?_
    refine W.eq (g2 := F0 m 10 ls [.int (iI 60), .int (iI z)]) rfl ?_
    refine wa_ic_ge (tgt := 22) F dX4_bakeAt_10 (by decide) (by have q0 := rz; exact ⟨by omega, by omega⟩) (by decide) (fun c10 => ?_) (fun c10 => ?_)
    · skip
      refine lv_null hx hb dX4_bakeAt_22 ?_
      refine lv_astore_nN (lv' := [(2, .null), (0, .ref (ad 0 0)), (1, .int (iI z))]) hx hb dX4_bakeAt_23 rfl hl (by decide) rfl (fun ls hl => ?_)
      refine lv_aload_nN hx hb dX4_bakeAt_24 rfl (lv_at hl 0 rfl) ?_
      refine lv_ifnonnullN hx hb dX4_bakeAt_25 ?_
      exact tX4_240w (is := 293) (text := "there never was such a bake") 1 (if_neg (fun hq => by omega)) (by decide) rfl () F hlt hTB (by decide) hS (wa_fresh hA hw hj (rfl : wW cy ad S X T o 0 0 = some (.inr (4, wx_fs ad S)))) hA hl.1 hno dX4_bakeAt_28 dX4_bakeAt_31 dX4_bakeAt_32 dX4_bakeAt_35 dX4_bakeAt_38 (by decide) (Nat.le_of_ble_eq_true rfl) (Nat.le_of_ble_eq_true rfl) (Nat.le_of_ble_eq_true rfl) (Nat.le_of_ble_eq_true rfl) (Nat.le_of_ble_eq_true rfl) trivial (fun H1 hz hk => hw.grow hk)
    · skip
      refine lv_aload_n hx hb dX4_bakeAt_13 rfl (lv_at hl 0 rfl) ?_
      refine gX4_31 F hw rfl (v := .ref (ad 0 8)) rfl dX4_bakeAt_14 ?_
      refine lv_iload_n hx hb dX4_bakeAt_17 rfl (lv_at hl 1 rfl) ?_
      refine wa_aald (g := (wx_in ad 3 (S 21 0))) (t0 := 2) F hw rfl rfl ((z).toNat) (by have q0 := rz; omega) (by have q0 := rz; omega) (by decide) dX4_bakeAt_18 ?_
      refine wa_goto (tgt := 23) F dX4_bakeAt_19 (by decide) ?_
      refine wa_stq_n (lv' := [(2, va_rf (wx_in ad 3 (S 21 0) ((z).toNat))), (0, .ref (ad 0 0)), (1, .int (iI z))]) F dX4_bakeAt_23 rfl hl (by decide) rfl (fun ls hl => ?_)
      refine wa_ldq_n F dX4_bakeAt_24 rfl (lv_at hl 0 rfl) ?_
      refine wa_nn_in (tgt := 39) F dX4_bakeAt_25 (by decide) (fun c25 => ?_) (fun c25 => ?_)
      · skip
        rw [wx_in_ref (ad := ad) (kd := 3) c25] at hl
        have hl : lv_has ls 3 [(2, .ref (ad 3 ((z).toNat))), (0, .ref (ad 0 0)), (1, .int (iI z))] := hl
        refine lv_aload_n hx hb dX4_bakeAt_39 rfl (lv_at hl 0 rfl) ?_
        exact wx_er F rfl (by omega) dX4_bakeAt_40 hS (Nat.le_of_ble_eq_true rfl) (Nat.le_of_ble_eq_true rfl)
      · skip
        exact tX4_240w (is := 293) (text := "there never was such a bake") 1 (if_neg (fun hq => by omega)) (by decide) rfl () F hlt hTB (by decide) hS (wa_fresh hA hw hj (rfl : wW cy ad S X T o 0 0 = some (.inr (4, wx_fs ad S)))) hA hl.1 hno dX4_bakeAt_28 dX4_bakeAt_31 dX4_bakeAt_32 dX4_bakeAt_35 dX4_bakeAt_38 (by decide) (Nat.le_of_ble_eq_true rfl) (Nat.le_of_ble_eq_true rfl) (Nat.le_of_ble_eq_true rfl) (Nat.le_of_ble_eq_true rfl) (Nat.le_of_ble_eq_true rfl) trivial (fun H1 hz hk => hw.grow hk)
abbrev f_isMach (S : wa_St) (z : Int) : Prop := 0 ≤ z ∧ z ≤ S 29 0 - 1
set_option maxRecDepth 100000 in
set_option maxHeartbeats 4000000 in
/-- machineAt -/
theorem c_X4_machineAt (l : Launch) (hlt : l.stackTraces = false) (D : va_G) (cy : Nat → ClassId) (ad : Nat → Nat → Nat) (S X T : wa_St) (o : Int64) (A : Nat → Prop) (hj : wa_wj A ad (wW cy ad S X T o)) (hA : wa_Up A) (hwf : wf S) (hxr : xr S X) (hin : wx_inj ad S) (z : Int) (rz : wa_r z) : vx_Met l yX4_machineAt wX4_machineAt ({ frames := 6, cells := 1, slots := 6, locals := 82 } : Room) (wx_pc [.ref (ad 0 0), .int (iI z)] D cy A (fun H => wa_wd D ad (wW cy ad S X T o) H)) (va_Sq (fun r => r = some (ad 5 z.toNat) ∧ f_isMach S z)) (wx_XC A exA ((if f_isMach S z then 0 else 1)) (fun (_ : Unit) => True) (fun _ H => wa_wd D ad (wW cy ad S X T o) H)) 1 6 A := by
  refine wx_en (by decide +kernel) (Nat.le_of_ble_eq_true rfl) ?_
  intro p e s m args below meth c F hTB hno hw ls hl
  have F : wa_fx p s m c meth args cX4_machineAt 3 RX4 "machineAt" (Option.some (FieldType.object "ImageBaker$Machine")) D cy := F
  have hw : wa_wd D ad (wW cy ad S X T o) s.heap := hw
  have hl : lv_has ls 3 [(0, .ref (ad 0 0)), (1, .int (iI z))] := hl
  obtain ⟨hx, hb, hml, hown, hts⟩ := id F.1
  obtain ⟨hSB, w8, w21, w12, w29, w4, w7, w6, w5, w13, w25, w26, w28, w14, w3, wf17⟩ := id hwf
  obtain ⟨hx1, hXB, hx11, hx12, hx13, hx14, hx15, hx16⟩ := id hxr
  have hS : va_S A s.heap s.heap [] := va_S.rf
  refine lv_iload_n hx hb dX4_machineAt_0 rfl (lv_at hl 1 rfl) ?_
  refine wa_if_lt (tgt := 22) F dX4_machineAt_1 (by decide) (by have q0 := rz; exact ⟨by omega, by omega⟩) (fun c1 => ?_) (fun c1 => ?_)
  · skip
    refine lv_null hx hb dX4_machineAt_22 ?_
    refine lv_astore_nN (lv' := [(2, .null), (0, .ref (ad 0 0)), (1, .int (iI z))]) hx hb dX4_machineAt_23 rfl hl (by decide) rfl (fun ls hl => ?_)
    refine lv_aload_nN hx hb dX4_machineAt_24 rfl (lv_at hl 0 rfl) ?_
    refine lv_ifnonnullN hx hb dX4_machineAt_25 ?_
    exact tX4_240w (is := 298) (text := "there never was such a machine") 1 (if_neg (fun hq => by omega)) (by decide) rfl () F hlt hTB (by decide) hS (wa_fresh hA hw hj (rfl : wW cy ad S X T o 0 0 = some (.inr (4, wx_fs ad S)))) hA hl.1 hno dX4_machineAt_28 dX4_machineAt_31 dX4_machineAt_32 dX4_machineAt_35 dX4_machineAt_38 (by decide) (Nat.le_of_ble_eq_true rfl) (Nat.le_of_ble_eq_true rfl) (Nat.le_of_ble_eq_true rfl) (Nat.le_of_ble_eq_true rfl) (Nat.le_of_ble_eq_true rfl) trivial (fun H1 hz hk => hw.grow hk)
  · skip
    refine lv_iload_n hx hb dX4_machineAt_4 rfl (lv_at hl 1 rfl) ?_
    refine lv_aload_n hx hb dX4_machineAt_5 rfl (lv_at hl 0 rfl) ?_
    refine gX4_37 F hw rfl (v := .ref (ad 0 9)) rfl dX4_machineAt_6 ?_
    refine wa_alen (t0 := 4) F hw rfl rfl 30 rfl (by decide) dX4_machineAt_9 ?_
    refine W.eq (g2 := F0 m 10 ls [.int (iI 30), .int (iI z)]) rfl ?_
    refine wa_ic_ge (tgt := 22) F dX4_machineAt_10 (by decide) (by have q0 := rz; exact ⟨by omega, by omega⟩) (by decide) (fun c10 => ?_) (fun c10 => ?_)
    · skip
      refine lv_null hx hb dX4_machineAt_22 ?_
      refine lv_astore_nN (lv' := [(2, .null), (0, .ref (ad 0 0)), (1, .int (iI z))]) hx hb dX4_machineAt_23 rfl hl (by decide) rfl (fun ls hl => ?_)
      refine lv_aload_nN hx hb dX4_machineAt_24 rfl (lv_at hl 0 rfl) ?_
      refine lv_ifnonnullN hx hb dX4_machineAt_25 ?_
      exact tX4_240w (is := 298) (text := "there never was such a machine") 1 (if_neg (fun hq => by omega)) (by decide) rfl () F hlt hTB (by decide) hS (wa_fresh hA hw hj (rfl : wW cy ad S X T o 0 0 = some (.inr (4, wx_fs ad S)))) hA hl.1 hno dX4_machineAt_28 dX4_machineAt_31 dX4_machineAt_32 dX4_machineAt_35 dX4_machineAt_38 (by decide) (Nat.le_of_ble_eq_true rfl) (Nat.le_of_ble_eq_true rfl) (Nat.le_of_ble_eq_true rfl) (Nat.le_of_ble_eq_true rfl) (Nat.le_of_ble_eq_true rfl) trivial (fun H1 hz hk => hw.grow hk)
    · skip
      refine lv_aload_n hx hb dX4_machineAt_13 rfl (lv_at hl 0 rfl) ?_
      refine gX4_37 F hw rfl (v := .ref (ad 0 9)) rfl dX4_machineAt_14 ?_
      refine lv_iload_n hx hb dX4_machineAt_17 rfl (lv_at hl 1 rfl) ?_
      refine wa_aald (g := (wx_in ad 5 (S 29 0))) (t0 := 4) F hw rfl rfl ((z).toNat) (by have q0 := rz; omega) (by have q0 := rz; omega) (by decide) dX4_machineAt_18 ?_
      refine wa_goto (tgt := 23) F dX4_machineAt_19 (by decide) ?_
      refine wa_stq_n (lv' := [(2, va_rf (wx_in ad 5 (S 29 0) ((z).toNat))), (0, .ref (ad 0 0)), (1, .int (iI z))]) F dX4_machineAt_23 rfl hl (by decide) rfl (fun ls hl => ?_)
      refine wa_ldq_n F dX4_machineAt_24 rfl (lv_at hl 0 rfl) ?_
      refine wa_nn_in (tgt := 39) F dX4_machineAt_25 (by decide) (fun c25 => ?_) (fun c25 => ?_)
      · skip
        rw [wx_in_ref (ad := ad) (kd := 5) c25] at hl
        have hl : lv_has ls 3 [(2, .ref (ad 5 ((z).toNat))), (0, .ref (ad 0 0)), (1, .int (iI z))] := hl
        refine lv_aload_n hx hb dX4_machineAt_39 rfl (lv_at hl 0 rfl) ?_
        exact wx_er F rfl (by omega) dX4_machineAt_40 hS (Nat.le_of_ble_eq_true rfl) (Nat.le_of_ble_eq_true rfl)
      · skip
        exact tX4_240w (is := 298) (text := "there never was such a machine") 1 (if_neg (fun hq => by omega)) (by decide) rfl () F hlt hTB (by decide) hS (wa_fresh hA hw hj (rfl : wW cy ad S X T o 0 0 = some (.inr (4, wx_fs ad S)))) hA hl.1 hno dX4_machineAt_28 dX4_machineAt_31 dX4_machineAt_32 dX4_machineAt_35 dX4_machineAt_38 (by decide) (Nat.le_of_ble_eq_true rfl) (Nat.le_of_ble_eq_true rfl) (Nat.le_of_ble_eq_true rfl) (Nat.le_of_ble_eq_true rfl) (Nat.le_of_ble_eq_true rfl) trivial (fun H1 hz hk => hw.grow hk)
set_option maxRecDepth 100000 in
set_option maxHeartbeats 4000000 in
/-- runningAt -/
theorem c_X4_runningAt (l : Launch) (hlt : l.stackTraces = false) (D : va_G) (cy : Nat → ClassId) (ad : Nat → Nat → Nat) (S X T : wa_St) (o : Int64) (A : Nat → Prop) (hj : wa_wj A ad (wW cy ad S X T o)) (hA : wa_Up A) (hwf : wf S) (hxr : xr S X) (hin : wx_inj ad S) (z : Int) (rz : wa_r z) : vx_Met l yX4_runningAt wX4_runningAt ({ frames := 7, cells := 2, slots := 12, locals := 104 } : Room) (wx_pc [.ref (ad 0 0), .int (iI z)] D cy A (fun H => wa_wd D ad (wW cy ad S X T o) H)) (va_Sq (fun r => r = some (ad 5 z.toNat) ∧ f_isRunning S z)) (wx_XC A exA ((if f_isRunning S z then 0 else 1)) (fun (_ : Unit) => True) (fun _ H => wa_wd D ad (wW cy ad S X T o) H)) 2 12 A := by
  refine wx_en (by decide +kernel) (Nat.le_of_ble_eq_true rfl) ?_
  intro p e s m args below meth c F hTB hno hw ls hl
  have F : wa_fx p s m c meth args cX4_runningAt 3 RX4 "runningAt" (Option.some (FieldType.object "ImageBaker$Machine")) D cy := F
  have hw : wa_wd D ad (wW cy ad S X T o) s.heap := hw
  have hl : lv_has ls 3 [(0, .ref (ad 0 0)), (1, .int (iI z))] := hl
  obtain ⟨hx, hb, hml, hown, hts⟩ := id F.1
  obtain ⟨hSB, w8, w21, w12, w29, w4, w7, w6, w5, w13, w25, w26, w28, w14, w3, wf17⟩ := id hwf
  obtain ⟨hx1, hXB, hx11, hx12, hx13, hx14, hx15, hx16⟩ := id hxr
  have hS : va_S A s.heap s.heap [] := va_S.rf
  refine lv_aload_n hx hb dX4_runningAt_0 rfl (lv_at hl 0 rfl) ?_
  refine lv_iload_n hx hb dX4_runningAt_1 rfl (lv_at hl 1 rfl) ?_
  refine wx_cq (vX4_234 F hTB hS (c_X4_machineAt l hlt D cy ad S X T o A hj hA hwf hxr hin (z) (by have q0 := rz; exact ⟨by omega, by omega⟩)) ⟨by decide, by decide⟩ ⟨rfl, rfl⟩ hw hw rfl rfl rfl (Nat.le_of_ble_eq_true rfl) hl.1 dX4_runningAt_2 ⟨(Nat.le_of_ble_eq_true rfl), (Nat.le_of_ble_eq_true rfl)⟩) hS (fun E ce q9 u H1 locs1 hE hk0 hp hB hS1 hce hcv hcl => wx_prop () F hno hE (by have hni : ¬ f_isMach S z := fun hq => hk0 (if_pos hq); rw [if_neg hni, if_neg (fun hq => hni hq.1)]; exact ⟨rfl, by decide⟩) trivial hB hS1 hce hcv hcl (Nat.le_of_ble_eq_true rfl) (Nat.le_of_ble_eq_true rfl)) (fun locs hK2 hS => ?_)
  have hK2 : f_isMach S z := hK2
  refine W.eq (g2 := F0 m 5 ls [.ref (ad 5 z.toNat)]) rfl ?_
  refine lv_astore_n (lv' := [(2, .ref (ad 5 z.toNat)), (0, .ref (ad 0 0)), (1, .int (iI z))]) hx hb dX4_runningAt_5 rfl hl (by decide) rfl (fun ls hl => ?_)
  refine lv_aload_n hx hb dX4_runningAt_6 rfl (lv_at hl 0 rfl) ?_
  refine gX4_230 F hw (wW_5 (show ((z.toNat : Nat) : Int) < S 29 0 by have q := hK2; omega)) (v := va_rf (wa_op ad 3 (S 28 (z.toNat)))) rfl dX4_runningAt_7 ?_
  refine wa_nn_op (tgt := 24) F dX4_runningAt_10 (by decide) (fun c10 => ?_) (fun c10 => ?_)
  · skip
    refine lv_aload_n hx hb dX4_runningAt_24 rfl (lv_at hl 0 rfl) ?_
    exact wx_er F rfl ⟨hK2, by omega⟩ dX4_runningAt_25 hS (Nat.le_of_ble_eq_true rfl) (Nat.le_of_ble_eq_true rfl)
  · skip
    exact tX4_240w (is := 300) (text := "the machine was stopped") 1 (if_neg (fun hq => by have q := w28 z.toNat (by omega); omega)) (by decide) rfl () F hlt hTB (by decide) hS (wa_fresh hA hw hj (rfl : wW cy ad S X T o 0 0 = some (.inr (4, wx_fs ad S)))) hA hl.1 hno dX4_runningAt_13 dX4_runningAt_16 dX4_runningAt_17 dX4_runningAt_20 dX4_runningAt_23 (by decide) (Nat.le_of_ble_eq_true rfl) (Nat.le_of_ble_eq_true rfl) (Nat.le_of_ble_eq_true rfl) (Nat.le_of_ble_eq_true rfl) (Nat.le_of_ble_eq_true rfl) trivial (fun H1 hz hk => hw.grow hk)
