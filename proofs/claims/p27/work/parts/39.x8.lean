/-! contracts of the class: insertWaiting, fillWaiting (laid by program) -/
set_option maxRecDepth 100000 in
set_option maxHeartbeats 4000000 in
/-- insertWaiting -/
theorem c_X4_insertWaiting (l : Launch) (D : va_G) (cy : Nat → ClassId) (ad : Nat → Nat → Nat) (S X T : wa_St) (o : Int64) (A : Nat → Prop) (hj : wa_wj A ad (wW cy ad S X T o)) (hwf : wf S) (hxr : xr S X) (hin : wx_inj ad S) (u : Nat) (hu : (u : Int) < S 29 0) (n9 : Nat) (hn9 : n9 < 30) : Met l yX4_insertWaiting wX4_insertWaiting ({ frames := 1, cells := 0, slots := 0, locals := 21 } : Room) (wa_pc [.ref (ad 0 0), .ref (ad 5 u), .int (iI (n9 : Int))] D cy (fun H => wa_wd D ad (wW cy ad S X T o) H)) (wx_Qv A D cy ad T o (S) (fun y => xr S y ∧ x_insP S X u n9 y)) 0 0 A := by
  refine wa_en (by decide +kernel) (Nat.le_of_ble_eq_true rfl) ?_
  intro p e s m args below meth c F hw ls hl
  have F : wa_fx p s m c meth args cX4_insertWaiting 4 RX4 "insertWaiting" (none) D cy := F
  have hw : wa_wd D ad (wW cy ad S X T o) s.heap := hw
  have hl : lv_has ls 4 [(0, .ref (ad 0 0)), (1, .ref (ad 5 u)), (2, .int (iI (n9 : Int)))] := hl
  obtain ⟨hx, hb, hml, hown, hts⟩ := id F.1
  obtain ⟨hSB, w8, w21, w12, w29, w4, w7, w6, w5, w13, w25, w26, w28, w14, w3, wf17⟩ := id hwf
  obtain ⟨hx1, hXB, hx11, hx12, hx13, hx14, hx15, hx16⟩ := id hxr
  have hS : va_S A s.heap s.heap [] := va_S.rf
  refine lv_iload_n hx hb dX4_insertWaiting_0 rfl (lv_at hl 2 rfl) ?_
  refine lv_istore_n (lv' := [(3, .int (iI (n9 : Int))), (0, .ref (ad 0 0)), (1, .ref (ad 5 u)), (2, .int (iI (n9 : Int)))]) hx hb dX4_insertWaiting_1 rfl hl (by decide) rfl (fun ls hl => ?_)
  have loop2 : ∀ (k : Nat) (zi : Int) (X0 : wa_St) (H : Heap) (locs : List Loc), (zi = (k : Int)) → (k ≤ n9) → (xr S X0) → (x_ps S X u k = x_ps S X u n9) → (∀ j, j < k → X0 14 j = X 14 j) → (∀ j, k ≤ j → j < n9 → X0 14 (j + 1) = X 14 j) → wa_wd D ad (wW cy ad S X0 T o) H → va_S A s.heap H locs → ∀ ls : Array Slot, lv_has ls 4 [(0, .ref (ad 0 0)), (1, .ref (ad 5 u)), (2, .int (iI (n9 : Int))), (3, .int (iI zi))] → W p l e ({ frames := 1, cells := 0, slots := 0, locals := 21 } : Room) s m args below meth c H locs 0 0 (MQ below (wx_Qv A D cy ad T o (S) (fun y => xr S y ∧ x_insP S X u n9 y)) args s 0 0 A) (F0 m 2 ls []) := by
    intro k
    induction k with
    | zero =>
      intro zi X0 H locs hzk hkn hxr0 hps hlo hup hw hS ls hl
      obtain ⟨hx1, hXB, hx11, hx12, hx13, hx14, hx15, hx16⟩ := id hxr0
      refine lv_iload_n hx hb dX4_insertWaiting_2 rfl (lv_at hl 3 rfl) ?_
      refine wa_if_le (tgt := 53) F dX4_insertWaiting_3 (by decide) (by exact ⟨by omega, by omega⟩) (fun c3 => ?_) (fun c3 => absurd c3 (by omega))
      refine lv_iload_n hx hb dX4_insertWaiting_53 rfl (lv_at hl 3 rfl) ?_
      refine wa_if_lt (tgt := 73) F dX4_insertWaiting_54 (by decide) (by exact ⟨by omega, by omega⟩) (fun c54 => absurd c54 (by omega)) (fun c54 => ?_)
      refine lv_iload_n hx hb dX4_insertWaiting_57 rfl (lv_at hl 3 rfl) ?_
      refine lv_aload_n hx hb dX4_insertWaiting_58 rfl (lv_at hl 0 rfl) ?_
      refine gX4_53 F hw rfl (v := .ref (ad 0 14)) rfl dX4_insertWaiting_59 ?_
      refine wa_alen (t0 := 4) F hw rfl rfl 30 rfl (by decide) dX4_insertWaiting_62 ?_
      refine W.eq (g2 := F0 m 63 ls [.int (iI 30), .int (iI zi)]) rfl ?_
      refine wa_ic_ge (tgt := 73) F dX4_insertWaiting_63 (by decide) (by exact ⟨by omega, by omega⟩) (by decide) (fun c63 => absurd c63 (by omega)) (fun c63 => ?_)
      refine lv_aload_n hx hb dX4_insertWaiting_66 rfl (lv_at hl 0 rfl) ?_
      refine gX4_53 F hw rfl (v := .ref (ad 0 14)) rfl dX4_insertWaiting_67 ?_
      refine lv_iload_n hx hb dX4_insertWaiting_70 rfl (lv_at hl 3 rfl) ?_
      refine lv_aload_n hx hb dX4_insertWaiting_71 rfl (lv_at hl 1 rfl) ?_
      refine W.eq (g2 := F0 m 72 ls [.ref (ad 5 ((u : Int)).toNat), .int (iI zi), .ref (ad 0 14)]) rfl ?_
      refine sX_14 F hw (wj_of hj rfl rfl rfl) hS (by omega) hu 0 (by omega) (by omega) dX4_insertWaiting_72 (fun H locs hw hS => ?_)
      exact wx_ev F hw hS ⟨xr_14 hxr0 (by omega) 0 (v := (u : Int)) (by omega), x_insP.of (by rw [← hps]; rfl) hlo hup⟩ dX4_insertWaiting_73
    | succ k ih2 =>
      intro zi X0 H locs hzk hkn hxr0 hps hlo hup hw hS ls hl
      obtain ⟨hx1, hXB, hx11, hx12, hx13, hx14, hx15, hx16⟩ := id hxr0
      refine lv_iload_n hx hb dX4_insertWaiting_2 rfl (lv_at hl 3 rfl) ?_
      refine wa_if_le (tgt := 53) F dX4_insertWaiting_3 (by decide) (by exact ⟨by omega, by omega⟩) (fun c3 => absurd c3 (by omega)) (fun c3 => ?_)
      refine lv_iload_n hx hb dX4_insertWaiting_6 rfl (lv_at hl 3 rfl) ?_
      refine lv_aload_n hx hb dX4_insertWaiting_7 rfl (lv_at hl 0 rfl) ?_
      refine gX4_53 F hw rfl (v := .ref (ad 0 14)) rfl dX4_insertWaiting_8 ?_
      refine wa_alen (t0 := 4) F hw rfl rfl 30 rfl (by decide) dX4_insertWaiting_11 ?_
      refine W.eq (g2 := F0 m 12 ls [.int (iI 30), .int (iI zi)]) rfl ?_
      refine wa_ic_ge (tgt := 53) F dX4_insertWaiting_12 (by decide) (by exact ⟨by omega, by omega⟩) (by decide) (fun c12 => absurd c12 (by omega)) (fun c12 => ?_)
      refine lv_aload_n hx hb dX4_insertWaiting_15 rfl (lv_at hl 1 rfl) ?_
      refine gX4_230 F hw (wW_5 hu) (v := va_rf (wa_op ad 3 (S 28 u))) rfl dX4_insertWaiting_16 ?_
      refine lv_aload_n hx hb dX4_insertWaiting_19 rfl (lv_at hl 0 rfl) ?_
      refine gX4_53 F hw rfl (v := .ref (ad 0 14)) rfl dX4_insertWaiting_20 ?_
      refine lv_iload_n hx hb dX4_insertWaiting_23 rfl (lv_at hl 3 rfl) ?_
      refine wa_const F dX4_insertWaiting_24 ?_
      refine wa_sub F dX4_insertWaiting_25 ?_
      refine wa_aald (g := (fun j => wa_op ad 5 (X0 14 j))) (t0 := 4) F hw rfl rfl k (by omega) (by omega) (by decide) dX4_insertWaiting_26 ?_
      refine W.eq (g2 := F0 m 27 ls [va_rf (wa_op ad 5 (X0 14 k)), va_rf (wa_op ad 3 (S 28 u))]) rfl ?_
      refine wa_cp (kX4_315 F (c_X4_isAhead l D cy ad S X0 T o hwf hxr0 hin ((S 28 u)) ((X0 14 k)) (w28 u hu) (show -1 ≤ X0 14 k ∧ X0 14 k < S 29 0 from hx15 k)) ⟨by decide, by decide⟩ ⟨rfl, rfl⟩ hw rfl rfl (Nat.le_of_ble_eq_true rfl) hl.1 dX4_insertWaiting_27 ⟨Nat.le_refl _, Nat.le_refl _⟩) ?_
      by_cases b27 : x_ah S ((S 28 u)) ((X0 14 k))
      · rw [bI_t b27]
        have hnn : 0 ≤ X0 14 k := b27.2.1
        refine wa_if_eq (tgt := 53) F dX4_insertWaiting_30 (by decide) (by decide) (fun c30 => absurd c30 (by decide)) (fun c30 => ?_)
        refine lv_aload_n hx hb dX4_insertWaiting_33 rfl (lv_at hl 0 rfl) ?_
        refine gX4_53 F hw rfl (v := .ref (ad 0 14)) rfl dX4_insertWaiting_34 ?_
        refine lv_iload_n hx hb dX4_insertWaiting_37 rfl (lv_at hl 3 rfl) ?_
        refine lv_aload_n hx hb dX4_insertWaiting_38 rfl (lv_at hl 0 rfl) ?_
        refine gX4_53 F hw rfl (v := .ref (ad 0 14)) rfl dX4_insertWaiting_39 ?_
        refine lv_iload_n hx hb dX4_insertWaiting_42 rfl (lv_at hl 3 rfl) ?_
        refine wa_const F dX4_insertWaiting_43 ?_
        refine wa_sub F dX4_insertWaiting_44 ?_
        refine wa_aald (g := (fun j => wa_op ad 5 (X0 14 j))) (t0 := 4) F hw rfl rfl k (by omega) (by omega) (by decide) dX4_insertWaiting_45 ?_
        refine W.eq (g2 := F0 m 46 ls [va_rf (wa_op ad 5 (X0 14 k)), .int (iI zi), .ref (ad 0 14)]) rfl ?_
        rw [wa_op_ref hnn]
        refine W.eq (g2 := F0 m 46 ls [.ref (ad 5 ((X0 14 k)).toNat), .int (iI zi), .ref (ad 0 14)]) rfl ?_
        refine sX_14 F hw (wj_of hj rfl rfl rfl) hS hnn (hx15 k).2 (k + 1) (by omega) (by omega) dX4_insertWaiting_46 (fun H locs hw hS => ?_)
        have hxr1 := xr_14 hxr0 (by omega) (k + 1) (v := X0 14 k) (hx15 k)
        refine wa_inc (k := 3) (b := (zi + (-1))) (lv' := [(3, .int (iI (zi + (-1)))), (0, .ref (ad 0 0)), (1, .ref (ad 5 u)), (2, .int (iI (n9 : Int)))]) F dX4_insertWaiting_47 hl rfl rfl (by decide) rfl (fun ls hl => ?_)
        refine wa_goto (tgt := 2) F dX4_insertWaiting_50 (by decide) ?_
        exact ih2 (zi + (-1)) (wa_s X0 14 (k + 1) (X0 14 k)) _ _ (by omega) (by omega) hxr1 (by rw [← hps]; simp only [x_ps]; rw [if_pos (show x_ah S (S 28 u) (X 14 k) by rw [← hlo k (by omega)]; exact b27)]) (fun j hj => by rw [wa_s_nj (by omega)]; exact hlo j (by omega)) (fun j h1 h2 => by by_cases q : j = k; (subst q; rw [wa_s_eq]; exact hlo j (by omega)); (rw [wa_s_nj (by omega)]; exact hup j (by omega) h2)) hw hS ls (lv_sub hl [1, 2, 3, 0] rfl)
      · rw [bI_f b27]
        refine wa_if_eq (tgt := 53) F dX4_insertWaiting_30 (by decide) (by decide) (fun c30 => ?_) (fun c30 => absurd c30 (by decide))
        refine lv_iload_n hx hb dX4_insertWaiting_53 rfl (lv_at hl 3 rfl) ?_
        refine wa_if_lt (tgt := 73) F dX4_insertWaiting_54 (by decide) (by exact ⟨by omega, by omega⟩) (fun c54 => absurd c54 (by omega)) (fun c54 => ?_)
        refine lv_iload_n hx hb dX4_insertWaiting_57 rfl (lv_at hl 3 rfl) ?_
        refine lv_aload_n hx hb dX4_insertWaiting_58 rfl (lv_at hl 0 rfl) ?_
        refine gX4_53 F hw rfl (v := .ref (ad 0 14)) rfl dX4_insertWaiting_59 ?_
        refine wa_alen (t0 := 4) F hw rfl rfl 30 rfl (by decide) dX4_insertWaiting_62 ?_
        refine W.eq (g2 := F0 m 63 ls [.int (iI 30), .int (iI zi)]) rfl ?_
        refine wa_ic_ge (tgt := 73) F dX4_insertWaiting_63 (by decide) (by exact ⟨by omega, by omega⟩) (by decide) (fun c63 => absurd c63 (by omega)) (fun c63 => ?_)
        refine lv_aload_n hx hb dX4_insertWaiting_66 rfl (lv_at hl 0 rfl) ?_
        refine gX4_53 F hw rfl (v := .ref (ad 0 14)) rfl dX4_insertWaiting_67 ?_
        refine lv_iload_n hx hb dX4_insertWaiting_70 rfl (lv_at hl 3 rfl) ?_
        refine lv_aload_n hx hb dX4_insertWaiting_71 rfl (lv_at hl 1 rfl) ?_
        refine W.eq (g2 := F0 m 72 ls [.ref (ad 5 ((u : Int)).toNat), .int (iI zi), .ref (ad 0 14)]) rfl ?_
        refine sX_14 F hw (wj_of hj rfl rfl rfl) hS (by omega) hu (k + 1) (by omega) (by omega) dX4_insertWaiting_72 (fun H locs hw hS => ?_)
        exact wx_ev F hw hS ⟨xr_14 hxr0 (by omega) (k + 1) (v := (u : Int)) (by omega), x_insP.of (by rw [← hps]; simp only [x_ps]; rw [if_neg (show ¬ x_ah S (S 28 u) (X 14 k) by rw [← hlo k (by omega)]; exact b27)]) hlo hup⟩ dX4_insertWaiting_73
  exact loop2 (n9) (n9 : Int) X _ _ rfl (Nat.le_refl _) hxr rfl (fun j hj => rfl) (fun j h1 h2 => absurd h2 (Nat.not_lt.mpr h1)) hw hS ls (lv_sub hl [1, 2, 3, 0] rfl)
set_option maxRecDepth 100000 in
set_option maxHeartbeats 4000000 in
/-- fillWaiting -/
theorem c_X4_fillWaiting (l : Launch) (D : va_G) (cy : Nat → ClassId) (ad : Nat → Nat → Nat) (S X T : wa_St) (o : Int64) (A : Nat → Prop) (hj : wa_wj A ad (wW cy ad S X T o)) (hwf : wf S) (hxr : xr S X) (hin : wx_inj ad S) : Met l yX4_fillWaiting wX4_fillWaiting ({ frames := 5, cells := 0, slots := 0, locals := 114 } : Room) (wa_pc [.ref (ad 0 0)] D cy (fun H => wa_wd D ad (wW cy ad S X T o) H)) (wx_Qi A D cy ad T o (S) (fun u => xr S u ∧ x_W S (S 29 0).toNat (f_cnt (f_isOld S) (S 29 0).toNat).toNat u) (f_cnt (f_isOld S) (S 29 0).toNat)) 0 0 A := by
  refine wa_en (by decide +kernel) (Nat.le_of_ble_eq_true rfl) ?_
  intro p e s m args below meth c F hw ls hl
  have F : wa_fx p s m c meth args cX4_fillWaiting 6 RX4 "fillWaiting" (Option.some FieldType.int) D cy := F
  have hw : wa_wd D ad (wW cy ad S X T o) s.heap := hw
  have hl : lv_has ls 6 [(0, .ref (ad 0 0))] := hl
  obtain ⟨hx, hb, hml, hown, hts⟩ := id F.1
  obtain ⟨hSB, w8, w21, w12, w29, w4, w7, w6, w5, w13, w25, w26, w28, w14, w3, wf17⟩ := id hwf
  obtain ⟨hx1, hXB, hx11, hx12, hx13, hx14, hx15, hx16⟩ := id hxr
  have hS : va_S A s.heap s.heap [] := va_S.rf
  refine wa_const F dX4_fillWaiting_0 ?_
  refine lv_istore_n (lv' := [(1, .int (iI 0)), (0, .ref (ad 0 0))]) hx hb dX4_fillWaiting_1 rfl hl (by decide) rfl (fun ls hl => ?_)
  refine lv_aload_n hx hb dX4_fillWaiting_2 rfl (lv_at hl 1 rfl) ?_
  refine gX4_37 F hw rfl (v := .ref (ad 0 9)) rfl dX4_fillWaiting_3 ?_
  refine lv_astore_n (lv' := [(2, .ref (ad 0 9)), (1, .int (iI 0)), (0, .ref (ad 0 0))]) hx hb dX4_fillWaiting_6 rfl hl (by decide) rfl (fun ls hl => ?_)
  refine lv_aload_n hx hb dX4_fillWaiting_7 rfl (lv_at hl 0 rfl) ?_
  refine wa_alen (t0 := 4) F hw rfl rfl 30 rfl (by decide) dX4_fillWaiting_8 ?_
  refine W.eq (g2 := F0 m 9 ls [.int (iI 30)]) rfl ?_
  refine lv_istore_n (lv' := [(3, .int (iI 30)), (2, .ref (ad 0 9)), (1, .int (iI 0)), (0, .ref (ad 0 0))]) hx hb dX4_fillWaiting_9 rfl hl (by decide) rfl (fun ls hl => ?_)
  refine wa_const F dX4_fillWaiting_10 ?_
  refine lv_istore (lv' := [(4, .int (iI 0)), (3, .int (iI 30)), (2, .ref (ad 0 9)), (1, .int (iI 0)), (0, .ref (ad 0 0))]) hx hb dX4_fillWaiting_11 hl (by decide) rfl (fun ls hl => ?_)
  have loop13 : ∀ (k : Nat) (jx : Nat) (cx : Nat) (X0 : wa_St) (H : Heap) (locs : List Loc), (jx + k = 30) → (xr S X0) → (x_W S (min jx (S 29 0).toNat) cx X0) → wa_wd D ad (wW cy ad S X0 T o) H → va_S A s.heap H locs → ∀ ls : Array Slot, lv_has ls 6 [(0, .ref (ad 0 0)), (1, .int (iI (cx : Int))), (2, .ref (ad 0 9)), (3, .int (iI 30)), (4, .int (iI (jx : Int)))] → W p l e ({ frames := 5, cells := 0, slots := 0, locals := 114 } : Room) s m args below meth c H locs 0 0 (MQ below (wx_Qi A D cy ad T o (S) (fun u => xr S u ∧ x_W S (S 29 0).toNat (f_cnt (f_isOld S) (S 29 0).toNat).toNat u) (f_cnt (f_isOld S) (S 29 0).toNat)) args s 0 0 A) (F0 m 13 ls []) := by
    intro k
    induction k with
    | zero =>
      intro jx cx X0 H locs hk hxr0 hW hw hS ls hl
      obtain ⟨hx1, hXB, hx11, hx12, hx13, hx14, hx15, hx16⟩ := id hxr0
      refine lv_iload hx hb dX4_fillWaiting_13 (lv_at hl 4 rfl) ?_
      refine lv_iload_n hx hb dX4_fillWaiting_15 rfl (lv_at hl 3 rfl) ?_
      refine wa_ic_ge (tgt := 55) F dX4_fillWaiting_16 (by decide) (by exact ⟨by omega, by omega⟩) (by decide) (fun c16 => ?_) (fun c16 => absurd c16 (by omega))
      refine lv_iload_n hx hb dX4_fillWaiting_55 rfl (lv_at hl 1 rfl) ?_
      exact wx_ei F hw hS (by have q := hW.1; rw [show min jx (S 29 0).toNat = (S 29 0).toNat by omega] at q; exact q) ⟨hxr0, by have q := hW.1; rw [show min jx (S 29 0).toNat = (S 29 0).toNat by omega] at q hW; rw [← q, Int.toNat_natCast]; exact hW⟩ dX4_fillWaiting_56
    | succ k ih13 =>
      intro jx cx X0 H locs hk hxr0 hW hw hS ls hl
      obtain ⟨hx1, hXB, hx11, hx12, hx13, hx14, hx15, hx16⟩ := id hxr0
      refine lv_iload hx hb dX4_fillWaiting_13 (lv_at hl 4 rfl) ?_
      refine lv_iload_n hx hb dX4_fillWaiting_15 rfl (lv_at hl 3 rfl) ?_
      refine wa_ic_ge (tgt := 55) F dX4_fillWaiting_16 (by decide) (by exact ⟨by omega, by omega⟩) (by decide) (fun c16 => absurd c16 (by omega)) (fun c16 => ?_)
      refine lv_aload_n hx hb dX4_fillWaiting_19 rfl (lv_at hl 2 rfl) ?_
      refine lv_iload hx hb dX4_fillWaiting_20 (lv_at hl 4 rfl) ?_
      refine wa_aald (g := (wx_in ad 5 (S 29 0))) (t0 := 4) F hw rfl rfl jx rfl (by omega) (by decide) dX4_fillWaiting_22 ?_
      refine wa_stq (lv' := [(5, va_rf (wx_in ad 5 (S 29 0) jx)), (0, .ref (ad 0 0)), (1, .int (iI (cx : Int))), (2, .ref (ad 0 9)), (3, .int (iI 30)), (4, .int (iI (jx : Int)))]) F dX4_fillWaiting_23 hl (by decide) rfl (fun ls hl => ?_)
      refine wa_ldq F dX4_fillWaiting_25 (lv_at hl 0 rfl) ?_
      refine wa_nu_in (tgt := 49) F dX4_fillWaiting_27 (by decide) (fun c27 => ?_) (fun c27 => ?_)
      · skip
        refine wa_inc (k := 5) (b := ((jx + 1) : Int)) (lv' := [(4, .int (iI ((jx + 1) : Int))), (5, va_rf (wx_in ad 5 (S 29 0) jx)), (0, .ref (ad 0 0)), (1, .int (iI (cx : Int))), (2, .ref (ad 0 9)), (3, .int (iI 30))]) F dX4_fillWaiting_49 hl rfl (by omega) (by decide) rfl (fun ls hl => ?_)
        refine wa_goto (tgt := 13) F dX4_fillWaiting_52 (by decide) ?_
        exact ih13 (jx + 1) cx X0 _ _ (by omega) hxr0 (by rw [show min (jx + 1) (S 29 0).toNat = min jx (S 29 0).toNat by omega]; exact hW) hw hS ls (lv_sub hl [2, 3, 4, 5, 0] rfl)
      · skip
        rw [wx_in_ref (ad := ad) (kd := 5) c27] at hl
        have hl : lv_has ls 6 [(5, .ref (ad 5 jx)), (0, .ref (ad 0 0)), (1, .int (iI (cx : Int))), (2, .ref (ad 0 9)), (3, .int (iI 30)), (4, .int (iI (jx : Int)))] := hl
        refine lv_aload_n hx hb dX4_fillWaiting_30 rfl (lv_at hl 1 rfl) ?_
        refine lv_aload hx hb dX4_fillWaiting_31 (lv_at hl 0 rfl) ?_
        refine wa_cp (kX4_307 F (c_X4_mustRenew l D cy ad S X0 T o hwf hxr0 hin jx c27) ⟨by decide, by decide⟩ ⟨rfl, rfl⟩ hw hw rfl rfl rfl (Nat.le_of_ble_eq_true rfl) hl.1 dX4_fillWaiting_33 ⟨Nat.le_refl _, Nat.le_refl _⟩) ?_
        by_cases b33 : f_isOld S jx = true
        · rw [bI_t b33]
          refine wa_if_eq (tgt := 49) F dX4_fillWaiting_36 (by decide) (by decide) (fun c36 => absurd c36 (by decide)) (fun c36 => ?_)
          refine lv_aload_n hx hb dX4_fillWaiting_39 rfl (lv_at hl 1 rfl) ?_
          refine lv_aload hx hb dX4_fillWaiting_40 (lv_at hl 0 rfl) ?_
          refine lv_iload_n hx hb dX4_fillWaiting_42 rfl (lv_at hl 2 rfl) ?_
          refine wx_cv (kX4_311 F (c_X4_insertWaiting l D cy ad S X0 T o A (wj_of hj rfl rfl rfl) hwf hxr0 hin jx c27 cx (by have q := hW.1; have q2 := f_cnt_rng (f_isOld S) (min jx (S 29 0).toNat); omega)) ⟨by decide, by decide⟩ ⟨rfl, rfl⟩ hw hw rfl rfl rfl (Nat.le_of_ble_eq_true rfl) hl.1 dX4_fillWaiting_43 ⟨Nat.le_of_ble_eq_true rfl, Nat.le_of_ble_eq_true rfl⟩) hS (fun X1_1 H locs hP hw hS => ?_)
          obtain ⟨hxr_X1_1, hin_X1_1⟩ := hP
          obtain ⟨hx1, hXB, hx11, hx12, hx13, hx14, hx15, hx16⟩ := id hxr_X1_1
          refine wa_inc (k := 2) (b := ((cx + 1) : Int)) (lv' := [(1, .int (iI ((cx + 1) : Int))), (5, .ref (ad 5 jx)), (0, .ref (ad 0 0)), (2, .ref (ad 0 9)), (3, .int (iI 30)), (4, .int (iI (jx : Int)))]) F dX4_fillWaiting_46 hl rfl (by omega) (by decide) rfl (fun ls hl => ?_)
          refine wa_inc (k := 5) (b := ((jx + 1) : Int)) (lv' := [(4, .int (iI ((jx + 1) : Int))), (1, .int (iI ((cx + 1) : Int))), (5, .ref (ad 5 jx)), (0, .ref (ad 0 0)), (2, .ref (ad 0 9)), (3, .int (iI 30))]) F dX4_fillWaiting_49 hl rfl (by omega) (by decide) rfl (fun ls hl => ?_)
          refine wa_goto (tgt := 13) F dX4_fillWaiting_52 (by decide) ?_
          exact ih13 (jx + 1) (cx + 1) X1_1 _ _ (by omega) hxr_X1_1 (by rw [show min (jx + 1) (S 29 0).toNat = jx + 1 by omega]; rw [show min jx (S 29 0).toNat = jx by omega] at hW; exact hW.ins hwf c27 b33 hin_X1_1) hw hS ls (lv_sub hl [3, 1, 4, 5, 0] rfl)
        · rw [bI_f b33]
          refine wa_if_eq (tgt := 49) F dX4_fillWaiting_36 (by decide) (by decide) (fun c36 => ?_) (fun c36 => absurd c36 (by decide))
          refine wa_inc (k := 5) (b := ((jx + 1) : Int)) (lv' := [(4, .int (iI ((jx + 1) : Int))), (5, .ref (ad 5 jx)), (0, .ref (ad 0 0)), (1, .int (iI (cx : Int))), (2, .ref (ad 0 9)), (3, .int (iI 30))]) F dX4_fillWaiting_49 hl rfl (by omega) (by decide) rfl (fun ls hl => ?_)
          refine wa_goto (tgt := 13) F dX4_fillWaiting_52 (by decide) ?_
          exact ih13 (jx + 1) cx X0 _ _ (by omega) hxr0 (by rw [show min (jx + 1) (S 29 0).toNat = jx + 1 by omega]; rw [show min jx (S 29 0).toNat = jx by omega] at hW; exact hW.no b33) hw hS ls (lv_sub hl [2, 3, 4, 5, 0] rfl)
  exact loop13 (30) 0 0 X _ _ (by omega) hxr (by rw [show min 0 (S 29 0).toNat = 0 by omega]; exact ⟨rfl, fun a ha => by omega, fun a b ha hb => by omega, fun u hu => by omega⟩) hw hS ls (lv_sub hl [4, 3, 2, 1, 0] rfl)
