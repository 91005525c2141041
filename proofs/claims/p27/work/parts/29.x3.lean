/-! contracts of the class, third part: what only reads (laid by program) -/
set_option maxRecDepth 100000 in
set_option maxHeartbeats 4000000 in
/-- bakeFor -/
theorem c_X4_bakeFor (l : Launch) (D : va_G) (cy : Nat → ClassId) (ad : Nat → Nat → Nat) (S X T : wa_St) (o : Int64) (hwf : wf S) (hxr : xr S X) (hin : wx_inj ad S) (iz : Int) (hiz : 0 ≤ iz ∧ iz < S 8 0) (pl rg : Int) (hpl : 0 ≤ pl ∧ pl ≤ 2) (rrg : wa_r rg) : Met l yX4_bakeFor wX4_bakeFor ({ frames := 3, cells := 0, slots := 0, locals := 67 } : Room) (wa_pc [.ref (ad 0 0), .ref (ad 1 iz.toNat), .int (iI pl), .int (iI rg)] D cy (fun H => wa_wd D ad (wW cy ad S X T o) H)) (wa_Qq (wa_op ad 3 (f_bakeFor S iz pl rg))) 0 0 (fun _ => False) := by
  refine wa_en (by decide +kernel) (Nat.le_of_ble_eq_true rfl) ?_
  intro p e s m args below meth c F hw ls hl
  have F : wa_fx p s m c meth args cX4_bakeFor 6 RX4 "bakeFor" (Option.some (FieldType.object "ImageBaker$Bake")) D cy := F
  have hw : wa_wd D ad (wW cy ad S X T o) s.heap := hw
  have hl : lv_has ls 6 [(0, .ref (ad 0 0)), (1, .ref (ad 1 iz.toNat)), (2, .int (iI pl)), (3, .int (iI rg))] := hl
  obtain ⟨hx, hb, hml, hown, hts⟩ := id F.1
  obtain ⟨hSB, w8, w21, w12, w29, w4, w7, w6, w5, w13, w25, w26, w28, w14, w3, wf17⟩ := id hwf
  obtain ⟨hx1, hXB, hx11, hx12, hx13, hx14, hx15, hx16⟩ := id hxr
  refine lv_aload_n hx hb dX4_bakeFor_0 rfl (lv_at hl 0 rfl) ?_
  refine gX4_31 F hw rfl (v := .ref (ad 0 8)) rfl dX4_bakeFor_1 ?_
  refine wa_alen (t0 := 2) F hw rfl rfl 60 rfl (by decide) dX4_bakeFor_4 ?_
  refine W.eq (g2 := F0 m 5 ls [.int (iI 60)]) rfl ?_
  refine wa_const F dX4_bakeFor_5 ?_
  refine wa_sub F dX4_bakeFor_6 ?_
  refine lv_istore (lv' := [(4, .int (iI (60 - 1))), (0, .ref (ad 0 0)), (1, .ref (ad 1 iz.toNat)), (2, .int (iI pl)), (3, .int (iI rg))]) hx hb dX4_bakeFor_7 hl (by decide) rfl (fun ls hl => ?_)
  have loop9 : ∀ (k : Nat) (zi : Int), (zi = (k : Int) - 1) → (k ≤ 60) → (f_last (f_can S iz pl rg) (min k (S 21 0).toNat) = f_bakeFor S iz pl rg) → ∀ ls : Array Slot, lv_has ls 6 [(0, .ref (ad 0 0)), (1, .ref (ad 1 iz.toNat)), (2, .int (iI pl)), (3, .int (iI rg)), (4, .int (iI zi))] → W p l e ({ frames := 3, cells := 0, slots := 0, locals := 67 } : Room) s m args below meth c s.heap [] 0 0 (MQ below (wa_Qq (wa_op ad 3 (f_bakeFor S iz pl rg))) args s 0 0 (fun _ => False)) (F0 m 9 ls []) := by
    intro k
    induction k with
    | zero =>
      intro zi hzk k60 hr ls hl
      refine lv_iload hx hb dX4_bakeFor_9 (lv_at hl 4 rfl) ?_
      refine wa_if_lt (tgt := 57) F dX4_bakeFor_11 (by decide) (by exact ⟨by omega, by omega⟩) (fun c11 => ?_) (fun c11 => absurd c11 (by omega))
      refine lv_null hx hb dX4_bakeFor_57 ?_
      refine W.eq (g2 := F0 m 58 ls [va_rf none]) rfl ?_
      exact wa_eq F (by rw [← hr, show min 0 (S 21 0).toNat = 0 by omega]; rfl) dX4_bakeFor_58
    | succ k ih9 =>
      intro zi hzk k60 hr ls hl
      have hzi : zi = (k : Int) := by omega
      refine lv_iload hx hb dX4_bakeFor_9 (lv_at hl 4 rfl) ?_
      refine wa_if_lt (tgt := 57) F dX4_bakeFor_11 (by decide) (by exact ⟨by omega, by omega⟩) (fun c11 => absurd c11 (by omega)) (fun c11 => ?_)
      refine lv_aload_n hx hb dX4_bakeFor_14 rfl (lv_at hl 0 rfl) ?_
      refine gX4_31 F hw rfl (v := .ref (ad 0 8)) rfl dX4_bakeFor_15 ?_
      refine lv_iload hx hb dX4_bakeFor_18 (lv_at hl 4 rfl) ?_
      refine wa_aald (g := (wx_in ad 3 (S 21 0))) (t0 := 2) F hw rfl rfl k hzi (by omega) (by decide) dX4_bakeFor_20 ?_
      refine wa_stq (lv' := [(5, va_rf (wx_in ad 3 (S 21 0) k)), (0, .ref (ad 0 0)), (1, .ref (ad 1 iz.toNat)), (2, .int (iI pl)), (3, .int (iI rg)), (4, .int (iI zi))]) F dX4_bakeFor_21 hl (by decide) rfl (fun ls hl => ?_)
      refine wa_ldq F dX4_bakeFor_23 (lv_at hl 0 rfl) ?_
      refine wa_nu_in (tgt := 51) F dX4_bakeFor_25 (by decide) (fun c25 => ?_) (fun c25 => ?_)
      · skip
        refine wa_inc (k := 5) (b := (zi + (-1))) (lv' := [(4, .int (iI (zi + (-1)))), (5, va_rf (wx_in ad 3 (S 21 0) k)), (0, .ref (ad 0 0)), (1, .ref (ad 1 iz.toNat)), (2, .int (iI pl)), (3, .int (iI rg))]) F dX4_bakeFor_51 hl rfl rfl (by decide) rfl (fun ls hl => ?_)
        refine wa_goto (tgt := 9) F dX4_bakeFor_54 (by decide) ?_
        exact ih9 (zi + (-1)) (by omega) (by omega) (by rw [← hr, show min (k + 1) (S 21 0).toNat = min k (S 21 0).toNat by omega]) ls (lv_sub hl [2, 3, 4, 5, 0] rfl)
      · skip
        rw [wx_in_ref (ad := ad) (kd := 3) c25] at hl
        have hl : lv_has ls 6 [(5, .ref (ad 3 k)), (0, .ref (ad 0 0)), (1, .ref (ad 1 iz.toNat)), (2, .int (iI pl)), (3, .int (iI rg)), (4, .int (iI zi))] := hl
        refine lv_aload hx hb dX4_bakeFor_28 (lv_at hl 0 rfl) ?_
        refine gX4_302 F hw (wW_3 c25) (v := .ref (ad 1 ((S 13 k).toNat))) rfl dX4_bakeFor_30 ?_
        refine lv_aload_n hx hb dX4_bakeFor_33 rfl (lv_at hl 2 rfl) ?_
        refine wa_ac_ne (tgt := 51) (rx := (some (ad 1 ((S 13 k).toNat)))) (ry := (some (ad 1 iz.toNat))) (P := S 13 k = iz) F (wx_im_eq' hin (w13 k c25) hiz) dX4_bakeFor_34 (by decide) (fun c34 => ?_) (fun c34 => ?_)
        · skip
          refine wa_inc (k := 5) (b := (zi + (-1))) (lv' := [(4, .int (iI (zi + (-1)))), (5, .ref (ad 3 k)), (0, .ref (ad 0 0)), (1, .ref (ad 1 iz.toNat)), (2, .int (iI pl)), (3, .int (iI rg))]) F dX4_bakeFor_51 hl rfl rfl (by decide) rfl (fun ls hl => ?_)
          refine wa_goto (tgt := 9) F dX4_bakeFor_54 (by decide) ?_
          exact ih9 (zi + (-1)) (by omega) (by omega) (by rw [← hr, show min (k + 1) (S 21 0).toNat = k + 1 by omega, f_last_f (fun q => c34 (f_can_iff.mp q).1), show min k (S 21 0).toNat = k by omega]) ls (lv_sub hl [2, 3, 4, 5, 0] rfl)
        · skip
          refine lv_aload_n hx hb dX4_bakeFor_37 rfl (lv_at hl 1 rfl) ?_
          refine lv_aload hx hb dX4_bakeFor_38 (lv_at hl 0 rfl) ?_
          refine lv_iload_n hx hb dX4_bakeFor_40 rfl (lv_at hl 3 rfl) ?_
          refine lv_iload_n hx hb dX4_bakeFor_41 rfl (lv_at hl 4 rfl) ?_
          refine wa_cp (kX4_303 F (c_X4_canStart l D cy ad S X T o hwf hxr hin k c25 (pl) (rg) hpl (by have q0 := rrg; exact ⟨by omega, by omega⟩)) ⟨by decide, by decide⟩ ⟨rfl, rfl⟩ hw hw rfl rfl rfl (Nat.le_of_ble_eq_true rfl) hl.1 dX4_bakeFor_42 ⟨Nat.le_refl _, Nat.le_refl _⟩) ?_
          by_cases b42 : x_can S k (pl) (rg)
          · rw [bI_t b42]
            refine wa_if_eq (tgt := 51) F dX4_bakeFor_45 (by decide) (by decide) (fun c45 => absurd c45 (by decide)) (fun c45 => ?_)
            refine lv_aload hx hb dX4_bakeFor_48 (lv_at hl 0 rfl) ?_
            refine W.eq (g2 := F0 m 50 ls [va_rf (some (ad 3 k))]) rfl ?_
            exact wa_eq F (by rw [← hr, show min (k + 1) (S 21 0).toNat = k + 1 by omega, f_last_t (f_can_iff.mpr ⟨c34, b42⟩), wa_op_s (by omega)]; rfl) dX4_bakeFor_50
          · rw [bI_f b42]
            refine wa_if_eq (tgt := 51) F dX4_bakeFor_45 (by decide) (by decide) (fun c45 => ?_) (fun c45 => absurd c45 (by decide))
            refine wa_inc (k := 5) (b := (zi + (-1))) (lv' := [(4, .int (iI (zi + (-1)))), (5, .ref (ad 3 k)), (0, .ref (ad 0 0)), (1, .ref (ad 1 iz.toNat)), (2, .int (iI pl)), (3, .int (iI rg))]) F dX4_bakeFor_51 hl rfl rfl (by decide) rfl (fun ls hl => ?_)
            refine wa_goto (tgt := 9) F dX4_bakeFor_54 (by decide) ?_
            exact ih9 (zi + (-1)) (by omega) (by omega) (by rw [← hr, show min (k + 1) (S 21 0).toNat = k + 1 by omega, f_last_f (fun q => b42 (f_can_iff.mp q).2), show min k (S 21 0).toNat = k by omega]) ls (lv_sub hl [2, 3, 4, 5, 0] rfl)
  exact loop9 (60) (60 - 1) rfl (by decide) (by rw [show min 60 (S 21 0).toNat = (S 21 0).toNat by omega]; rfl) ls (lv_sub hl [1, 2, 3, 4, 0] rfl)
set_option maxRecDepth 100000 in
set_option maxHeartbeats 4000000 in
/-- mustRenew -/
theorem c_X4_mustRenew (l : Launch) (D : va_G) (cy : Nat → ClassId) (ad : Nat → Nat → Nat) (S X T : wa_St) (o : Int64) (hwf : wf S) (hxr : xr S X) (hin : wx_inj ad S) (u : Nat) (hu : (u : Int) < S 29 0) : Met l yX4_mustRenew wX4_mustRenew ({ frames := 4, cells := 0, slots := 0, locals := 92 } : Room) (wa_pc [.ref (ad 0 0), .ref (ad 5 u)] D cy (fun H => wa_wd D ad (wW cy ad S X T o) H)) (wa_Qp (bI (f_isOld S u = true))) 0 0 (fun _ => False) := by
  refine wa_en (by decide +kernel) (Nat.le_of_ble_eq_true rfl) ?_
  intro p e s m args below meth c F hw ls hl
  have F : wa_fx p s m c meth args cX4_mustRenew 3 RX4 "mustRenew" (Option.some FieldType.boolean) D cy := F
  have hw : wa_wd D ad (wW cy ad S X T o) s.heap := hw
  have hl : lv_has ls 3 [(0, .ref (ad 0 0)), (1, .ref (ad 5 u))] := hl
  obtain ⟨hx, hb, hml, hown, hts⟩ := id F.1
  obtain ⟨hSB, w8, w21, w12, w29, w4, w7, w6, w5, w13, w25, w26, w28, w14, w3, wf17⟩ := id hwf
  obtain ⟨hx1, hXB, hx11, hx12, hx13, hx14, hx15, hx16⟩ := id hxr
  refine lv_aload_n hx hb dX4_mustRenew_0 rfl (lv_at hl 1 rfl) ?_
  refine gX4_230 F hw (wW_5 hu) (v := va_rf (wa_op ad 3 (S 28 u))) rfl dX4_mustRenew_1 ?_
  refine wa_nn_op (tgt := 9) F dX4_mustRenew_4 (by decide) (fun c4 => ?_) (fun c4 => ?_)
  · skip
    refine lv_aload_n hx hb dX4_mustRenew_9 rfl (lv_at hl 1 rfl) ?_
    refine gX4_230 F hw (wW_5 hu) (v := va_rf (wa_op ad 3 (S 28 u))) rfl dX4_mustRenew_10 ?_
    rw [wa_op_ref c4]
    refine gX4_157 F hw (wW_3 (show (((S 28 u).toNat : Nat) : Int) < S 21 0 by have q3 := (show -1 ≤ (S 28 u) ∧ (S 28 u) < S 21 0 by have q := w28 u hu; omega); have q4 := c4; omega)) (v := .int (iI (S 17 ((S 28 u).toNat)))) rfl dX4_mustRenew_13 ?_
    refine wa_if_ne (tgt := 30) F dX4_mustRenew_16 (by decide) (by have q0 := hSB 17 ((S 28 u).toNat); exact ⟨by omega, by omega⟩) (fun c16 => ?_) (fun c16 => ?_)
    · skip
      refine wa_const F dX4_mustRenew_30 ?_
      exact wa_epz F (bI_t (decide_eq_true ⟨by omega, Or.inl c16⟩)).symm (by decide) dX4_mustRenew_31
    · skip
      refine lv_aload_n hx hb dX4_mustRenew_19 rfl (lv_at hl 0 rfl) ?_
      refine lv_aload_n hx hb dX4_mustRenew_20 rfl (lv_at hl 1 rfl) ?_
      refine gX4_230 F hw (wW_5 hu) (v := va_rf (wa_op ad 3 (S 28 u))) rfl dX4_mustRenew_21 ?_
      rw [wa_op_ref c4]
      refine wa_cp (kX4_199 F (c_X4_isTooOld l D cy ad S X T o hwf hxr hin ((S 28 u).toNat) (show (((S 28 u).toNat : Nat) : Int) < S 21 0 by have q3 := (show -1 ≤ (S 28 u) ∧ (S 28 u) < S 21 0 by have q := w28 u hu; omega); have q4 := c4; omega)) ⟨by decide, by decide⟩ ⟨rfl, rfl⟩ hw hw rfl rfl rfl (Nat.le_of_ble_eq_true rfl) hl.1 dX4_mustRenew_24 ⟨Nat.le_refl _, Nat.le_refl _⟩) ?_
      by_cases b24 : f_old S ((S 28 u).toNat)
      · rw [bI_t b24]
        refine wa_if_eq (tgt := 32) F dX4_mustRenew_27 (by decide) (by decide) (fun c27 => absurd c27 (by decide)) (fun c27 => ?_)
        refine wa_const F dX4_mustRenew_30 ?_
        exact wa_epz F (bI_t (decide_eq_true ⟨by omega, Or.inr (Or.inl b24)⟩)).symm (by decide) dX4_mustRenew_31
      · rw [bI_f b24]
        refine wa_if_eq (tgt := 32) F dX4_mustRenew_27 (by decide) (by decide) (fun c27 => ?_) (fun c27 => absurd c27 (by decide))
        refine lv_aload_n hx hb dX4_mustRenew_32 rfl (lv_at hl 0 rfl) ?_
        refine lv_aload_n hx hb dX4_mustRenew_33 rfl (lv_at hl 1 rfl) ?_
        refine gX4_221 F hw (wW_5 hu) (v := .ref (ad 1 ((S 25 u).toNat))) rfl dX4_mustRenew_34 ?_
        refine lv_aload_n hx hb dX4_mustRenew_37 rfl (lv_at hl 1 rfl) ?_
        refine gX4_224 F hw (wW_5 hu) (v := .int (iI (S 26 u))) rfl dX4_mustRenew_38 ?_
        refine lv_aload_n hx hb dX4_mustRenew_41 rfl (lv_at hl 1 rfl) ?_
        refine gX4_227 F hw (wW_5 hu) (v := .int (iI (S 27 u))) rfl dX4_mustRenew_42 ?_
        refine wa_cq (kX4_204 F (c_X4_bakeFor l D cy ad S X T o hwf hxr hin (S 25 u) (w25 u hu) ((S 26 u)) ((S 27 u)) (w26 u hu) (by have q0 := hSB 27 u; exact ⟨by omega, by omega⟩)) ⟨by decide, by decide⟩ ⟨rfl, rfl⟩ hw hw rfl rfl rfl (Nat.le_of_ble_eq_true rfl) hl.1 dX4_mustRenew_45 ⟨Nat.le_refl _, Nat.le_refl _⟩) ?_
        refine wa_stq_n (lv' := [(2, va_rf (wa_op ad 3 (f_next S u))), (0, .ref (ad 0 0)), (1, .ref (ad 5 u))]) F dX4_mustRenew_48 rfl hl (by decide) rfl (fun ls hl => ?_)
        refine wa_ldq_n F dX4_mustRenew_49 rfl (lv_at hl 0 rfl) ?_
        refine wa_nu_op (tgt := 65) F dX4_mustRenew_50 (by decide) (fun c50 => ?_) (fun c50 => ?_)
        · skip
          refine wa_const F dX4_mustRenew_65 ?_
          exact wa_epz F (bI_f (fun hq => by have hq2 := of_decide_eq_true hq; have q28 := w28 u hu; have qn : -1 ≤ f_next S u ∧ f_next S u < S 21 0 := f_bakeFor_rng3 hwf _ _ _; omega)).symm (by decide) dX4_mustRenew_66
        · skip
          rw [wa_op_ref (ad := ad) (kd := 3) c50] at hl
          have hl : lv_has ls 3 [(2, .ref (ad 3 ((f_next S u).toNat))), (0, .ref (ad 0 0)), (1, .ref (ad 5 u))] := hl
          refine lv_aload_n hx hb dX4_mustRenew_53 rfl (lv_at hl 0 rfl) ?_
          refine lv_aload_n hx hb dX4_mustRenew_54 rfl (lv_at hl 2 rfl) ?_
          refine gX4_230 F hw (wW_5 hu) (v := va_rf (wa_op ad 3 (S 28 u))) rfl dX4_mustRenew_55 ?_
          rw [wa_op_ref c4]
          refine wa_ac_eq (tgt := 65) (rx := (some (ad 3 ((f_next S u).toNat)))) (ry := (some (ad 3 ((S 28 u).toNat)))) (P := f_next S u = S 28 u) F (wx_bk_eq' hin (show 0 ≤ f_next S u ∧ f_next S u < S 21 0 from ⟨c50, (f_bakeFor_rng3 hwf _ _ _).2⟩) (show 0 ≤ S 28 u ∧ S 28 u < S 21 0 from ⟨c4, (w28 u hu).2⟩)) dX4_mustRenew_58 (by decide) (fun c58 => ?_) (fun c58 => ?_)
          · skip
            refine wa_const F dX4_mustRenew_65 ?_
            exact wa_epz F (bI_f (fun hq => by have hq2 := of_decide_eq_true hq; have q28 := w28 u hu; have qn : -1 ≤ f_next S u ∧ f_next S u < S 21 0 := f_bakeFor_rng3 hwf _ _ _; omega)).symm (by decide) dX4_mustRenew_66
          · skip
            refine wa_const F dX4_mustRenew_61 ?_
            refine wa_goto (tgt := 66) F dX4_mustRenew_62 (by decide) ?_
            exact wa_epz F (bI_t (decide_eq_true ⟨by omega, Or.inr (Or.inr ⟨by omega, c58⟩)⟩)).symm (by decide) dX4_mustRenew_66
  · skip
    refine wa_const F dX4_mustRenew_7 ?_
    exact wa_epz F (bI_f (fun hq => by have hq2 := of_decide_eq_true hq; have q28 := w28 u hu; have qn : -1 ≤ f_next S u ∧ f_next S u < S 21 0 := f_bakeFor_rng3 hwf _ _ _; omega)).symm (by decide) dX4_mustRenew_8
set_option maxRecDepth 100000 in
set_option maxHeartbeats 4000000 in
/-- isAhead -/
theorem c_X4_isAhead (l : Launch) (D : va_G) (cy : Nat → ClassId) (ad : Nat → Nat → Nat) (S X T : wa_St) (o : Int64) (hwf : wf S) (hxr : xr S X) (hin : wx_inj ad S) (z zo : Int) (hz : -1 ≤ z ∧ z < S 21 0) (hzo : -1 ≤ zo ∧ zo < S 29 0) : Met l yX4_isAhead wX4_isAhead ({ frames := 0, cells := 0, slots := 0, locals := 0 } : Room) (wa_pc [va_rf (wa_op ad 3 z), va_rf (wa_op ad 5 zo)] D cy (fun H => wa_wd D ad (wW cy ad S X T o) H)) (wa_Qp (bI (x_ah S z zo))) 0 0 (fun _ => False) := by
  refine wa_en (by decide +kernel) (by simp [lg_sl, wa_catq, show ∀ z, (Value.ref z).category = 1 from fun _ => rfl, show ∀ z, (Value.int z).category = 1 from fun _ => rfl]) ?_
  intro p e s m args below meth c F hw ls hl
  simp only [lv_args, wa_catq] at hl
  have F : wa_fx p s m c meth args cX4_isAhead 2 RX4 "isAhead" (Option.some FieldType.boolean) D cy := F
  have hw : wa_wd D ad (wW cy ad S X T o) s.heap := hw
  have hl : lv_has ls 2 [(0, va_rf (wa_op ad 3 z)), (1, va_rf (wa_op ad 5 zo))] := hl
  obtain ⟨hx, hb, hml, hown, hts⟩ := id F.1
  obtain ⟨hSB, w8, w21, w12, w29, w4, w7, w6, w5, w13, w25, w26, w28, w14, w3, wf17⟩ := id hwf
  obtain ⟨hx1, hXB, hx11, hx12, hx13, hx14, hx15, hx16⟩ := id hxr
  refine wa_ldq_n F dX4_isAhead_0 rfl (lv_at hl 0 rfl) ?_
  refine wa_nu_op (tgt := 15) F dX4_isAhead_1 (by decide) (fun c1 => ?_) (fun c1 => ?_)
  · skip
    refine wa_const F dX4_isAhead_15 ?_
    exact wa_epz F (show _ = bI (x_ah S z zo) by first | exact (bI_t (by omega)).symm | exact (bI_f (by omega)).symm) (by decide) dX4_isAhead_16
  · skip
    rw [wa_op_ref (ad := ad) (kd := 3) c1] at hl
    have hl : lv_has ls 2 [(0, .ref (ad 3 (z.toNat))), (1, va_rf (wa_op ad 5 zo))] := hl
    refine wa_ldq_n F dX4_isAhead_4 rfl (lv_at hl 1 rfl) ?_
    refine wa_nu_op (tgt := 15) F dX4_isAhead_5 (by decide) (fun c5 => ?_) (fun c5 => ?_)
    · skip
      refine wa_const F dX4_isAhead_15 ?_
      exact wa_epz F (show _ = bI (x_ah S z zo) by first | exact (bI_t (by omega)).symm | exact (bI_f (by omega)).symm) (by decide) dX4_isAhead_16
    · skip
      rw [wa_op_ref (ad := ad) (kd := 5) c5] at hl
      have hl : lv_has ls 2 [(0, .ref (ad 3 (z.toNat))), (1, .ref (ad 5 (zo.toNat)))] := hl
      refine lv_aload_n hx hb dX4_isAhead_8 rfl (lv_at hl 1 rfl) ?_
      refine gX4_230 F hw (wW_5 (show ((zo.toNat : Nat) : Int) < S 29 0 by have q3 := hzo; have q4 := c5; omega)) (v := va_rf (wa_op ad 3 (S 28 (zo.toNat)))) rfl dX4_isAhead_9 ?_
      refine wa_nn_op (tgt := 17) F dX4_isAhead_12 (by decide) (fun c12 => ?_) (fun c12 => ?_)
      · skip
        refine lv_aload_n hx hb dX4_isAhead_17 rfl (lv_at hl 0 rfl) ?_
        refine gX4_157 F hw (wW_3 (show ((z.toNat : Nat) : Int) < S 21 0 by have q3 := hz; have q4 := c1; omega)) (v := .int (iI (S 17 (z.toNat)))) rfl dX4_isAhead_18 ?_
        refine lv_aload_n hx hb dX4_isAhead_21 rfl (lv_at hl 1 rfl) ?_
        refine gX4_230 F hw (wW_5 (show ((zo.toNat : Nat) : Int) < S 29 0 by have q3 := hzo; have q4 := c5; omega)) (v := va_rf (wa_op ad 3 (S 28 (zo.toNat)))) rfl dX4_isAhead_22 ?_
        rw [wa_op_ref c12]
        refine gX4_157 F hw (wW_3 (show (((S 28 (zo.toNat)).toNat : Nat) : Int) < S 21 0 by have q3 := (show -1 ≤ (S 28 (zo.toNat)) ∧ (S 28 (zo.toNat)) < S 21 0 by have q := w28 (zo.toNat) (show ((zo.toNat : Nat) : Int) < S 29 0 by have q3 := hzo; have q4 := c5; omega); omega); have q4 := c12; omega)) (v := .int (iI (S 17 ((S 28 (zo.toNat)).toNat)))) rfl dX4_isAhead_25 ?_
        refine wa_ic_eq (tgt := 36) F dX4_isAhead_28 (by decide) (by have q0 := hSB 17 (z.toNat); exact ⟨by omega, by omega⟩) (by have q0 := hSB 17 ((S 28 (zo.toNat)).toNat); exact ⟨by omega, by omega⟩) (fun c28 => ?_) (fun c28 => ?_)
        · skip
          refine lv_aload_n hx hb dX4_isAhead_36 rfl (lv_at hl 0 rfl) ?_
          refine gX4_295 F hw (wW_3 (show ((z.toNat : Nat) : Int) < S 21 0 by have q3 := hz; have q4 := c1; omega)) (v := .int (iI (S 15 (z.toNat)))) rfl dX4_isAhead_37 ?_
          refine lv_aload_n hx hb dX4_isAhead_40 rfl (lv_at hl 1 rfl) ?_
          refine gX4_230 F hw (wW_5 (show ((zo.toNat : Nat) : Int) < S 29 0 by have q3 := hzo; have q4 := c5; omega)) (v := va_rf (wa_op ad 3 (S 28 (zo.toNat)))) rfl dX4_isAhead_41 ?_
          rw [wa_op_ref c12]
          refine gX4_295 F hw (wW_3 (show (((S 28 (zo.toNat)).toNat : Nat) : Int) < S 21 0 by have q3 := (show -1 ≤ (S 28 (zo.toNat)) ∧ (S 28 (zo.toNat)) < S 21 0 by have q := w28 (zo.toNat) (show ((zo.toNat : Nat) : Int) < S 29 0 by have q3 := hzo; have q4 := c5; omega); omega); have q4 := c12; omega)) (v := .int (iI (S 15 ((S 28 (zo.toNat)).toNat)))) rfl dX4_isAhead_44 ?_
          refine wa_ic_ge (tgt := 54) F dX4_isAhead_47 (by decide) (by have q0 := hSB 15 (z.toNat); exact ⟨by omega, by omega⟩) (by have q0 := hSB 15 ((S 28 (zo.toNat)).toNat); exact ⟨by omega, by omega⟩) (fun c47 => ?_) (fun c47 => ?_)
          · skip
            refine wa_const F dX4_isAhead_54 ?_
            exact wa_epz F (show _ = bI (x_ah S z zo) by first | exact (bI_t (by omega)).symm | exact (bI_f (by omega)).symm) (by decide) dX4_isAhead_55
          · skip
            refine wa_const F dX4_isAhead_50 ?_
            refine wa_goto (tgt := 55) F dX4_isAhead_51 (by decide) ?_
            exact wa_epz F (show _ = bI (x_ah S z zo) by first | exact (bI_t (by omega)).symm | exact (bI_f (by omega)).symm) (by decide) dX4_isAhead_55
        · skip
          refine lv_aload_n hx hb dX4_isAhead_31 rfl (lv_at hl 0 rfl) ?_
          refine gX4_157 F hw (wW_3 (show ((z.toNat : Nat) : Int) < S 21 0 by have q3 := hz; have q4 := c1; omega)) (v := .int (iI (S 17 (z.toNat)))) rfl dX4_isAhead_32 ?_
          (rcases (show S 17 z.toNat = 0 ∨ S 17 z.toNat = 1 by have q := wf17 z.toNat; omega) with q17 | q17)
          · exact wa_epz F (show _ = bI (x_ah S z zo) by exact q17.trans (bI_f (by omega)).symm) (Or.inl q17) dX4_isAhead_35
          · exact wa_epz F (show _ = bI (x_ah S z zo) by exact q17.trans (bI_t (by omega)).symm) (Or.inr q17) dX4_isAhead_35
      · skip
        refine wa_const F dX4_isAhead_15 ?_
        exact wa_epz F (show _ = bI (x_ah S z zo) by first | exact (bI_t (by omega)).symm | exact (bI_f (by omega)).symm) (by decide) dX4_isAhead_16
set_option maxRecDepth 100000 in
set_option maxHeartbeats 4000000 in
/-- followSteps -/
theorem c_X4_followSteps (l : Launch) (D : va_G) (cy : Nat → ClassId) (ad : Nat → Nat → Nat) (S X T : wa_St) (o : Int64) (hwf : wf S) (hxr : xr S X) (hin : wx_inj ad S) (i : Nat) (hi : (i : Int) < S 8 0) (fr9 hei : Int) (rfr : -2 ≤ fr9 ∧ fr9 ≤ 100000) (rhei : -2 ≤ hei ∧ hei ≤ 100000) : Met l yX4_followSteps wX4_followSteps ({ frames := 2, cells := 0, slots := 0, locals := 44 } : Room) (wa_pc [.ref (ad 0 0), .ref (ad 1 i), .int (iI fr9), .int (iI hei)] D cy (fun H => wa_wd D ad (wW cy ad S X T o) H)) (wa_Qp (x_follow S X i fr9 hei)) 0 0 (fun _ => False) := by
  refine wa_en (by decide +kernel) (Nat.le_of_ble_eq_true rfl) ?_
  intro p e s m args below meth c F hw ls hl
  have F : wa_fx p s m c meth args cX4_followSteps 7 RX4 "followSteps" (Option.some FieldType.int) D cy := F
  have hw : wa_wd D ad (wW cy ad S X T o) s.heap := hw
  have hl : lv_has ls 7 [(0, .ref (ad 0 0)), (1, .ref (ad 1 i)), (2, .int (iI fr9)), (3, .int (iI hei))] := hl
  obtain ⟨hx, hb, hml, hown, hts⟩ := id F.1
  obtain ⟨hSB, w8, w21, w12, w29, w4, w7, w6, w5, w13, w25, w26, w28, w14, w3, wf17⟩ := id hwf
  obtain ⟨hx1, hXB, hx11, hx12, hx13, hx14, hx15, hx16⟩ := id hxr
  have w6i := w6 i
  refine lv_iload_n hx hb dX4_followSteps_0 rfl (lv_at hl 2 rfl) ?_
  refine wa_if_ge (tgt := 7) F dX4_followSteps_1 (by decide) (by have q0 := rfr; exact ⟨by omega, by omega⟩) (fun c1 => ?_) (fun c1 => ?_)
  · skip
    refine wa_const F dX4_followSteps_7 ?_
    refine lv_istore (lv' := [(4, .int (iI 0)), (0, .ref (ad 0 0)), (1, .ref (ad 1 i)), (2, .int (iI fr9)), (3, .int (iI hei))]) hx hb dX4_followSteps_8 hl (by decide) rfl (fun ls hl => ?_)
    have loop10 : ∀ (k : Nat) (sx : Nat), (sx + k = (S 6 i).toNat) → (x_fol S X i fr9 hei k sx = x_fol S X i fr9 hei (S 6 i).toNat 0) → ∀ ls : Array Slot, lv_has ls 7 [(0, .ref (ad 0 0)), (1, .ref (ad 1 i)), (2, .int (iI fr9)), (3, .int (iI hei)), (4, .int (iI (sx : Int)))] → W p l e ({ frames := 2, cells := 0, slots := 0, locals := 44 } : Room) s m args below meth c s.heap [] 0 0 (MQ below (wa_Qp (x_follow S X i fr9 hei)) args s 0 0 (fun _ => False)) (F0 m 10 ls []) := by
      intro k
      induction k with
      | zero =>
        intro sx hk hr ls hl
        refine lv_iload hx hb dX4_followSteps_10 (lv_at hl 4 rfl) ?_
        refine lv_aload_n hx hb dX4_followSteps_12 rfl (lv_at hl 1 rfl) ?_
        refine gX4_94 F hw (wW_1 hi) (v := .int (iI (S 6 i))) rfl dX4_followSteps_13 ?_
        refine wa_ic_ge (tgt := 79) F dX4_followSteps_16 (by decide) (by exact ⟨by omega, by omega⟩) (by have q0 := hSB 6 i; exact ⟨by omega, by omega⟩) (fun c16 => ?_) (fun c16 => absurd c16 (by omega))
        refine lv_iload_n hx hb dX4_followSteps_79 rfl (lv_at hl 2 rfl) ?_
        refine lv_aload_n hx hb dX4_followSteps_80 rfl (lv_at hl 1 rfl) ?_
        refine gX4_94 F hw (wW_1 hi) (v := .int (iI (S 6 i))) rfl dX4_followSteps_81 ?_
        refine wa_add F dX4_followSteps_84 ?_
        exact wa_ep F (by unfold x_follow; rw [if_neg (by omega), if_pos (by rw [← hr]; rfl)]) dX4_followSteps_85
      | succ k ih10 =>
        intro sx hk hr ls hl
        refine lv_iload hx hb dX4_followSteps_10 (lv_at hl 4 rfl) ?_
        refine lv_aload_n hx hb dX4_followSteps_12 rfl (lv_at hl 1 rfl) ?_
        refine gX4_94 F hw (wW_1 hi) (v := .int (iI (S 6 i))) rfl dX4_followSteps_13 ?_
        refine wa_ic_ge (tgt := 79) F dX4_followSteps_16 (by decide) (by exact ⟨by omega, by omega⟩) (by have q0 := hSB 6 i; exact ⟨by omega, by omega⟩) (fun c16 => absurd c16 (by omega)) (fun c16 => ?_)
        refine lv_aload_n hx hb dX4_followSteps_19 rfl (lv_at hl 1 rfl) ?_
        refine gX4_247 F hw (wW_1 hi) (v := .ref (ad 2 i)) rfl dX4_followSteps_20 ?_
        refine lv_iload hx hb dX4_followSteps_23 (lv_at hl 4 rfl) ?_
        refine wa_cp (kX4_181 F (c_X4_at l D cy ad S X T o hwf hxr hin 2 i 5 (fun j => S 5 (5 * i + j)) (wW_2 hi) (by decide) ((sx : Int)) (by exact ⟨by omega, by omega⟩)) ⟨by decide, by decide⟩ ⟨rfl, rfl⟩ hw rfl rfl (Nat.le_of_ble_eq_true rfl) hl.1 dX4_followSteps_25 ⟨Nat.le_refl _, Nat.le_refl _⟩) ?_
        have w5s := w5 (5 * i + sx)
        rw [f_at_in sx rfl (by omega)]
        refine W.eq (g2 := F0 m 28 ls [.int (iI (S 5 (5 * i + sx)))]) rfl ?_
        refine lv_istore (lv' := [(5, .int (iI (S 5 (5 * i + sx)))), (0, .ref (ad 0 0)), (1, .ref (ad 1 i)), (2, .int (iI fr9)), (3, .int (iI hei)), (4, .int (iI (sx : Int)))]) hx hb dX4_followSteps_28 hl (by decide) rfl (fun ls hl => ?_)
        refine lv_aload_n hx hb dX4_followSteps_30 rfl (lv_at hl 1 rfl) ?_
        refine gX4_50 F hw rfl (v := .ref (ad 0 13)) rfl dX4_followSteps_31 ?_
        refine lv_iload_n hx hb dX4_followSteps_34 rfl (lv_at hl 4 rfl) ?_
        refine wa_const F dX4_followSteps_35 ?_
        refine wa_sub F dX4_followSteps_36 ?_
        refine lv_iload_n hx hb dX4_followSteps_37 rfl (lv_at hl 3 rfl) ?_
        refine wa_sub F dX4_followSteps_38 ?_
        refine lv_iload hx hb dX4_followSteps_39 (lv_at hl 5 rfl) ?_
        refine wa_sub F dX4_followSteps_41 ?_
        refine wa_cp (kX4_181 F (c_X4_at l D cy ad S X T o hwf hxr hin 0 13 50 (X 13) rfl (by decide) ((((hei - 1) - fr9) - (sx : Int))) (by have q0 := rhei; have q1 := rfr; exact ⟨by omega, by omega⟩)) ⟨by decide, by decide⟩ ⟨rfl, rfl⟩ hw rfl rfl (Nat.le_of_ble_eq_true rfl) hl.1 dX4_followSteps_42 ⟨Nat.le_refl _, Nat.le_refl _⟩) ?_
        refine lv_istore (lv' := [(6, .int (iI (f_at 50 (X 13) (hei - 1 - fr9 - (sx : Int))))), (5, .int (iI (S 5 (5 * i + sx)))), (0, .ref (ad 0 0)), (1, .ref (ad 1 i)), (2, .int (iI fr9)), (3, .int (iI hei)), (4, .int (iI (sx : Int)))]) hx hb dX4_followSteps_45 hl (by decide) rfl (fun ls hl => ?_)
        refine lv_aload_n hx hb dX4_followSteps_47 rfl (lv_at hl 2 rfl) ?_
        refine gX4_12 F hw rfl (v := .ref (ad 0 1)) rfl dX4_followSteps_48 ?_
        refine lv_iload hx hb dX4_followSteps_51 (lv_at hl 0 rfl) ?_
        refine lv_iload hx hb dX4_followSteps_53 (lv_at hl 1 rfl) ?_
        refine lv_aload_n hx hb dX4_followSteps_55 rfl (lv_at hl 2 rfl) ?_
        refine gX4_16 F hw rfl (v := .ref (ad 0 5)) rfl dX4_followSteps_56 ?_
        refine lv_iload hx hb dX4_followSteps_59 (lv_at hl 1 rfl) ?_
        refine wa_cp (kX4_181 F (c_X4_at l D cy ad S X T o hwf hxr hin 0 5 10 (S 2) rfl (by decide) ((S 5 (5 * i + sx))) (by have q0 := hSB 5 (5 * i + sx); exact ⟨by omega, by omega⟩)) ⟨by decide, by decide⟩ ⟨rfl, rfl⟩ hw rfl rfl (Nat.le_of_ble_eq_true rfl) hl.1 dX4_followSteps_61 ⟨Nat.le_refl _, Nat.le_refl _⟩) ?_
        rw [f_at_in (((S 5 (5 * i + sx))).toNat) (by have q0 := hSB 5 (5 * i + sx); omega) (by have q0 := hSB 5 (5 * i + sx); have q1 := w5s; omega)]
        refine W.eq (g2 := F0 m 64 ls [.int (iI (S 2 (((S 5 (5 * i + sx))).toNat))), .int (iI (S 5 (5 * i + sx))), .int (iI (f_at 50 (X 13) (hei - 1 - fr9 - (sx : Int)))), .ref (ad 0 1)]) rfl ?_
        refine wa_cp (kX4_289 F (c_X2_isOf l D cy ad S X T o hwf hxr hin ((f_at 50 (X 13) (hei - 1 - fr9 - (sx : Int)))) ((S 5 (5 * i + sx))) ((S 2 (((S 5 (5 * i + sx))).toNat))) (by have q0 := f_at_rng hXB 50 13 (hei - 1 - fr9 - (sx : Int)); exact ⟨by omega, by omega⟩) (by have q0 := hSB 5 (5 * i + sx); exact ⟨by omega, by omega⟩) (by have q0 := hSB 2 (((S 5 (5 * i + sx))).toNat); exact ⟨by omega, by omega⟩)) ⟨by decide, by decide⟩ ⟨rfl, rfl⟩ hw hw rfl rfl rfl (Nat.le_of_ble_eq_true rfl) hl.1 dX4_followSteps_64 ⟨Nat.le_refl _, Nat.le_refl _⟩) ?_
        by_cases b64 : f_isOf S ((f_at 50 (X 13) (hei - 1 - fr9 - (sx : Int)))) ((S 5 (5 * i + sx))) ((S 2 (((S 5 (5 * i + sx))).toNat)))
        · rw [bI_t b64]
          refine wa_if_ne (tgt := 73) F dX4_followSteps_67 (by decide) (by decide) (fun c67 => ?_) (fun c67 => absurd c67 (by decide))
          refine wa_inc (k := 6) (b := ((sx + 1) : Int)) (lv' := [(4, .int (iI ((sx + 1) : Int))), (6, .int (iI (f_at 50 (X 13) (hei - 1 - fr9 - (sx : Int))))), (5, .int (iI (S 5 (5 * i + sx)))), (0, .ref (ad 0 0)), (1, .ref (ad 1 i)), (2, .int (iI fr9)), (3, .int (iI hei))]) F dX4_followSteps_73 hl rfl (by omega) (by decide) rfl (fun ls hl => ?_)
          refine wa_goto (tgt := 10) F dX4_followSteps_76 (by decide) ?_
          exact ih10 (sx + 1) (by omega) (by rw [← hr]; simp only [x_fol]; rw [decide_eq_true b64, Bool.true_and]) ls (lv_sub hl [3, 4, 5, 6, 0] rfl)
        · rw [bI_f b64]
          refine wa_if_ne (tgt := 73) F dX4_followSteps_67 (by decide) (by decide) (fun c67 => absurd c67 (by decide)) (fun c67 => ?_)
          refine wa_bi F dX4_followSteps_70 (by decide +kernel) ?_
          exact wa_ep F (by unfold x_follow; rw [if_neg (by omega), if_neg (by rw [← hr]; simp only [x_fol]; rw [decide_eq_false b64]; simp)]) dX4_followSteps_72
    exact loop10 ((S 6 i).toNat) 0 (by omega) rfl ls (lv_sub hl [1, 2, 3, 4, 0] rfl)
  · skip
    refine wa_bi F dX4_followSteps_4 (by decide +kernel) ?_
    exact wa_ep F (by unfold x_follow; rw [if_pos (by omega)]) dX4_followSteps_6
