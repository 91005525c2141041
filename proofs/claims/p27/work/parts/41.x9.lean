/-! contracts of the class: countBakesToCome (laid by program) -/
set_option maxRecDepth 100000 in
set_option maxHeartbeats 4000000 in
/-- countBakesToCome -/
theorem c_X4_countBakesToCome (l : Launch) (D : va_G) (cy : Nat → ClassId) (ad : Nat → Nat → Nat) (S X T : wa_St) (o : Int64) (A : Nat → Prop) (hj : wa_wj A ad (wW cy ad S X T o)) (hwf : wf S) (hxr : xr S X) (hin : wx_inj ad S) : Met l yX4_countBakesToCome wX4_countBakesToCome ({ frames := 4, cells := 0, slots := 0, locals := 93 } : Room) (wa_pc [.ref (ad 0 0)] D cy (fun H => wa_wd D ad (wW cy ad S X T o) H)) (wx_Qi A D cy ad T o (S) (fun u => xr S u ∧ ∀ j, u 11 j = X 11 j) (f_cnt (x_nc S) (S 8 0).toNat)) 0 0 A := by
  refine wa_en (by decide +kernel) (Nat.le_of_ble_eq_true rfl) ?_
  intro p e s m args below meth c F hw ls hl
  have F : wa_fx p s m c meth args cX4_countBakesToCome 7 RX4 "countBakesToCome" (Option.some FieldType.int) D cy := F
  have hw : wa_wd D ad (wW cy ad S X T o) s.heap := hw
  have hl : lv_has ls 7 [(0, .ref (ad 0 0))] := hl
  obtain ⟨hx, hb, hml, hown, hts⟩ := id F.1
  obtain ⟨hSB, w8, w21, w12, w29, w4, w7, w6, w5, w13, w25, w26, w28, w14, w3, wf17⟩ := id hwf
  obtain ⟨hx1, hXB, hx11, hx12, hx13, hx14, hx15, hx16⟩ := id hxr
  have hS : va_S A s.heap s.heap [] := va_S.rf
  refine wa_const F dX4_countBakesToCome_0 ?_
  refine lv_istore_n (lv' := [(1, .int (iI 0)), (0, .ref (ad 0 0))]) hx hb dX4_countBakesToCome_1 rfl hl (by decide) rfl (fun ls hl => ?_)
  refine lv_aload_n hx hb dX4_countBakesToCome_2 rfl (lv_at hl 1 rfl) ?_
  refine gX4_25 F hw rfl (v := .ref (ad 0 7)) rfl dX4_countBakesToCome_3 ?_
  refine lv_astore_n (lv' := [(2, .ref (ad 0 7)), (1, .int (iI 0)), (0, .ref (ad 0 0))]) hx hb dX4_countBakesToCome_6 rfl hl (by decide) rfl (fun ls hl => ?_)
  refine lv_aload_n hx hb dX4_countBakesToCome_7 rfl (lv_at hl 0 rfl) ?_
  refine wa_alen (t0 := 3) F hw rfl rfl 10 rfl (by decide) dX4_countBakesToCome_8 ?_
  refine W.eq (g2 := F0 m 9 ls [.int (iI 10)]) rfl ?_
  refine lv_istore_n (lv' := [(3, .int (iI 10)), (2, .ref (ad 0 7)), (1, .int (iI 0)), (0, .ref (ad 0 0))]) hx hb dX4_countBakesToCome_9 rfl hl (by decide) rfl (fun ls hl => ?_)
  refine wa_const F dX4_countBakesToCome_10 ?_
  refine lv_istore (lv' := [(4, .int (iI 0)), (3, .int (iI 10)), (2, .ref (ad 0 7)), (1, .int (iI 0)), (0, .ref (ad 0 0))]) hx hb dX4_countBakesToCome_11 hl (by decide) rfl (fun ls hl => ?_)
  have loop13 : ∀ (k : Nat) (jx : Nat) (q : Int) (X0 : wa_St) (H : Heap) (locs : List Loc), (jx + k = 10) → (xr S X0) → (∀ j, j < min jx (S 8 0).toNat → X0 20 j = x_ct S j) → (q = f_cnt (x_nc S) (min jx (S 8 0).toNat)) → (∀ j, X0 11 j = X 11 j) → wa_wd D ad (wW cy ad S X0 T o) H → va_S A s.heap H locs → ∀ ls : Array Slot, lv_has ls 7 [(0, .ref (ad 0 0)), (1, .int (iI q)), (2, .ref (ad 0 7)), (3, .int (iI 10)), (4, .int (iI (jx : Int)))] → W p l e ({ frames := 4, cells := 0, slots := 0, locals := 93 } : Room) s m args below meth c H locs 0 0 (MQ below (wx_Qi A D cy ad T o (S) (fun u => xr S u ∧ ∀ j, u 11 j = X 11 j) (f_cnt (x_nc S) (S 8 0).toNat)) args s 0 0 A) (F0 m 13 ls []) := by
    intro k
    induction k with
    | zero =>
      intro jx q X0 H locs hk hxr0 h20 hq h11 hw hS ls hl
      obtain ⟨hx1, hXB, hx11, hx12, hx13, hx14, hx15, hx16⟩ := id hxr0
      refine lv_iload hx hb dX4_countBakesToCome_13 (lv_at hl 4 rfl) ?_
      refine lv_iload_n hx hb dX4_countBakesToCome_15 rfl (lv_at hl 3 rfl) ?_
      refine wa_ic_ge (tgt := 98) F dX4_countBakesToCome_16 (by decide) (by exact ⟨by omega, by omega⟩) (by decide) (fun c16 => ?_) (fun c16 => absurd c16 (by omega))
      refine lv_iload_n hx hb dX4_countBakesToCome_98 rfl (lv_at hl 1 rfl) ?_
      exact wx_ei F hw hS (by rw [hq, show min jx (S 8 0).toNat = (S 8 0).toNat by omega]) ⟨hxr0, h11⟩ dX4_countBakesToCome_99
    | succ k ih13 =>
      intro jx q X0 H locs hk hxr0 h20 hq h11 hw hS ls hl
      obtain ⟨hx1, hXB, hx11, hx12, hx13, hx14, hx15, hx16⟩ := id hxr0
      refine lv_iload hx hb dX4_countBakesToCome_13 (lv_at hl 4 rfl) ?_
      refine lv_iload_n hx hb dX4_countBakesToCome_15 rfl (lv_at hl 3 rfl) ?_
      refine wa_ic_ge (tgt := 98) F dX4_countBakesToCome_16 (by decide) (by exact ⟨by omega, by omega⟩) (by decide) (fun c16 => absurd c16 (by omega)) (fun c16 => ?_)
      refine lv_aload_n hx hb dX4_countBakesToCome_19 rfl (lv_at hl 2 rfl) ?_
      refine lv_iload hx hb dX4_countBakesToCome_20 (lv_at hl 4 rfl) ?_
      refine wa_aald (g := (wx_in ad 1 (S 8 0))) (t0 := 3) F hw rfl rfl jx rfl (by omega) (by decide) dX4_countBakesToCome_22 ?_
      refine wa_stq (lv' := [(5, va_rf (wx_in ad 1 (S 8 0) jx)), (0, .ref (ad 0 0)), (1, .int (iI q)), (2, .ref (ad 0 7)), (3, .int (iI 10)), (4, .int (iI (jx : Int)))]) F dX4_countBakesToCome_23 hl (by decide) rfl (fun ls hl => ?_)
      refine wa_ldq F dX4_countBakesToCome_25 (lv_at hl 0 rfl) ?_
      refine wa_nu_in (tgt := 92) F dX4_countBakesToCome_27 (by decide) (fun c27 => ?_) (fun c27 => ?_)
      · skip
        refine wa_inc (k := 5) (b := ((jx + 1) : Int)) (lv' := [(4, .int (iI ((jx + 1) : Int))), (5, va_rf (wx_in ad 1 (S 8 0) jx)), (0, .ref (ad 0 0)), (1, .int (iI q)), (2, .ref (ad 0 7)), (3, .int (iI 10))]) F dX4_countBakesToCome_92 hl rfl (by omega) (by decide) rfl (fun ls hl => ?_)
        refine wa_goto (tgt := 13) F dX4_countBakesToCome_95 (by decide) ?_
        exact ih13 (jx + 1) q X0 _ _ (by omega) hxr0 (by rw [show min (jx + 1) (S 8 0).toNat = min jx (S 8 0).toNat by omega]; exact h20) (by rw [hq, show min (jx + 1) (S 8 0).toNat = min jx (S 8 0).toNat by omega]) h11 hw hS ls (lv_sub hl [2, 3, 4, 5, 0] rfl)
      · skip
        rw [wx_in_ref (ad := ad) (kd := 1) c27] at hl
        have hl : lv_has ls 7 [(5, .ref (ad 1 jx)), (0, .ref (ad 0 0)), (1, .int (iI q)), (2, .ref (ad 0 7)), (3, .int (iI 10)), (4, .int (iI (jx : Int)))] := hl
        refine lv_aload hx hb dX4_countBakesToCome_30 (lv_at hl 0 rfl) ?_
        refine gX4_99 F hw (wW_1 c27) (v := va_rf (wa_op ad 1 (S 4 jx))) rfl dX4_countBakesToCome_32 ?_
        refine wa_nn_op (tgt := 42) F dX4_countBakesToCome_35 (by decide) (fun c35 => ?_) (fun c35 => ?_)
        · skip
          refine lv_aload hx hb dX4_countBakesToCome_42 (lv_at hl 0 rfl) ?_
          refine gX4_99 F hw (wW_1 c27) (v := va_rf (wa_op ad 1 (S 4 jx))) rfl dX4_countBakesToCome_44 ?_
          rw [wa_op_ref c35]
          refine gX4_271 F hw (wW_1 (show (((S 4 jx).toNat : Nat) : Int) < S 8 0 by have q3 := (show -1 ≤ (S 4 jx) ∧ (S 4 jx) < S 8 0 by have q := w4 jx c27; have q2 := c27; omega); have q4 := c35; omega)) (v := .int (iI (X0 20 ((S 4 jx).toNat)))) rfl dX4_countBakesToCome_47 ?_
          refine lv_istore (lv' := [(6, .int (iI (X0 20 ((S 4 jx).toNat)))), (5, .ref (ad 1 jx)), (0, .ref (ad 0 0)), (1, .int (iI q)), (2, .ref (ad 0 7)), (3, .int (iI 10)), (4, .int (iI (jx : Int)))]) hx hb dX4_countBakesToCome_50 hl (by decide) rfl (fun ls hl => ?_)
          refine lv_aload hx hb dX4_countBakesToCome_52 (lv_at hl 1 rfl) ?_
          refine lv_aload_n hx hb dX4_countBakesToCome_54 rfl (lv_at hl 2 rfl) ?_
          refine lv_iload hx hb dX4_countBakesToCome_55 (lv_at hl 0 rfl) ?_
          refine lv_aload hx hb dX4_countBakesToCome_57 (lv_at hl 1 rfl) ?_
          refine wa_cp (kX4_261 F (c_X4_topFrom l D cy ad S X0 T o hwf hxr0 hin ((X0 20 ((S 4 jx).toNat))) (hXB 20 (S 4 jx).toNat) jx c27) ⟨by decide, by decide⟩ ⟨rfl, rfl⟩ hw hw rfl rfl rfl (Nat.le_of_ble_eq_true rfl) hl.1 dX4_countBakesToCome_59 ⟨Nat.le_refl _, Nat.le_refl _⟩) ?_
          refine qX4_271 F hw (wj_of hj rfl rfl rfl) hS c27 dX4_countBakesToCome_62 (fun H locs hw hS => ?_)
          have hrt : -2 ≤ (f_top S (S 6 jx).toNat (5 * jx) ((X0 20 ((S 4 jx).toNat)))) ∧ (f_top S (S 6 jx).toNat (5 * jx) ((X0 20 ((S 4 jx).toNat)))) ≤ 100000 := f_top_rng hwf (S 6 jx).toNat (5 * jx) ((X0 20 ((S 4 jx).toNat))) (hXB 20 (S 4 jx).toNat)
          have w4j := w4 jx c27
          have hct : (f_top S (S 6 jx).toNat (5 * jx) ((X0 20 ((S 4 jx).toNat)))) = x_ct S jx := by rw [x_ct_eq w4j.2, if_neg (by omega), h20 _ (by omega)]
          have hxr1 := xr_20 hxr0 jx (v := (f_top S (S 6 jx).toNat (5 * jx) ((X0 20 ((S 4 jx).toNat))))) hrt
          refine lv_aload hx hb dX4_countBakesToCome_65 (lv_at hl 1 rfl) ?_
          refine gX4_103 F hw (wW_1 c27) (v := va_rf (wa_op ad 3 (S 7 jx))) (by first | rfl | simp [wx_fI, wx_fB, wx_fM, wa_s]) dX4_countBakesToCome_67 ?_
          refine wa_nu_op (tgt := 89) F dX4_countBakesToCome_70 (by decide) (fun c70 => ?_) (fun c70 => ?_)
          · skip
            refine wa_inc (k := 3) (b := (q + 1)) (lv' := [(1, .int (iI (q + 1))), (6, .int (iI (X0 20 ((S 4 jx).toNat)))), (5, .ref (ad 1 jx)), (0, .ref (ad 0 0)), (2, .ref (ad 0 7)), (3, .int (iI 10)), (4, .int (iI (jx : Int)))]) F dX4_countBakesToCome_89 hl rfl rfl (by decide) rfl (fun ls hl => ?_)
            refine wa_inc (k := 6) (b := ((jx + 1) : Int)) (lv' := [(4, .int (iI ((jx + 1) : Int))), (1, .int (iI (q + 1))), (6, .int (iI (X0 20 ((S 4 jx).toNat)))), (5, .ref (ad 1 jx)), (0, .ref (ad 0 0)), (2, .ref (ad 0 7)), (3, .int (iI 10))]) F dX4_countBakesToCome_92 hl rfl (by omega) (by decide) rfl (fun ls hl => ?_)
            refine wa_goto (tgt := 13) F dX4_countBakesToCome_95 (by decide) ?_
            exact ih13 (jx + 1) (q + 1) (wa_s X0 20 jx (f_top S (S 6 jx).toNat (5 * jx) ((X0 20 ((S 4 jx).toNat))))) _ _ (by omega) hxr1 (by rw [show min (jx + 1) (S 8 0).toNat = jx + 1 by omega]; rw [show min jx (S 8 0).toNat = jx by omega] at h20; exact wa_s_list h20 hct) (by rw [hq, show min (jx + 1) (S 8 0).toNat = jx + 1 by omega, show min jx (S 8 0).toNat = jx by omega]; simp only [f_cnt]; rw [bI_t (by unfold x_nc; rw [decide_eq_true_eq]; exact Or.inl c70)]) (fun j => h11 j) hw hS ls (lv_sub hl [4, 1, 5, 6, 0] rfl)
          · skip
            refine lv_aload hx hb dX4_countBakesToCome_73 (lv_at hl 1 rfl) ?_
            refine gX4_103 F hw (wW_1 c27) (v := va_rf (wa_op ad 3 (S 7 jx))) (by first | rfl | simp [wx_fI, wx_fB, wx_fM, wa_s]) dX4_countBakesToCome_75 ?_
            rw [wa_op_ref c70]
            refine gX4_145 F hw (wW_3 (show (((S 7 jx).toNat : Nat) : Int) < S 21 0 by have q3 := (show -1 ≤ (S 7 jx) ∧ (S 7 jx) < S 21 0 by have q := w7 jx c27; omega); have q4 := c70; omega)) (v := .int (iI (S 14 ((S 7 jx).toNat)))) (by first | rfl | simp [wx_fI, wx_fB, wx_fM, wa_s]) dX4_countBakesToCome_78 ?_
            refine lv_aload hx hb dX4_countBakesToCome_81 (lv_at hl 1 rfl) ?_
            refine gX4_271 F hw (wW_1 c27) (v := .int (iI (f_top S (S 6 jx).toNat (5 * jx) ((X0 20 ((S 4 jx).toNat)))))) (by first | rfl | simp [wx_fI, wx_fB, wx_fM, wa_s]) dX4_countBakesToCome_83 ?_
            refine wa_ic_eq (tgt := 92) F dX4_countBakesToCome_86 (by decide) (by have q0 := hSB 14 ((S 7 jx).toNat); exact ⟨by omega, by omega⟩) (by have q0 := f_top_rng hwf (S 6 jx).toNat (5 * jx) ((X0 20 ((S 4 jx).toNat))) (hXB 20 (S 4 jx).toNat); exact ⟨by omega, by omega⟩) (fun c86 => ?_) (fun c86 => ?_)
            · skip
              refine wa_inc (k := 6) (b := ((jx + 1) : Int)) (lv' := [(4, .int (iI ((jx + 1) : Int))), (6, .int (iI (X0 20 ((S 4 jx).toNat)))), (5, .ref (ad 1 jx)), (0, .ref (ad 0 0)), (1, .int (iI q)), (2, .ref (ad 0 7)), (3, .int (iI 10))]) F dX4_countBakesToCome_92 hl rfl (by omega) (by decide) rfl (fun ls hl => ?_)
              refine wa_goto (tgt := 13) F dX4_countBakesToCome_95 (by decide) ?_
              exact ih13 (jx + 1) q (wa_s X0 20 jx (f_top S (S 6 jx).toNat (5 * jx) ((X0 20 ((S 4 jx).toNat))))) _ _ (by omega) hxr1 (by rw [show min (jx + 1) (S 8 0).toNat = jx + 1 by omega]; rw [show min jx (S 8 0).toNat = jx by omega] at h20; exact wa_s_list h20 hct) (by rw [hq, show min (jx + 1) (S 8 0).toNat = jx + 1 by omega, show min jx (S 8 0).toNat = jx by omega]; simp only [f_cnt]; rw [bI_f (by unfold x_nc; rw [decide_eq_true_eq, ← hct]; intro hz; rcases hz with hz | hz; omega; exact hz c86)]; omega) (fun j => h11 j) hw hS ls (lv_sub hl [3, 4, 5, 6, 0] rfl)
            · skip
              refine wa_inc (k := 3) (b := (q + 1)) (lv' := [(1, .int (iI (q + 1))), (6, .int (iI (X0 20 ((S 4 jx).toNat)))), (5, .ref (ad 1 jx)), (0, .ref (ad 0 0)), (2, .ref (ad 0 7)), (3, .int (iI 10)), (4, .int (iI (jx : Int)))]) F dX4_countBakesToCome_89 hl rfl rfl (by decide) rfl (fun ls hl => ?_)
              refine wa_inc (k := 6) (b := ((jx + 1) : Int)) (lv' := [(4, .int (iI ((jx + 1) : Int))), (1, .int (iI (q + 1))), (6, .int (iI (X0 20 ((S 4 jx).toNat)))), (5, .ref (ad 1 jx)), (0, .ref (ad 0 0)), (2, .ref (ad 0 7)), (3, .int (iI 10))]) F dX4_countBakesToCome_92 hl rfl (by omega) (by decide) rfl (fun ls hl => ?_)
              refine wa_goto (tgt := 13) F dX4_countBakesToCome_95 (by decide) ?_
              exact ih13 (jx + 1) (q + 1) (wa_s X0 20 jx (f_top S (S 6 jx).toNat (5 * jx) ((X0 20 ((S 4 jx).toNat))))) _ _ (by omega) hxr1 (by rw [show min (jx + 1) (S 8 0).toNat = jx + 1 by omega]; rw [show min jx (S 8 0).toNat = jx by omega] at h20; exact wa_s_list h20 hct) (by rw [hq, show min (jx + 1) (S 8 0).toNat = jx + 1 by omega, show min jx (S 8 0).toNat = jx by omega]; simp only [f_cnt]; rw [bI_t (by unfold x_nc; rw [decide_eq_true_eq, ← hct]; exact Or.inr c86)]) (fun j => h11 j) hw hS ls (lv_sub hl [4, 1, 5, 6, 0] rfl)
        · skip
          refine wa_const F dX4_countBakesToCome_38 ?_
          refine wa_goto (tgt := 50) F dX4_countBakesToCome_39 (by decide) ?_
          refine lv_istore (lv' := [(6, .int (iI (-1))), (5, .ref (ad 1 jx)), (0, .ref (ad 0 0)), (1, .int (iI q)), (2, .ref (ad 0 7)), (3, .int (iI 10)), (4, .int (iI (jx : Int)))]) hx hb dX4_countBakesToCome_50 hl (by decide) rfl (fun ls hl => ?_)
          refine lv_aload hx hb dX4_countBakesToCome_52 (lv_at hl 1 rfl) ?_
          refine lv_aload_n hx hb dX4_countBakesToCome_54 rfl (lv_at hl 2 rfl) ?_
          refine lv_iload hx hb dX4_countBakesToCome_55 (lv_at hl 0 rfl) ?_
          refine lv_aload hx hb dX4_countBakesToCome_57 (lv_at hl 1 rfl) ?_
          refine wa_cp (kX4_261 F (c_X4_topFrom l D cy ad S X0 T o hwf hxr0 hin ((-1)) (by decide) jx c27) ⟨by decide, by decide⟩ ⟨rfl, rfl⟩ hw hw rfl rfl rfl (Nat.le_of_ble_eq_true rfl) hl.1 dX4_countBakesToCome_59 ⟨Nat.le_refl _, Nat.le_refl _⟩) ?_
          refine qX4_271 F hw (wj_of hj rfl rfl rfl) hS c27 dX4_countBakesToCome_62 (fun H locs hw hS => ?_)
          have hrt : -2 ≤ (f_top S (S 6 jx).toNat (5 * jx) ((-1))) ∧ (f_top S (S 6 jx).toNat (5 * jx) ((-1))) ≤ 100000 := f_top_rng hwf (S 6 jx).toNat (5 * jx) ((-1)) (by decide)
          have w4j := w4 jx c27
          have hct : (f_top S (S 6 jx).toNat (5 * jx) ((-1))) = x_ct S jx := by rw [x_ct_eq w4j.2, if_pos c35]
          have hxr1 := xr_20 hxr0 jx (v := (f_top S (S 6 jx).toNat (5 * jx) ((-1)))) hrt
          refine lv_aload hx hb dX4_countBakesToCome_65 (lv_at hl 1 rfl) ?_
          refine gX4_103 F hw (wW_1 c27) (v := va_rf (wa_op ad 3 (S 7 jx))) (by first | rfl | simp [wx_fI, wx_fB, wx_fM, wa_s]) dX4_countBakesToCome_67 ?_
          refine wa_nu_op (tgt := 89) F dX4_countBakesToCome_70 (by decide) (fun c70 => ?_) (fun c70 => ?_)
          · skip
            refine wa_inc (k := 3) (b := (q + 1)) (lv' := [(1, .int (iI (q + 1))), (6, .int (iI (-1))), (5, .ref (ad 1 jx)), (0, .ref (ad 0 0)), (2, .ref (ad 0 7)), (3, .int (iI 10)), (4, .int (iI (jx : Int)))]) F dX4_countBakesToCome_89 hl rfl rfl (by decide) rfl (fun ls hl => ?_)
            refine wa_inc (k := 6) (b := ((jx + 1) : Int)) (lv' := [(4, .int (iI ((jx + 1) : Int))), (1, .int (iI (q + 1))), (6, .int (iI (-1))), (5, .ref (ad 1 jx)), (0, .ref (ad 0 0)), (2, .ref (ad 0 7)), (3, .int (iI 10))]) F dX4_countBakesToCome_92 hl rfl (by omega) (by decide) rfl (fun ls hl => ?_)
            refine wa_goto (tgt := 13) F dX4_countBakesToCome_95 (by decide) ?_
            exact ih13 (jx + 1) (q + 1) (wa_s X0 20 jx (f_top S (S 6 jx).toNat (5 * jx) ((-1)))) _ _ (by omega) hxr1 (by rw [show min (jx + 1) (S 8 0).toNat = jx + 1 by omega]; rw [show min jx (S 8 0).toNat = jx by omega] at h20; exact wa_s_list h20 hct) (by rw [hq, show min (jx + 1) (S 8 0).toNat = jx + 1 by omega, show min jx (S 8 0).toNat = jx by omega]; simp only [f_cnt]; rw [bI_t (by unfold x_nc; rw [decide_eq_true_eq]; exact Or.inl c70)]) (fun j => h11 j) hw hS ls (lv_sub hl [4, 1, 5, 6, 0] rfl)
          · skip
            refine lv_aload hx hb dX4_countBakesToCome_73 (lv_at hl 1 rfl) ?_
            refine gX4_103 F hw (wW_1 c27) (v := va_rf (wa_op ad 3 (S 7 jx))) (by first | rfl | simp [wx_fI, wx_fB, wx_fM, wa_s]) dX4_countBakesToCome_75 ?_
            rw [wa_op_ref c70]
            refine gX4_145 F hw (wW_3 (show (((S 7 jx).toNat : Nat) : Int) < S 21 0 by have q3 := (show -1 ≤ (S 7 jx) ∧ (S 7 jx) < S 21 0 by have q := w7 jx c27; omega); have q4 := c70; omega)) (v := .int (iI (S 14 ((S 7 jx).toNat)))) (by first | rfl | simp [wx_fI, wx_fB, wx_fM, wa_s]) dX4_countBakesToCome_78 ?_
            refine lv_aload hx hb dX4_countBakesToCome_81 (lv_at hl 1 rfl) ?_
            refine gX4_271 F hw (wW_1 c27) (v := .int (iI (f_top S (S 6 jx).toNat (5 * jx) ((-1))))) (by first | rfl | simp [wx_fI, wx_fB, wx_fM, wa_s]) dX4_countBakesToCome_83 ?_
            refine wa_ic_eq (tgt := 92) F dX4_countBakesToCome_86 (by decide) (by have q0 := hSB 14 ((S 7 jx).toNat); exact ⟨by omega, by omega⟩) (by have q0 := f_top_rng hwf (S 6 jx).toNat (5 * jx) ((-1)) (by decide); exact ⟨by omega, by omega⟩) (fun c86 => ?_) (fun c86 => ?_)
            · skip
              refine wa_inc (k := 6) (b := ((jx + 1) : Int)) (lv' := [(4, .int (iI ((jx + 1) : Int))), (6, .int (iI (-1))), (5, .ref (ad 1 jx)), (0, .ref (ad 0 0)), (1, .int (iI q)), (2, .ref (ad 0 7)), (3, .int (iI 10))]) F dX4_countBakesToCome_92 hl rfl (by omega) (by decide) rfl (fun ls hl => ?_)
              refine wa_goto (tgt := 13) F dX4_countBakesToCome_95 (by decide) ?_
              exact ih13 (jx + 1) q (wa_s X0 20 jx (f_top S (S 6 jx).toNat (5 * jx) ((-1)))) _ _ (by omega) hxr1 (by rw [show min (jx + 1) (S 8 0).toNat = jx + 1 by omega]; rw [show min jx (S 8 0).toNat = jx by omega] at h20; exact wa_s_list h20 hct) (by rw [hq, show min (jx + 1) (S 8 0).toNat = jx + 1 by omega, show min jx (S 8 0).toNat = jx by omega]; simp only [f_cnt]; rw [bI_f (by unfold x_nc; rw [decide_eq_true_eq, ← hct]; intro hz; rcases hz with hz | hz; omega; exact hz c86)]; omega) (fun j => h11 j) hw hS ls (lv_sub hl [3, 4, 5, 6, 0] rfl)
            · skip
              refine wa_inc (k := 3) (b := (q + 1)) (lv' := [(1, .int (iI (q + 1))), (6, .int (iI (-1))), (5, .ref (ad 1 jx)), (0, .ref (ad 0 0)), (2, .ref (ad 0 7)), (3, .int (iI 10)), (4, .int (iI (jx : Int)))]) F dX4_countBakesToCome_89 hl rfl rfl (by decide) rfl (fun ls hl => ?_)
              refine wa_inc (k := 6) (b := ((jx + 1) : Int)) (lv' := [(4, .int (iI ((jx + 1) : Int))), (1, .int (iI (q + 1))), (6, .int (iI (-1))), (5, .ref (ad 1 jx)), (0, .ref (ad 0 0)), (2, .ref (ad 0 7)), (3, .int (iI 10))]) F dX4_countBakesToCome_92 hl rfl (by omega) (by decide) rfl (fun ls hl => ?_)
              refine wa_goto (tgt := 13) F dX4_countBakesToCome_95 (by decide) ?_
              exact ih13 (jx + 1) (q + 1) (wa_s X0 20 jx (f_top S (S 6 jx).toNat (5 * jx) ((-1)))) _ _ (by omega) hxr1 (by rw [show min (jx + 1) (S 8 0).toNat = jx + 1 by omega]; rw [show min jx (S 8 0).toNat = jx by omega] at h20; exact wa_s_list h20 hct) (by rw [hq, show min (jx + 1) (S 8 0).toNat = jx + 1 by omega, show min jx (S 8 0).toNat = jx by omega]; simp only [f_cnt]; rw [bI_t (by unfold x_nc; rw [decide_eq_true_eq, ← hct]; exact Or.inr c86)]) (fun j => h11 j) hw hS ls (lv_sub hl [4, 1, 5, 6, 0] rfl)
  exact loop13 (10) 0 0 X _ _ (by omega) hxr (fun j hj => by omega) (by rw [show min 0 (S 8 0).toNat = 0 by omega]; rfl) (fun _ => rfl) hw hS ls (lv_sub hl [4, 3, 2, 1, 0] rfl)
