/-! contracts of the class: lineUpChildren, fillLine (laid by program) -/
set_option maxRecDepth 100000 in
set_option maxHeartbeats 4000000 in
/-- lineUpChildren -/
theorem c_X4_lineUpChildren (l : Launch) (D : va_G) (cy : Nat → ClassId) (ad : Nat → Nat → Nat) (S X T : wa_St) (o : Int64) (A : Nat → Prop) (hj : wa_wj A ad (wW cy ad S X T o)) (hwf : wf S) (hxr : xr S X) (hin : wx_inj ad S) (ii e9 : Int) (hii : -1 ≤ ii ∧ ii < S 8 0) (hjp : j_pre (x_v S X) ii e9) (he9 : e9 ≤ S 8 0) : Met l yX4_lineUpChildren wX4_lineUpChildren ({ frames := 0, cells := 0, slots := 0, locals := 0 } : Room) (wa_pc [.ref (ad 0 0), va_rf (wa_op ad 1 ii), .int (iI e9)] D cy (fun H => wa_wd D ad (wW cy ad S X T o) H)) (wx_Qi A D cy ad T o (S) (fun u => xr S u ∧ x_v S u = (f_jo ii (S 8 0).toNat 0 (x_v S X) e9).1) ((f_jo ii (S 8 0).toNat 0 (x_v S X) e9).2)) 0 0 A := by
  refine wa_en (by decide +kernel) (by simp [lg_sl, wa_catq, show ∀ z, (Value.ref z).category = 1 from fun _ => rfl, show ∀ z, (Value.int z).category = 1 from fun _ => rfl]) ?_
  intro p e s m args below meth c F hw ls hl
  simp only [lv_args, wa_catq] at hl
  have F : wa_fx p s m c meth args cX4_lineUpChildren 8 RX4 "lineUpChildren" (Option.some FieldType.int) D cy := F
  have hw : wa_wd D ad (wW cy ad S X T o) s.heap := hw
  have hl : lv_has ls 8 [(0, .ref (ad 0 0)), (1, va_rf (wa_op ad 1 ii)), (2, .int (iI e9))] := hl
  obtain ⟨hx, hb, hml, hown, hts⟩ := id F.1
  obtain ⟨hSB, w8, w21, w12, w29, w4, w7, w6, w5, w13, w25, w26, w28, w14, w3, wf17⟩ := id hwf
  obtain ⟨hx1, hXB, hx11, hx12, hx13, hx14, hx15, hx16⟩ := id hxr
  have hB0 := x_v_B hSB hXB
  have he0 := hjp.1
  have hS : va_S A s.heap s.heap [] := va_S.rf
  refine lv_iload_n hx hb dX4_lineUpChildren_0 rfl (lv_at hl 2 rfl) ?_
  refine lv_istore_n (lv' := [(3, .int (iI e9)), (0, .ref (ad 0 0)), (1, va_rf (wa_op ad 1 ii)), (2, .int (iI e9))]) hx hb dX4_lineUpChildren_1 rfl hl (by decide) rfl (fun ls hl => ?_)
  refine lv_aload_n hx hb dX4_lineUpChildren_2 rfl (lv_at hl 1 rfl) ?_
  refine gX4_25 F hw rfl (v := .ref (ad 0 7)) rfl dX4_lineUpChildren_3 ?_
  refine lv_astore (lv' := [(4, .ref (ad 0 7)), (3, .int (iI e9)), (0, .ref (ad 0 0)), (1, va_rf (wa_op ad 1 ii)), (2, .int (iI e9))]) hx hb dX4_lineUpChildren_6 hl (by decide) rfl (fun ls hl => ?_)
  refine lv_aload hx hb dX4_lineUpChildren_8 (lv_at hl 0 rfl) ?_
  refine wa_alen (t0 := 3) F hw rfl rfl 10 rfl (by decide) dX4_lineUpChildren_10 ?_
  refine W.eq (g2 := F0 m 11 ls [.int (iI 10)]) rfl ?_
  refine lv_istore (lv' := [(5, .int (iI 10)), (4, .ref (ad 0 7)), (3, .int (iI e9)), (0, .ref (ad 0 0)), (1, va_rf (wa_op ad 1 ii)), (2, .int (iI e9))]) hx hb dX4_lineUpChildren_11 hl (by decide) rfl (fun ls hl => ?_)
  refine wa_const F dX4_lineUpChildren_13 ?_
  refine lv_istore (lv' := [(6, .int (iI 0)), (5, .int (iI 10)), (4, .ref (ad 0 7)), (3, .int (iI e9)), (0, .ref (ad 0 0)), (1, va_rf (wa_op ad 1 ii)), (2, .int (iI e9))]) hx hb dX4_lineUpChildren_14 hl (by decide) rfl (fun ls hl => ?_)
  have loop16 : ∀ (k : Nat) (jx : Nat) (q : Int) (X0 : wa_St) (H : Heap) (locs : List Loc), (jx + k = 10) → (j_inv (x_v S X) ii e9 (min jx (S 8 0).toNat) (x_v S X0) q) → (xr S X0) → (f_jo ii ((S 8 0).toNat - min jx (S 8 0).toNat) (min jx (S 8 0).toNat) (x_v S X0) q = f_jo ii (S 8 0).toNat 0 (x_v S X) e9) → wa_wd D ad (wW cy ad S X0 T o) H → va_S A s.heap H locs → ∀ ls : Array Slot, lv_has ls 8 [(0, .ref (ad 0 0)), (1, va_rf (wa_op ad 1 ii)), (2, .int (iI e9)), (3, .int (iI q)), (4, .ref (ad 0 7)), (5, .int (iI 10)), (6, .int (iI (jx : Int)))] → W p l e ({ frames := 0, cells := 0, slots := 0, locals := 0 } : Room) s m args below meth c H locs 0 0 (MQ below (wx_Qi A D cy ad T o (S) (fun u => xr S u ∧ x_v S u = (f_jo ii (S 8 0).toNat 0 (x_v S X) e9).1) ((f_jo ii (S 8 0).toNat 0 (x_v S X) e9).2)) args s 0 0 A) (F0 m 16 ls []) := by
    intro k
    induction k with
    | zero =>
      intro jx q X0 H locs hk hji hxr0 hr hw hS ls hl
      obtain ⟨hx1, hXB, hx11, hx12, hx13, hx14, hx15, hx16⟩ := id hxr0
      have hle := hji.le (show 0 ≤ x_v S X 8 0 from w8.1)
      have hle : q ≤ S 8 0 := hle
      refine lv_iload hx hb dX4_lineUpChildren_16 (lv_at hl 6 rfl) ?_
      refine lv_iload hx hb dX4_lineUpChildren_18 (lv_at hl 5 rfl) ?_
      refine wa_ic_ge (tgt := 74) F dX4_lineUpChildren_20 (by decide) (by exact ⟨by omega, by omega⟩) (by decide) (fun c20 => ?_) (fun c20 => absurd c20 (by omega))
      refine lv_iload_n hx hb dX4_lineUpChildren_74 rfl (lv_at hl 3 rfl) ?_
      exact wx_ei F hw hS (by rw [← hr, show (S 8 0).toNat - min jx (S 8 0).toNat = 0 by omega]; rfl) ⟨hxr0, by rw [← hr, show (S 8 0).toNat - min jx (S 8 0).toNat = 0 by omega]; rfl⟩ dX4_lineUpChildren_75
    | succ k ih16 =>
      intro jx q X0 H locs hk hji hxr0 hr hw hS ls hl
      obtain ⟨hx1, hXB, hx11, hx12, hx13, hx14, hx15, hx16⟩ := id hxr0
      have hle := hji.le (show 0 ≤ x_v S X 8 0 from w8.1)
      have hle : q ≤ S 8 0 := hle
      have hq0 := hji.2.2.1
      refine lv_iload hx hb dX4_lineUpChildren_16 (lv_at hl 6 rfl) ?_
      refine lv_iload hx hb dX4_lineUpChildren_18 (lv_at hl 5 rfl) ?_
      refine wa_ic_ge (tgt := 74) F dX4_lineUpChildren_20 (by decide) (by exact ⟨by omega, by omega⟩) (by decide) (fun c20 => absurd c20 (by omega)) (fun c20 => ?_)
      refine lv_aload hx hb dX4_lineUpChildren_23 (lv_at hl 4 rfl) ?_
      refine lv_iload hx hb dX4_lineUpChildren_25 (lv_at hl 6 rfl) ?_
      refine wa_aald (g := (wx_in ad 1 (S 8 0))) (t0 := 3) F hw rfl rfl jx rfl (by omega) (by decide) dX4_lineUpChildren_27 ?_
      refine wa_stq (lv' := [(7, va_rf (wx_in ad 1 (S 8 0) jx)), (0, .ref (ad 0 0)), (1, va_rf (wa_op ad 1 ii)), (2, .int (iI e9)), (3, .int (iI q)), (4, .ref (ad 0 7)), (5, .int (iI 10)), (6, .int (iI (jx : Int)))]) F dX4_lineUpChildren_28 hl (by decide) rfl (fun ls hl => ?_)
      refine wa_ldq F dX4_lineUpChildren_30 (lv_at hl 0 rfl) ?_
      refine wa_nu_in (tgt := 68) F dX4_lineUpChildren_32 (by decide) (fun c32 => ?_) (fun c32 => ?_)
      · skip
        refine wa_inc (k := 7) (b := ((jx + 1) : Int)) (lv' := [(6, .int (iI ((jx + 1) : Int))), (7, va_rf (wx_in ad 1 (S 8 0) jx)), (0, .ref (ad 0 0)), (1, va_rf (wa_op ad 1 ii)), (2, .int (iI e9)), (3, .int (iI q)), (4, .ref (ad 0 7)), (5, .int (iI 10))]) F dX4_lineUpChildren_68 hl rfl (by omega) (by decide) rfl (fun ls hl => ?_)
        refine wa_goto (tgt := 16) F dX4_lineUpChildren_71 (by decide) ?_
        exact ih16 (jx + 1) q X0 _ _ (by omega) (by rw [show min (jx + 1) (S 8 0).toNat = min jx (S 8 0).toNat by omega]; exact hji) hxr0 (by rw [← hr, show min (jx + 1) (S 8 0).toNat = min jx (S 8 0).toNat by omega]) hw hS ls (lv_sub hl [2, 3, 4, 5, 6, 7, 0] rfl)
      · skip
        rw [wx_in_ref (ad := ad) (kd := 1) c32] at hl
        have hl : lv_has ls 8 [(7, .ref (ad 1 jx)), (0, .ref (ad 0 0)), (1, va_rf (wa_op ad 1 ii)), (2, .int (iI e9)), (3, .int (iI q)), (4, .ref (ad 0 7)), (5, .int (iI 10)), (6, .int (iI (jx : Int)))] := hl
        refine lv_aload hx hb dX4_lineUpChildren_35 (lv_at hl 0 rfl) ?_
        refine gX4_99 F hw (wW_1 c32) (v := va_rf (wa_op ad 1 (S 4 jx))) rfl dX4_lineUpChildren_37 ?_
        refine wa_ldq_n F dX4_lineUpChildren_40 rfl (lv_at hl 2 rfl) ?_
        refine wa_ac_ne (tgt := 68) (rx := (wa_op ad 1 (S 4 jx))) (ry := (wa_op ad 1 ii)) (P := S 4 jx = ii) F (wx_qq hin (show -1 ≤ S 4 jx ∧ S 4 jx < S 8 0 by have q := w4 jx c32; omega) hii) dX4_lineUpChildren_41 (by decide) (fun c41 => ?_) (fun c41 => ?_)
        · skip
          refine wa_inc (k := 7) (b := ((jx + 1) : Int)) (lv' := [(6, .int (iI ((jx + 1) : Int))), (7, .ref (ad 1 jx)), (0, .ref (ad 0 0)), (1, va_rf (wa_op ad 1 ii)), (2, .int (iI e9)), (3, .int (iI q)), (4, .ref (ad 0 7)), (5, .int (iI 10))]) F dX4_lineUpChildren_68 hl rfl (by omega) (by decide) rfl (fun ls hl => ?_)
          refine wa_goto (tgt := 16) F dX4_lineUpChildren_71 (by decide) ?_
          exact ih16 (jx + 1) q X0 _ _ (by omega) (by rw [show min (jx + 1) (S 8 0).toNat = jx + 1 by omega]; rw [show min jx (S 8 0).toNat = jx by omega] at hji; exact hji.no c41) hxr0 (by rw [← hr, show min (jx + 1) (S 8 0).toNat = jx + 1 by omega, show min jx (S 8 0).toNat = jx by omega, show (S 8 0).toNat - jx = ((S 8 0).toNat - (jx + 1)) + 1 by omega]; simp only [f_jo]; rw [if_neg (show ¬ x_v S X0 4 jx = ii from c41)]) hw hS ls (lv_sub hl [2, 3, 4, 5, 6, 7, 0] rfl)
        · skip
          have hji1 := hji
          rw [show min jx (S 8 0).toNat = jx by omega] at hji1
          have hql := hji1.lt (show x_v S X 4 jx = ii from c41) (show (jx : Int) < x_v S X 8 0 from c32)
          have hql : q + 1 ≤ S 8 0 := hql
          refine lv_iload_n hx hb dX4_lineUpChildren_44 rfl (lv_at hl 4 rfl) ?_
          refine wa_if_lt (tgt := 68) F dX4_lineUpChildren_45 (by decide) (by exact ⟨by omega, by omega⟩) (fun c45 => absurd c45 (by omega)) (fun c45 => ?_)
          refine lv_iload_n hx hb dX4_lineUpChildren_48 rfl (lv_at hl 4 rfl) ?_
          refine lv_aload_n hx hb dX4_lineUpChildren_49 rfl (lv_at hl 1 rfl) ?_
          refine gX4_44 F hw rfl (v := .ref (ad 0 11)) rfl dX4_lineUpChildren_50 ?_
          refine wa_alen (t0 := 3) F hw rfl rfl 10 rfl (by decide) dX4_lineUpChildren_53 ?_
          refine W.eq (g2 := F0 m 54 ls [.int (iI 10), .int (iI q)]) rfl ?_
          refine wa_ic_ge (tgt := 68) F dX4_lineUpChildren_54 (by decide) (by exact ⟨by omega, by omega⟩) (by decide) (fun c54 => absurd c54 (by omega)) (fun c54 => ?_)
          refine lv_aload_n hx hb dX4_lineUpChildren_57 rfl (lv_at hl 1 rfl) ?_
          refine gX4_44 F hw rfl (v := .ref (ad 0 11)) rfl dX4_lineUpChildren_58 ?_
          refine lv_iload_n hx hb dX4_lineUpChildren_61 rfl (lv_at hl 4 rfl) ?_
          refine lv_aload hx hb dX4_lineUpChildren_62 (lv_at hl 0 rfl) ?_
          refine W.eq (g2 := F0 m 64 ls [.ref (ad 1 ((jx : Int)).toNat), .int (iI q), .ref (ad 0 11)]) rfl ?_
          refine sX_11 F hw (wj_of hj rfl rfl rfl) hS (by omega) c32 ((q).toNat) (by omega) (by omega) dX4_lineUpChildren_64 (fun H locs hw hS => ?_)
          have hji2 := hji1.yes (show x_v S X 4 jx = ii from c41) (show (jx : Int) < x_v S X 8 0 from c32) (by omega)
          rw [← x_v_s, show jx + 1 = min (jx + 1) (S 8 0).toNat by omega] at hji2
          have hxr1 := xr_11 hxr0 (by omega) q.toNat (by omega) (v := (jx : Int)) (by omega)
          refine wa_inc (k := 4) (b := (q + 1)) (lv' := [(3, .int (iI (q + 1))), (7, .ref (ad 1 jx)), (0, .ref (ad 0 0)), (1, va_rf (wa_op ad 1 ii)), (2, .int (iI e9)), (4, .ref (ad 0 7)), (5, .int (iI 10)), (6, .int (iI (jx : Int)))]) F dX4_lineUpChildren_65 hl rfl rfl (by decide) rfl (fun ls hl => ?_)
          refine wa_inc (k := 7) (b := ((jx + 1) : Int)) (lv' := [(6, .int (iI ((jx + 1) : Int))), (3, .int (iI (q + 1))), (7, .ref (ad 1 jx)), (0, .ref (ad 0 0)), (1, va_rf (wa_op ad 1 ii)), (2, .int (iI e9)), (4, .ref (ad 0 7)), (5, .int (iI 10))]) F dX4_lineUpChildren_68 hl rfl (by omega) (by decide) rfl (fun ls hl => ?_)
          refine wa_goto (tgt := 16) F dX4_lineUpChildren_71 (by decide) ?_
          exact ih16 (jx + 1) (q + 1) (wa_s X0 11 ((q).toNat) (jx : Int)) _ _ (by omega) hji2 hxr1 (by rw [← hr, show min (jx + 1) (S 8 0).toNat = jx + 1 by omega, show min jx (S 8 0).toNat = jx by omega, show (S 8 0).toNat - jx = ((S 8 0).toNat - (jx + 1)) + 1 by omega, x_v_s]; simp only [f_jo]; rw [if_pos (show x_v S X0 4 jx = ii from c41)]) hw hS ls (lv_sub hl [3, 4, 5, 1, 6, 7, 0] rfl)
  exact loop16 (10) 0 e9 X _ _ (by omega) (by rw [show min 0 (S 8 0).toNat = 0 by omega]; exact hjp.inv hB0) hxr (by rw [show min 0 (S 8 0).toNat = 0 by omega]; rfl) hw hS ls (lv_sub hl [4, 5, 6, 3, 2, 1, 0] rfl)
set_option maxRecDepth 100000 in
set_option maxHeartbeats 4000000 in
/-- fillLine -/
theorem c_X4_fillLine (l : Launch) (D : va_G) (cy : Nat → ClassId) (ad : Nat → Nat → Nat) (S X T : wa_St) (o : Int64) (A : Nat → Prop) (hj : wa_wj A ad (wW cy ad S X T o)) (hwf : wf S) (hxr : xr S X) (hin : wx_inj ad S) : Met l yX4_fillLine wX4_fillLine ({ frames := 1, cells := 0, slots := 0, locals := 27 } : Room) (wa_pc [.ref (ad 0 0)] D cy (fun H => wa_wd D ad (wW cy ad S X T o) H)) (wx_Qv A D cy ad T o (S) (fun u => xr S u ∧ x_v S u = (f_lna (x_v S X)).1)) 0 0 A := by
  refine wa_en (by decide +kernel) (Nat.le_of_ble_eq_true rfl) ?_
  intro p e s m args below meth c F hw ls hl
  have F : wa_fx p s m c meth args cX4_fillLine 3 RX4 "fillLine" (none) D cy := F
  have hw : wa_wd D ad (wW cy ad S X T o) s.heap := hw
  have hl : lv_has ls 3 [(0, .ref (ad 0 0))] := hl
  obtain ⟨hx, hb, hml, hown, hts⟩ := id F.1
  obtain ⟨hSB, w8, w21, w12, w29, w4, w7, w6, w5, w13, w25, w26, w28, w14, w3, wf17⟩ := id hwf
  obtain ⟨hx1, hXB, hx11, hx12, hx13, hx14, hx15, hx16⟩ := id hxr
  have hwv := wf_v hwf hXB
  have hS : va_S A s.heap s.heap [] := va_S.rf
  refine lv_aload_n hx hb dX4_fillLine_0 rfl (lv_at hl 0 rfl) ?_
  refine lv_null hx hb dX4_fillLine_1 ?_
  refine wa_const F dX4_fillLine_2 ?_
  refine wx_ci (kX4_274 F (c_X4_lineUpChildren l D cy ad S X T o A hj hwf hxr hin (-1) (0) (by omega) ⟨Int.le_refl 0, fun j hj => by omega, fun j j' hj => by omega⟩ (by omega)) ⟨by decide, by decide⟩ ⟨rfl, rfl⟩ hw hw rfl rfl rfl (Nat.le_of_ble_eq_true rfl) hl.1 dX4_fillLine_3 ⟨Nat.le_of_ble_eq_true rfl, Nat.le_of_ble_eq_true rfl⟩) hS (fun X1_1 H locs hP hw hS => ?_)
  obtain ⟨hxr_X1_1, hxv_X1_1⟩ := hP
  obtain ⟨hx1, hXB, hx11, hx12, hx13, hx14, hx15, hx16⟩ := id hxr_X1_1
  have hli := l_inv.first hwv
  have hxv2 : x_v S X1_1 = (f_jn (x_v S X) (-1) 0).1 := hxv_X1_1
  rw [← hxv2] at hli
  refine W.eq (g2 := F0 m 6 ls [.int (iI ((f_jn (x_v S X) (-1) 0).2))]) rfl ?_
  refine lv_istore_n (lv' := [(1, .int (iI ((f_jn (x_v S X) (-1) 0).2))), (0, .ref (ad 0 0))]) hx hb dX4_fillLine_6 rfl hl (by decide) rfl (fun ls hl => ?_)
  refine wa_const F dX4_fillLine_7 ?_
  refine lv_istore_n (lv' := [(2, .int (iI 0)), (1, .int (iI ((f_jn (x_v S X) (-1) 0).2))), (0, .ref (ad 0 0))]) hx hb dX4_fillLine_8 rfl hl (by decide) rfl (fun ls hl => ?_)
  have loop9 : ∀ (k : Nat) (ax : Nat) (e2 : Int) (X0 : wa_St) (H : Heap) (locs : List Loc), (ax + k = 10) → (l_inv (x_v S X) ax (x_v S X0) e2) → (xr S X0) → (f_ln k ax (x_v S X0) e2 = f_lna (x_v S X)) → wa_wd D ad (wW cy ad S X0 T o) H → va_S A s.heap H locs → ∀ ls : Array Slot, lv_has ls 3 [(0, .ref (ad 0 0)), (1, .int (iI e2)), (2, .int (iI (ax : Int)))] → W p l e ({ frames := 1, cells := 0, slots := 0, locals := 27 } : Room) s m args below meth c H locs 0 0 (MQ below (wx_Qv A D cy ad T o (S) (fun u => xr S u ∧ x_v S u = (f_lna (x_v S X)).1)) args s 0 0 A) (F0 m 9 ls []) := by
    intro k
    induction k with
    | zero =>
      intro ax e2 X0 H locs hk hli hxr0 hr hw hS ls hl
      obtain ⟨hx1, hXB, hx11, hx12, hx13, hx14, hx15, hx16⟩ := id hxr0
      have hle2 : 0 ≤ e2 ∧ e2 ≤ S 8 0 := hli.2.2.1
      refine lv_iload_n hx hb dX4_fillLine_9 rfl (lv_at hl 2 rfl) ?_
      refine lv_iload_n hx hb dX4_fillLine_10 rfl (lv_at hl 1 rfl) ?_
      refine wa_ic_ge (tgt := 41) F dX4_fillLine_11 (by decide) (by exact ⟨by omega, by omega⟩) (by have q0 := hle2; exact ⟨by omega, by omega⟩) (fun c11 => ?_) (fun c11 => absurd c11 (by omega))
      exact wx_ev F hw hS ⟨hxr0, by rw [← hr]; first | rfl | (simp only [f_ln]; rw [if_neg (by omega)])⟩ dX4_fillLine_41
    | succ k ih9 =>
      intro ax e2 X0 H locs hk hli hxr0 hr hw hS ls hl
      obtain ⟨hx1, hXB, hx11, hx12, hx13, hx14, hx15, hx16⟩ := id hxr0
      have hle2 : 0 ≤ e2 ∧ e2 ≤ S 8 0 := hli.2.2.1
      refine lv_iload_n hx hb dX4_fillLine_9 rfl (lv_at hl 2 rfl) ?_
      refine lv_iload_n hx hb dX4_fillLine_10 rfl (lv_at hl 1 rfl) ?_
      refine wa_ic_ge (tgt := 41) F dX4_fillLine_11 (by decide) (by exact ⟨by omega, by omega⟩) (by have q0 := hle2; exact ⟨by omega, by omega⟩) (fun c11 => ?_) (fun c11 => ?_)
      · skip
        exact wx_ev F hw hS ⟨hxr0, by rw [← hr]; first | rfl | (simp only [f_ln]; rw [if_neg (by omega)])⟩ dX4_fillLine_41
      · skip
        refine lv_iload_n hx hb dX4_fillLine_14 rfl (lv_at hl 2 rfl) ?_
        refine lv_aload_n hx hb dX4_fillLine_15 rfl (lv_at hl 0 rfl) ?_
        refine gX4_44 F hw rfl (v := .ref (ad 0 11)) rfl dX4_fillLine_16 ?_
        refine wa_alen (t0 := 3) F hw rfl rfl 10 rfl (by decide) dX4_fillLine_19 ?_
        refine W.eq (g2 := F0 m 20 ls [.int (iI 10), .int (iI (ax : Int))]) rfl ?_
        refine wa_ic_ge (tgt := 41) F dX4_fillLine_20 (by decide) (by exact ⟨by omega, by omega⟩) (by decide) (fun c20 => absurd c20 (by omega)) (fun c20 => ?_)
        refine lv_aload_n hx hb dX4_fillLine_23 rfl (lv_at hl 0 rfl) ?_
        refine lv_aload_n hx hb dX4_fillLine_24 rfl (lv_at hl 0 rfl) ?_
        refine gX4_44 F hw rfl (v := .ref (ad 0 11)) rfl dX4_fillLine_25 ?_
        refine lv_iload_n hx hb dX4_fillLine_28 rfl (lv_at hl 2 rfl) ?_
        refine wa_aald (g := (fun j => wa_op ad 1 (X0 11 j))) (t0 := 3) F hw rfl rfl ax rfl (by omega) (by decide) dX4_fillLine_29 ?_
        refine W.eq (g2 := F0 m 30 ls [va_rf (wa_op ad 1 (X0 11 ax)), .ref (ad 0 0)]) rfl ?_
        refine lv_iload_n hx hb dX4_fillLine_30 rfl (lv_at hl 1 rfl) ?_
        refine wx_ci (kX4_274 F (c_X4_lineUpChildren l D cy ad S X0 T o A (wj_of hj rfl rfl rfl) hwf hxr0 hin (X0 11 ax) (e2) (show -1 ≤ X0 11 ax ∧ X0 11 ax < S 8 0 from ⟨(hx11 ax).1, (hx11 ax).2⟩) (hli.pre c11) hle2.2) ⟨by decide, by decide⟩ ⟨rfl, rfl⟩ hw hw rfl rfl rfl (Nat.le_of_ble_eq_true rfl) hl.1 dX4_fillLine_31 ⟨Nat.le_of_ble_eq_true rfl, Nat.le_of_ble_eq_true rfl⟩) hS (fun X1_2 H locs hP hw hS => ?_)
        obtain ⟨hxr_X1_2, hxv_X1_2⟩ := hP
        obtain ⟨hx1, hXB, hx11, hx12, hx13, hx14, hx15, hx16⟩ := id hxr_X1_2
        refine W.eq (g2 := F0 m 34 ls [.int (iI ((f_jn (x_v S X0) (x_v S X0 30 ax) e2).2))]) rfl ?_
        have hli2 := hli.join c11
        rw [show (f_jn (x_v S X0) (x_v S X0 30 ax) e2).1 = x_v S X1_2 from hxv_X1_2.symm] at hli2
        refine lv_istore_n (lv' := [(1, .int (iI ((f_jn (x_v S X0) (x_v S X0 30 ax) e2).2))), (0, .ref (ad 0 0)), (2, .int (iI (ax : Int)))]) hx hb dX4_fillLine_34 rfl hl (by decide) rfl (fun ls hl => ?_)
        refine wa_inc (k := 2) (b := ((ax + 1) : Int)) (lv' := [(2, .int (iI ((ax + 1) : Int))), (1, .int (iI ((f_jn (x_v S X0) (x_v S X0 30 ax) e2).2))), (0, .ref (ad 0 0))]) F dX4_fillLine_35 hl rfl (by omega) (by decide) rfl (fun ls hl => ?_)
        refine wa_goto (tgt := 9) F dX4_fillLine_38 (by decide) ?_
        exact ih9 (ax + 1) ((f_jn (x_v S X0) (x_v S X0 30 ax) e2).2) X1_2 _ _ (by omega) hli2 hxr_X1_2 (by rw [← hr]; simp only [f_ln]; rw [if_pos c11]; rw [hxv_X1_2]; rfl) hw hS ls (lv_sub hl [2, 1, 0] rfl)
  exact loop9 (10) 0 (f_jn (x_v S X) (-1) 0).2 X1_1 _ _ (by omega) hli hxr_X1_1 (by unfold f_lna; rw [← hxv2]) hw hS ls (lv_sub hl [2, 1, 0] rfl)
