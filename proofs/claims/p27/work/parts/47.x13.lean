/-! contracts of the class: bakeIfNeeded (laid by program) -/
set_option maxRecDepth 100000 in
set_option maxHeartbeats 4000000 in
/-- bakeIfNeeded -/
theorem c_X4_bakeIfNeeded (l : Launch) (D : va_G) (cy : Nat → ClassId) (ad : Nat → Nat → Nat) (S X T : wa_St) (o : Int64) (A : Nat → Prop) (hj : wa_wj A ad (wW cy ad S X T o)) (hwf : wf S) (hxr : xr S X) (hin : wx_inj ad S) (hA : wa_Up A) (z : Int) (hz : -1 ≤ z ∧ z < S 8 0) (l5 : S 21 0 < 60 → S 12 0 ≤ 295) : Met l yX4_bakeIfNeeded wX4_bakeIfNeeded ({ frames := 5, cells := 2, slots := 12, locals := 118 } : Room) (wa_pc [.ref (ad 0 0), va_rf (wa_op ad 1 z)] D cy (fun H => wa_wd D ad (wW cy ad S X T o) H)) (va_Qv (fun u => wx_P A cy ad T o S (x_bn S z) u ∧ ∀ j, u.2 11 j = X 11 j) (fun u t => wx_B D cy T o (x_bn S z) u t.heap) A) 2 12 A := by
  refine wa_en (by decide +kernel) (by simp [lg_sl, wa_catq, show ∀ z, (Value.ref z).category = 1 from fun _ => rfl, show ∀ z, (Value.int z).category = 1 from fun _ => rfl]) ?_
  intro p e s m args below meth c F hw ls hl
  simp only [lv_args, wa_catq] at hl
  have F : wa_fx p s m c meth args cX4_bakeIfNeeded 4 RX4 "bakeIfNeeded" (none) D cy := F
  have hw : wa_wd D ad (wW cy ad S X T o) s.heap := hw
  have hl : lv_has ls 4 [(0, .ref (ad 0 0)), (1, va_rf (wa_op ad 1 z))] := hl
  obtain ⟨hx, hb, hml, hown, hts⟩ := id F.1
  obtain ⟨hSB, w8, w21, w12, w29, w4, w7, w6, w5, w13, w25, w26, w28, w14, w3, wf17⟩ := id hwf
  obtain ⟨hx1, hXB, hx11, hx12, hx13, hx14, hx15, hx16⟩ := id hxr
  have hS : va_S A s.heap s.heap [] := va_S.rf
  refine wa_ldq_n F dX4_bakeIfNeeded_0 rfl (lv_at hl 1 rfl) ?_
  refine wa_nu_op (tgt := 31) F dX4_bakeIfNeeded_1 (by decide) (fun c1 => ?_) (fun c1 => ?_)
  · skip
    refine W.widen (k := 2) (n := 12) (Nat.zero_le _) (Nat.zero_le _) ?_
    rw [show x_bn S z = S from if_neg (fun hq => by omega)]
    exact wa_eV (ad, X) F ⟨⟨hxr, hj, x_ext.rf S ad⟩, fun _ => rfl⟩ hw hS dX4_bakeIfNeeded_31
  · skip
    rw [wa_op_ref (ad := ad) (kd := 1) c1] at hl
    have hl : lv_has ls 4 [(0, .ref (ad 0 0)), (1, .ref (ad 1 (z.toNat)))] := hl
    refine lv_aload_n hx hb dX4_bakeIfNeeded_4 rfl (lv_at hl 0 rfl) ?_
    refine lv_aload_n hx hb dX4_bakeIfNeeded_5 rfl (lv_at hl 1 rfl) ?_
    refine wa_cp (kX4_109 F (c_X4_wouldMakeBake l D cy ad S X T o hwf hxr hin (z.toNat) (show ((z.toNat : Nat) : Int) < S 8 0 by have q3 := hz; have q4 := c1; omega)) ⟨by decide, by decide⟩ ⟨rfl, rfl⟩ hw hw rfl rfl rfl (Nat.le_of_ble_eq_true rfl) hl.1 dX4_bakeIfNeeded_6 ⟨Nat.le_of_ble_eq_true rfl, Nat.le_of_ble_eq_true rfl⟩) ?_
    by_cases b6 : x_needs S (z.toNat)
    · rw [bI_t b6]
      refine wa_if_eq (tgt := 31) F dX4_bakeIfNeeded_9 (by decide) (by decide) (fun c9 => absurd c9 (by decide)) (fun c9 => ?_)
      refine lv_aload_n hx hb dX4_bakeIfNeeded_12 rfl (lv_at hl 0 rfl) ?_
      refine gX4_113 F hw rfl (v := .int (iI (S 21 0))) rfl dX4_bakeIfNeeded_13 ?_
      refine wa_if_lt (tgt := 31) F dX4_bakeIfNeeded_16 (by decide) (by have q0 := hSB 21 0; exact ⟨by omega, by omega⟩) (fun c16 => absurd c16 (by omega)) (fun c16 => ?_)
      refine lv_aload_n hx hb dX4_bakeIfNeeded_19 rfl (lv_at hl 0 rfl) ?_
      refine gX4_113 F hw rfl (v := .int (iI (S 21 0))) rfl dX4_bakeIfNeeded_20 ?_
      refine lv_aload_n hx hb dX4_bakeIfNeeded_23 rfl (lv_at hl 0 rfl) ?_
      refine gX4_31 F hw rfl (v := .ref (ad 0 8)) rfl dX4_bakeIfNeeded_24 ?_
      refine wa_alen (t0 := 2) F hw rfl rfl 60 rfl (by decide) dX4_bakeIfNeeded_27 ?_
      refine W.eq (g2 := F0 m 28 ls [.int (iI 60), .int (iI (S 21 0))]) rfl ?_
      refine wa_ic_lt (tgt := 32) F dX4_bakeIfNeeded_28 (by decide) (by have q0 := hSB 21 0; exact ⟨by omega, by omega⟩) (by decide) (fun c28 => ?_) (fun c28 => ?_)
      · skip
        have l5 := l5 (by omega)
        refine lv_aload_n hx hb dX4_bakeIfNeeded_32 rfl (lv_at hl 0 rfl) ?_
        refine lv_aload_n hx hb dX4_bakeIfNeeded_33 rfl (lv_at hl 1 rfl) ?_
        refine wa_cp (kX4_257 F (c_X4_topOfParent l D cy ad S X T o hwf hxr hin (z.toNat) (show ((z.toNat : Nat) : Int) < S 8 0 by have q3 := hz; have q4 := c1; omega)) ⟨by decide, by decide⟩ ⟨rfl, rfl⟩ hw rfl rfl (Nat.le_of_ble_eq_true rfl) hl.1 dX4_bakeIfNeeded_34 ⟨Nat.le_of_ble_eq_true rfl, Nat.le_of_ble_eq_true rfl⟩) ?_
        refine lv_aload_n hx hb dX4_bakeIfNeeded_37 rfl (lv_at hl 1 rfl) ?_
        refine wx_ci (kX4_265 F (c_X4_makeTopFrom l D cy ad S X T o A hj hwf hxr hin ((x_begin S (z.toNat))) (z.toNat) (show ((z.toNat : Nat) : Int) < S 8 0 by have q3 := hz; have q4 := c1; omega) (x_begin_lt hwf (i := z.toNat) (by omega)) (by have := w6 z.toNat; omega)) ⟨by decide, by decide⟩ ⟨rfl, rfl⟩ hw hw rfl rfl rfl (Nat.le_of_ble_eq_true rfl) hl.1 dX4_bakeIfNeeded_38 ⟨Nat.le_of_ble_eq_true rfl, Nat.le_of_ble_eq_true rfl⟩) hS (fun X1_1 H locs hP hw hS => ?_)
        have hbg := x_begin_lt hwf (i := z.toNat) (by omega)
        have w6i := w6 z.toNat
        have hmi := f_mk_inv (T := S) (S 6 (z.toNat)).toNat (5 * (z.toNat)) S (x_begin S (z.toNat)) ⟨fun _ _ _ _ _ _ => rfl, hwf, by omega, hbg⟩
        obtain ⟨S1, hS1⟩ : ∃ Z, Z = (f_mk (S 6 (z.toNat)).toNat (5 * (z.toNat)) S (x_begin S (z.toNat))).1 := ⟨_, rfl⟩
        obtain ⟨tz, htz⟩ : ∃ Z, Z = (f_mk (S 6 (z.toNat)).toNat (5 * (z.toNat)) S (x_begin S (z.toNat))).2 := ⟨_, rfl⟩
        have h11 := hP.2
        replace hP := hP.1
        rw [← hS1] at hw hP hmi
        rw [← htz] at hmi
        rw [← htz]
        have hmk : x_make S z.toNat = f_newB S1 z.toNat tz := by rw [hS1, htz]; rfl
        have hS1 := hmi.1
        have hwf1 := hmi.2.1
        have e8 : S1 8 0 = S 8 0 := hmi.1 8 0 (by decide) (by decide) (by decide) (by decide)
        have e21 : S1 21 0 = S 21 0 := hmi.1 21 0 (by decide) (by decide) (by decide) (by decide)
        have e29 : S1 29 0 = S 29 0 := hmi.1 29 0 (by decide) (by decide) (by decide) (by decide)
        have hj1 : wa_wj A ad (wW cy ad S1 X1_1 T o) := wj_of hj e8 e21 e29
        refine lv_istore_n (lv' := [(2, .int (iI tz)), (0, .ref (ad 0 0)), (1, .ref (ad 1 (z.toNat)))]) hx hb dX4_bakeIfNeeded_41 rfl hl (by decide) rfl (fun ls hl => ?_)
        obtain ⟨b, hb9⟩ : ∃ b : Nat, S1 21 0 = (b : Int) := ⟨(S1 21 0).toNat, by omega⟩
        have hnB : (wW cy ad S1 X1_1 T o) 3 b = none := if_neg (by omega)
        have hn4 : (wW cy ad S1 X1_1 T o) 4 b = none := if_neg (by omega)
        have hi1 : ((z.toNat : Nat) : Int) < S1 8 0 := by omega
        refine nX4_29 3 b F hw hj1 hS (wa_fresh hA hw hj1 (rfl : (wW cy ad S1 X1_1 T o) 0 0 = some (.inr (4, wx_fs ad S1)))) hnB (Nat.le_of_ble_eq_true rfl) (Nat.le_of_ble_eq_true rfl) dX4_bakeIfNeeded_42 (fun q H hw hj hS => ?_)
        refine lv_dup hx hb dX4_bakeIfNeeded_45 rfl ?_
        refine lv_aload_n hx hb dX4_bakeIfNeeded_46 rfl (lv_at hl 1 rfl) ?_
        refine gX4_113 (kd := 0) (i := 0) (ad := (wa_ad ad 3 b q)) F hw (rfl : (wa_up (wW cy ad S1 X1_1 T o) 3 b (.inr (0, [.int 0, .null, .int 0, .int 0, .null, .int 0, .int 0, .int 0, .int 0]))) 0 0 = some (.inr (4, wx_fs ad S1))) (v := .int (iI (S1 21 0))) rfl dX4_bakeIfNeeded_47 ?_
        refine lv_aload_n hx hb dX4_bakeIfNeeded_50 rfl (lv_at hl 2 rfl) ?_
        refine lv_iload_n hx hb dX4_bakeIfNeeded_51 rfl (lv_at hl 0 rfl) ?_
        refine lv_aload_n hx hb dX4_bakeIfNeeded_52 rfl (lv_at hl 1 rfl) ?_
        refine gX4_178 (kd := 0) (i := 0) (ad := (wa_ad ad 3 b q)) F hw (rfl : (wa_up (wW cy ad S1 X1_1 T o) 3 b (.inr (0, [.int 0, .null, .int 0, .int 0, .null, .int 0, .int 0, .int 0, .int 0]))) 0 0 = some (.inr (4, wx_fs ad S1))) (v := .int (iI (S1 1 0))) rfl dX4_bakeIfNeeded_53 ?_
        refine W.eq (g2 := F0 m 56 ls [.int (iI (S1 1 0)), .int (iI tz), va_rf (some (ad 1 z.toNat)), .int (iI (b : Int)), .ref ((wa_ad ad 3 b q) 3 b), .ref q]) (by rw [hb9]; simp [wa_ad, va_rf]) ?_
        refine wa_cV (kX4_268 F (c_X0_init l D cy (wa_ad ad 3 b q) (wa_up (wW cy ad S1 X1_1 T o) 3 b (.inr (0, [.int 0, .null, .int 0, .int 0, .null, .int 0, .int 0, .int 0, .int 0]))) A hj hA b (wa_up_s _ _ _ _) (show (wa_up (wW cy ad S1 X1_1 T o) 3 b (.inr (0, [.int 0, .null, .int 0, .int 0, .null, .int 0, .int 0, .int 0, .int 0]))) 4 b = none from hn4) (some (ad 1 z.toNat)) tz (S1 1 0)) ⟨by decide, by decide⟩ ⟨rfl, rfl⟩ hw rfl rfl (Nat.le_of_ble_eq_true rfl) hl.1 dX4_bakeIfNeeded_56 ⟨(Nat.le_of_ble_eq_true rfl), (Nat.le_of_ble_eq_true rfl)⟩) hS (fun u9 H locs hj hw hS hz9 => ?_)
        replace hw : wa_wd D (wa_ad (wa_ad ad 3 b q) 4 b u9) (wa_up (wa_up (wa_up (wa_up (wW cy ad S1 X1_1 T o) 3 b (.inr (0, [.int 0, .null, .int 0, .int 0, .null, .int 0, .int 0, .int 0, .int 0]))) 4 b (wa_aI (cy 0) 3 (fun _ => 0))) 3 b (.inr (0, x_bkf ad b z.toNat u9 tz (S1 1 0)))) 4 b (wa_aI (cy 0) 3 x_R3)) H := hw
        replace hj : wa_wj A (wa_ad (wa_ad ad 3 b q) 4 b u9) (wa_up (wa_up (wa_up (wa_up (wW cy ad S1 X1_1 T o) 3 b (.inr (0, [.int 0, .null, .int 0, .int 0, .null, .int 0, .int 0, .int 0, .int 0]))) 4 b (wa_aI (cy 0) 3 (fun _ => 0))) 3 b (.inr (0, x_bkf ad b z.toNat u9 tz (S1 1 0)))) 4 b (wa_aI (cy 0) 3 x_R3)) := hj
        refine lv_astore_n (lv' := [(3, .ref q), (2, .int (iI tz)), (0, .ref (ad 0 0)), (1, .ref (ad 1 (z.toNat)))]) hx hb dX4_bakeIfNeeded_59 rfl hl (by decide) rfl (fun ls hl => ?_)
        refine lv_aload_n hx hb dX4_bakeIfNeeded_60 rfl (lv_at hl 2 rfl) ?_
        refine gX4_31 (kd := 0) (i := 0) (ad := (wa_ad (wa_ad ad 3 b q) 4 b u9)) F hw (rfl : (wa_up (wa_up (wa_up (wa_up (wW cy ad S1 X1_1 T o) 3 b (.inr (0, [.int 0, .null, .int 0, .int 0, .null, .int 0, .int 0, .int 0, .int 0]))) 4 b (wa_aI (cy 0) 3 (fun _ => 0))) 3 b (.inr (0, x_bkf ad b z.toNat u9 tz (S1 1 0)))) 4 b (wa_aI (cy 0) 3 x_R3)) 0 0 = some (.inr (4, wx_fs ad S1))) (v := .ref (ad 0 8)) rfl dX4_bakeIfNeeded_61 ?_
        refine lv_aload_n hx hb dX4_bakeIfNeeded_64 rfl (lv_at hl 2 rfl) ?_
        refine gX4_113 (kd := 0) (i := 0) (ad := (wa_ad (wa_ad ad 3 b q) 4 b u9)) F hw (rfl : (wa_up (wa_up (wa_up (wa_up (wW cy ad S1 X1_1 T o) 3 b (.inr (0, [.int 0, .null, .int 0, .int 0, .null, .int 0, .int 0, .int 0, .int 0]))) 4 b (wa_aI (cy 0) 3 (fun _ => 0))) 3 b (.inr (0, x_bkf ad b z.toNat u9 tz (S1 1 0)))) 4 b (wa_aI (cy 0) 3 x_R3)) 0 0 = some (.inr (4, wx_fs ad S1))) (v := .int (iI (S1 21 0))) rfl dX4_bakeIfNeeded_65 ?_
        refine lv_aload_n hx hb dX4_bakeIfNeeded_68 rfl (lv_at hl 0 rfl) ?_
        refine W.eq (g2 := F0 m 69 ls [.ref ((wa_ad (wa_ad ad 3 b q) 4 b u9) 3 b), .int (iI (S1 21 0)), .ref ((wa_ad (wa_ad ad 3 b q) 4 b u9) 0 8)]) (by simp [wa_ad]) ?_
        refine wa_aast (kd := 0) (i := 8) (kd' := 3) (i' := b) (ad := (wa_ad (wa_ad ad 3 b q) 4 b u9)) (t0 := 2) (ci := 0) (n := 60) (g := wx_in ad 3 (S1 21 0)) F hw hj hS (rfl : (wa_up (wa_up (wa_up (wa_up (wW cy ad S1 X1_1 T o) 3 b (.inr (0, [.int 0, .null, .int 0, .int 0, .null, .int 0, .int 0, .int 0, .int 0]))) 4 b (wa_aI (cy 0) 3 (fun _ => 0))) 3 b (.inr (0, x_bkf ad b z.toNat u9 tz (S1 1 0)))) 4 b (wa_aI (cy 0) 3 x_R3)) 0 8 = some (wa_aR (cy 2) 60 (wx_in ad 3 (S1 21 0)))) rfl (show (wa_up (wa_up (wa_up (wa_up (wW cy ad S1 X1_1 T o) 3 b (.inr (0, [.int 0, .null, .int 0, .int 0, .null, .int 0, .int 0, .int 0, .int 0]))) 4 b (wa_aI (cy 0) 3 (fun _ => 0))) 3 b (.inr (0, x_bkf ad b z.toNat u9 tz (S1 1 0)))) 4 b (wa_aI (cy 0) 3 x_R3)) 3 b = some (.inr (0, x_bkf ad b z.toNat u9 tz (S1 1 0))) from wa_up_s _ _ _ _) rfl b hb9 (by omega) (by decide) dX4_bakeIfNeeded_69 (fun H locs hw hS => ?_)
        rw [show (wa_ad (wa_ad ad 3 b q) 4 b u9) 3 b = q from by simp [wa_ad]] at hw
        replace hj := wa_wj.put (kd := 0) (i := 8) (e := (wa_aR (cy 2) 60 (va_up (wx_in ad 3 (S1 21 0)) b (some q)))) hj (rfl : (wa_up (wa_up (wa_up (wa_up (wW cy ad S1 X1_1 T o) 3 b (.inr (0, [.int 0, .null, .int 0, .int 0, .null, .int 0, .int 0, .int 0, .int 0]))) 4 b (wa_aI (cy 0) 3 (fun _ => 0))) 3 b (.inr (0, x_bkf ad b z.toNat u9 tz (S1 1 0)))) 4 b (wa_aI (cy 0) 3 x_R3)) 0 8 = some (wa_aR (cy 2) 60 (wx_in ad 3 (S1 21 0))))
        refine lv_aload_n hx hb dX4_bakeIfNeeded_70 rfl (lv_at hl 2 rfl) ?_
        refine lv_dup hx hb dX4_bakeIfNeeded_71 rfl ?_
        refine gX4_113 (kd := 0) (i := 0) (ad := (wa_ad (wa_ad ad 3 b q) 4 b u9)) F hw (rfl : (wa_up (wa_up (wa_up (wa_up (wa_up (wW cy ad S1 X1_1 T o) 3 b (.inr (0, [.int 0, .null, .int 0, .int 0, .null, .int 0, .int 0, .int 0, .int 0]))) 4 b (wa_aI (cy 0) 3 (fun _ => 0))) 3 b (.inr (0, x_bkf ad b z.toNat u9 tz (S1 1 0)))) 4 b (wa_aI (cy 0) 3 x_R3)) 0 8 (wa_aR (cy 2) 60 (va_up (wx_in ad 3 (S1 21 0)) b (some q)))) 0 0 = some (.inr (4, wx_fs ad S1))) (v := .int (iI (S1 21 0))) rfl dX4_bakeIfNeeded_72 ?_
        refine wa_const F dX4_bakeIfNeeded_75 ?_
        refine wa_add F dX4_bakeIfNeeded_76 ?_
        refine pX4_113 (kd := 0) (i := 0) (ad := (wa_ad (wa_ad ad 3 b q) 4 b u9)) F hw hj hS (rfl : (wa_up (wa_up (wa_up (wa_up (wa_up (wW cy ad S1 X1_1 T o) 3 b (.inr (0, [.int 0, .null, .int 0, .int 0, .null, .int 0, .int 0, .int 0, .int 0]))) 4 b (wa_aI (cy 0) 3 (fun _ => 0))) 3 b (.inr (0, x_bkf ad b z.toNat u9 tz (S1 1 0)))) 4 b (wa_aI (cy 0) 3 x_R3)) 0 8 (wa_aR (cy 2) 60 (va_up (wx_in ad 3 (S1 21 0)) b (some q)))) 0 0 = some (.inr (4, wx_fs ad S1))) (Nat.le_of_ble_eq_true rfl) dX4_bakeIfNeeded_77 (fun H locs hw hS => ?_)
        replace hj := wa_wj.put (kd := 0) (i := 0) (e := (.inr (4, (wx_fs ad S1).set 6 (.int (iI (S1 21 0 + 1)))))) hj (rfl : (wa_up (wa_up (wa_up (wa_up (wa_up (wW cy ad S1 X1_1 T o) 3 b (.inr (0, [.int 0, .null, .int 0, .int 0, .null, .int 0, .int 0, .int 0, .int 0]))) 4 b (wa_aI (cy 0) 3 (fun _ => 0))) 3 b (.inr (0, x_bkf ad b z.toNat u9 tz (S1 1 0)))) 4 b (wa_aI (cy 0) 3 x_R3)) 0 8 (wa_aR (cy 2) 60 (va_up (wx_in ad 3 (S1 21 0)) b (some q)))) 0 0 = some (.inr (4, wx_fs ad S1)))
        refine lv_aload_n hx hb dX4_bakeIfNeeded_80 rfl (lv_at hl 3 rfl) ?_
        refine lv_aload_n hx hb dX4_bakeIfNeeded_81 rfl (lv_at hl 0 rfl) ?_
        refine pX4_103 (x := some q) (kd := 1) (i := z.toNat) (ad := (wa_ad (wa_ad ad 3 b q) 4 b u9)) F hw hj hS (show (wa_up (wa_up (wa_up (wa_up (wa_up (wa_up (wW cy ad S1 X1_1 T o) 3 b (.inr (0, [.int 0, .null, .int 0, .int 0, .null, .int 0, .int 0, .int 0, .int 0]))) 4 b (wa_aI (cy 0) 3 (fun _ => 0))) 3 b (.inr (0, x_bkf ad b z.toNat u9 tz (S1 1 0)))) 4 b (wa_aI (cy 0) 3 x_R3)) 0 8 (wa_aR (cy 2) 60 (va_up (wx_in ad 3 (S1 21 0)) b (some q)))) 0 0 (.inr (4, (wx_fs ad S1).set 6 (.int (iI (S1 21 0 + 1)))))) 1 z.toNat = some (.inr (1, wx_fI ad S1 X1_1 z.toNat)) from wW_1 (cy := cy) (T := T) (o := o) hi1) (Nat.le_of_ble_eq_true rfl) dX4_bakeIfNeeded_82 (fun H locs hw hS => ?_)
        replace hj := wa_wj.put (kd := 1) (i := z.toNat) (e := .inr (1, (wx_fI ad S1 X1_1 z.toNat).set 4 (va_rf (some q)))) hj (show (wa_up (wa_up (wa_up (wa_up (wa_up (wa_up (wW cy ad S1 X1_1 T o) 3 b (.inr (0, [.int 0, .null, .int 0, .int 0, .null, .int 0, .int 0, .int 0, .int 0]))) 4 b (wa_aI (cy 0) 3 (fun _ => 0))) 3 b (.inr (0, x_bkf ad b z.toNat u9 tz (S1 1 0)))) 4 b (wa_aI (cy 0) 3 x_R3)) 0 8 (wa_aR (cy 2) 60 (va_up (wx_in ad 3 (S1 21 0)) b (some q)))) 0 0 (.inr (4, (wx_fs ad S1).set 6 (.int (iI (S1 21 0 + 1)))))) 1 z.toNat = some (.inr (1, wx_fI ad S1 X1_1 z.toNat)) from wW_1 (cy := cy) (T := T) (o := o) hi1)
        have hfin := wx_allocB (cy := cy) (ad := ad) (S := S1) (X := X1_1) (T := T) (o := o) (q := q) (u9 := u9) hwf1 hb9 hi1 tz (BL := .inr (0, [.int 0, .null, .int 0, .int 0, .null, .int 0, .int 0, .int 0, .int 0])) (r0 := wa_aI (cy 0) 3 (fun _ => 0))
        have hw2 := hw.cg hfin
        have hj2 := wj_cg hj hfin
        rw [show x_bn S z = f_newB S1 z.toNat tz from (if_pos ⟨c1, b6, by omega⟩).trans hmk]
        exact wa_eV ((wa_ad (wa_ad ad 3 b q) 4 b u9), X1_1) F ⟨⟨xr_same hP (fun a b h => f_newB_o (by omega)), hj2, fun _ => rfl, fun _ _ => ⟨rfl, rfl⟩, fun j hj => (by have hne : ¬ (j = b) := (by omega); exact ⟨by simp [wa_ad, hne], by simp [wa_ad, hne]⟩), fun _ _ => rfl, fun _ => rfl, fun _ => rfl⟩, h11⟩ hw2 hS dX4_bakeIfNeeded_85
      · skip
        refine W.widen (k := 2) (n := 12) (Nat.zero_le _) (Nat.zero_le _) ?_
        rw [show x_bn S z = S from if_neg (fun hq => by omega)]
        exact wa_eV (ad, X) F ⟨⟨hxr, hj, x_ext.rf S ad⟩, fun _ => rfl⟩ hw hS dX4_bakeIfNeeded_31
    · rw [bI_f b6]
      refine wa_if_eq (tgt := 31) F dX4_bakeIfNeeded_9 (by decide) (by decide) (fun c9 => ?_) (fun c9 => absurd c9 (by decide))
      refine W.widen (k := 2) (n := 12) (Nat.zero_le _) (Nat.zero_le _) ?_
      rw [show x_bn S z = S from if_neg (fun hq => b6 hq.2.1)]
      exact wa_eV (ad, X) F ⟨⟨hxr, hj, x_ext.rf S ad⟩, fun _ => rfl⟩ hw hS dX4_bakeIfNeeded_31
