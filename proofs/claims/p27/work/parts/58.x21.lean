/-! contracts of the class: public methods, seventh part: bakeAll (laid by program) -/
theorem f_mk_12 : ∀ (n s : Nat) (T : wa_St) (z : Int), (f_mk n s T z).1 12 0 ≤ T 12 0 + n
  | 0, s, T, z => by simp [f_mk]
  | n + 1, s, T, z => by
    rw [f_mk_fm]
    refine Int.le_trans (f_mk_12 n (s + 1) _ _) ?_
    by_cases q : f_find T z (T 5 s) (T 2 (T 5 s).toNat) = -2
    · rw [x_fm_t q]
      show f_addL T z (T 5 s) (T 2 (T 5 s).toNat) 12 0 + (n : Int) ≤ _
      rw [f_addL_12]; omega
    · rw [x_fm_f q]
      show T 12 0 + (n : Int) ≤ _
      omega
theorem x_bn_12 {S : wa_St} (hwf : wf S) (l5 : S 12 0 ≤ 5 * S 21 0) {z : Int} (hz : -1 ≤ z ∧ z < S 8 0) : x_bn S z 12 0 ≤ 5 * x_bn S z 21 0 := by
  unfold x_bn
  by_cases q : 0 ≤ z ∧ x_needs S z.toNat ∧ S 21 0 < 60
  · rw [if_pos q]
    have hm := x_make_6 hwf (i := z.toNat) (by omega) (by omega)
    have h12 := f_mk_12 (S 6 z.toNat).toNat (5 * z.toNat) S (x_begin S z.toNat)
    have w6 := hwf.2.2.2.2.2.2.2.1 z.toNat
    unfold x_make
    generalize (f_mk (S 6 z.toNat).toNat (5 * z.toNat) S (x_begin S z.toNat)).1 = S1 at *
    generalize (f_mk (S 6 z.toNat).toNat (5 * z.toNat) S (x_begin S z.toNat)).2 = tz at *
    have e21 := hm.1 21 0 (by decide) (by decide) (by decide) (by decide)
    rw [show f_newB S1 z.toNat tz 21 0 = S1 21 0 + 1 from wa_s_eq, show f_newB S1 z.toNat tz 12 0 = S1 12 0 from f_newB_o (by decide)]
    omega
  · rw [if_neg q]; exact l5
def x_ba (L : Nat → Int) : Nat → Nat → wa_St → wa_St
  | 0, _, S => S
  | n + 1, j, S => x_ba L n (j + 1) (x_bn S (L j))
def x_L (S X : wa_St) : Nat → Int := fun j => (f_lna (x_v S X)).1 30 j
def j_all (S : wa_St) : Int := if 60 < S 21 0 + f_cnt (x_nc S) (S 8 0).toNat then 1 else 0

set_option maxRecDepth 100000 in
set_option maxHeartbeats 4000000 in
/-- bakeAll -/
theorem c_X4_bakeAll (l : Launch) (hlt : l.stackTraces = false) (D : va_G) (cy : Nat → ClassId) (ad : Nat → Nat → Nat) (S X T : wa_St) (o : Int64) (A : Nat → Prop) (hj : wa_wj A ad (wW cy ad S X T o)) (hA : wa_Up A) (hwf : wf S) (hxr : xr S X) (hin : wx_inj ad S) (l5 : S 12 0 ≤ 5 * S 21 0) : vx_Met l yX4_bakeAll wX4_bakeAll ({ frames := 6, cells := 20, slots := 120, locals := 141 } : Room) (wx_pc [.ref (ad 0 0)] D cy A (fun H => wa_wd D ad (wW cy ad S X T o) H)) (va_Qi (fun r (u : (Nat → Nat → Nat) × wa_St) => r = iI (x_ba (x_L S X) 10 0 S 21 0 - S 21 0) ∧ j_all S = 0 ∧ wx_P A cy ad T o S (x_ba (x_L S X) 10 0 S) u) (fun u t => wx_B D cy T o (x_ba (x_L S X) 10 0 S) u t.heap) A) (wx_XC A exD (j_all S) (wx_P A cy ad T o S S) (wx_B D cy T o S)) 20 120 A := by
  refine wx_en (by decide +kernel) (Nat.le_of_ble_eq_true rfl) ?_
  intro p e s m args below meth c F hTB hno hw ls hl
  have F : wa_fx p s m c meth args cX4_bakeAll 6 RX4 "bakeAll" (Option.some FieldType.int) D cy := F
  have hw : wa_wd D ad (wW cy ad S X T o) s.heap := hw
  have hl : lv_has ls 6 [(0, .ref (ad 0 0))] := hl
  obtain ⟨hx, hb, hml, hown, hts⟩ := id F.1
  obtain ⟨hSB, w8, w21, w12, w29, w4, w7, w6, w5, w13, w25, w26, w28, w14, w3, wf17⟩ := id hwf
  obtain ⟨hx1, hXB, hx11, hx12, hx13, hx14, hx15, hx16⟩ := id hxr
  have hcr := f_cnt_rng (x_nc S) (S 8 0).toNat
  have hS : va_S A s.heap s.heap [] := va_S.rf
  refine lv_aload_n hx hb dX4_bakeAll_0 rfl (lv_at hl 0 rfl) ?_
  refine gX4_113 F hw rfl (v := .int (iI (S 21 0))) rfl dX4_bakeAll_1 ?_
  refine lv_istore_n (lv' := [(1, .int (iI (S 21 0))), (0, .ref (ad 0 0))]) hx hb dX4_bakeAll_4 rfl hl (by decide) rfl (fun ls hl => ?_)
  refine lv_iload_n hx hb dX4_bakeAll_5 rfl (lv_at hl 0 rfl) ?_
  refine lv_aload_n hx hb dX4_bakeAll_6 rfl (lv_at hl 1 rfl) ?_
  refine wx_ci (kX4_126 F (c_X4_countBakesToCome l D cy ad S X T o A hj hwf hxr hin) ⟨by decide, by decide⟩ ⟨rfl, rfl⟩ hw hw rfl rfl rfl (Nat.le_of_ble_eq_true rfl) hl.1 dX4_bakeAll_7 ⟨Nat.le_of_ble_eq_true rfl, Nat.le_of_ble_eq_true rfl⟩) hS (fun X1_1 H locs hP hw hS => ?_)
  have hxr_X1_1 := hP.1
  have h11_X1_1 := hP.2
  obtain ⟨hx1, hXB, hx11, hx12, hx13, hx14, hx15, hx16⟩ := id hxr_X1_1
  refine wa_add F dX4_bakeAll_10 ?_
  refine wa_bi F dX4_bakeAll_11 (by decide +kernel) ?_
  refine wa_ic_le (tgt := 26) F dX4_bakeAll_13 (by decide) (by have q0 := hSB 21 0; have q1 := f_cnt_rng (x_nc S) (S 8 0).toNat; exact ⟨by omega, by omega⟩) (by decide) (fun c13 => ?_) (fun c13 => ?_)
  · skip
    refine lv_aload_n hx hb dX4_bakeAll_26 rfl (lv_at hl 1 rfl) ?_
    refine wx_cv (kX4_132 F (c_X4_fillLine l D cy ad S X1_1 T o A (wj_of hj rfl rfl rfl) hwf hxr_X1_1 hin) ⟨by decide, by decide⟩ ⟨rfl, rfl⟩ hw hw rfl rfl rfl (Nat.le_of_ble_eq_true rfl) hl.1 dX4_bakeAll_27 ⟨Nat.le_of_ble_eq_true rfl, Nat.le_of_ble_eq_true rfl⟩) hS (fun X1_2 H locs hP hw hS => ?_)
    obtain ⟨hxr_X1_2, hxv_X1_2⟩ := hP
    obtain ⟨hx1, hXB, hx11, hx12, hx13, hx14, hx15, hx16⟩ := id hxr_X1_2
    have hvv : x_v S X1_1 = x_v S X := by funext a b; unfold x_v; by_cases g : a = 30; (rw [if_pos g, if_pos g]; exact h11_X1_1 b); (rw [if_neg g, if_neg g])
    have hL : ∀ j, X1_2 11 j = x_L S X j := fun j => (by have q := congrFun (congrFun hxv_X1_2 30) j; rw [hvv] at q; exact q)
    have hk0 : j_all S = 0 := if_neg (by omega)
    refine lv_aload_n hx hb dX4_bakeAll_30 rfl (lv_at hl 1 rfl) ?_
    refine gX4_44 F hw rfl (v := .ref (ad 0 11)) rfl dX4_bakeAll_31 ?_
    refine lv_astore_n (lv' := [(2, .ref (ad 0 11)), (1, .int (iI (S 21 0))), (0, .ref (ad 0 0))]) hx hb dX4_bakeAll_34 rfl hl (by decide) rfl (fun ls hl => ?_)
    refine lv_aload_n hx hb dX4_bakeAll_35 rfl (lv_at hl 0 rfl) ?_
    refine wa_alen (t0 := 3) F hw rfl rfl 10 rfl (by decide) dX4_bakeAll_36 ?_
    refine W.eq (g2 := F0 m 37 ls [.int (iI 10)]) rfl ?_
    refine lv_istore_n (lv' := [(3, .int (iI 10)), (2, .ref (ad 0 11)), (1, .int (iI (S 21 0))), (0, .ref (ad 0 0))]) hx hb dX4_bakeAll_37 rfl hl (by decide) rfl (fun ls hl => ?_)
    refine wa_const F dX4_bakeAll_38 ?_
    refine lv_istore (lv' := [(4, .int (iI 0)), (3, .int (iI 10)), (2, .ref (ad 0 11)), (1, .int (iI (S 21 0))), (0, .ref (ad 0 0))]) hx hb dX4_bakeAll_39 hl (by decide) rfl (fun ls hl => ?_)
    have loop41 : ∀ (k jx : Nat) (S0 X0 : wa_St) (ad0 : Nat → Nat → Nat) (H : Heap) (locs : List Loc), jx + k = 10 → wf S0 → S0 12 0 ≤ 5 * S0 21 0 → xr S0 X0 → S0 8 0 = S 8 0 → S 21 0 ≤ S0 21 0 → S0 29 0 = S 29 0 → x_ext S ad ad0 → wa_wj A ad0 (wW cy ad0 S0 X0 T o) → (∀ j, X0 11 j = x_L S X j) → x_ba (x_L S X) k jx S0 = x_ba (x_L S X) 10 0 S → wa_wd D ad0 (wW cy ad0 S0 X0 T o) H → va_S A s.heap H locs → ∀ ls : Array Slot, lv_has ls 6 [(0, .ref (ad 0 0)), (1, .int (iI (S 21 0))), (2, .ref (ad 0 11)), (3, .int (iI 10)), (4, .int (iI (jx : Int)))] → W p l e ({ frames := 6, cells := 20, slots := 120, locals := 141 } : Room) s m args below meth c H locs (2 * (10 - k)) (12 * (10 - k)) (vx_MQ below (va_Qi (fun r (u : (Nat → Nat → Nat) × wa_St) => r = iI (x_ba (x_L S X) 10 0 S 21 0 - S 21 0) ∧ j_all S = 0 ∧ wx_P A cy ad T o S (x_ba (x_L S X) 10 0 S) u) (fun u t => wx_B D cy T o (x_ba (x_L S X) 10 0 S) u t.heap) A) (wx_XC A exD (j_all S) (wx_P A cy ad T o S S) (wx_B D cy T o S)) args s 20 120 A) (F0 m 41 ls []) := by
      intro k
      induction k with
      | zero =>
        intro jx S0 X0 ad0 H locs hk hwf0 l50 hxr0 e8 e21 e29 hex0 hj0 hL0 hr hw hS ls hl
        refine lv_iload hx hb dX4_bakeAll_41 (lv_at hl 4 rfl) ?_
        refine lv_iload_n hx hb dX4_bakeAll_43 rfl (lv_at hl 3 rfl) ?_
        refine wa_ic_ge (tgt := 65) F dX4_bakeAll_44 (by decide) (by exact ⟨by omega, by omega⟩) (by decide) (fun _ => ?_) (fun g => absurd g (by omega))
        refine lv_aload_n hx hb dX4_bakeAll_65 rfl (lv_at hl 0 rfl) ?_
        refine W.eq (g2 := F0 m 66 ls [.ref (ad0 0 0)]) (by rw [hex0.1]) ?_
        refine gX4_113 (kd := 0) (i := 0) (ad := ad0) F hw (rfl : wW cy ad0 S0 X0 T o 0 0 = some (.inr (4, wx_fs ad0 S0))) (v := .int (iI (S0 21 0))) rfl dX4_bakeAll_66 ?_
        refine lv_iload_n hx hb dX4_bakeAll_69 rfl (lv_at hl 1 rfl) ?_
        refine wa_sub F dX4_bakeAll_70 ?_
        rw [← hr]
        exact wx_rI (ad0, X0) F ⟨rfl, hk0, ⟨hxr0, hj0, hex0⟩⟩ hw hS (Nat.le_of_ble_eq_true rfl) (Nat.le_of_ble_eq_true rfl) dX4_bakeAll_71
      | succ k ih =>
        intro jx S0 X0 ad0 H locs hk hwf0 l50 hxr0 e8 e21 e29 hex0 hj0 hL0 hr hw hS ls hl
        have hlr : -1 ≤ X0 11 jx ∧ X0 11 jx < S0 8 0 := hxr0.2.2.1 jx
        refine lv_iload hx hb dX4_bakeAll_41 (lv_at hl 4 rfl) ?_
        refine lv_iload_n hx hb dX4_bakeAll_43 rfl (lv_at hl 3 rfl) ?_
        refine wa_ic_ge (tgt := 65) F dX4_bakeAll_44 (by decide) (by exact ⟨by omega, by omega⟩) (by decide) (fun g => absurd g (by omega)) (fun _ => ?_)
        refine lv_aload_n hx hb dX4_bakeAll_47 rfl (lv_at hl 2 rfl) ?_
        refine lv_iload hx hb dX4_bakeAll_48 (lv_at hl 4 rfl) ?_
        refine W.eq (g2 := F0 m 50 ls [.int (iI (jx : Int)), .ref (ad0 0 11)]) (by rw [hex0.1]) ?_
        refine wa_aald (g := fun j => wa_op ad0 1 (X0 11 j)) (t0 := 3) (kd := 0) (i := 11) (n := 10) F hw rfl rfl jx rfl (by omega) (by decide) dX4_bakeAll_50 ?_
        refine W.eq (g2 := F0 m 51 ls [va_rf (wa_op ad0 1 (X0 11 jx))]) rfl ?_
        refine wa_stq (lv' := [(5, va_rf (wa_op ad0 1 (X0 11 jx))), (0, .ref (ad 0 0)), (1, .int (iI (S 21 0))), (2, .ref (ad 0 11)), (3, .int (iI 10)), (4, .int (iI (jx : Int)))]) F dX4_bakeAll_51 hl (by decide) rfl (fun ls hl => ?_)
        refine lv_aload_n hx hb dX4_bakeAll_53 rfl (lv_at hl 1 rfl) ?_
        refine wa_ldq F dX4_bakeAll_54 (lv_at hl 0 rfl) ?_
        refine W.eq (g2 := F0 m 56 ls [va_rf (wa_op ad0 1 (X0 11 jx)), .ref (ad0 0 0)]) (by rw [hex0.1]) ?_
        refine wa_cV (kX4_118 F (c_X4_bakeIfNeeded l D cy ad0 S0 X0 T o A hj0 hwf0 hxr0 (wx_inj.of hj0) hA (X0 11 jx) hlr (fun _ => by omega)) ⟨by decide, by decide⟩ ⟨rfl, rfl⟩ hw hw rfl rfl rfl (Nat.le_of_ble_eq_true rfl) hl.1 dX4_bakeAll_56 ⟨by show 2 * (10 - (k + 1)) + 2 ≤ 20; omega, by show 12 * (10 - (k + 1)) + 12 ≤ 120; omega⟩) hS (fun u H locs hP hw hS hz9 => ?_)
        obtain ⟨ad2, X2⟩ := u
        obtain ⟨⟨hxr2, hj2, hex2⟩, h112⟩ := hP
        have hwb := wf_bn hwf0 (fun _ => by omega) hlr
        have h12b := x_bn_12 hwf0 l50 hlr
        rw [hL0 jx] at hw hxr2 hj2 hwb h12b
        refine wa_inc (k := 5) (b := ((jx + 1 : Nat) : Int)) (lv' := [(4, .int (iI ((jx + 1 : Nat) : Int))), (5, va_rf (wa_op ad0 1 (X0 11 jx))), (0, .ref (ad 0 0)), (1, .int (iI (S 21 0))), (2, .ref (ad 0 11)), (3, .int (iI 10))]) F dX4_bakeAll_59 hl rfl (by omega) (by decide) rfl (fun ls hl => ?_)
        refine wa_goto (tgt := 41) F dX4_bakeAll_62 (by decide) ?_
        refine W.widen (k := 2 * (10 - k)) (n := 12 * (10 - k)) (by omega) (by omega) ?_
        exact ih (jx + 1) _ X2 ad2 H locs (by omega) hwb.1 h12b hxr2 (by omega) (by omega) (by omega) (hex0.trans hex2 (by omega) (by omega) (by omega)) hj2 (fun j => (h112 j).trans (hL0 j)) (by rw [← hr]; rfl) hw hS ls (lv_sub hl [2, 3, 4, 5, 0] rfl)
    exact loop41 10 0 S X1_2 ad H locs rfl hwf l5 hxr_X1_2 rfl (Int.le_refl _) rfl (x_ext.rf S ad) (wj_of hj rfl rfl rfl) hL rfl hw hS ls (lv_sub hl [4, 3, 2, 1, 0] rfl)
  · skip
    exact tX4_70 (is := 130) (text := "there would be more than 60 bakes") 1 (if_pos (by omega)) (by decide) rfl (ad, X1_1) F hlt hTB (by decide) hS (wa_fresh hA hw (wj_of hj rfl rfl rfl) (rfl : wW cy ad S X1_1 T o 0 0 = some (.inr (4, wx_fs ad S)))) hA hl.1 hno dX4_bakeAll_16 dX4_bakeAll_19 dX4_bakeAll_20 dX4_bakeAll_22 dX4_bakeAll_25 (by decide) (Nat.le_of_ble_eq_true rfl) (Nat.le_of_ble_eq_true rfl) (Nat.le_of_ble_eq_true rfl) (Nat.le_of_ble_eq_true rfl) (Nat.le_of_ble_eq_true rfl) ⟨hxr_X1_1, (wj_of hj rfl rfl rfl), x_ext.rf S ad⟩ (fun H1 hz hk => hw.grow hk)
