/-! contracts of the class, fourth part: what writes into rows (laid by program) -/
set_option maxRecDepth 100000 in
set_option maxHeartbeats 4000000 in
/-- findOrMake -/
theorem c_X2_findOrMake (l : Launch) (D : va_G) (cy : Nat → ClassId) (ad : Nat → Nat → Nat) (S X T : wa_St) (o : Int64) (A : Nat → Prop) (hj : wa_wj A ad (wW cy ad S X T o)) (hwf : wf S) (hxr : xr S X) (hin : wx_inj ad S) (lo inp ver : Int) (rlo : -1 ≤ lo ∧ lo < S 12 0) (rinp : -2 ≤ inp ∧ inp ≤ 100000) (rver : -2 ≤ ver ∧ ver ≤ 100000) (l3 : S 12 0 < 300) : Met l yX2_findOrMake wX2_findOrMake ({ frames := 3, cells := 0, slots := 0, locals := 68 } : Room) (wa_pc [.ref (ad 0 1), .int (iI lo), .int (iI inp), .int (iI ver)] D cy (fun H => wa_wd D ad (wW cy ad S X T o) H)) (wx_Qi A D cy ad T o ((x_fm S lo inp ver).1) (fun u => xr (x_fm S lo inp ver).1 u ∧ ∀ j, u 11 j = X 11 j) ((x_fm S lo inp ver).2)) 0 0 A := by
  refine wa_en (by decide +kernel) (Nat.le_of_ble_eq_true rfl) ?_
  intro p e s m args below meth c F hw ls hl
  have F : wa_fx p s m c meth args cX2_findOrMake 6 RX2 "findOrMake" (Option.some FieldType.int) D cy := F
  have hw : wa_wd D ad (wW cy ad S X T o) s.heap := hw
  have hl : lv_has ls 6 [(0, .ref (ad 0 1)), (1, .int (iI lo)), (2, .int (iI inp)), (3, .int (iI ver))] := hl
  obtain ⟨hx, hb, hml, hown, hts⟩ := id F.1
  obtain ⟨hSB, w8, w21, w12, w29, w4, w7, w6, w5, w13, w25, w26, w28, w14, w3, wf17⟩ := id hwf
  obtain ⟨hx1, hXB, hx11, hx12, hx13, hx14, hx15, hx16⟩ := id hxr
  have hS : va_S A s.heap s.heap [] := va_S.rf
  refine lv_aload_n hx hb dX2_findOrMake_0 rfl (lv_at hl 0 rfl) ?_
  refine lv_iload_n hx hb dX2_findOrMake_1 rfl (lv_at hl 1 rfl) ?_
  refine lv_iload_n hx hb dX2_findOrMake_2 rfl (lv_at hl 2 rfl) ?_
  refine lv_iload_n hx hb dX2_findOrMake_3 rfl (lv_at hl 3 rfl) ?_
  refine wa_cp (kX2_29 F (c_X2_find l D cy ad S X T o hwf hxr hin (lo) (inp) (ver) (by have q0 := rlo; exact ⟨by omega, by omega⟩) (by have q0 := rinp; exact ⟨by omega, by omega⟩) (by have q0 := rver; exact ⟨by omega, by omega⟩)) ⟨by decide, by decide⟩ ⟨rfl, rfl⟩ hw hw rfl rfl rfl (Nat.le_of_ble_eq_true rfl) hl.1 dX2_findOrMake_4 ⟨Nat.le_refl _, Nat.le_refl _⟩) ?_
  refine lv_istore (lv' := [(4, .int (iI (f_find S (lo) (inp) (ver)))), (0, .ref (ad 0 1)), (1, .int (iI lo)), (2, .int (iI inp)), (3, .int (iI ver))]) hx hb dX2_findOrMake_7 hl (by decide) rfl (fun ls hl => ?_)
  refine lv_iload hx hb dX2_findOrMake_9 (lv_at hl 0 rfl) ?_
  refine wa_bi F dX2_findOrMake_11 (by decide +kernel) ?_
  refine wa_ic_ne (tgt := 33) F dX2_findOrMake_13 (by decide) (by have q0 := f_find_rng hwf (lo) (inp) (ver); exact ⟨by omega, by omega⟩) (by decide) (fun c13 => ?_) (fun c13 => ?_)
  · skip
    refine lv_iload hx hb dX2_findOrMake_33 (lv_at hl 0 rfl) ?_
    exact wx_ei F (by rw [x_fm_f (show f_find S lo inp ver ≠ -2 from c13)]; exact hw) hS (by rw [x_fm_f (show f_find S lo inp ver ≠ -2 from c13)]) (by rw [x_fm_f (show f_find S lo inp ver ≠ -2 from c13)]; exact ⟨hxr, fun _ => rfl⟩) dX2_findOrMake_35
  · skip
    refine lv_aload_n hx hb dX2_findOrMake_16 rfl (lv_at hl 1 rfl) ?_
    refine gX2_21 F hw rfl (v := .int (iI (S 12 0))) rfl dX2_findOrMake_17 ?_
    refine wa_if_lt (tgt := 33) F dX2_findOrMake_20 (by decide) (by have q0 := hSB 12 0; exact ⟨by omega, by omega⟩) (fun c20 => absurd c20 (by omega)) (fun c20 => ?_)
    refine lv_aload_n hx hb dX2_findOrMake_23 rfl (lv_at hl 1 rfl) ?_
    refine gX2_21 F hw rfl (v := .int (iI (S 12 0))) rfl dX2_findOrMake_24 ?_
    refine wa_si F dX2_findOrMake_27 (by decide +kernel) ?_
    refine wa_ic_lt (tgt := 36) F dX2_findOrMake_30 (by decide) (by have q0 := hSB 12 0; exact ⟨by omega, by omega⟩) (by decide) (fun c30 => ?_) (fun c30 => absurd c30 (by omega))
    refine lv_aload_n hx hb dX2_findOrMake_36 rfl (lv_at hl 1 rfl) ?_
    refine gX2_21 F hw rfl (v := .int (iI (S 12 0))) rfl dX2_findOrMake_37 ?_
    refine lv_istore (lv' := [(5, .int (iI (S 12 0))), (4, .int (iI (f_find S (lo) (inp) (ver)))), (0, .ref (ad 0 1)), (1, .int (iI lo)), (2, .int (iI inp)), (3, .int (iI ver))]) hx hb dX2_findOrMake_40 hl (by decide) rfl (fun ls hl => ?_)
    refine lv_aload_n hx hb dX2_findOrMake_42 rfl (lv_at hl 2 rfl) ?_
    refine gX2_9 F hw rfl (v := .ref (ad 0 2)) rfl dX2_findOrMake_43 ?_
    refine lv_iload hx hb dX2_findOrMake_46 (lv_at hl 0 rfl) ?_
    refine lv_iload_n hx hb dX2_findOrMake_48 rfl (lv_at hl 3 rfl) ?_
    refine sX_2 F hw hj hS (((S 12 0)).toNat) (by have q0 := hSB 12 0; omega) (by have q0 := hSB 12 0; omega) dX2_findOrMake_49 (fun H locs hw hS => ?_)
    refine lv_aload_n hx hb dX2_findOrMake_50 rfl (lv_at hl 2 rfl) ?_
    refine gX2_15 F hw rfl (v := .ref (ad 0 3)) rfl dX2_findOrMake_51 ?_
    refine lv_iload hx hb dX2_findOrMake_54 (lv_at hl 0 rfl) ?_
    refine lv_iload_n hx hb dX2_findOrMake_56 rfl (lv_at hl 4 rfl) ?_
    refine sX_3 F hw (wj_of hj rfl rfl rfl) hS (((S 12 0)).toNat) (by have q0 := hSB 12 0; omega) (by have q0 := hSB 12 0; omega) dX2_findOrMake_57 (fun H locs hw hS => ?_)
    refine lv_aload_n hx hb dX2_findOrMake_58 rfl (lv_at hl 2 rfl) ?_
    refine gX2_18 F hw rfl (v := .ref (ad 0 4)) rfl dX2_findOrMake_59 ?_
    refine lv_iload hx hb dX2_findOrMake_62 (lv_at hl 0 rfl) ?_
    refine lv_iload_n hx hb dX2_findOrMake_64 rfl (lv_at hl 5 rfl) ?_
    refine sX_4 F hw (wj_of hj rfl rfl rfl) hS (((S 12 0)).toNat) (by have q0 := hSB 12 0; omega) (by have q0 := hSB 12 0; omega) dX2_findOrMake_65 (fun H locs hw hS => ?_)
    refine lv_aload_n hx hb dX2_findOrMake_66 rfl (lv_at hl 2 rfl) ?_
    refine lv_dup hx hb dX2_findOrMake_67 rfl ?_
    refine gX2_21 F hw rfl (v := .int (iI (S 12 0))) rfl dX2_findOrMake_68 ?_
    refine wa_const F dX2_findOrMake_71 ?_
    refine wa_add F dX2_findOrMake_72 ?_
    refine qX2_21 F hw (wj_of hj rfl rfl rfl) hS dX2_findOrMake_73 (fun H locs hw hS => ?_)
    refine lv_iload hx hb dX2_findOrMake_76 (lv_at hl 0 rfl) ?_
    exact wx_ei F (by rw [x_fm_t (show f_find S lo inp ver = -2 from c13)]; exact hw) hS (by rw [x_fm_t (show f_find S lo inp ver = -2 from c13)]) (by rw [x_fm_t (show f_find S lo inp ver = -2 from c13)]; exact ⟨xr_addL hxr w12.1 rlo l3 rinp rver, fun _ => rfl⟩) dX2_findOrMake_78
set_option maxRecDepth 100000 in
set_option maxHeartbeats 4000000 in
/-- makeTopFrom -/
theorem c_X4_makeTopFrom (l : Launch) (D : va_G) (cy : Nat → ClassId) (ad : Nat → Nat → Nat) (S X T : wa_St) (o : Int64) (A : Nat → Prop) (hj : wa_wj A ad (wW cy ad S X T o)) (hwf : wf S) (hxr : xr S X) (hin : wx_inj ad S) (z : Int) (i : Nat) (hi : (i : Int) < S 8 0) (rz : -1 ≤ z ∧ z < S 12 0) (l3 : S 12 0 + S 6 i ≤ 300) : Met l yX4_makeTopFrom wX4_makeTopFrom ({ frames := 4, cells := 0, slots := 0, locals := 93 } : Room) (wa_pc [.ref (ad 0 0), .int (iI z), .ref (ad 1 i)] D cy (fun H => wa_wd D ad (wW cy ad S X T o) H)) (wx_Qi A D cy ad T o ((f_mk (S 6 i).toNat (5 * i) S z).1) (fun u => xr (f_mk (S 6 i).toNat (5 * i) S z).1 u ∧ ∀ j, u 11 j = X 11 j) ((f_mk (S 6 i).toNat (5 * i) S z).2)) 0 0 A := by
  refine wa_en (by decide +kernel) (Nat.le_of_ble_eq_true rfl) ?_
  intro p e s m args below meth c F hw ls hl
  have F : wa_fx p s m c meth args cX4_makeTopFrom 6 RX4 "makeTopFrom" (Option.some FieldType.int) D cy := F
  have hw : wa_wd D ad (wW cy ad S X T o) s.heap := hw
  have hl : lv_has ls 6 [(0, .ref (ad 0 0)), (1, .int (iI z)), (2, .ref (ad 1 i))] := hl
  obtain ⟨hx, hb, hml, hown, hts⟩ := id F.1
  obtain ⟨hSB, w8, w21, w12, w29, w4, w7, w6, w5, w13, w25, w26, w28, w14, w3, wf17⟩ := id hwf
  obtain ⟨hx1, hXB, hx11, hx12, hx13, hx14, hx15, hx16⟩ := id hxr
  have w6i := w6 i
  have hS : va_S A s.heap s.heap [] := va_S.rf
  refine lv_iload_n hx hb dX4_makeTopFrom_0 rfl (lv_at hl 1 rfl) ?_
  refine lv_istore_n (lv' := [(3, .int (iI z)), (0, .ref (ad 0 0)), (1, .int (iI z)), (2, .ref (ad 1 i))]) hx hb dX4_makeTopFrom_1 rfl hl (by decide) rfl (fun ls hl => ?_)
  refine wa_const F dX4_makeTopFrom_2 ?_
  refine lv_istore (lv' := [(4, .int (iI 0)), (3, .int (iI z)), (0, .ref (ad 0 0)), (1, .int (iI z)), (2, .ref (ad 1 i))]) hx hb dX4_makeTopFrom_3 hl (by decide) rfl (fun ls hl => ?_)
  have loop5 : ∀ (k : Nat) (sx : Nat) (zz : Int) (S0 : wa_St) (X0 : wa_St) (H : Heap) (locs : List Loc), (sx + k = (S 6 i).toNat) → (m_inv S k S0 zz) → (xr S0 X0) → (f_mk k (5 * i + sx) S0 zz = f_mk (S 6 i).toNat (5 * i) S z) → (∀ j, X0 11 j = X 11 j) → wa_wd D ad (wW cy ad S0 X0 T o) H → va_S A s.heap H locs → ∀ ls : Array Slot, lv_has ls 6 [(0, .ref (ad 0 0)), (1, .int (iI z)), (2, .ref (ad 1 i)), (3, .int (iI zz)), (4, .int (iI (sx : Int)))] → W p l e ({ frames := 4, cells := 0, slots := 0, locals := 93 } : Room) s m args below meth c H locs 0 0 (MQ below (wx_Qi A D cy ad T o ((f_mk (S 6 i).toNat (5 * i) S z).1) (fun u => xr (f_mk (S 6 i).toNat (5 * i) S z).1 u ∧ ∀ j, u 11 j = X 11 j) ((f_mk (S 6 i).toNat (5 * i) S z).2)) args s 0 0 A) (F0 m 5 ls []) := by
    intro k
    induction k with
    | zero =>
      intro sx zz S0 X0 H locs hk hmi hxr0 hr h11 hw hS ls hl
      have hwf0 := hmi.2.1
      obtain ⟨hSB, w8, w21, w12, w29, w4, w7, w6, w5, w13, w25, w26, w28, w14, w3, wf17⟩ := id hwf0
      obtain ⟨hx1, hXB, hx11, hx12, hx13, hx14, hx15, hx16⟩ := id hxr0
      have e6 : S0 6 i = S 6 i := hmi.1 6 i (by decide) (by decide) (by decide) (by decide)
      have e8 : S0 8 0 = S 8 0 := hmi.1 8 0 (by decide) (by decide) (by decide) (by decide)
      have hi0 : (i : Int) < S0 8 0 := by omega
      refine lv_iload hx hb dX4_makeTopFrom_5 (lv_at hl 4 rfl) ?_
      refine lv_aload_n hx hb dX4_makeTopFrom_7 rfl (lv_at hl 2 rfl) ?_
      refine gX4_94 F hw (wW_1 hi0) (v := .int (iI (S0 6 i))) rfl dX4_makeTopFrom_8 ?_
      refine wa_ic_ge (tgt := 51) F dX4_makeTopFrom_11 (by decide) (by exact ⟨by omega, by omega⟩) (by have q0 := hSB 6 i; exact ⟨by omega, by omega⟩) (fun c11 => ?_) (fun c11 => absurd c11 (by omega))
      refine lv_iload_n hx hb dX4_makeTopFrom_51 rfl (lv_at hl 3 rfl) ?_
      exact wx_ei F (by rw [← hr]; exact hw) hS (by rw [← hr]; rfl) (by rw [← hr]; exact ⟨hxr0, h11⟩) dX4_makeTopFrom_52
    | succ k ih5 =>
      intro sx zz S0 X0 H locs hk hmi hxr0 hr h11 hw hS ls hl
      have hwf0 := hmi.2.1
      obtain ⟨hSB, w8, w21, w12, w29, w4, w7, w6, w5, w13, w25, w26, w28, w14, w3, wf17⟩ := id hwf0
      obtain ⟨hx1, hXB, hx11, hx12, hx13, hx14, hx15, hx16⟩ := id hxr0
      have e6 : S0 6 i = S 6 i := hmi.1 6 i (by decide) (by decide) (by decide) (by decide)
      have e8 : S0 8 0 = S 8 0 := hmi.1 8 0 (by decide) (by decide) (by decide) (by decide)
      have e21 : S0 21 0 = S 21 0 := hmi.1 21 0 (by decide) (by decide) (by decide) (by decide)
      have e29 : S0 29 0 = S 29 0 := hmi.1 29 0 (by decide) (by decide) (by decide) (by decide)
      have hi0 : (i : Int) < S0 8 0 := by omega
      have hin0 := hin.same e8 e21
      refine lv_iload hx hb dX4_makeTopFrom_5 (lv_at hl 4 rfl) ?_
      refine lv_aload_n hx hb dX4_makeTopFrom_7 rfl (lv_at hl 2 rfl) ?_
      refine gX4_94 F hw (wW_1 hi0) (v := .int (iI (S0 6 i))) rfl dX4_makeTopFrom_8 ?_
      refine wa_ic_ge (tgt := 51) F dX4_makeTopFrom_11 (by decide) (by exact ⟨by omega, by omega⟩) (by have q0 := hSB 6 i; exact ⟨by omega, by omega⟩) (fun c11 => absurd c11 (by omega)) (fun c11 => ?_)
      refine lv_aload_n hx hb dX4_makeTopFrom_14 rfl (lv_at hl 2 rfl) ?_
      refine gX4_247 F hw (wW_1 hi0) (v := .ref (ad 2 i)) rfl dX4_makeTopFrom_15 ?_
      refine lv_iload hx hb dX4_makeTopFrom_18 (lv_at hl 4 rfl) ?_
      refine wa_cp (kX4_181 F (c_X4_at l D cy ad S0 X0 T o hwf0 hxr0 hin0 2 i 5 (fun j => S0 5 (5 * i + j)) (wW_2 hi0) (by decide) ((sx : Int)) (by exact ⟨by omega, by omega⟩)) ⟨by decide, by decide⟩ ⟨rfl, rfl⟩ hw rfl rfl (Nat.le_of_ble_eq_true rfl) hl.1 dX4_makeTopFrom_20 ⟨Nat.le_refl _, Nat.le_refl _⟩) ?_
      rw [f_at_in sx rfl (by omega)]
      refine W.eq (g2 := F0 m 23 ls [.int (iI (S0 5 (5 * i + sx)))]) rfl ?_
      refine lv_istore (lv' := [(5, .int (iI (S0 5 (5 * i + sx)))), (0, .ref (ad 0 0)), (1, .int (iI z)), (2, .ref (ad 1 i)), (3, .int (iI zz)), (4, .int (iI (sx : Int)))]) hx hb dX4_makeTopFrom_23 hl (by decide) rfl (fun ls hl => ?_)
      refine lv_aload_n hx hb dX4_makeTopFrom_25 rfl (lv_at hl 1 rfl) ?_
      refine gX4_12 F hw rfl (v := .ref (ad 0 1)) rfl dX4_makeTopFrom_26 ?_
      refine lv_iload_n hx hb dX4_makeTopFrom_29 rfl (lv_at hl 4 rfl) ?_
      refine lv_iload hx hb dX4_makeTopFrom_30 (lv_at hl 0 rfl) ?_
      refine lv_aload_n hx hb dX4_makeTopFrom_32 rfl (lv_at hl 1 rfl) ?_
      refine gX4_16 F hw rfl (v := .ref (ad 0 5)) rfl dX4_makeTopFrom_33 ?_
      refine lv_iload hx hb dX4_makeTopFrom_36 (lv_at hl 0 rfl) ?_
      have w5s := w5 (5 * i + sx)
      refine wa_cp (kX4_181 F (c_X4_at l D cy ad S0 X0 T o hwf0 hxr0 hin0 0 5 10 (S0 2) rfl (by decide) ((S0 5 (5 * i + sx))) (by have q0 := hSB 5 (5 * i + sx); exact ⟨by omega, by omega⟩)) ⟨by decide, by decide⟩ ⟨rfl, rfl⟩ hw rfl rfl (Nat.le_of_ble_eq_true rfl) hl.1 dX4_makeTopFrom_38 ⟨Nat.le_refl _, Nat.le_refl _⟩) ?_
      rw [f_at_in (((S0 5 (5 * i + sx))).toNat) (by have q0 := hSB 5 (5 * i + sx); omega) (by have q0 := hSB 5 (5 * i + sx); have q1 := w5s; omega)]
      refine W.eq (g2 := F0 m 41 ls [.int (iI (S0 2 (((S0 5 (5 * i + sx))).toNat))), .int (iI (S0 5 (5 * i + sx))), .int (iI zz), .ref (ad 0 1)]) rfl ?_
      refine wx_ci (kX4_254 F (c_X2_findOrMake l D cy ad S0 X0 T o A (wj_of hj e8 e21 e29) hwf0 hxr0 hin0 (zz) ((S0 5 (5 * i + sx))) ((S0 2 (((S0 5 (5 * i + sx))).toNat))) hmi.2.2.2 (hSB 5 (5 * i + sx)) (hSB 2 (S0 5 (5 * i + sx)).toNat) (by have := hmi.2.2.1; omega)) ⟨by decide, by decide⟩ ⟨rfl, rfl⟩ hw hw rfl rfl rfl (Nat.le_of_ble_eq_true rfl) hl.1 dX4_makeTopFrom_41 ⟨Nat.le_of_ble_eq_true rfl, Nat.le_of_ble_eq_true rfl⟩) hS (fun X1_1 H locs hP hw hS => ?_)
      have hmi2 := hmi.fm (inp := S0 5 (5 * i + sx)) (ver := S0 2 (S0 5 (5 * i + sx)).toNat) (hSB 5 (5 * i + sx)) (hSB 2 (S0 5 (5 * i + sx)).toNat)
      have hP2 : xr (x_fm S0 zz (S0 5 (5 * i + sx)) (S0 2 (S0 5 (5 * i + sx)).toNat)).1 X1_1 := hP.1
      have hz2 := hmi2.2.2.2
      refine lv_istore_n (lv' := [(3, .int (iI ((x_fm S0 (zz) ((S0 5 (5 * i + sx))) ((S0 2 (((S0 5 (5 * i + sx))).toNat)))).2))), (5, .int (iI (S0 5 (5 * i + sx)))), (0, .ref (ad 0 0)), (1, .int (iI z)), (2, .ref (ad 1 i)), (4, .int (iI (sx : Int)))]) hx hb dX4_makeTopFrom_44 rfl hl (by decide) rfl (fun ls hl => ?_)
      refine wa_inc (k := 5) (b := ((sx + 1) : Int)) (lv' := [(4, .int (iI ((sx + 1) : Int))), (3, .int (iI ((x_fm S0 (zz) ((S0 5 (5 * i + sx))) ((S0 2 (((S0 5 (5 * i + sx))).toNat)))).2))), (5, .int (iI (S0 5 (5 * i + sx)))), (0, .ref (ad 0 0)), (1, .int (iI z)), (2, .ref (ad 1 i))]) F dX4_makeTopFrom_45 hl rfl (by omega) (by decide) rfl (fun ls hl => ?_)
      refine wa_goto (tgt := 5) F dX4_makeTopFrom_48 (by decide) ?_
      exact ih5 (sx + 1) ((x_fm S0 (zz) ((S0 5 (5 * i + sx))) ((S0 2 (((S0 5 (5 * i + sx))).toNat)))).2) ((x_fm S0 (zz) ((S0 5 (5 * i + sx))) ((S0 2 (((S0 5 (5 * i + sx))).toNat)))).1) X1_1 _ _ (by omega) hmi2 hP2 (by rw [← hr, f_mk_fm]; rfl) (fun j => (hP.2 j).trans (h11 j)) hw hS ls (lv_sub hl [3, 4, 5, 1, 0] rfl)
  exact loop5 ((S 6 i).toNat) 0 z S X _ _ (by omega) ⟨fun _ _ _ _ _ _ => rfl, hwf, (by omega), rz⟩ hxr rfl (fun _ => rfl) hw hS ls (lv_sub hl [2, 3, 4, 1, 0] rfl)
