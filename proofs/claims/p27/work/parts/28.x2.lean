/-! contracts of the class, second part: what only reads (laid by program) -/
set_option maxRecDepth 100000 in
set_option maxHeartbeats 4000000 in
/-- topOfParent -/
theorem c_X4_topOfParent (l : Launch) (D : va_G) (cy : Nat → ClassId) (ad : Nat → Nat → Nat) (S X T : wa_St) (o : Int64) (hwf : wf S) (hxr : xr S X) (hin : wx_inj ad S) (i : Nat) (hi : (i : Int) < S 8 0) : Met l yX4_topOfParent wX4_topOfParent ({ frames := 0, cells := 0, slots := 0, locals := 0 } : Room) (wa_pc [.ref (ad 1 i)] D cy (fun H => wa_wd D ad (wW cy ad S X T o) H)) (wa_Qp (x_begin S i)) 0 0 (fun _ => False) := by
  refine wa_en (by decide +kernel) (Nat.le_of_ble_eq_true rfl) ?_
  intro p e s m args below meth c F hw ls hl
  have F : wa_fx p s m c meth args cX4_topOfParent 1 RX4 "topOfParent" (Option.some FieldType.int) D cy := F
  have hw : wa_wd D ad (wW cy ad S X T o) s.heap := hw
  have hl : lv_has ls 1 [(0, .ref (ad 1 i))] := hl
  obtain ⟨hx, hb, hml, hown, hts⟩ := id F.1
  obtain ⟨hSB, w8, w21, w12, w29, w4, w7, w6, w5, w13, w25, w26, w28, w14, w3, wf17⟩ := id hwf
  obtain ⟨hx1, hXB, hx11, hx12, hx13, hx14, hx15, hx16⟩ := id hxr
  refine lv_aload_n hx hb dX4_topOfParent_0 rfl (lv_at hl 0 rfl) ?_
  refine gX4_99 F hw (wW_1 hi) (v := va_rf (wa_op ad 1 (S 4 i))) rfl dX4_topOfParent_1 ?_
  refine wa_nu_op (tgt := 17) F dX4_topOfParent_4 (by decide) (fun c4 => ?_) (fun c4 => ?_)
  · skip
    refine wa_const F dX4_topOfParent_17 ?_
    refine wa_goto (tgt := 31) F dX4_topOfParent_18 (by decide) ?_
    exact wa_ep F (by unfold x_begin; rw [if_pos (by omega)]) dX4_topOfParent_31
  · skip
    refine lv_aload_n hx hb dX4_topOfParent_7 rfl (lv_at hl 0 rfl) ?_
    refine gX4_99 F hw (wW_1 hi) (v := va_rf (wa_op ad 1 (S 4 i))) rfl dX4_topOfParent_8 ?_
    rw [wa_op_ref c4]
    refine gX4_103 F hw (wW_1 (show (((S 4 i).toNat : Nat) : Int) < S 8 0 by have q3 := (show -1 ≤ (S 4 i) ∧ (S 4 i) < S 8 0 by have q := w4 i hi; have q2 := hi; omega); have q4 := c4; omega)) (v := va_rf (wa_op ad 3 (S 7 ((S 4 i).toNat)))) rfl dX4_topOfParent_11 ?_
    refine wa_nn_op (tgt := 21) F dX4_topOfParent_14 (by decide) (fun c14 => ?_) (fun c14 => ?_)
    · skip
      refine lv_aload_n hx hb dX4_topOfParent_21 rfl (lv_at hl 0 rfl) ?_
      refine gX4_99 F hw (wW_1 hi) (v := va_rf (wa_op ad 1 (S 4 i))) rfl dX4_topOfParent_22 ?_
      rw [wa_op_ref c4]
      refine gX4_103 F hw (wW_1 (show (((S 4 i).toNat : Nat) : Int) < S 8 0 by have q3 := (show -1 ≤ (S 4 i) ∧ (S 4 i) < S 8 0 by have q := w4 i hi; have q2 := hi; omega); have q4 := c4; omega)) (v := va_rf (wa_op ad 3 (S 7 ((S 4 i).toNat)))) rfl dX4_topOfParent_25 ?_
      rw [wa_op_ref c14]
      refine gX4_145 F hw (wW_3 (show (((S 7 ((S 4 i).toNat)).toNat : Nat) : Int) < S 21 0 by have q3 := (show -1 ≤ (S 7 ((S 4 i).toNat)) ∧ (S 7 ((S 4 i).toNat)) < S 21 0 by have q := w7 ((S 4 i).toNat) (show (((S 4 i).toNat : Nat) : Int) < S 8 0 by have q3 := (show -1 ≤ (S 4 i) ∧ (S 4 i) < S 8 0 by have q := w4 i hi; have q2 := hi; omega); have q4 := c4; omega); omega); have q4 := c14; omega)) (v := .int (iI (S 14 ((S 7 ((S 4 i).toNat)).toNat)))) rfl dX4_topOfParent_28 ?_
      exact wa_ep F (by unfold x_begin; rw [if_neg (by omega)]) dX4_topOfParent_31
    · skip
      refine wa_const F dX4_topOfParent_17 ?_
      refine wa_goto (tgt := 31) F dX4_topOfParent_18 (by decide) ?_
      exact wa_ep F (by unfold x_begin; rw [if_pos (by omega)]) dX4_topOfParent_31
set_option maxRecDepth 100000 in
set_option maxHeartbeats 4000000 in
/-- topFrom -/
theorem c_X4_topFrom (l : Launch) (D : va_G) (cy : Nat → ClassId) (ad : Nat → Nat → Nat) (S X T : wa_St) (o : Int64) (hwf : wf S) (hxr : xr S X) (hin : wx_inj ad S) (z : Int) (rz : -2 ≤ z ∧ z ≤ 100000) (i : Nat) (hi : (i : Int) < S 8 0) : Met l yX4_topFrom wX4_topFrom ({ frames := 3, cells := 0, slots := 0, locals := 68 } : Room) (wa_pc [.ref (ad 0 0), .int (iI z), .ref (ad 1 i)] D cy (fun H => wa_wd D ad (wW cy ad S X T o) H)) (wa_Qp (f_top S (S 6 i).toNat (5 * i) z)) 0 0 (fun _ => False) := by
  refine wa_en (by decide +kernel) (Nat.le_of_ble_eq_true rfl) ?_
  intro p e s m args below meth c F hw ls hl
  have F : wa_fx p s m c meth args cX4_topFrom 6 RX4 "topFrom" (Option.some FieldType.int) D cy := F
  have hw : wa_wd D ad (wW cy ad S X T o) s.heap := hw
  have hl : lv_has ls 6 [(0, .ref (ad 0 0)), (1, .int (iI z)), (2, .ref (ad 1 i))] := hl
  obtain ⟨hx, hb, hml, hown, hts⟩ := id F.1
  obtain ⟨hSB, w8, w21, w12, w29, w4, w7, w6, w5, w13, w25, w26, w28, w14, w3, wf17⟩ := id hwf
  obtain ⟨hx1, hXB, hx11, hx12, hx13, hx14, hx15, hx16⟩ := id hxr
  have w6i := w6 i
  refine lv_iload_n hx hb dX4_topFrom_0 rfl (lv_at hl 1 rfl) ?_
  refine lv_istore_n (lv' := [(3, .int (iI z)), (0, .ref (ad 0 0)), (1, .int (iI z)), (2, .ref (ad 1 i))]) hx hb dX4_topFrom_1 rfl hl (by decide) rfl (fun ls hl => ?_)
  refine wa_const F dX4_topFrom_2 ?_
  refine lv_istore (lv' := [(4, .int (iI 0)), (3, .int (iI z)), (0, .ref (ad 0 0)), (1, .int (iI z)), (2, .ref (ad 1 i))]) hx hb dX4_topFrom_3 hl (by decide) rfl (fun ls hl => ?_)
  have loop5 : ∀ (k : Nat) (sx : Nat) (zz : Int), (sx + k = (S 6 i).toNat) → (-2 ≤ zz ∧ zz ≤ 100000) → (f_top S k (5 * i + sx) zz = f_top S (S 6 i).toNat (5 * i) z) → ∀ ls : Array Slot, lv_has ls 6 [(0, .ref (ad 0 0)), (1, .int (iI z)), (2, .ref (ad 1 i)), (3, .int (iI zz)), (4, .int (iI (sx : Int)))] → W p l e ({ frames := 3, cells := 0, slots := 0, locals := 68 } : Room) s m args below meth c s.heap [] 0 0 (MQ below (wa_Qp (f_top S (S 6 i).toNat (5 * i) z)) args s 0 0 (fun _ => False)) (F0 m 5 ls []) := by
    intro k
    induction k with
    | zero =>
      intro sx zz hk rz2 hr ls hl
      refine lv_iload hx hb dX4_topFrom_5 (lv_at hl 4 rfl) ?_
      refine lv_aload_n hx hb dX4_topFrom_7 rfl (lv_at hl 2 rfl) ?_
      refine gX4_94 F hw (wW_1 hi) (v := .int (iI (S 6 i))) rfl dX4_topFrom_8 ?_
      refine wa_ic_ge (tgt := 51) F dX4_topFrom_11 (by decide) (by exact ⟨by omega, by omega⟩) (by have q0 := hSB 6 i; exact ⟨by omega, by omega⟩) (fun c11 => ?_) (fun c11 => absurd c11 (by omega))
      refine lv_iload_n hx hb dX4_topFrom_51 rfl (lv_at hl 3 rfl) ?_
      exact wa_ep F (by rw [← hr]; rfl) dX4_topFrom_52
    | succ k ih5 =>
      intro sx zz hk rz2 hr ls hl
      refine lv_iload hx hb dX4_topFrom_5 (lv_at hl 4 rfl) ?_
      refine lv_aload_n hx hb dX4_topFrom_7 rfl (lv_at hl 2 rfl) ?_
      refine gX4_94 F hw (wW_1 hi) (v := .int (iI (S 6 i))) rfl dX4_topFrom_8 ?_
      refine wa_ic_ge (tgt := 51) F dX4_topFrom_11 (by decide) (by exact ⟨by omega, by omega⟩) (by have q0 := hSB 6 i; exact ⟨by omega, by omega⟩) (fun c11 => absurd c11 (by omega)) (fun c11 => ?_)
      refine lv_aload_n hx hb dX4_topFrom_14 rfl (lv_at hl 2 rfl) ?_
      refine gX4_247 F hw (wW_1 hi) (v := .ref (ad 2 i)) rfl dX4_topFrom_15 ?_
      refine lv_iload hx hb dX4_topFrom_18 (lv_at hl 4 rfl) ?_
      refine wa_cp (kX4_181 F (c_X4_at l D cy ad S X T o hwf hxr hin 2 i 5 (fun j => S 5 (5 * i + j)) (wW_2 hi) (by decide) ((sx : Int)) (by exact ⟨by omega, by omega⟩)) ⟨by decide, by decide⟩ ⟨rfl, rfl⟩ hw rfl rfl (Nat.le_of_ble_eq_true rfl) hl.1 dX4_topFrom_20 ⟨Nat.le_refl _, Nat.le_refl _⟩) ?_
      rw [f_at_in sx rfl (by omega)]
      refine W.eq (g2 := F0 m 23 ls [.int (iI (S 5 (5 * i + sx)))]) rfl ?_
      refine lv_istore (lv' := [(5, .int (iI (S 5 (5 * i + sx)))), (0, .ref (ad 0 0)), (1, .int (iI z)), (2, .ref (ad 1 i)), (3, .int (iI zz)), (4, .int (iI (sx : Int)))]) hx hb dX4_topFrom_23 hl (by decide) rfl (fun ls hl => ?_)
      refine lv_aload_n hx hb dX4_topFrom_25 rfl (lv_at hl 1 rfl) ?_
      refine gX4_12 F hw rfl (v := .ref (ad 0 1)) rfl dX4_topFrom_26 ?_
      refine lv_iload_n hx hb dX4_topFrom_29 rfl (lv_at hl 4 rfl) ?_
      refine lv_iload hx hb dX4_topFrom_30 (lv_at hl 0 rfl) ?_
      refine lv_aload_n hx hb dX4_topFrom_32 rfl (lv_at hl 1 rfl) ?_
      refine gX4_16 F hw rfl (v := .ref (ad 0 5)) rfl dX4_topFrom_33 ?_
      refine lv_iload hx hb dX4_topFrom_36 (lv_at hl 0 rfl) ?_
      have w5s := w5 (5 * i + sx)
      refine wa_cp (kX4_181 F (c_X4_at l D cy ad S X T o hwf hxr hin 0 5 10 (S 2) rfl (by decide) ((S 5 (5 * i + sx))) (by have q0 := hSB 5 (5 * i + sx); exact ⟨by omega, by omega⟩)) ⟨by decide, by decide⟩ ⟨rfl, rfl⟩ hw rfl rfl (Nat.le_of_ble_eq_true rfl) hl.1 dX4_topFrom_38 ⟨Nat.le_refl _, Nat.le_refl _⟩) ?_
      rw [f_at_in (((S 5 (5 * i + sx))).toNat) (by have q0 := hSB 5 (5 * i + sx); omega) (by have q0 := hSB 5 (5 * i + sx); have q1 := w5s; omega)]
      refine W.eq (g2 := F0 m 41 ls [.int (iI (S 2 (((S 5 (5 * i + sx))).toNat))), .int (iI (S 5 (5 * i + sx))), .int (iI zz), .ref (ad 0 1)]) rfl ?_
      refine wa_cp (kX4_250 F (c_X2_find l D cy ad S X T o hwf hxr hin (zz) ((S 5 (5 * i + sx))) ((S 2 (((S 5 (5 * i + sx))).toNat))) (by have q0 := rz2; exact ⟨by omega, by omega⟩) (by have q0 := hSB 5 (5 * i + sx); exact ⟨by omega, by omega⟩) (by have q0 := hSB 2 (((S 5 (5 * i + sx))).toNat); exact ⟨by omega, by omega⟩)) ⟨by decide, by decide⟩ ⟨rfl, rfl⟩ hw hw rfl rfl rfl (Nat.le_of_ble_eq_true rfl) hl.1 dX4_topFrom_41 ⟨Nat.le_refl _, Nat.le_refl _⟩) ?_
      refine lv_istore_n (lv' := [(3, .int (iI (f_find S (zz) ((S 5 (5 * i + sx))) ((S 2 (((S 5 (5 * i + sx))).toNat)))))), (5, .int (iI (S 5 (5 * i + sx)))), (0, .ref (ad 0 0)), (1, .int (iI z)), (2, .ref (ad 1 i)), (4, .int (iI (sx : Int)))]) hx hb dX4_topFrom_44 rfl hl (by decide) rfl (fun ls hl => ?_)
      refine wa_inc (k := 5) (b := ((sx + 1) : Int)) (lv' := [(4, .int (iI ((sx + 1) : Int))), (3, .int (iI (f_find S (zz) ((S 5 (5 * i + sx))) ((S 2 (((S 5 (5 * i + sx))).toNat)))))), (5, .int (iI (S 5 (5 * i + sx)))), (0, .ref (ad 0 0)), (1, .int (iI z)), (2, .ref (ad 1 i))]) F dX4_topFrom_45 hl rfl (by omega) (by decide) rfl (fun ls hl => ?_)
      refine wa_goto (tgt := 5) F dX4_topFrom_48 (by decide) ?_
      exact ih5 (sx + 1) (f_find S (zz) ((S 5 (5 * i + sx))) ((S 2 (((S 5 (5 * i + sx))).toNat)))) (by omega) (by have := f_find_rng hwf zz (S 5 (5 * i + sx)) (S 2 (S 5 (5 * i + sx)).toNat); omega) (by rw [← hr, show 5 * i + (sx + 1) = 5 * i + sx + 1 by omega]; simp only [f_top]; by_cases q : zz = -2; (subst q; rw [if_pos rfl, f_find_m2 hx13, f_top_m2]); (rw [if_neg q])) ls (lv_sub hl [3, 4, 5, 1, 0] rfl)
  exact loop5 ((S 6 i).toNat) 0 z (by omega) rz rfl ls (lv_sub hl [2, 3, 4, 1, 0] rfl)
set_option maxRecDepth 100000 in
set_option maxHeartbeats 4000000 in
/-- wouldMakeBake -/
theorem c_X4_wouldMakeBake (l : Launch) (D : va_G) (cy : Nat → ClassId) (ad : Nat → Nat → Nat) (S X T : wa_St) (o : Int64) (hwf : wf S) (hxr : xr S X) (hin : wx_inj ad S) (i : Nat) (hi : (i : Int) < S 8 0) : Met l yX4_wouldMakeBake wX4_wouldMakeBake ({ frames := 4, cells := 0, slots := 0, locals := 93 } : Room) (wa_pc [.ref (ad 0 0), .ref (ad 1 i)] D cy (fun H => wa_wd D ad (wW cy ad S X T o) H)) (wa_Qp (bI (x_needs S i))) 0 0 (fun _ => False) := by
  refine wa_en (by decide +kernel) (Nat.le_of_ble_eq_true rfl) ?_
  intro p e s m args below meth c F hw ls hl
  have F : wa_fx p s m c meth args cX4_wouldMakeBake 2 RX4 "wouldMakeBake" (Option.some FieldType.boolean) D cy := F
  have hw : wa_wd D ad (wW cy ad S X T o) s.heap := hw
  have hl : lv_has ls 2 [(0, .ref (ad 0 0)), (1, .ref (ad 1 i))] := hl
  obtain ⟨hx, hb, hml, hown, hts⟩ := id F.1
  obtain ⟨hSB, w8, w21, w12, w29, w4, w7, w6, w5, w13, w25, w26, w28, w14, w3, wf17⟩ := id hwf
  obtain ⟨hx1, hXB, hx11, hx12, hx13, hx14, hx15, hx16⟩ := id hxr
  refine lv_aload_n hx hb dX4_wouldMakeBake_0 rfl (lv_at hl 1 rfl) ?_
  refine gX4_103 F hw (wW_1 hi) (v := va_rf (wa_op ad 3 (S 7 i))) rfl dX4_wouldMakeBake_1 ?_
  refine wa_nu_op (tgt := 26) F dX4_wouldMakeBake_4 (by decide) (fun c4 => ?_) (fun c4 => ?_)
  · skip
    refine wa_const F dX4_wouldMakeBake_26 ?_
    refine wa_goto (tgt := 31) F dX4_wouldMakeBake_27 (by decide) ?_
    exact wa_epz F (bI_t (by first | exact Or.inl c4 | exact Or.inr c23)).symm (by decide) dX4_wouldMakeBake_31
  · skip
    refine lv_aload_n hx hb dX4_wouldMakeBake_7 rfl (lv_at hl 1 rfl) ?_
    refine gX4_103 F hw (wW_1 hi) (v := va_rf (wa_op ad 3 (S 7 i))) rfl dX4_wouldMakeBake_8 ?_
    rw [wa_op_ref c4]
    refine gX4_145 F hw (wW_3 (show (((S 7 i).toNat : Nat) : Int) < S 21 0 by have q3 := (show -1 ≤ (S 7 i) ∧ (S 7 i) < S 21 0 by have q := w7 i hi; omega); have q4 := c4; omega)) (v := .int (iI (S 14 ((S 7 i).toNat)))) rfl dX4_wouldMakeBake_11 ?_
    refine lv_aload_n hx hb dX4_wouldMakeBake_14 rfl (lv_at hl 0 rfl) ?_
    refine lv_aload_n hx hb dX4_wouldMakeBake_15 rfl (lv_at hl 1 rfl) ?_
    refine wa_cp (kX4_257 F (c_X4_topOfParent l D cy ad S X T o hwf hxr hin i hi) ⟨by decide, by decide⟩ ⟨rfl, rfl⟩ hw rfl rfl (Nat.le_of_ble_eq_true rfl) hl.1 dX4_wouldMakeBake_16 ⟨Nat.le_refl _, Nat.le_refl _⟩) ?_
    refine lv_aload_n hx hb dX4_wouldMakeBake_19 rfl (lv_at hl 1 rfl) ?_
    refine wa_cp (kX4_261 F (c_X4_topFrom l D cy ad S X T o hwf hxr hin ((x_begin S i)) (x_begin_rng hwf i) i hi) ⟨by decide, by decide⟩ ⟨rfl, rfl⟩ hw hw rfl rfl rfl (Nat.le_of_ble_eq_true rfl) hl.1 dX4_wouldMakeBake_20 ⟨Nat.le_refl _, Nat.le_refl _⟩) ?_
    refine wa_ic_eq (tgt := 30) F dX4_wouldMakeBake_23 (by decide) (by have q0 := hSB 14 ((S 7 i).toNat); exact ⟨by omega, by omega⟩) (by have q0 := f_top_rng hwf (S 6 i).toNat (5 * i) ((x_begin S i)) (x_begin_rng hwf i); exact ⟨by omega, by omega⟩) (fun c23 => ?_) (fun c23 => ?_)
    · skip
      refine wa_const F dX4_wouldMakeBake_30 ?_
      exact wa_epz F (bI_f (by intro h; omega)).symm (by decide) dX4_wouldMakeBake_31
    · skip
      refine wa_const F dX4_wouldMakeBake_26 ?_
      refine wa_goto (tgt := 31) F dX4_wouldMakeBake_27 (by decide) ?_
      exact wa_epz F (bI_t (by first | exact Or.inl c4 | exact Or.inr c23)).symm (by decide) dX4_wouldMakeBake_31
set_option maxRecDepth 100000 in
set_option maxHeartbeats 4000000 in
/-- numberOf -/
theorem c_X4_numberOf (l : Launch) (D : va_G) (cy : Nat → ClassId) (ad : Nat → Nat → Nat) (S X T : wa_St) (o : Int64) (hwf : wf S) (hxr : xr S X) (hin : wx_inj ad S) (z : Int) (hz : -1 ≤ z ∧ z < S 21 0) : Met l yX4_numberOf wX4_numberOf ({ frames := 0, cells := 0, slots := 0, locals := 0 } : Room) (wa_pc [va_rf (wa_op ad 3 z)] D cy (fun H => wa_wd D ad (wW cy ad S X T o) H)) (wa_Qp (z)) 0 0 (fun _ => False) := by
  refine wa_en (by decide +kernel) (by simp [lg_sl, wa_catq, show ∀ z, (Value.ref z).category = 1 from fun _ => rfl, show ∀ z, (Value.int z).category = 1 from fun _ => rfl]) ?_
  intro p e s m args below meth c F hw ls hl
  simp only [lv_args, wa_catq] at hl
  have F : wa_fx p s m c meth args cX4_numberOf 1 RX4 "numberOf" (Option.some FieldType.int) D cy := F
  have hw : wa_wd D ad (wW cy ad S X T o) s.heap := hw
  have hl : lv_has ls 1 [(0, va_rf (wa_op ad 3 z))] := hl
  obtain ⟨hx, hb, hml, hown, hts⟩ := id F.1
  obtain ⟨hSB, w8, w21, w12, w29, w4, w7, w6, w5, w13, w25, w26, w28, w14, w3, wf17⟩ := id hwf
  obtain ⟨hx1, hXB, hx11, hx12, hx13, hx14, hx15, hx16⟩ := id hxr
  refine wa_ldq_n F dX4_numberOf_0 rfl (lv_at hl 0 rfl) ?_
  refine wa_nn_op (tgt := 8) F dX4_numberOf_1 (by decide) (fun c1 => ?_) (fun c1 => ?_)
  · skip
    rw [wa_op_ref (ad := ad) (kd := 3) c1] at hl
    have hl : lv_has ls 1 [(0, .ref (ad 3 (z.toNat)))] := hl
    refine lv_aload_n hx hb dX4_numberOf_8 rfl (lv_at hl 0 rfl) ?_
    refine gX4_233 F hw (wW_3 (show ((z.toNat : Nat) : Int) < S 21 0 by have q3 := hz; have q4 := c1; omega)) (v := .int (iI (z.toNat : Int))) rfl dX4_numberOf_9 ?_
    exact wa_ep F (by omega) dX4_numberOf_12
  · skip
    refine wa_const F dX4_numberOf_4 ?_
    refine wa_goto (tgt := 12) F dX4_numberOf_5 (by decide) ?_
    exact wa_ep F (by omega) dX4_numberOf_12
set_option maxRecDepth 100000 in
set_option maxHeartbeats 4000000 in
/-- isTooOld -/
theorem c_X4_isTooOld (l : Launch) (D : va_G) (cy : Nat → ClassId) (ad : Nat → Nat → Nat) (S X T : wa_St) (o : Int64) (hwf : wf S) (hxr : xr S X) (hin : wx_inj ad S) (b9 : Nat) (hb9 : (b9 : Int) < S 21 0) : Met l yX4_isTooOld wX4_isTooOld ({ frames := 0, cells := 0, slots := 0, locals := 0 } : Room) (wa_pc [.ref (ad 0 0), .ref (ad 3 b9)] D cy (fun H => wa_wd D ad (wW cy ad S X T o) H)) (wa_Qp (bI (f_old S b9))) 0 0 (fun _ => False) := by
  refine wa_en (by decide +kernel) (Nat.le_of_ble_eq_true rfl) ?_
  intro p e s m args below meth c F hw ls hl
  have F : wa_fx p s m c meth args cX4_isTooOld 2 RX4 "isTooOld" (Option.some FieldType.boolean) D cy := F
  have hw : wa_wd D ad (wW cy ad S X T o) s.heap := hw
  have hl : lv_has ls 2 [(0, .ref (ad 0 0)), (1, .ref (ad 3 b9))] := hl
  obtain ⟨hx, hb, hml, hown, hts⟩ := id F.1
  obtain ⟨hSB, w8, w21, w12, w29, w4, w7, w6, w5, w13, w25, w26, w28, w14, w3, wf17⟩ := id hwf
  obtain ⟨hx1, hXB, hx11, hx12, hx13, hx14, hx15, hx16⟩ := id hxr
  refine lv_aload_n hx hb dX4_isTooOld_0 rfl (lv_at hl 0 rfl) ?_
  refine gX4_178 F hw rfl (v := .int (iI (S 1 0))) rfl dX4_isTooOld_1 ?_
  refine lv_aload_n hx hb dX4_isTooOld_4 rfl (lv_at hl 1 rfl) ?_
  refine gX4_295 F hw (wW_3 hb9) (v := .int (iI (S 15 b9))) rfl dX4_isTooOld_5 ?_
  refine wa_sub F dX4_isTooOld_8 ?_
  refine lv_aload_n hx hb dX4_isTooOld_9 rfl (lv_at hl 0 rfl) ?_
  refine gX4_56 F hw rfl (v := .int (iI (S 23 0))) rfl dX4_isTooOld_10 ?_
  refine wa_ic_le (tgt := 20) F dX4_isTooOld_13 (by decide) (by have q0 := hSB 1 0; have q1 := hSB 15 b9; exact ⟨by omega, by omega⟩) (by have q0 := hSB 23 0; exact ⟨by omega, by omega⟩) (fun c13 => ?_) (fun c13 => ?_)
  · skip
    refine wa_const F dX4_isTooOld_20 ?_
    exact wa_epz F (bI_f (by first | omega | simp [f_old, c13])).symm (by decide) dX4_isTooOld_21
  · skip
    refine wa_const F dX4_isTooOld_16 ?_
    refine wa_goto (tgt := 21) F dX4_isTooOld_17 (by decide) ?_
    exact wa_epz F (bI_t (by first | omega | simp [f_old, c13])).symm (by decide) dX4_isTooOld_21
set_option maxRecDepth 100000 in
set_option maxHeartbeats 4000000 in
/-- countMachinesFrom -/
theorem c_X4_countMachinesFrom (l : Launch) (D : va_G) (cy : Nat → ClassId) (ad : Nat → Nat → Nat) (S X T : wa_St) (o : Int64) (hwf : wf S) (hxr : xr S X) (hin : wx_inj ad S) (b9 : Nat) (hb9 : (b9 : Int) < S 21 0) : Met l yX4_countMachinesFrom wX4_countMachinesFrom ({ frames := 0, cells := 0, slots := 0, locals := 0 } : Room) (wa_pc [.ref (ad 0 0), .ref (ad 3 b9)] D cy (fun H => wa_wd D ad (wW cy ad S X T o) H)) (wa_Qp (f_run S (b9 : Int))) 0 0 (fun _ => False) := by
  refine wa_en (by decide +kernel) (Nat.le_of_ble_eq_true rfl) ?_
  intro p e s m args below meth c F hw ls hl
  have F : wa_fx p s m c meth args cX4_countMachinesFrom 7 RX4 "countMachinesFrom" (Option.some FieldType.int) D cy := F
  have hw : wa_wd D ad (wW cy ad S X T o) s.heap := hw
  have hl : lv_has ls 7 [(0, .ref (ad 0 0)), (1, .ref (ad 3 b9))] := hl
  obtain ⟨hx, hb, hml, hown, hts⟩ := id F.1
  obtain ⟨hSB, w8, w21, w12, w29, w4, w7, w6, w5, w13, w25, w26, w28, w14, w3, wf17⟩ := id hwf
  obtain ⟨hx1, hXB, hx11, hx12, hx13, hx14, hx15, hx16⟩ := id hxr
  refine wa_const F dX4_countMachinesFrom_0 ?_
  refine lv_istore_n (lv' := [(2, .int (iI 0)), (0, .ref (ad 0 0)), (1, .ref (ad 3 b9))]) hx hb dX4_countMachinesFrom_1 rfl hl (by decide) rfl (fun ls hl => ?_)
  refine lv_aload_n hx hb dX4_countMachinesFrom_2 rfl (lv_at hl 1 rfl) ?_
  refine gX4_37 F hw rfl (v := .ref (ad 0 9)) rfl dX4_countMachinesFrom_3 ?_
  refine lv_astore_n (lv' := [(3, .ref (ad 0 9)), (2, .int (iI 0)), (0, .ref (ad 0 0)), (1, .ref (ad 3 b9))]) hx hb dX4_countMachinesFrom_6 rfl hl (by decide) rfl (fun ls hl => ?_)
  refine lv_aload_n hx hb dX4_countMachinesFrom_7 rfl (lv_at hl 0 rfl) ?_
  refine wa_alen (t0 := 4) F hw rfl rfl 30 rfl (by decide) dX4_countMachinesFrom_8 ?_
  refine W.eq (g2 := F0 m 9 ls [.int (iI 30)]) rfl ?_
  refine lv_istore (lv' := [(4, .int (iI 30)), (3, .ref (ad 0 9)), (2, .int (iI 0)), (0, .ref (ad 0 0)), (1, .ref (ad 3 b9))]) hx hb dX4_countMachinesFrom_9 hl (by decide) rfl (fun ls hl => ?_)
  refine wa_const F dX4_countMachinesFrom_11 ?_
  refine lv_istore (lv' := [(5, .int (iI 0)), (4, .int (iI 30)), (3, .ref (ad 0 9)), (2, .int (iI 0)), (0, .ref (ad 0 0)), (1, .ref (ad 3 b9))]) hx hb dX4_countMachinesFrom_12 hl (by decide) rfl (fun ls hl => ?_)
  have loop14 : ∀ (k : Nat) (jx : Nat) (q : Int), (jx + k = 30) → (q = f_cnt (fun u => decide (S 28 u = (b9 : Int))) (min jx (S 29 0).toNat)) → ∀ ls : Array Slot, lv_has ls 7 [(0, .ref (ad 0 0)), (1, .ref (ad 3 b9)), (2, .int (iI q)), (3, .ref (ad 0 9)), (4, .int (iI 30)), (5, .int (iI (jx : Int)))] → W p l e ({ frames := 0, cells := 0, slots := 0, locals := 0 } : Room) s m args below meth c s.heap [] 0 0 (MQ below (wa_Qp (f_run S (b9 : Int))) args s 0 0 (fun _ => False)) (F0 m 14 ls []) := by
    intro k
    induction k with
    | zero =>
      intro jx q hk hq ls hl
      refine lv_iload hx hb dX4_countMachinesFrom_14 (lv_at hl 5 rfl) ?_
      refine lv_iload hx hb dX4_countMachinesFrom_16 (lv_at hl 4 rfl) ?_
      refine wa_ic_ge (tgt := 50) F dX4_countMachinesFrom_18 (by decide) (by exact ⟨by omega, by omega⟩) (by decide) (fun c18 => ?_) (fun c18 => absurd c18 (by omega))
      refine lv_iload_n hx hb dX4_countMachinesFrom_50 rfl (lv_at hl 2 rfl) ?_
      exact wa_ep F (by rw [hq, show min jx (S 29 0).toNat = (S 29 0).toNat by omega]; rfl) dX4_countMachinesFrom_51
    | succ k ih14 =>
      intro jx q hk hq ls hl
      refine lv_iload hx hb dX4_countMachinesFrom_14 (lv_at hl 5 rfl) ?_
      refine lv_iload hx hb dX4_countMachinesFrom_16 (lv_at hl 4 rfl) ?_
      refine wa_ic_ge (tgt := 50) F dX4_countMachinesFrom_18 (by decide) (by exact ⟨by omega, by omega⟩) (by decide) (fun c18 => absurd c18 (by omega)) (fun c18 => ?_)
      refine lv_aload_n hx hb dX4_countMachinesFrom_21 rfl (lv_at hl 3 rfl) ?_
      refine lv_iload hx hb dX4_countMachinesFrom_22 (lv_at hl 5 rfl) ?_
      refine wa_aald (g := (wx_in ad 5 (S 29 0))) (t0 := 4) F hw rfl rfl jx rfl (by omega) (by decide) dX4_countMachinesFrom_24 ?_
      refine wa_stq (lv' := [(6, va_rf (wx_in ad 5 (S 29 0) jx)), (0, .ref (ad 0 0)), (1, .ref (ad 3 b9)), (2, .int (iI q)), (3, .ref (ad 0 9)), (4, .int (iI 30)), (5, .int (iI (jx : Int)))]) F dX4_countMachinesFrom_25 hl (by decide) rfl (fun ls hl => ?_)
      refine wa_ldq F dX4_countMachinesFrom_27 (lv_at hl 0 rfl) ?_
      refine wa_nu_in (tgt := 44) F dX4_countMachinesFrom_29 (by decide) (fun c29 => ?_) (fun c29 => ?_)
      · skip
        refine wa_inc (k := 6) (b := ((jx + 1) : Int)) (lv' := [(5, .int (iI ((jx + 1) : Int))), (6, va_rf (wx_in ad 5 (S 29 0) jx)), (0, .ref (ad 0 0)), (1, .ref (ad 3 b9)), (2, .int (iI q)), (3, .ref (ad 0 9)), (4, .int (iI 30))]) F dX4_countMachinesFrom_44 hl rfl (by omega) (by decide) rfl (fun ls hl => ?_)
        refine wa_goto (tgt := 14) F dX4_countMachinesFrom_47 (by decide) ?_
        exact ih14 (jx + 1) q (by omega) (by rw [hq, show min (jx + 1) (S 29 0).toNat = min jx (S 29 0).toNat by omega]) ls (lv_sub hl [2, 3, 4, 5, 6, 0] rfl)
      · skip
        rw [wx_in_ref (ad := ad) (kd := 5) c29] at hl
        have hl : lv_has ls 7 [(6, .ref (ad 5 jx)), (0, .ref (ad 0 0)), (1, .ref (ad 3 b9)), (2, .int (iI q)), (3, .ref (ad 0 9)), (4, .int (iI 30)), (5, .int (iI (jx : Int)))] := hl
        refine lv_aload hx hb dX4_countMachinesFrom_32 (lv_at hl 0 rfl) ?_
        refine gX4_230 F hw (wW_5 c29) (v := va_rf (wa_op ad 3 (S 28 jx))) rfl dX4_countMachinesFrom_34 ?_
        refine lv_aload_n hx hb dX4_countMachinesFrom_37 rfl (lv_at hl 2 rfl) ?_
        refine wa_ac_ne (tgt := 44) (rx := (wa_op ad 3 (S 28 jx))) (ry := (some (ad 3 b9))) (P := S 28 jx = (b9 : Int)) F (wx_op_eq hin (w28 jx c29) hb9) dX4_countMachinesFrom_38 (by decide) (fun c38 => ?_) (fun c38 => ?_)
        · skip
          refine wa_inc (k := 6) (b := ((jx + 1) : Int)) (lv' := [(5, .int (iI ((jx + 1) : Int))), (6, .ref (ad 5 jx)), (0, .ref (ad 0 0)), (1, .ref (ad 3 b9)), (2, .int (iI q)), (3, .ref (ad 0 9)), (4, .int (iI 30))]) F dX4_countMachinesFrom_44 hl rfl (by omega) (by decide) rfl (fun ls hl => ?_)
          refine wa_goto (tgt := 14) F dX4_countMachinesFrom_47 (by decide) ?_
          exact ih14 (jx + 1) q (by omega) (by rw [hq, show min (jx + 1) (S 29 0).toNat = min jx (S 29 0).toNat + 1 by omega, f_cnt, show min jx (S 29 0).toNat = jx by omega, bI_f (by simp only [decide_eq_true_eq]; exact c38)]; omega) ls (lv_sub hl [2, 3, 4, 5, 6, 0] rfl)
        · skip
          refine wa_inc (k := 3) (b := (q + 1)) (lv' := [(2, .int (iI (q + 1))), (6, .ref (ad 5 jx)), (0, .ref (ad 0 0)), (1, .ref (ad 3 b9)), (3, .ref (ad 0 9)), (4, .int (iI 30)), (5, .int (iI (jx : Int)))]) F dX4_countMachinesFrom_41 hl rfl rfl (by decide) rfl (fun ls hl => ?_)
          refine wa_inc (k := 6) (b := ((jx + 1) : Int)) (lv' := [(5, .int (iI ((jx + 1) : Int))), (2, .int (iI (q + 1))), (6, .ref (ad 5 jx)), (0, .ref (ad 0 0)), (1, .ref (ad 3 b9)), (3, .ref (ad 0 9)), (4, .int (iI 30))]) F dX4_countMachinesFrom_44 hl rfl (by omega) (by decide) rfl (fun ls hl => ?_)
          refine wa_goto (tgt := 14) F dX4_countMachinesFrom_47 (by decide) ?_
          exact ih14 (jx + 1) (q + 1) (by omega) (by rw [hq, show min (jx + 1) (S 29 0).toNat = min jx (S 29 0).toNat + 1 by omega, f_cnt, show min jx (S 29 0).toNat = jx by omega, bI_t (by simp only [decide_eq_true_eq]; exact c38)]) ls (lv_sub hl [3, 4, 1, 5, 6, 0] rfl)
  exact loop14 (30) 0 0 (by omega) (by simp [f_cnt]) ls (lv_sub hl [4, 5, 3, 2, 1, 0] rfl)
set_option maxRecDepth 100000 in
set_option maxHeartbeats 4000000 in
/-- mustGo -/
theorem c_X4_mustGo (l : Launch) (D : va_G) (cy : Nat → ClassId) (ad : Nat → Nat → Nat) (S X T : wa_St) (o : Int64) (hwf : wf S) (hxr : xr S X) (hin : wx_inj ad S) (b9 : Nat) (hb9 : (b9 : Int) < S 21 0) : Met l yX4_mustGo wX4_mustGo ({ frames := 1, cells := 0, slots := 0, locals := 26 } : Room) (wa_pc [.ref (ad 0 0), .ref (ad 3 b9)] D cy (fun H => wa_wd D ad (wW cy ad S X T o) H)) (wa_Qp (bI (x_go S b9))) 0 0 (fun _ => False) := by
  refine wa_en (by decide +kernel) (Nat.le_of_ble_eq_true rfl) ?_
  intro p e s m args below meth c F hw ls hl
  have F : wa_fx p s m c meth args cX4_mustGo 2 RX4 "mustGo" (Option.some FieldType.boolean) D cy := F
  have hw : wa_wd D ad (wW cy ad S X T o) s.heap := hw
  have hl : lv_has ls 2 [(0, .ref (ad 0 0)), (1, .ref (ad 3 b9))] := hl
  obtain ⟨hx, hb, hml, hown, hts⟩ := id F.1
  obtain ⟨hSB, w8, w21, w12, w29, w4, w7, w6, w5, w13, w25, w26, w28, w14, w3, wf17⟩ := id hwf
  obtain ⟨hx1, hXB, hx11, hx12, hx13, hx14, hx15, hx16⟩ := id hxr
  refine lv_aload_n hx hb dX4_mustGo_0 rfl (lv_at hl 1 rfl) ?_
  refine gX4_148 F hw (wW_3 hb9) (v := .int (iI (S 18 b9))) rfl dX4_mustGo_1 ?_
  refine wa_if_ne (tgt := 35) F dX4_mustGo_4 (by decide) (by have q0 := hSB 18 b9; exact ⟨by omega, by omega⟩) (fun c4 => ?_) (fun c4 => ?_)
  · skip
    refine wa_const F dX4_mustGo_35 ?_
    exact wa_epz F (bI_f (by omega)).symm (by decide) dX4_mustGo_36
  · skip
    refine lv_aload_n hx hb dX4_mustGo_7 rfl (lv_at hl 0 rfl) ?_
    refine gX4_178 F hw rfl (v := .int (iI (S 1 0))) rfl dX4_mustGo_8 ?_
    refine lv_aload_n hx hb dX4_mustGo_11 rfl (lv_at hl 1 rfl) ?_
    refine gX4_295 F hw (wW_3 hb9) (v := .int (iI (S 15 b9))) rfl dX4_mustGo_12 ?_
    refine wa_sub F dX4_mustGo_15 ?_
    refine lv_aload_n hx hb dX4_mustGo_16 rfl (lv_at hl 0 rfl) ?_
    refine gX4_60 F hw rfl (v := .int (iI (S 24 0))) rfl dX4_mustGo_17 ?_
    refine wa_ic_le (tgt := 35) F dX4_mustGo_20 (by decide) (by have q0 := hSB 1 0; have q1 := hSB 15 b9; exact ⟨by omega, by omega⟩) (by have q0 := hSB 24 0; exact ⟨by omega, by omega⟩) (fun c20 => ?_) (fun c20 => ?_)
    · skip
      refine wa_const F dX4_mustGo_35 ?_
      exact wa_epz F (bI_f (by omega)).symm (by decide) dX4_mustGo_36
    · skip
      refine lv_aload_n hx hb dX4_mustGo_23 rfl (lv_at hl 0 rfl) ?_
      refine lv_aload_n hx hb dX4_mustGo_24 rfl (lv_at hl 1 rfl) ?_
      refine wa_cp (kX4_162 F (c_X4_countMachinesFrom l D cy ad S X T o hwf hxr hin b9 hb9) ⟨by decide, by decide⟩ ⟨rfl, rfl⟩ hw hw rfl rfl rfl (Nat.le_of_ble_eq_true rfl) hl.1 dX4_mustGo_25 ⟨Nat.le_refl _, Nat.le_refl _⟩) ?_
      refine wa_if_ne (tgt := 35) F dX4_mustGo_28 (by decide) (by have q0 := f_run_rng hwf (b9 : Int); exact ⟨by omega, by omega⟩) (fun c28 => ?_) (fun c28 => ?_)
      · skip
        refine wa_const F dX4_mustGo_35 ?_
        exact wa_epz F (bI_f (by omega)).symm (by decide) dX4_mustGo_36
      · skip
        refine wa_const F dX4_mustGo_31 ?_
        refine wa_goto (tgt := 36) F dX4_mustGo_32 (by decide) ?_
        exact wa_epz F (bI_t (by omega)).symm (by decide) dX4_mustGo_36
set_option maxRecDepth 100000 in
set_option maxHeartbeats 4000000 in
/-- canStart -/
theorem c_X4_canStart (l : Launch) (D : va_G) (cy : Nat → ClassId) (ad : Nat → Nat → Nat) (S X T : wa_St) (o : Int64) (hwf : wf S) (hxr : xr S X) (hin : wx_inj ad S) (b9 : Nat) (hb9 : (b9 : Int) < S 21 0) (pl rg : Int) (hpl : 0 ≤ pl ∧ pl ≤ 2) (rrg : wa_r rg) : Met l yX4_canStart wX4_canStart ({ frames := 2, cells := 0, slots := 0, locals := 42 } : Room) (wa_pc [.ref (ad 0 0), .ref (ad 3 b9), .int (iI pl), .int (iI rg)] D cy (fun H => wa_wd D ad (wW cy ad S X T o) H)) (wa_Qp (bI (x_can S b9 pl rg))) 0 0 (fun _ => False) := by
  refine wa_en (by decide +kernel) (Nat.le_of_ble_eq_true rfl) ?_
  intro p e s m args below meth c F hw ls hl
  have F : wa_fx p s m c meth args cX4_canStart 6 RX4 "canStart" (Option.some FieldType.boolean) D cy := F
  have hw : wa_wd D ad (wW cy ad S X T o) s.heap := hw
  have hl : lv_has ls 6 [(0, .ref (ad 0 0)), (1, .ref (ad 3 b9)), (2, .int (iI pl)), (3, .int (iI rg))] := hl
  obtain ⟨hx, hb, hml, hown, hts⟩ := id F.1
  obtain ⟨hSB, w8, w21, w12, w29, w4, w7, w6, w5, w13, w25, w26, w28, w14, w3, wf17⟩ := id hwf
  obtain ⟨hx1, hXB, hx11, hx12, hx13, hx14, hx15, hx16⟩ := id hxr
  refine lv_aload_n hx hb dX4_canStart_0 rfl (lv_at hl 1 rfl) ?_
  refine lv_iload_n hx hb dX4_canStart_1 rfl (lv_at hl 2 rfl) ?_
  refine wa_cp (kX4_172 F (c_X0_firstDayAt l D cy ad S X T o hwf hxr hin b9 hb9 (pl) hpl) ⟨by decide, by decide⟩ ⟨rfl, rfl⟩ hw hw (wW_3 hb9) rfl rfl (Nat.le_of_ble_eq_true rfl) hl.1 dX4_canStart_2 ⟨Nat.le_refl _, Nat.le_refl _⟩) ?_
  refine lv_istore (lv' := [(4, .int (iI (S 20 (3 * b9 + (pl).toNat)))), (0, .ref (ad 0 0)), (1, .ref (ad 3 b9)), (2, .int (iI pl)), (3, .int (iI rg))]) hx hb dX4_canStart_5 hl (by decide) rfl (fun ls hl => ?_)
  refine lv_iload hx hb dX4_canStart_7 (lv_at hl 0 rfl) ?_
  refine wa_const F dX4_canStart_9 ?_
  refine wa_ic_eq (tgt := 26) F dX4_canStart_10 (by decide) (by have q0 := hSB 20 (3 * b9 + (pl).toNat); exact ⟨by omega, by omega⟩) (by decide) (fun c10 => ?_) (fun c10 => ?_)
  · skip
    refine wa_const F dX4_canStart_26 ?_
    refine lv_istore (lv' := [(5, .int (iI 0)), (4, .int (iI (S 20 (3 * b9 + (pl).toNat)))), (0, .ref (ad 0 0)), (1, .ref (ad 3 b9)), (2, .int (iI pl)), (3, .int (iI rg))]) hx hb dX4_canStart_27 hl (by decide) rfl (fun ls hl => ?_)
    refine lv_iload hx hb dX4_canStart_29 (lv_at hl 0 rfl) ?_
    refine wa_if_eq (tgt := 68) F dX4_canStart_31 (by decide) (by decide) (fun c31 => ?_) (fun c31 => absurd c31 (by decide))
    refine wa_const F dX4_canStart_68 ?_
    exact wa_epz F (bI_f (by omega)).symm (by decide) dX4_canStart_69
  · skip
    refine lv_iload hx hb dX4_canStart_13 (lv_at hl 0 rfl) ?_
    refine lv_aload_n hx hb dX4_canStart_15 rfl (lv_at hl 1 rfl) ?_
    refine gX4_178 F hw rfl (v := .int (iI (S 1 0))) rfl dX4_canStart_16 ?_
    refine wa_ic_gt (tgt := 26) F dX4_canStart_19 (by decide) (by have q0 := hSB 20 (3 * b9 + (pl).toNat); exact ⟨by omega, by omega⟩) (by have q0 := hSB 1 0; exact ⟨by omega, by omega⟩) (fun c19 => ?_) (fun c19 => ?_)
    · skip
      refine wa_const F dX4_canStart_26 ?_
      refine lv_istore (lv' := [(5, .int (iI 0)), (4, .int (iI (S 20 (3 * b9 + (pl).toNat)))), (0, .ref (ad 0 0)), (1, .ref (ad 3 b9)), (2, .int (iI pl)), (3, .int (iI rg))]) hx hb dX4_canStart_27 hl (by decide) rfl (fun ls hl => ?_)
      refine lv_iload hx hb dX4_canStart_29 (lv_at hl 0 rfl) ?_
      refine wa_if_eq (tgt := 68) F dX4_canStart_31 (by decide) (by decide) (fun c31 => ?_) (fun c31 => absurd c31 (by decide))
      refine wa_const F dX4_canStart_68 ?_
      exact wa_epz F (bI_f (by omega)).symm (by decide) dX4_canStart_69
    · skip
      refine wa_const F dX4_canStart_22 ?_
      refine wa_goto (tgt := 27) F dX4_canStart_23 (by decide) ?_
      refine lv_istore (lv' := [(5, .int (iI 1)), (4, .int (iI (S 20 (3 * b9 + (pl).toNat)))), (0, .ref (ad 0 0)), (1, .ref (ad 3 b9)), (2, .int (iI pl)), (3, .int (iI rg))]) hx hb dX4_canStart_27 hl (by decide) rfl (fun ls hl => ?_)
      refine lv_iload hx hb dX4_canStart_29 (lv_at hl 0 rfl) ?_
      refine wa_if_eq (tgt := 68) F dX4_canStart_31 (by decide) (by decide) (fun c31 => absurd c31 (by decide)) (fun c31 => ?_)
      refine lv_aload_n hx hb dX4_canStart_34 rfl (lv_at hl 3 rfl) ?_
      refine gX4_157 F hw (wW_3 hb9) (v := .int (iI (S 17 b9))) rfl dX4_canStart_35 ?_
      refine wa_if_ne (tgt := 68) F dX4_canStart_38 (by decide) (by have q0 := hSB 17 b9; exact ⟨by omega, by omega⟩) (fun c38 => ?_) (fun c38 => ?_)
      · skip
        refine wa_const F dX4_canStart_68 ?_
        exact wa_epz F (bI_f (by omega)).symm (by decide) dX4_canStart_69
      · skip
        refine lv_aload_n hx hb dX4_canStart_41 rfl (lv_at hl 3 rfl) ?_
        refine gX4_148 F hw (wW_3 hb9) (v := .int (iI (S 18 b9))) rfl dX4_canStart_42 ?_
        refine wa_if_ne (tgt := 68) F dX4_canStart_45 (by decide) (by have q0 := hSB 18 b9; exact ⟨by omega, by omega⟩) (fun c45 => ?_) (fun c45 => ?_)
        · skip
          refine wa_const F dX4_canStart_68 ?_
          exact wa_epz F (bI_f (by omega)).symm (by decide) dX4_canStart_69
        · skip
          refine lv_aload_n hx hb dX4_canStart_48 rfl (lv_at hl 2 rfl) ?_
          refine lv_aload_n hx hb dX4_canStart_49 rfl (lv_at hl 3 rfl) ?_
          refine wa_cp (kX4_199 F (c_X4_isTooOld l D cy ad S X T o hwf hxr hin b9 hb9) ⟨by decide, by decide⟩ ⟨rfl, rfl⟩ hw hw rfl rfl rfl (Nat.le_of_ble_eq_true rfl) hl.1 dX4_canStart_50 ⟨Nat.le_refl _, Nat.le_refl _⟩) ?_
          by_cases b50 : f_old S b9
          · rw [bI_t b50]
            refine wa_if_ne (tgt := 68) F dX4_canStart_53 (by decide) (by decide) (fun c53 => ?_) (fun c53 => absurd c53 (by decide))
            refine wa_const F dX4_canStart_68 ?_
            exact wa_epz F (bI_f (fun h => h.2.2.2.1 b50)).symm (by decide) dX4_canStart_69
          · rw [bI_f b50]
            refine wa_if_ne (tgt := 68) F dX4_canStart_53 (by decide) (by decide) (fun c53 => absurd c53 (by decide)) (fun c53 => ?_)
            refine lv_aload_n hx hb dX4_canStart_56 rfl (lv_at hl 3 rfl) ?_
            refine gX4_165 F hw (wW_3 hb9) (v := .int (iI (S 16 b9))) rfl dX4_canStart_57 ?_
            refine lv_iload_n hx hb dX4_canStart_60 rfl (lv_at hl 5 rfl) ?_
            refine wa_ic_lt (tgt := 68) F dX4_canStart_61 (by decide) (by have q0 := hSB 16 b9; exact ⟨by omega, by omega⟩) (by have q0 := rrg; exact ⟨by omega, by omega⟩) (fun c61 => ?_) (fun c61 => ?_)
            · skip
              refine wa_const F dX4_canStart_68 ?_
              exact wa_epz F (bI_f (by omega)).symm (by decide) dX4_canStart_69
            · skip
              refine wa_const F dX4_canStart_64 ?_
              refine wa_goto (tgt := 69) F dX4_canStart_65 (by decide) ?_
              exact wa_epz F (bI_t ⟨⟨by omega, by omega⟩, by omega, by omega, b50, by omega⟩).symm (by decide) dX4_canStart_69
