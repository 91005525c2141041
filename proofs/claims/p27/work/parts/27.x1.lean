/-! contracts of the class, first part: what only reads (laid by program) -/
set_option maxRecDepth 100000 in
set_option maxHeartbeats 4000000 in
/-- at(row, z) -/
theorem c_X4_at (l : Launch) (D : va_G) (cy : Nat → ClassId) (ad : Nat → Nat → Nat) (S X T : wa_St) (o : Int64) (hwf : wf S) (hxr : xr S X) (hin : wx_inj ad S) (kd i n : Nat) (g : Nat → Int) (he : wW cy ad S X T o kd i = some (wa_aI (cy 0) n g)) (hn : n < 2147483648) (z : Int) (rz : wa_r z) : Met l yX4_at wX4_at ({ frames := 0, cells := 0, slots := 0, locals := 0 } : Room) (wa_pc [.ref (ad kd i), .int (iI z)] D cy (fun H => wa_wd D ad (wW cy ad S X T o) H)) (wa_Qp (f_at n g z)) 0 0 (fun _ => False) := by
  refine wa_en (by decide +kernel) (Nat.le_of_ble_eq_true rfl) ?_
  intro p e s m args below meth c F hw ls hl
  have F : wa_fx p s m c meth args cX4_at 2 RX4 "at" (Option.some FieldType.int) D cy := F
  have hw : wa_wd D ad (wW cy ad S X T o) s.heap := hw
  have hl : lv_has ls 2 [(0, .ref (ad kd i)), (1, .int (iI z))] := hl
  obtain ⟨hx, hb, hml, hown, hts⟩ := id F.1
  obtain ⟨hSB, w8, w21, w12, w29, w4, w7, w6, w5, w13, w25, w26, w28, w14, w3, wf17⟩ := id hwf
  obtain ⟨hx1, hXB, hx11, hx12, hx13, hx14, hx15, hx16⟩ := id hxr
  refine lv_iload_n hx hb dX4_at_0 rfl (lv_at hl 1 rfl) ?_
  refine wa_if_lt (tgt := 16) F dX4_at_1 (by decide) (by have q0 := rz; exact ⟨by omega, by omega⟩) (fun c1 => ?_) (fun c1 => ?_)
  · skip
    refine wa_const F dX4_at_16 ?_
    exact wa_ep F (by unfold f_at; rw [if_neg (by omega)]) dX4_at_17
  · skip
    refine lv_iload_n hx hb dX4_at_4 rfl (lv_at hl 1 rfl) ?_
    refine lv_aload_n hx hb dX4_at_5 rfl (lv_at hl 0 rfl) ?_
    refine wa_alen (t0 := 0) F hw he rfl n rfl hn dX4_at_6 ?_
    refine wa_ic_ge (tgt := 16) F dX4_at_7 (by decide) (by have q0 := rz; exact ⟨by omega, by omega⟩) (by exact ⟨by omega, by omega⟩) (fun c7 => ?_) (fun c7 => ?_)
    · skip
      refine wa_const F dX4_at_16 ?_
      exact wa_ep F (by unfold f_at; rw [if_neg (by omega)]) dX4_at_17
    · skip
      refine lv_aload_n hx hb dX4_at_10 rfl (lv_at hl 0 rfl) ?_
      refine lv_iload_n hx hb dX4_at_11 rfl (lv_at hl 1 rfl) ?_
      refine wa_iald (g := g) F hw he z.toNat (by omega) (by omega) hn dX4_at_12 ?_
      refine wa_goto (tgt := 17) F dX4_at_13 (by decide) ?_
      exact wa_ep F (by unfold f_at; rw [if_pos ⟨by omega, by omega⟩]) dX4_at_17
set_option maxRecDepth 100000 in
set_option maxHeartbeats 4000000 in
/-- firstDayAt -/
theorem c_X0_firstDayAt (l : Launch) (D : va_G) (cy : Nat → ClassId) (ad : Nat → Nat → Nat) (S X T : wa_St) (o : Int64) (hwf : wf S) (hxr : xr S X) (hin : wx_inj ad S) (b9 : Nat) (hb9 : (b9 : Int) < S 21 0) (pl : Int) (hpl : 0 ≤ pl ∧ pl ≤ 2) : Met l yX0_firstDayAt wX0_firstDayAt ({ frames := 1, cells := 0, slots := 0, locals := 21 } : Room) (wa_pc [.ref (ad 3 b9), .int (iI pl)] D cy (fun H => wa_wd D ad (wW cy ad S X T o) H)) (wa_Qp (S 20 (3 * b9 + pl.toNat))) 0 0 (fun _ => False) := by
  refine wa_en (by decide +kernel) (Nat.le_of_ble_eq_true rfl) ?_
  intro p e s m args below meth c F hw ls hl
  have F : wa_fx p s m c meth args cX0_firstDayAt 2 RX0 "firstDayAt" (Option.some FieldType.int) D cy := F
  have hw : wa_wd D ad (wW cy ad S X T o) s.heap := hw
  have hl : lv_has ls 2 [(0, .ref (ad 3 b9)), (1, .int (iI pl))] := hl
  obtain ⟨hx, hb, hml, hown, hts⟩ := id F.1
  obtain ⟨hSB, w8, w21, w12, w29, w4, w7, w6, w5, w13, w25, w26, w28, w14, w3, wf17⟩ := id hwf
  obtain ⟨hx1, hXB, hx11, hx12, hx13, hx14, hx15, hx16⟩ := id hxr
  refine lv_aload_n hx hb dX0_firstDayAt_0 rfl (lv_at hl 0 rfl) ?_
  refine gX0_9 F hw (wW_3 hb9) (v := .ref (ad 4 b9)) rfl dX0_firstDayAt_1 ?_
  refine lv_iload_n hx hb dX0_firstDayAt_4 rfl (lv_at hl 1 rfl) ?_
  refine wa_cp (kX0_29 F (c_X4_at l D cy ad S X T o hwf hxr hin 4 b9 3 (fun j => S 20 (3 * b9 + j)) (wW_4 hb9) (by decide) (pl) (by exact ⟨by omega, by omega⟩)) ⟨by decide, by decide⟩ ⟨rfl, rfl⟩ hw rfl rfl (Nat.le_of_ble_eq_true rfl) hl.1 dX0_firstDayAt_5 ⟨Nat.le_refl _, Nat.le_refl _⟩) ?_
  rw [f_at_in (pl.toNat) (by omega) (by omega)]
  refine W.eq (g2 := F0 m 8 ls [.int (iI (S 20 (3 * b9 + (pl.toNat))))]) rfl ?_
  exact wa_ep F (by first | rfl | omega) dX0_firstDayAt_8
set_option maxRecDepth 100000 in
set_option maxHeartbeats 4000000 in
/-- isOf -/
theorem c_X2_isOf (l : Launch) (D : va_G) (cy : Nat → ClassId) (ad : Nat → Nat → Nat) (S X T : wa_St) (o : Int64) (hwf : wf S) (hxr : xr S X) (hin : wx_inj ad S) (z inp ver : Int) (rz : wa_r z) (rinp : wa_r inp) (rver : wa_r ver) : Met l yX2_isOf wX2_isOf ({ frames := 1, cells := 0, slots := 0, locals := 21 } : Room) (wa_pc [.ref (ad 0 1), .int (iI z), .int (iI inp), .int (iI ver)] D cy (fun H => wa_wd D ad (wW cy ad S X T o) H)) (wa_Qp (bI (f_isOf S z inp ver))) 0 0 (fun _ => False) := by
  refine wa_en (by decide +kernel) (Nat.le_of_ble_eq_true rfl) ?_
  intro p e s m args below meth c F hw ls hl
  have F : wa_fx p s m c meth args cX2_isOf 4 RX2 "isOf" (Option.some FieldType.boolean) D cy := F
  have hw : wa_wd D ad (wW cy ad S X T o) s.heap := hw
  have hl : lv_has ls 4 [(0, .ref (ad 0 1)), (1, .int (iI z)), (2, .int (iI inp)), (3, .int (iI ver))] := hl
  obtain ⟨hx, hb, hml, hown, hts⟩ := id F.1
  obtain ⟨hSB, w8, w21, w12, w29, w4, w7, w6, w5, w13, w25, w26, w28, w14, w3, wf17⟩ := id hwf
  obtain ⟨hx1, hXB, hx11, hx12, hx13, hx14, hx15, hx16⟩ := id hxr
  refine lv_iload_n hx hb dX2_isOf_0 rfl (lv_at hl 1 rfl) ?_
  refine wa_if_lt (tgt := 40) F dX2_isOf_1 (by decide) (by have q0 := rz; exact ⟨by omega, by omega⟩) (fun c1 => ?_) (fun c1 => ?_)
  · skip
    refine wa_const F dX2_isOf_40 ?_
    exact wa_epz F (bI_f (by omega)).symm (by decide) dX2_isOf_41
  · skip
    refine lv_iload_n hx hb dX2_isOf_4 rfl (lv_at hl 1 rfl) ?_
    refine lv_aload_n hx hb dX2_isOf_5 rfl (lv_at hl 0 rfl) ?_
    refine gX2_21 F hw rfl (v := .int (iI (S 12 0))) rfl dX2_isOf_6 ?_
    refine wa_ic_ge (tgt := 40) F dX2_isOf_9 (by decide) (by have q0 := rz; exact ⟨by omega, by omega⟩) (by have q0 := hSB 12 0; exact ⟨by omega, by omega⟩) (fun c9 => ?_) (fun c9 => ?_)
    · skip
      refine wa_const F dX2_isOf_40 ?_
      exact wa_epz F (bI_f (by omega)).symm (by decide) dX2_isOf_41
    · skip
      have h10 := hx1 z.toNat (by omega)
      refine lv_aload_n hx hb dX2_isOf_12 rfl (lv_at hl 0 rfl) ?_
      refine gX2_15 F hw rfl (v := .ref (ad 0 3)) rfl dX2_isOf_13 ?_
      refine lv_iload_n hx hb dX2_isOf_16 rfl (lv_at hl 1 rfl) ?_
      refine wa_cp (kX2_33 F (c_X4_at l D cy ad S X T o hwf hxr hin 0 3 300 (X 3) rfl (by decide) (z) (by have q0 := rz; exact ⟨by omega, by omega⟩)) ⟨by decide, by decide⟩ ⟨rfl, rfl⟩ hw rfl rfl (Nat.le_of_ble_eq_true rfl) hl.1 dX2_isOf_17 ⟨Nat.le_refl _, Nat.le_refl _⟩) ?_
      rw [f_at_in (z.toNat) (by omega) (by have q0 := rz; omega)]
      refine W.eq (g2 := F0 m 20 ls [.int (iI (X 3 (z.toNat)))]) rfl ?_
      refine lv_iload_n hx hb dX2_isOf_20 rfl (lv_at hl 2 rfl) ?_
      refine wa_ic_ne (tgt := 40) F dX2_isOf_21 (by decide) (by have q0 := hXB 3 (z.toNat); exact ⟨by omega, by omega⟩) (by have q0 := rinp; exact ⟨by omega, by omega⟩) (fun c21 => ?_) (fun c21 => ?_)
      · skip
        refine wa_const F dX2_isOf_40 ?_
        exact wa_epz F (bI_f (by omega)).symm (by decide) dX2_isOf_41
      · skip
        refine lv_aload_n hx hb dX2_isOf_24 rfl (lv_at hl 0 rfl) ?_
        refine gX2_18 F hw rfl (v := .ref (ad 0 4)) rfl dX2_isOf_25 ?_
        refine lv_iload_n hx hb dX2_isOf_28 rfl (lv_at hl 1 rfl) ?_
        refine wa_cp (kX2_33 F (c_X4_at l D cy ad S X T o hwf hxr hin 0 4 300 (X 4) rfl (by decide) (z) (by have q0 := rz; exact ⟨by omega, by omega⟩)) ⟨by decide, by decide⟩ ⟨rfl, rfl⟩ hw rfl rfl (Nat.le_of_ble_eq_true rfl) hl.1 dX2_isOf_29 ⟨Nat.le_refl _, Nat.le_refl _⟩) ?_
        rw [f_at_in (z.toNat) (by omega) (by have q0 := rz; omega)]
        refine W.eq (g2 := F0 m 32 ls [.int (iI (X 4 (z.toNat)))]) rfl ?_
        refine lv_iload_n hx hb dX2_isOf_32 rfl (lv_at hl 3 rfl) ?_
        refine wa_ic_ne (tgt := 40) F dX2_isOf_33 (by decide) (by have q0 := hXB 4 (z.toNat); exact ⟨by omega, by omega⟩) (by have q0 := rver; exact ⟨by omega, by omega⟩) (fun c33 => ?_) (fun c33 => ?_)
        · skip
          refine wa_const F dX2_isOf_40 ?_
          exact wa_epz F (bI_f (by omega)).symm (by decide) dX2_isOf_41
        · skip
          refine wa_const F dX2_isOf_36 ?_
          refine wa_goto (tgt := 41) F dX2_isOf_37 (by decide) ?_
          exact wa_epz F (bI_t (by omega)).symm (by decide) dX2_isOf_41
set_option maxRecDepth 100000 in
set_option maxHeartbeats 4000000 in
/-- find -/
theorem c_X2_find (l : Launch) (D : va_G) (cy : Nat → ClassId) (ad : Nat → Nat → Nat) (S X T : wa_St) (o : Int64) (hwf : wf S) (hxr : xr S X) (hin : wx_inj ad S) (lo inp ver : Int) (rlo : wa_r lo) (rinp : wa_r inp) (rver : wa_r ver) : Met l yX2_find wX2_find ({ frames := 2, cells := 0, slots := 0, locals := 44 } : Room) (wa_pc [.ref (ad 0 1), .int (iI lo), .int (iI inp), .int (iI ver)] D cy (fun H => wa_wd D ad (wW cy ad S X T o) H)) (wa_Qp (f_find S lo inp ver)) 0 0 (fun _ => False) := by
  refine wa_en (by decide +kernel) (Nat.le_of_ble_eq_true rfl) ?_
  intro p e s m args below meth c F hw ls hl
  have F : wa_fx p s m c meth args cX2_find 5 RX2 "find" (Option.some FieldType.int) D cy := F
  have hw : wa_wd D ad (wW cy ad S X T o) s.heap := hw
  have hl : lv_has ls 5 [(0, .ref (ad 0 1)), (1, .int (iI lo)), (2, .int (iI inp)), (3, .int (iI ver))] := hl
  obtain ⟨hx, hb, hml, hown, hts⟩ := id F.1
  obtain ⟨hSB, w8, w21, w12, w29, w4, w7, w6, w5, w13, w25, w26, w28, w14, w3, wf17⟩ := id hwf
  obtain ⟨hx1, hXB, hx11, hx12, hx13, hx14, hx15, hx16⟩ := id hxr
  refine wa_const F dX2_find_0 ?_
  refine lv_istore (lv' := [(4, .int (iI 0)), (0, .ref (ad 0 1)), (1, .int (iI lo)), (2, .int (iI inp)), (3, .int (iI ver))]) hx hb dX2_find_1 hl (by decide) rfl (fun ls hl => ?_)
  have loop3 : ∀ (k : Nat) (lx : Nat), (lx + k = (S 12 0).toNat) → (f_fnd (fun l => decide (S 9 l = lo ∧ S 10 l = inp ∧ S 11 l = ver)) k lx = f_find S lo inp ver) → ∀ ls : Array Slot, lv_has ls 5 [(0, .ref (ad 0 1)), (1, .int (iI lo)), (2, .int (iI inp)), (3, .int (iI ver)), (4, .int (iI (lx : Int)))] → W p l e ({ frames := 2, cells := 0, slots := 0, locals := 44 } : Room) s m args below meth c s.heap [] 0 0 (MQ below (wa_Qp (f_find S lo inp ver)) args s 0 0 (fun _ => False)) (F0 m 3 ls []) := by
    intro k
    induction k with
    | zero =>
      intro lx hk hr ls hl
      refine lv_iload hx hb dX2_find_3 (lv_at hl 4 rfl) ?_
      refine lv_aload_n hx hb dX2_find_5 rfl (lv_at hl 0 rfl) ?_
      refine gX2_21 F hw rfl (v := .int (iI (S 12 0))) rfl dX2_find_6 ?_
      refine wa_ic_ge (tgt := 53) F dX2_find_9 (by decide) (by exact ⟨by omega, by omega⟩) (by have q0 := hSB 12 0; exact ⟨by omega, by omega⟩) (fun c9 => ?_) (fun c9 => absurd c9 (by omega))
      refine wa_bi F dX2_find_53 (by decide +kernel) ?_
      exact wa_ep F (by rw [← hr]; rfl) dX2_find_55
    | succ k ih3 =>
      intro lx hk hr ls hl
      refine lv_iload hx hb dX2_find_3 (lv_at hl 4 rfl) ?_
      refine lv_aload_n hx hb dX2_find_5 rfl (lv_at hl 0 rfl) ?_
      refine gX2_21 F hw rfl (v := .int (iI (S 12 0))) rfl dX2_find_6 ?_
      refine wa_ic_ge (tgt := 53) F dX2_find_9 (by decide) (by exact ⟨by omega, by omega⟩) (by have q0 := hSB 12 0; exact ⟨by omega, by omega⟩) (fun c9 => absurd c9 (by omega)) (fun c9 => ?_)
      refine lv_iload hx hb dX2_find_12 (lv_at hl 4 rfl) ?_
      refine lv_aload_n hx hb dX2_find_14 rfl (lv_at hl 0 rfl) ?_
      refine gX2_9 F hw rfl (v := .ref (ad 0 2)) rfl dX2_find_15 ?_
      refine wa_alen (t0 := 0) F hw rfl rfl 300 rfl (by decide) dX2_find_18 ?_
      refine W.eq (g2 := F0 m 19 ls [.int (iI 300), .int (iI (lx : Int))]) rfl ?_
      refine wa_ic_ge (tgt := 53) F dX2_find_19 (by decide) (by exact ⟨by omega, by omega⟩) (by decide) (fun c19 => absurd c19 (by omega)) (fun c19 => ?_)
      have h9 := hx1 lx (by omega)
      refine lv_aload_n hx hb dX2_find_22 rfl (lv_at hl 0 rfl) ?_
      refine gX2_9 F hw rfl (v := .ref (ad 0 2)) rfl dX2_find_23 ?_
      refine lv_iload hx hb dX2_find_26 (lv_at hl 4 rfl) ?_
      refine wa_iald (g := (X 2)) F hw rfl lx rfl (by omega) (by decide) dX2_find_28 ?_
      refine lv_iload_n hx hb dX2_find_29 rfl (lv_at hl 1 rfl) ?_
      refine wa_ic_ne (tgt := 47) F dX2_find_30 (by decide) (by have q0 := hXB 2 lx; exact ⟨by omega, by omega⟩) (by have q0 := rlo; exact ⟨by omega, by omega⟩) (fun c30 => ?_) (fun c30 => ?_)
      · skip
        refine wa_inc (k := 4) (b := ((lx + 1) : Int)) (lv' := [(4, .int (iI ((lx + 1) : Int))), (0, .ref (ad 0 1)), (1, .int (iI lo)), (2, .int (iI inp)), (3, .int (iI ver))]) F dX2_find_47 hl rfl (by omega) (by decide) rfl (fun ls hl => ?_)
        refine wa_goto (tgt := 3) F dX2_find_50 (by decide) ?_
        exact ih3 (lx + 1) (by omega) (by rw [← hr]; simp only [f_fnd]; rw [if_neg]; (simp only [decide_eq_true_eq]); (try simp only [f_isOf, Int.toNat_natCast] at b38); omega) ls (lv_sub hl [1, 2, 3, 4, 0] rfl)
      · skip
        refine lv_aload_n hx hb dX2_find_33 rfl (lv_at hl 0 rfl) ?_
        refine lv_iload hx hb dX2_find_34 (lv_at hl 4 rfl) ?_
        refine lv_iload_n hx hb dX2_find_36 rfl (lv_at hl 2 rfl) ?_
        refine lv_iload_n hx hb dX2_find_37 rfl (lv_at hl 3 rfl) ?_
        refine wa_cp (kX2_25 F (c_X2_isOf l D cy ad S X T o hwf hxr hin ((lx : Int)) (inp) (ver) (by exact ⟨by omega, by omega⟩) (by have q0 := rinp; exact ⟨by omega, by omega⟩) (by have q0 := rver; exact ⟨by omega, by omega⟩)) ⟨by decide, by decide⟩ ⟨rfl, rfl⟩ hw hw rfl rfl rfl (Nat.le_of_ble_eq_true rfl) hl.1 dX2_find_38 ⟨Nat.le_refl _, Nat.le_refl _⟩) ?_
        by_cases b38 : f_isOf S ((lx : Int)) (inp) (ver)
        · rw [bI_t b38]
          refine wa_if_eq (tgt := 47) F dX2_find_41 (by decide) (by decide) (fun c41 => absurd c41 (by decide)) (fun c41 => ?_)
          refine lv_iload hx hb dX2_find_44 (lv_at hl 4 rfl) ?_
          exact wa_ep F (by rw [← hr]; simp only [f_fnd]; rw [if_pos]; (simp only [decide_eq_true_eq]); (simp only [f_isOf, Int.toNat_natCast] at b38); omega) dX2_find_46
        · rw [bI_f b38]
          refine wa_if_eq (tgt := 47) F dX2_find_41 (by decide) (by decide) (fun c41 => ?_) (fun c41 => absurd c41 (by decide))
          refine wa_inc (k := 4) (b := ((lx + 1) : Int)) (lv' := [(4, .int (iI ((lx + 1) : Int))), (0, .ref (ad 0 1)), (1, .int (iI lo)), (2, .int (iI inp)), (3, .int (iI ver))]) F dX2_find_47 hl rfl (by omega) (by decide) rfl (fun ls hl => ?_)
          refine wa_goto (tgt := 3) F dX2_find_50 (by decide) ?_
          exact ih3 (lx + 1) (by omega) (by rw [← hr]; simp only [f_fnd]; rw [if_neg]; (simp only [decide_eq_true_eq]); (try simp only [f_isOf, Int.toNat_natCast] at b38); omega) ls (lv_sub hl [1, 2, 3, 4, 0] rfl)
  exact loop3 ((S 12 0).toNat) 0 (by omega) rfl ls (lv_sub hl [1, 2, 3, 4, 0] rfl)
