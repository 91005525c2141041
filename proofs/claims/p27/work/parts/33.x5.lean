/-! contracts of the class, fifth part: what writes into rows (laid by program) -/
set_option maxRecDepth 100000 in
set_option maxHeartbeats 4000000 in
/-- takesStep -/
theorem c_X1_takesStep (l : Launch) (D : va_G) (cy : Nat → ClassId) (ad : Nat → Nat → Nat) (S X T : wa_St) (o : Int64) (A : Nat → Prop) (hj : wa_wj A ad (wW cy ad S X T o)) (hwf : wf S) (hxr : xr S X) (hin : wx_inj ad S) (i : Nat) (hi : (i : Int) < S 8 0) (inp : Int) (rinp : -2 ≤ inp ∧ inp ≤ 100000) : Met l yX1_takesStep wX1_takesStep ({ frames := 0, cells := 0, slots := 0, locals := 0 } : Room) (wa_pc [.ref (ad 1 i), .int (iI inp)] D cy (fun H => wa_wd D ad (wW cy ad S X T o) H)) (wx_Qi A D cy ad T o (if S 6 i < 5 then x_ts S i inp else S) (fun u => u = X) (bI (S 6 i < 5))) 0 0 A := by
  refine wa_en (by decide +kernel) (Nat.le_of_ble_eq_true rfl) ?_
  intro p e s m args below meth c F hw ls hl
  have F : wa_fx p s m c meth args cX1_takesStep 2 RX1 "takesStep" (Option.some FieldType.boolean) D cy := F
  have hw : wa_wd D ad (wW cy ad S X T o) s.heap := hw
  have hl : lv_has ls 2 [(0, .ref (ad 1 i)), (1, .int (iI inp))] := hl
  obtain ⟨hx, hb, hml, hown, hts⟩ := id F.1
  obtain ⟨hSB, w8, w21, w12, w29, w4, w7, w6, w5, w13, w25, w26, w28, w14, w3, wf17⟩ := id hwf
  obtain ⟨hx1, hXB, hx11, hx12, hx13, hx14, hx15, hx16⟩ := id hxr
  have w6i := w6 i
  have hS : va_S A s.heap s.heap [] := va_S.rf
  refine lv_aload_n hx hb dX1_takesStep_0 rfl (lv_at hl 0 rfl) ?_
  refine gX1_23 F hw (wW_1 hi) (v := .int (iI (S 6 i))) rfl dX1_takesStep_1 ?_
  refine wa_if_lt (tgt := 19) F dX1_takesStep_4 (by decide) (by have q0 := hSB 6 i; exact ⟨by omega, by omega⟩) (fun c4 => absurd c4 (by omega)) (fun c4 => ?_)
  refine lv_aload_n hx hb dX1_takesStep_7 rfl (lv_at hl 0 rfl) ?_
  refine gX1_23 F hw (wW_1 hi) (v := .int (iI (S 6 i))) rfl dX1_takesStep_8 ?_
  refine lv_aload_n hx hb dX1_takesStep_11 rfl (lv_at hl 0 rfl) ?_
  refine gX1_9 F hw (wW_1 hi) (v := .ref (ad 2 i)) rfl dX1_takesStep_12 ?_
  refine wa_alen (t0 := 0) F hw (wW_2 hi) rfl 5 rfl (by decide) dX1_takesStep_15 ?_
  refine W.eq (g2 := F0 m 16 ls [.int (iI 5), .int (iI (S 6 i))]) rfl ?_
  refine wa_ic_lt (tgt := 21) F dX1_takesStep_16 (by decide) (by have q0 := hSB 6 i; exact ⟨by omega, by omega⟩) (by decide) (fun c16 => ?_) (fun c16 => ?_)
  · skip
    refine lv_aload_n hx hb dX1_takesStep_21 rfl (lv_at hl 0 rfl) ?_
    refine gX1_9 F hw (wW_1 hi) (v := .ref (ad 2 i)) rfl dX1_takesStep_22 ?_
    refine lv_aload_n hx hb dX1_takesStep_25 rfl (lv_at hl 0 rfl) ?_
    refine gX1_23 F hw (wW_1 hi) (v := .int (iI (S 6 i))) rfl dX1_takesStep_26 ?_
    refine lv_iload_n hx hb dX1_takesStep_29 rfl (lv_at hl 1 rfl) ?_
    refine sX_J F hw hj hS hi (((S 6 i)).toNat) (by have q0 := hSB 6 i; omega) (by have q0 := hSB 6 i; omega) dX1_takesStep_30 (fun H locs hw hS => ?_)
    refine lv_aload_n hx hb dX1_takesStep_31 rfl (lv_at hl 0 rfl) ?_
    refine lv_dup hx hb dX1_takesStep_32 rfl ?_
    refine gX1_23 F hw (wW_1 hi) (v := .int (iI (S 6 i))) (by first | rfl | simp [wx_fI, wx_fB, wx_fM, wa_s]) dX1_takesStep_33 ?_
    refine wa_const F dX1_takesStep_36 ?_
    refine wa_add F dX1_takesStep_37 ?_
    refine qX1_23 F hw (wj_of hj rfl rfl rfl) hS hi dX1_takesStep_38 (fun H locs hw hS => ?_)
    refine wa_const F dX1_takesStep_41 ?_
    exact wx_eiz F (by rw [if_pos (by omega)]; exact hw) hS (bI_t (by omega)).symm rfl (by decide) dX1_takesStep_42
  · skip
    refine wa_const F dX1_takesStep_19 ?_
    exact wx_eiz F (by rw [if_neg (by omega)]; exact hw) hS (bI_f (by omega)).symm rfl (by decide) dX1_takesStep_20
set_option maxRecDepth 100000 in
set_option maxHeartbeats 4000000 in
/-- arriveAt -/
theorem c_X0_arriveAt (l : Launch) (D : va_G) (cy : Nat → ClassId) (ad : Nat → Nat → Nat) (S X T : wa_St) (o : Int64) (A : Nat → Prop) (hj : wa_wj A ad (wW cy ad S X T o)) (hwf : wf S) (hxr : xr S X) (hin : wx_inj ad S) (b9 : Nat) (hb9 : (b9 : Int) < S 21 0) (pl v : Int) (hpl : 0 ≤ pl ∧ pl ≤ 2) (rv : -2 ≤ v ∧ v ≤ 100000) : Met l yX0_arriveAt wX0_arriveAt ({ frames := 0, cells := 0, slots := 0, locals := 0 } : Room) (wa_pc [.ref (ad 3 b9), .int (iI pl), .int (iI v)] D cy (fun H => wa_wd D ad (wW cy ad S X T o) H)) (wx_Qv A D cy ad T o (wa_s S 20 (3 * b9 + pl.toNat) v) (fun u => u = X)) 0 0 A := by
  refine wa_en (by decide +kernel) (Nat.le_of_ble_eq_true rfl) ?_
  intro p e s m args below meth c F hw ls hl
  have F : wa_fx p s m c meth args cX0_arriveAt 3 RX0 "arriveAt" (none) D cy := F
  have hw : wa_wd D ad (wW cy ad S X T o) s.heap := hw
  have hl : lv_has ls 3 [(0, .ref (ad 3 b9)), (1, .int (iI pl)), (2, .int (iI v))] := hl
  obtain ⟨hx, hb, hml, hown, hts⟩ := id F.1
  obtain ⟨hSB, w8, w21, w12, w29, w4, w7, w6, w5, w13, w25, w26, w28, w14, w3, wf17⟩ := id hwf
  obtain ⟨hx1, hXB, hx11, hx12, hx13, hx14, hx15, hx16⟩ := id hxr
  have hS : va_S A s.heap s.heap [] := va_S.rf
  refine lv_iload_n hx hb dX0_arriveAt_0 rfl (lv_at hl 1 rfl) ?_
  refine wa_if_lt (tgt := 20) F dX0_arriveAt_1 (by decide) (by have q0 := hpl; exact ⟨by omega, by omega⟩) (fun c1 => absurd c1 (by omega)) (fun c1 => ?_)
  refine lv_iload_n hx hb dX0_arriveAt_4 rfl (lv_at hl 1 rfl) ?_
  refine lv_aload_n hx hb dX0_arriveAt_5 rfl (lv_at hl 0 rfl) ?_
  refine gX0_9 F hw (wW_3 hb9) (v := .ref (ad 4 b9)) rfl dX0_arriveAt_6 ?_
  refine wa_alen (t0 := 0) F hw (wW_4 hb9) rfl 3 rfl (by decide) dX0_arriveAt_9 ?_
  refine W.eq (g2 := F0 m 10 ls [.int (iI 3), .int (iI pl)]) rfl ?_
  refine wa_ic_ge (tgt := 20) F dX0_arriveAt_10 (by decide) (by have q0 := hpl; exact ⟨by omega, by omega⟩) (by decide) (fun c10 => absurd c10 (by omega)) (fun c10 => ?_)
  refine lv_aload_n hx hb dX0_arriveAt_13 rfl (lv_at hl 0 rfl) ?_
  refine gX0_9 F hw (wW_3 hb9) (v := .ref (ad 4 b9)) rfl dX0_arriveAt_14 ?_
  refine lv_iload_n hx hb dX0_arriveAt_17 rfl (lv_at hl 1 rfl) ?_
  refine lv_iload_n hx hb dX0_arriveAt_18 rfl (lv_at hl 2 rfl) ?_
  refine sX_E F hw hj hS hb9 ((pl).toNat) (by have q0 := hpl; omega) (by have q0 := hpl; omega) dX0_arriveAt_19 (fun H locs hw hS => ?_)
  exact wx_ev F hw hS rfl dX0_arriveAt_20
set_option maxRecDepth 100000 in
set_option maxHeartbeats 4000000 in
/-- fillChain -/
theorem c_X2_fillChain (l : Launch) (D : va_G) (cy : Nat → ClassId) (ad : Nat → Nat → Nat) (S X T : wa_St) (o : Int64) (A : Nat → Prop) (hj : wa_wj A ad (wW cy ad S X T o)) (hwf : wf S) (hxr : xr S X) (hin : wx_inj ad S) (z : Int) (rz : -1 ≤ z ∧ z < S 12 0) : Met l yX2_fillChain wX2_fillChain ({ frames := 1, cells := 0, slots := 0, locals := 21 } : Room) (wa_pc [.ref (ad 0 1), .int (iI z), .ref (ad 0 13)] D cy (fun H => wa_wd D ad (wW cy ad S X T o) H)) (wx_Qi A D cy ad T o (S) (fun u => xr S u ∧ ∀ j : Nat, (j : Int) < x_hi S 50 z → u 13 j = x_it S j z) (x_hi S 50 z)) 0 0 A := by
  refine wa_en (by decide +kernel) (Nat.le_of_ble_eq_true rfl) ?_
  intro p e s m args below meth c F hw ls hl
  have F : wa_fx p s m c meth args cX2_fillChain 5 RX2 "fillChain" (Option.some FieldType.int) D cy := F
  have hw : wa_wd D ad (wW cy ad S X T o) s.heap := hw
  have hl : lv_has ls 5 [(0, .ref (ad 0 1)), (1, .int (iI z)), (2, .ref (ad 0 13))] := hl
  obtain ⟨hx, hb, hml, hown, hts⟩ := id F.1
  obtain ⟨hSB, w8, w21, w12, w29, w4, w7, w6, w5, w13, w25, w26, w28, w14, w3, wf17⟩ := id hwf
  obtain ⟨hx1, hXB, hx11, hx12, hx13, hx14, hx15, hx16⟩ := id hxr
  have hS : va_S A s.heap s.heap [] := va_S.rf
  refine wa_const F dX2_fillChain_0 ?_
  refine lv_istore_n (lv' := [(3, .int (iI 0)), (0, .ref (ad 0 1)), (1, .int (iI z)), (2, .ref (ad 0 13))]) hx hb dX2_fillChain_1 rfl hl (by decide) rfl (fun ls hl => ?_)
  refine lv_iload_n hx hb dX2_fillChain_2 rfl (lv_at hl 2 rfl) ?_
  refine lv_istore (lv' := [(4, .int (iI z)), (3, .int (iI 0)), (0, .ref (ad 0 1)), (1, .int (iI z)), (2, .ref (ad 0 13))]) hx hb dX2_fillChain_3 hl (by decide) rfl (fun ls hl => ?_)
  have loop5 : ∀ (k : Nat) (jx : Nat) (zz : Int) (X0 : wa_St) (H : Heap) (locs : List Loc), (jx + k = 50) → (-1 ≤ zz ∧ zz < S 12 0) → (xr S X0) → (x_hi S k zz + jx = x_hi S 50 z) → (∀ j, j < jx → X0 13 j = x_it S j z) → (zz = x_it S jx z) → wa_wd D ad (wW cy ad S X0 T o) H → va_S A s.heap H locs → ∀ ls : Array Slot, lv_has ls 5 [(0, .ref (ad 0 1)), (1, .int (iI z)), (2, .ref (ad 0 13)), (3, .int (iI (jx : Int))), (4, .int (iI zz))] → W p l e ({ frames := 1, cells := 0, slots := 0, locals := 21 } : Room) s m args below meth c H locs 0 0 (MQ below (wx_Qi A D cy ad T o (S) (fun u => xr S u ∧ ∀ j : Nat, (j : Int) < x_hi S 50 z → u 13 j = x_it S j z) (x_hi S 50 z)) args s 0 0 A) (F0 m 5 ls []) := by
    intro k
    induction k with
    | zero =>
      intro jx zz X0 H locs hk rzz hxr0 hr hli hzz hw hS ls hl
      obtain ⟨hx1, hXB, hx11, hx12, hx13, hx14, hx15, hx16⟩ := id hxr0
      refine lv_iload hx hb dX2_fillChain_5 (lv_at hl 4 rfl) ?_
      refine wa_const F dX2_fillChain_7 ?_
      refine wa_ic_eq (tgt := 39) F dX2_fillChain_8 (by decide) (by have q0 := rzz; exact ⟨by omega, by omega⟩) (by decide) (fun c8 => ?_) (fun c8 => ?_)
      · skip
        refine lv_iload_n hx hb dX2_fillChain_39 rfl (lv_at hl 3 rfl) ?_
        exact wx_ei F hw hS (by have q := hr; first | (rw [c8, x_hi_m] at q; omega) | (rw [show x_hi S 0 zz = 0 from rfl] at q; omega)) ⟨hxr0, fun j hj => hli j (by have q := hr; first | (rw [c8, x_hi_m] at q; omega) | (rw [show x_hi S 0 zz = 0 from rfl] at q; omega))⟩ dX2_fillChain_40
      · skip
        refine lv_iload_n hx hb dX2_fillChain_11 rfl (lv_at hl 3 rfl) ?_
        refine lv_aload_n hx hb dX2_fillChain_12 rfl (lv_at hl 2 rfl) ?_
        refine wa_alen (t0 := 0) F hw rfl rfl 50 rfl (by decide) dX2_fillChain_13 ?_
        refine W.eq (g2 := F0 m 14 ls [.int (iI 50), .int (iI (jx : Int))]) rfl ?_
        refine wa_ic_ge (tgt := 39) F dX2_fillChain_14 (by decide) (by exact ⟨by omega, by omega⟩) (by decide) (fun c14 => ?_) (fun c14 => absurd c14 (by omega))
        refine lv_iload_n hx hb dX2_fillChain_39 rfl (lv_at hl 3 rfl) ?_
        exact wx_ei F hw hS (by have q := hr; first | (rw [c8, x_hi_m] at q; omega) | (rw [show x_hi S 0 zz = 0 from rfl] at q; omega)) ⟨hxr0, fun j hj => hli j (by have q := hr; first | (rw [c8, x_hi_m] at q; omega) | (rw [show x_hi S 0 zz = 0 from rfl] at q; omega))⟩ dX2_fillChain_40
    | succ k ih5 =>
      intro jx zz X0 H locs hk rzz hxr0 hr hli hzz hw hS ls hl
      obtain ⟨hx1, hXB, hx11, hx12, hx13, hx14, hx15, hx16⟩ := id hxr0
      refine lv_iload hx hb dX2_fillChain_5 (lv_at hl 4 rfl) ?_
      refine wa_const F dX2_fillChain_7 ?_
      refine wa_ic_eq (tgt := 39) F dX2_fillChain_8 (by decide) (by have q0 := rzz; exact ⟨by omega, by omega⟩) (by decide) (fun c8 => ?_) (fun c8 => ?_)
      · skip
        refine lv_iload_n hx hb dX2_fillChain_39 rfl (lv_at hl 3 rfl) ?_
        exact wx_ei F hw hS (by have q := hr; first | (rw [c8, x_hi_m] at q; omega) | (rw [show x_hi S 0 zz = 0 from rfl] at q; omega)) ⟨hxr0, fun j hj => hli j (by have q := hr; first | (rw [c8, x_hi_m] at q; omega) | (rw [show x_hi S 0 zz = 0 from rfl] at q; omega))⟩ dX2_fillChain_40
      · skip
        refine lv_iload_n hx hb dX2_fillChain_11 rfl (lv_at hl 3 rfl) ?_
        refine lv_aload_n hx hb dX2_fillChain_12 rfl (lv_at hl 2 rfl) ?_
        refine wa_alen (t0 := 0) F hw rfl rfl 50 rfl (by decide) dX2_fillChain_13 ?_
        refine W.eq (g2 := F0 m 14 ls [.int (iI 50), .int (iI (jx : Int))]) rfl ?_
        refine wa_ic_ge (tgt := 39) F dX2_fillChain_14 (by decide) (by exact ⟨by omega, by omega⟩) (by decide) (fun c14 => absurd c14 (by omega)) (fun c14 => ?_)
        refine lv_aload_n hx hb dX2_fillChain_17 rfl (lv_at hl 2 rfl) ?_
        refine lv_iload_n hx hb dX2_fillChain_18 rfl (lv_at hl 3 rfl) ?_
        refine lv_iload hx hb dX2_fillChain_19 (lv_at hl 4 rfl) ?_
        refine sX_13 F hw (wj_of hj rfl rfl rfl) hS jx rfl (by omega) dX2_fillChain_21 (fun H locs hw hS => ?_)
        have hxr1 := xr_chain hxr0 jx (v := zz) (by omega)
        refine wa_inc (k := 3) (b := ((jx + 1) : Int)) (lv' := [(3, .int (iI ((jx + 1) : Int))), (0, .ref (ad 0 1)), (1, .int (iI z)), (2, .ref (ad 0 13)), (4, .int (iI zz))]) F dX2_fillChain_22 hl rfl (by omega) (by decide) rfl (fun ls hl => ?_)
        refine lv_aload_n hx hb dX2_fillChain_25 rfl (lv_at hl 1 rfl) ?_
        refine gX2_9 F hw rfl (v := .ref (ad 0 2)) rfl dX2_fillChain_26 ?_
        refine lv_iload hx hb dX2_fillChain_29 (lv_at hl 4 rfl) ?_
        refine wa_cp (kX2_33 F (c_X4_at l D cy ad S ((wa_s X0 13 jx zz)) T o hwf hxr1 hin 0 2 300 ((wa_s X0 13 jx zz) 2) rfl (by decide) (zz) (by have q0 := rzz; exact ⟨by omega, by omega⟩)) ⟨by decide, by decide⟩ ⟨rfl, rfl⟩ hw rfl rfl (Nat.le_of_ble_eq_true rfl) hl.1 dX2_fillChain_31 ⟨Nat.le_refl _, Nat.le_refl _⟩) ?_
        rw [f_at_in ((zz).toNat) (by have q0 := rzz; omega) (by have q0 := rzz; omega)]
        refine W.eq (g2 := F0 m 34 ls [.int (iI (X0 2 ((zz).toNat)))]) rfl ?_
        rw [(hx1 zz.toNat (by omega)).1]
        refine lv_istore (lv' := [(4, .int (iI (S 9 zz.toNat))), (3, .int (iI ((jx + 1) : Int))), (0, .ref (ad 0 1)), (1, .int (iI z)), (2, .ref (ad 0 13))]) hx hb dX2_fillChain_34 hl (by decide) rfl (fun ls hl => ?_)
        refine wa_goto (tgt := 5) F dX2_fillChain_36 (by decide) ?_
        exact ih5 (jx + 1) (S 9 zz.toNat) (wa_s X0 13 jx zz) _ _ (by omega) (by have := hx13 zz.toNat; have := hx16 zz.toNat (by omega); omega) hxr1 (by rw [← hr, x_hi_n c8]; omega) (wa_s_list hli hzz) (by rw [x_it_s, ← hzz]) hw hS ls (lv_sub hl [2, 3, 4, 1, 0] rfl)
  exact loop5 (50) 0 z X _ _ (by omega) rz hxr (by omega) (fun j hj => by omega) rfl hw hS ls (lv_sub hl [2, 3, 4, 1, 0] rfl)
set_option maxRecDepth 100000 in
set_option maxHeartbeats 4000000 in
/-- fillForefathers -/
theorem c_X4_fillForefathers (l : Launch) (D : va_G) (cy : Nat → ClassId) (ad : Nat → Nat → Nat) (S X T : wa_St) (o : Int64) (A : Nat → Prop) (hj : wa_wj A ad (wW cy ad S X T o)) (hwf : wf S) (hxr : xr S X) (hin : wx_inj ad S) (i : Nat) (hi : (i : Int) < S 8 0) : Met l yX4_fillForefathers wX4_fillForefathers ({ frames := 0, cells := 0, slots := 0, locals := 0 } : Room) (wa_pc [.ref (ad 0 0), .ref (ad 1 i)] D cy (fun H => wa_wd D ad (wW cy ad S X T o) H)) (wx_Qi A D cy ad T o (S) (fun u => xr S u ∧ (∀ j, u 13 j = X 13 j) ∧ ∀ j : Nat, (j : Int) < x_dp S 10 (i : Int) → u 12 j = x_fa S j (i : Int)) (x_dp S 10 (i : Int))) 0 0 A := by
  refine wa_en (by decide +kernel) (Nat.le_of_ble_eq_true rfl) ?_
  intro p e s m args below meth c F hw ls hl
  have F : wa_fx p s m c meth args cX4_fillForefathers 4 RX4 "fillForefathers" (Option.some FieldType.int) D cy := F
  have hw : wa_wd D ad (wW cy ad S X T o) s.heap := hw
  have hl : lv_has ls 4 [(0, .ref (ad 0 0)), (1, .ref (ad 1 i))] := hl
  obtain ⟨hx, hb, hml, hown, hts⟩ := id F.1
  obtain ⟨hSB, w8, w21, w12, w29, w4, w7, w6, w5, w13, w25, w26, w28, w14, w3, wf17⟩ := id hwf
  obtain ⟨hx1, hXB, hx11, hx12, hx13, hx14, hx15, hx16⟩ := id hxr
  have hS : va_S A s.heap s.heap [] := va_S.rf
  refine wa_const F dX4_fillForefathers_0 ?_
  refine lv_istore_n (lv' := [(2, .int (iI 0)), (0, .ref (ad 0 0)), (1, .ref (ad 1 i))]) hx hb dX4_fillForefathers_1 rfl hl (by decide) rfl (fun ls hl => ?_)
  refine lv_aload_n hx hb dX4_fillForefathers_2 rfl (lv_at hl 2 rfl) ?_
  refine lv_astore_n (lv' := [(3, .ref (ad 1 i)), (2, .int (iI 0)), (0, .ref (ad 0 0)), (1, .ref (ad 1 i))]) hx hb dX4_fillForefathers_3 rfl hl (by decide) rfl (fun ls hl => ?_)
  rw [show Value.ref (ad 1 i) = va_rf (wa_op ad 1 (i : Int)) from (wa_op_ref (Int.natCast_nonneg i)).symm] at hl
  have hl : lv_has ls 4 [(3, va_rf (wa_op ad 1 (i : Int))), (2, .int (iI 0)), (0, .ref (ad 0 0)), (1, va_rf (wa_op ad 1 (i : Int)))] := hl
  have loop4 : ∀ (k : Nat) (jx : Nat) (zz : Int) (X0 : wa_St) (H : Heap) (locs : List Loc), (jx + k = 10) → (-1 ≤ zz ∧ zz < S 8 0) → (xr S X0) → (x_dp S k zz + jx = x_dp S 10 (i : Int)) → (∀ j, j < jx → X0 12 j = x_fa S j (i : Int)) → (zz = x_fa S jx (i : Int)) → (∀ j, X0 13 j = X 13 j) → wa_wd D ad (wW cy ad S X0 T o) H → va_S A s.heap H locs → ∀ ls : Array Slot, lv_has ls 4 [(0, .ref (ad 0 0)), (2, .int (iI (jx : Int))), (3, va_rf (wa_op ad 1 zz))] → W p l e ({ frames := 0, cells := 0, slots := 0, locals := 0 } : Room) s m args below meth c H locs 0 0 (MQ below (wx_Qi A D cy ad T o (S) (fun u => xr S u ∧ (∀ j, u 13 j = X 13 j) ∧ ∀ j : Nat, (j : Int) < x_dp S 10 (i : Int) → u 12 j = x_fa S j (i : Int)) (x_dp S 10 (i : Int))) args s 0 0 A) (F0 m 4 ls []) := by
    intro k
    induction k with
    | zero =>
      intro jx zz X0 H locs hk rzz hxr0 hr hli hzz h13 hw hS ls hl
      obtain ⟨hx1, hXB, hx11, hx12, hx13, hx14, hx15, hx16⟩ := id hxr0
      refine wa_ldq_n F dX4_fillForefathers_4 rfl (lv_at hl 2 rfl) ?_
      refine wa_nu_op (tgt := 35) F dX4_fillForefathers_5 (by decide) (fun c5 => ?_) (fun c5 => ?_)
      · skip
        refine lv_iload_n hx hb dX4_fillForefathers_35 rfl (lv_at hl 1 rfl) ?_
        exact wx_ei F hw hS (by have q := hr; first | (rw [x_dp_m c5] at q; omega) | (rw [show x_dp S 0 zz = 0 from rfl] at q; omega)) ⟨hxr0, h13, fun j hj => hli j (by have q := hr; first | (rw [x_dp_m c5] at q; omega) | (rw [show x_dp S 0 zz = 0 from rfl] at q; omega))⟩ dX4_fillForefathers_36
      · skip
        rw [wa_op_ref (ad := ad) (kd := 1) c5] at hl
        have hl : lv_has ls 4 [(0, .ref (ad 0 0)), (2, .int (iI (jx : Int))), (3, .ref (ad 1 (zz.toNat)))] := hl
        refine lv_iload_n hx hb dX4_fillForefathers_8 rfl (lv_at hl 1 rfl) ?_
        refine lv_aload_n hx hb dX4_fillForefathers_9 rfl (lv_at hl 0 rfl) ?_
        refine gX4_47 F hw rfl (v := .ref (ad 0 12)) rfl dX4_fillForefathers_10 ?_
        refine wa_alen (t0 := 3) F hw rfl rfl 10 rfl (by decide) dX4_fillForefathers_13 ?_
        refine W.eq (g2 := F0 m 14 ls [.int (iI 10), .int (iI (jx : Int))]) rfl ?_
        refine wa_ic_ge (tgt := 35) F dX4_fillForefathers_14 (by decide) (by exact ⟨by omega, by omega⟩) (by decide) (fun c14 => ?_) (fun c14 => absurd c14 (by omega))
        refine lv_iload_n hx hb dX4_fillForefathers_35 rfl (lv_at hl 1 rfl) ?_
        exact wx_ei F hw hS (by have q := hr; first | (rw [x_dp_m c5] at q; omega) | (rw [show x_dp S 0 zz = 0 from rfl] at q; omega)) ⟨hxr0, h13, fun j hj => hli j (by have q := hr; first | (rw [x_dp_m c5] at q; omega) | (rw [show x_dp S 0 zz = 0 from rfl] at q; omega))⟩ dX4_fillForefathers_36
    | succ k ih4 =>
      intro jx zz X0 H locs hk rzz hxr0 hr hli hzz h13 hw hS ls hl
      obtain ⟨hx1, hXB, hx11, hx12, hx13, hx14, hx15, hx16⟩ := id hxr0
      refine wa_ldq_n F dX4_fillForefathers_4 rfl (lv_at hl 2 rfl) ?_
      refine wa_nu_op (tgt := 35) F dX4_fillForefathers_5 (by decide) (fun c5 => ?_) (fun c5 => ?_)
      · skip
        refine lv_iload_n hx hb dX4_fillForefathers_35 rfl (lv_at hl 1 rfl) ?_
        exact wx_ei F hw hS (by have q := hr; first | (rw [x_dp_m c5] at q; omega) | (rw [show x_dp S 0 zz = 0 from rfl] at q; omega)) ⟨hxr0, h13, fun j hj => hli j (by have q := hr; first | (rw [x_dp_m c5] at q; omega) | (rw [show x_dp S 0 zz = 0 from rfl] at q; omega))⟩ dX4_fillForefathers_36
      · skip
        rw [wa_op_ref (ad := ad) (kd := 1) c5] at hl
        have hl : lv_has ls 4 [(0, .ref (ad 0 0)), (2, .int (iI (jx : Int))), (3, .ref (ad 1 (zz.toNat)))] := hl
        refine lv_iload_n hx hb dX4_fillForefathers_8 rfl (lv_at hl 1 rfl) ?_
        refine lv_aload_n hx hb dX4_fillForefathers_9 rfl (lv_at hl 0 rfl) ?_
        refine gX4_47 F hw rfl (v := .ref (ad 0 12)) rfl dX4_fillForefathers_10 ?_
        refine wa_alen (t0 := 3) F hw rfl rfl 10 rfl (by decide) dX4_fillForefathers_13 ?_
        refine W.eq (g2 := F0 m 14 ls [.int (iI 10), .int (iI (jx : Int))]) rfl ?_
        refine wa_ic_ge (tgt := 35) F dX4_fillForefathers_14 (by decide) (by exact ⟨by omega, by omega⟩) (by decide) (fun c14 => absurd c14 (by omega)) (fun c14 => ?_)
        refine lv_aload_n hx hb dX4_fillForefathers_17 rfl (lv_at hl 0 rfl) ?_
        refine gX4_47 F hw rfl (v := .ref (ad 0 12)) rfl dX4_fillForefathers_18 ?_
        refine lv_iload_n hx hb dX4_fillForefathers_21 rfl (lv_at hl 1 rfl) ?_
        refine lv_aload_n hx hb dX4_fillForefathers_22 rfl (lv_at hl 2 rfl) ?_
        refine W.eq (g2 := F0 m 23 ls [.ref (ad 1 (zz).toNat), .int (iI (jx : Int)), .ref (ad 0 12)]) rfl ?_
        refine sX_12 F hw (wj_of hj rfl rfl rfl) hS c5 rzz.2 jx rfl (by omega) dX4_fillForefathers_23 (fun H locs hw hS => ?_)
        have hxr1 := xr_12 hxr0 (by omega) jx (v := zz) rzz
        refine wa_inc (k := 1) (b := ((jx + 1) : Int)) (lv' := [(2, .int (iI ((jx + 1) : Int))), (0, .ref (ad 0 0)), (3, .ref (ad 1 (zz.toNat)))]) F dX4_fillForefathers_24 hl rfl (by omega) (by decide) rfl (fun ls hl => ?_)
        refine lv_aload_n hx hb dX4_fillForefathers_27 rfl (lv_at hl 2 rfl) ?_
        refine gX4_99 F hw (wW_1 (show ((zz.toNat : Nat) : Int) < S 8 0 by have q3 := rzz; have q4 := c5; omega)) (v := va_rf (wa_op ad 1 (S 4 (zz.toNat)))) (by first | rfl | simp [wx_fI, wx_fB, wx_fM, wa_s]) dX4_fillForefathers_28 ?_
        refine wa_stq_n (lv' := [(3, va_rf (wa_op ad 1 (S 4 (zz.toNat)))), (2, .int (iI ((jx + 1) : Int))), (0, .ref (ad 0 0))]) F dX4_fillForefathers_31 rfl hl (by decide) rfl (fun ls hl => ?_)
        refine wa_goto (tgt := 4) F dX4_fillForefathers_32 (by decide) ?_
        exact ih4 (jx + 1) (S 4 (zz.toNat)) (wa_s X0 12 jx zz) _ _ (by omega) (show -1 ≤ S 4 zz.toNat ∧ S 4 zz.toNat < S 8 0 by have q := w4 zz.toNat (by omega); omega) hxr1 (by rw [← hr, x_dp_n c5]; omega) (wa_s_list hli hzz) (by rw [x_fa_s, ← hzz]) (fun j => h13 j) hw hS ls (lv_sub hl [2, 1, 0] rfl)
  exact loop4 (10) 0 (i : Int) X _ _ (by omega) (by omega) hxr (by omega) (fun j hj => by omega) rfl (fun _ => rfl) hw hS ls (lv_sub hl [2, 1, 0] rfl)
