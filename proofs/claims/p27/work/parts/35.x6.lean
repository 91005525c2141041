/-! contracts of the class: isMadeAsNow (laid by program) -/
set_option maxRecDepth 100000 in
set_option maxHeartbeats 4000000 in
/-- isMadeAsNow -/
theorem c_X4_isMadeAsNow (l : Launch) (D : va_G) (cy : Nat → ClassId) (ad : Nat → Nat → Nat) (S X T : wa_St) (o : Int64) (A : Nat → Prop) (hj : wa_wj A ad (wW cy ad S X T o)) (hwf : wf S) (hxr : xr S X) (hin : wx_inj ad S) (i : Nat) (hi : (i : Int) < S 8 0) : Met l yX4_isMadeAsNow wX4_isMadeAsNow ({ frames := 3, cells := 0, slots := 0, locals := 70 } : Room) (wa_pc [.ref (ad 0 0), .ref (ad 1 i)] D cy (fun H => wa_wd D ad (wW cy ad S X T o) H)) (wx_Qi A D cy ad T o (S) (fun u => xr S u) (bI (x_made S i))) 0 0 A := by
  refine wa_en (by decide +kernel) (Nat.le_of_ble_eq_true rfl) ?_
  intro p e s m args below meth c F hw ls hl
  have F : wa_fx p s m c meth args cX4_isMadeAsNow 6 RX4 "isMadeAsNow" (Option.some FieldType.boolean) D cy := F
  have hw : wa_wd D ad (wW cy ad S X T o) s.heap := hw
  have hl : lv_has ls 6 [(0, .ref (ad 0 0)), (1, .ref (ad 1 i))] := hl
  obtain ⟨hx, hb, hml, hown, hts⟩ := id F.1
  obtain ⟨hSB, w8, w21, w12, w29, w4, w7, w6, w5, w13, w25, w26, w28, w14, w3, wf17⟩ := id hwf
  obtain ⟨hx1, hXB, hx11, hx12, hx13, hx14, hx15, hx16⟩ := id hxr
  have hS : va_S A s.heap s.heap [] := va_S.rf
  refine lv_aload_n hx hb dX4_isMadeAsNow_0 rfl (lv_at hl 1 rfl) ?_
  refine gX4_103 F hw (wW_1 hi) (v := va_rf (wa_op ad 3 (S 7 i))) rfl dX4_isMadeAsNow_1 ?_
  refine wa_nn_op (tgt := 9) F dX4_isMadeAsNow_4 (by decide) (fun c4 => ?_) (fun c4 => ?_)
  · skip
    refine lv_aload_n hx hb dX4_isMadeAsNow_9 rfl (lv_at hl 0 rfl) ?_
    refine gX4_12 F hw rfl (v := .ref (ad 0 1)) rfl dX4_isMadeAsNow_10 ?_
    refine lv_aload_n hx hb dX4_isMadeAsNow_13 rfl (lv_at hl 1 rfl) ?_
    have hrz : -1 ≤ (S 14 (S 7 i).toNat) ∧ (S 14 (S 7 i).toNat) < S 12 0 := w14 _ (by have q := w7 i hi; omega)
    refine gX4_103 F hw (wW_1 hi) (v := va_rf (wa_op ad 3 (S 7 i))) rfl dX4_isMadeAsNow_14 ?_
    rw [wa_op_ref c4]
    refine gX4_145 F hw (wW_3 (show (((S 7 i).toNat : Nat) : Int) < S 21 0 by have q3 := (show -1 ≤ (S 7 i) ∧ (S 7 i) < S 21 0 by have q := w7 i hi; omega); have q4 := c4; omega)) (v := .int (iI (S 14 ((S 7 i).toNat)))) rfl dX4_isMadeAsNow_17 ?_
    refine lv_aload_n hx hb dX4_isMadeAsNow_20 rfl (lv_at hl 0 rfl) ?_
    refine gX4_50 F hw rfl (v := .ref (ad 0 13)) rfl dX4_isMadeAsNow_21 ?_
    refine wx_ci (kX4_278 F (c_X2_fillChain l D cy ad S X T o A hj hwf hxr hin ((S 14 ((S 7 i).toNat))) hrz) ⟨by decide, by decide⟩ ⟨rfl, rfl⟩ hw hw rfl rfl rfl (Nat.le_of_ble_eq_true rfl) hl.1 dX4_isMadeAsNow_24 ⟨Nat.le_of_ble_eq_true rfl, Nat.le_of_ble_eq_true rfl⟩) hS (fun X1_1 H locs hP hw hS => ?_)
    obtain ⟨hxr_X1_1, hch⟩ := hP
    obtain ⟨hx1, hXB, hx11, hx12, hx13, hx14, hx15, hx16⟩ := id hxr_X1_1
    refine lv_istore_n (lv' := [(2, .int (iI (x_hi S 50 ((S 14 ((S 7 i).toNat)))))), (0, .ref (ad 0 0)), (1, .ref (ad 1 i))]) hx hb dX4_isMadeAsNow_27 rfl hl (by decide) rfl (fun ls hl => ?_)
    refine wa_const F dX4_isMadeAsNow_28 ?_
    refine lv_istore_n (lv' := [(3, .int (iI 0)), (2, .int (iI (x_hi S 50 ((S 14 ((S 7 i).toNat)))))), (0, .ref (ad 0 0)), (1, .ref (ad 1 i))]) hx hb dX4_isMadeAsNow_29 rfl hl (by decide) rfl (fun ls hl => ?_)
    refine lv_aload_n hx hb dX4_isMadeAsNow_30 rfl (lv_at hl 2 rfl) ?_
    refine lv_aload_n hx hb dX4_isMadeAsNow_31 rfl (lv_at hl 3 rfl) ?_
    refine wx_ci (kX4_282 F (c_X4_fillForefathers l D cy ad S X1_1 T o A (wj_of hj rfl rfl rfl) hwf hxr_X1_1 hin i hi) ⟨by decide, by decide⟩ ⟨rfl, rfl⟩ hw hw rfl rfl rfl (Nat.le_of_ble_eq_true rfl) hl.1 dX4_isMadeAsNow_32 ⟨Nat.le_of_ble_eq_true rfl, Nat.le_of_ble_eq_true rfl⟩) hS (fun X1_2 H locs hP hw hS => ?_)
    obtain ⟨hxr_X1_2, h13, hff⟩ := hP
    have hhei := x_hi_rng S 50 (S 14 (S 7 i).toNat)
    have hdp := x_dp_rng S 10 (i : Int)
    obtain ⟨hx1, hXB, hx11, hx12, hx13, hx14, hx15, hx16⟩ := id hxr_X1_2
    refine wa_const F dX4_isMadeAsNow_35 ?_
    refine wa_sub F dX4_isMadeAsNow_36 ?_
    refine lv_istore (lv' := [(4, .int (iI ((x_dp S 10 (i : Int)) - 1))), (3, .int (iI 0)), (2, .int (iI (x_hi S 50 ((S 14 ((S 7 i).toNat)))))), (0, .ref (ad 0 0)), (1, .ref (ad 1 i))]) hx hb dX4_isMadeAsNow_37 hl (by decide) rfl (fun ls hl => ?_)
    have loop39 : ∀ (k : Nat) (zi : Int) (al : Int), (zi = (k : Int) - 1) → ((k : Int) ≤ x_dp S 10 (i : Int) ∧ -2 ≤ al ∧ al ≤ 5 * (10 - (k : Int))) → (x_mn S (x_cY S (S 14 (S 7 i).toNat)) (x_hi S 50 (S 14 (S 7 i).toNat)) (i : Int) k al = x_mn S (x_cY S (S 14 (S 7 i).toNat)) (x_hi S 50 (S 14 (S 7 i).toNat)) (i : Int) (x_dp S 10 (i : Int)).toNat 0) → ∀ ls : Array Slot, lv_has ls 6 [(0, .ref (ad 0 0)), (1, .ref (ad 1 i)), (2, .int (iI (x_hi S 50 ((S 14 ((S 7 i).toNat)))))), (3, .int (iI al)), (4, .int (iI zi))] → W p l e ({ frames := 3, cells := 0, slots := 0, locals := 70 } : Room) s m args below meth c H locs 0 0 (MQ below (wx_Qi A D cy ad T o (S) (fun u => xr S u) (bI (x_made S i))) args s 0 0 A) (F0 m 39 ls []) := by
      intro k
      induction k with
      | zero =>
        intro zi al hzk hal hr ls hl
        refine lv_iload hx hb dX4_isMadeAsNow_39 (lv_at hl 4 rfl) ?_
        refine wa_if_lt (tgt := 92) F dX4_isMadeAsNow_41 (by decide) (by exact ⟨by omega, by omega⟩) (fun c41 => ?_) (fun c41 => absurd c41 (by omega))
        refine lv_iload_n hx hb dX4_isMadeAsNow_92 rfl (lv_at hl 3 rfl) ?_
        refine lv_iload_n hx hb dX4_isMadeAsNow_93 rfl (lv_at hl 2 rfl) ?_
        refine wa_ic_ne (tgt := 101) F dX4_isMadeAsNow_94 (by decide) (by exact ⟨by omega, by omega⟩) (by have q0 := x_hi_rng S 50 ((S 14 ((S 7 i).toNat))); exact ⟨by omega, by omega⟩) (fun c94 => ?_) (fun c94 => ?_)
        · skip
          refine wa_const F dX4_isMadeAsNow_101 ?_
          exact wx_eiz F hw hS (bI_f (fun hq : x_made S i => c94 (by have := hq.2; rw [← hr] at this; exact this))).symm hxr_X1_2 (by decide) dX4_isMadeAsNow_102
        · skip
          refine wa_const F dX4_isMadeAsNow_97 ?_
          refine wa_goto (tgt := 102) F dX4_isMadeAsNow_98 (by decide) ?_
          exact wx_eiz F hw hS (bI_t (show x_made S i from ⟨c4, by rw [← hr]; exact c94⟩)).symm hxr_X1_2 (by decide) dX4_isMadeAsNow_102
      | succ k ih39 =>
        intro zi al hzk hal hr ls hl
        have hzi : zi = (k : Int) := by omega
        have hnn : 0 ≤ X1_2 12 k := by rw [hff k (by omega)]; exact x_fa_nn 10 (i : Int) k (by omega)
        refine lv_iload hx hb dX4_isMadeAsNow_39 (lv_at hl 4 rfl) ?_
        refine wa_if_lt (tgt := 92) F dX4_isMadeAsNow_41 (by decide) (by exact ⟨by omega, by omega⟩) (fun c41 => absurd c41 (by omega)) (fun c41 => ?_)
        refine lv_iload hx hb dX4_isMadeAsNow_44 (lv_at hl 4 rfl) ?_
        refine lv_aload_n hx hb dX4_isMadeAsNow_46 rfl (lv_at hl 0 rfl) ?_
        refine gX4_47 F hw rfl (v := .ref (ad 0 12)) rfl dX4_isMadeAsNow_47 ?_
        refine wa_alen (t0 := 3) F hw rfl rfl 10 rfl (by decide) dX4_isMadeAsNow_50 ?_
        refine W.eq (g2 := F0 m 51 ls [.int (iI 10), .int (iI zi)]) rfl ?_
        refine wa_ic_ge (tgt := 64) F dX4_isMadeAsNow_51 (by decide) (by exact ⟨by omega, by omega⟩) (by decide) (fun c51 => absurd c51 (by omega)) (fun c51 => ?_)
        refine lv_aload_n hx hb dX4_isMadeAsNow_54 rfl (lv_at hl 0 rfl) ?_
        refine gX4_47 F hw rfl (v := .ref (ad 0 12)) rfl dX4_isMadeAsNow_55 ?_
        refine lv_iload hx hb dX4_isMadeAsNow_58 (lv_at hl 4 rfl) ?_
        refine wa_aald (g := (fun j => wa_op ad 1 (X1_2 12 j))) (t0 := 3) F hw rfl rfl k hzi (by omega) (by decide) dX4_isMadeAsNow_60 ?_
        refine W.eq (g2 := F0 m 61 ls [va_rf (wa_op ad 1 (X1_2 12 k))]) rfl ?_
        refine wa_goto (tgt := 65) F dX4_isMadeAsNow_61 (by decide) ?_
        refine wa_stq (lv' := [(5, va_rf (wa_op ad 1 (X1_2 12 k))), (0, .ref (ad 0 0)), (1, .ref (ad 1 i)), (2, .int (iI (x_hi S 50 ((S 14 ((S 7 i).toNat)))))), (3, .int (iI al)), (4, .int (iI zi))]) F dX4_isMadeAsNow_65 hl (by decide) rfl (fun ls hl => ?_)
        refine wa_ldq F dX4_isMadeAsNow_67 (lv_at hl 0 rfl) ?_
        refine wa_nn_op (tgt := 77) F dX4_isMadeAsNow_69 (by decide) (fun c69 => ?_) (fun c69 => absurd c69 (by omega))
        rw [wa_op_ref (ad := ad) (kd := 1) c69] at hl
        have hl : lv_has ls 6 [(5, .ref (ad 1 ((X1_2 12 k).toNat))), (0, .ref (ad 0 0)), (1, .ref (ad 1 i)), (2, .int (iI (x_hi S 50 ((S 14 ((S 7 i).toNat)))))), (3, .int (iI al)), (4, .int (iI zi))] := hl
        refine lv_aload_n hx hb dX4_isMadeAsNow_77 rfl (lv_at hl 1 rfl) ?_
        refine lv_aload hx hb dX4_isMadeAsNow_78 (lv_at hl 0 rfl) ?_
        refine lv_iload_n hx hb dX4_isMadeAsNow_80 rfl (lv_at hl 4 rfl) ?_
        refine lv_iload_n hx hb dX4_isMadeAsNow_81 rfl (lv_at hl 3 rfl) ?_
        refine wa_cp (kX4_285 F (c_X4_followSteps l D cy ad S X1_2 T o hwf hxr_X1_2 hin ((X1_2 12 k).toNat) (show (((X1_2 12 k).toNat : Nat) : Int) < S 8 0 by have q3 := (hx14 k); have q4 := c69; omega) (al) ((x_hi S 50 ((S 14 ((S 7 i).toNat))))) (by omega) (by omega)) ⟨by decide, by decide⟩ ⟨rfl, rfl⟩ hw hw rfl rfl rfl (Nat.le_of_ble_eq_true rfl) hl.1 dX4_isMadeAsNow_82 ⟨Nat.le_refl _, Nat.le_refl _⟩) ?_
        refine lv_istore_n (lv' := [(3, .int (iI (x_follow S X1_2 ((X1_2 12 k).toNat) (al) ((x_hi S 50 ((S 14 ((S 7 i).toNat)))))))), (5, .ref (ad 1 ((X1_2 12 k).toNat))), (0, .ref (ad 0 0)), (1, .ref (ad 1 i)), (2, .int (iI (x_hi S 50 ((S 14 ((S 7 i).toNat)))))), (4, .int (iI zi))]) hx hb dX4_isMadeAsNow_85 rfl hl (by decide) rfl (fun ls hl => ?_)
        refine wa_inc (k := 5) (b := (zi + (-1))) (lv' := [(4, .int (iI (zi + (-1)))), (3, .int (iI (x_follow S X1_2 ((X1_2 12 k).toNat) (al) ((x_hi S 50 ((S 14 ((S 7 i).toNat)))))))), (5, .ref (ad 1 ((X1_2 12 k).toNat))), (0, .ref (ad 0 0)), (1, .ref (ad 1 i)), (2, .int (iI (x_hi S 50 ((S 14 ((S 7 i).toNat))))))]) F dX4_isMadeAsNow_86 hl rfl rfl (by decide) rfl (fun ls hl => ?_)
        refine wa_goto (tgt := 39) F dX4_isMadeAsNow_89 (by decide) ?_
        exact ih39 (zi + (-1)) (x_follow S X1_2 ((X1_2 12 k).toNat) (al) ((x_hi S 50 ((S 14 ((S 7 i).toNat)))))) (by omega) (by have q := x_follow_rng hwf X1_2 (X1_2 12 k).toNat al (x_hi S 50 (S 14 (S 7 i).toNat)); omega) (by rw [← hr]; simp only [x_mn]; rw [hff k (by omega), x_follow_eq (X := X1_2) (Y := x_cY S (S 14 (S 7 i).toNat)) (by omega) (fun j hj => by rw [h13 j]; exact hch j hj)]) ls (lv_sub hl [3, 4, 5, 1, 0] rfl)
    exact loop39 ((x_dp S 10 (i : Int)).toNat) ((x_dp S 10 (i : Int)) - 1) 0 (by omega) (by omega) rfl ls (lv_sub hl [3, 4, 2, 1, 0] rfl)
  · skip
    refine wa_const F dX4_isMadeAsNow_7 ?_
    exact wx_eiz F hw hS (bI_f (fun hq => by have := hq.1; omega)).symm hxr (by decide) dX4_isMadeAsNow_8
