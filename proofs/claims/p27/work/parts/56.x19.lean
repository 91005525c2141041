/-! contracts of the class: public methods, fifth part (laid by program) -/
theorem wa_s_id {S : wa_St} {k j : Nat} {v : Int} (h : S k j = v) : wa_s S k j v = S := by
  funext a b
  unfold wa_s
  by_cases q : a = k ∧ b = j
  · obtain ⟨rfl, rfl⟩ := q
    rw [if_pos ⟨rfl, rfl⟩]; exact h.symm
  · rw [if_neg q]
theorem a_test_t {S : wa_St} {b q : Int} (hq : q ≠ 0) (h : 0 ≤ S 17 b.toNat ∧ S 17 b.toNat ≤ 1) : a_test S b q = wa_s (wa_s S 0 0 0) 19 b.toNat 1 := by
  unfold a_test
  rw [bI_t (Or.inr hq)]
  refine wa_s_id ?_
  rw [wa_s_nk (by decide), wa_s_nk (by decide)]
  by_cases q2 : S 17 b.toNat ≠ 0
  · rw [bI_t (Or.inl q2)]; omega
  · rw [bI_f (by omega)]; omega
theorem a_test_f {S : wa_St} {b q : Int} (hq : q = 0) (h : 0 ≤ S 19 b.toNat ∧ S 19 b.toNat ≤ 1) : a_test S b q = wa_s (wa_s S 0 0 0) 17 b.toNat 1 := by
  unfold a_test
  rw [bI_t (show S 17 b.toNat ≠ 0 ∨ q = 0 from Or.inr hq)]
  congr 1
  refine wa_s_id ?_
  rw [wa_s_nk (by decide)]
  by_cases q2 : S 19 b.toNat ≠ 0
  · rw [bI_t (Or.inl q2)]; omega
  · rw [bI_f (by omega)]; omega

set_option maxRecDepth 100000 in
set_option maxHeartbeats 4000000 in
/-- test -/
theorem c_X4_test (l : Launch) (hlt : l.stackTraces = false) (D : va_G) (cy : Nat → ClassId) (ad : Nat → Nat → Nat) (S X T : wa_St) (o : Int64) (A : Nat → Prop) (hj : wa_wj A ad (wW cy ad S X T o)) (hA : wa_Up A) (hwf : wf S) (hxr : xr S X) (hin : wx_inj ad S) (b9 : Int) (rb9 : wa_r b9) (q : Int) (rq : 0 ≤ q ∧ q ≤ 1) : vx_Met l yX4_test wX4_test ({ frames := 7, cells := 2, slots := 12, locals := 104 } : Room) (wx_pc [.ref (ad 0 0), .int (iI b9), .int (iI q)] D cy A (fun H => wa_wd D ad (wW cy ad S X T o) H)) (va_Qi (fun r (u : (Nat → Nat → Nat) × wa_St) => r = iI (bI (S 17 b9.toNat ≠ 0 ∨ q = 0)) ∧ k_test S b9 = 0 ∧ wx_P A cy ad T o S (a_test S b9 q) u) (fun u t => wx_B D cy T o (a_test S b9 q) u t.heap) A) (wx_XC A exB (k_test S b9) (wx_P A cy ad T o S S) (wx_B D cy T o S)) 2 12 A := by
  refine wx_en (by decide +kernel) (Nat.le_of_ble_eq_true rfl) ?_
  intro p e s m args below meth c F hTB hno hw ls hl
  have F : wa_fx p s m c meth args cX4_test 4 RX4 "test" (Option.some FieldType.boolean) D cy := F
  have hw : wa_wd D ad (wW cy ad S X T o) s.heap := hw
  have hl : lv_has ls 4 [(0, .ref (ad 0 0)), (1, .int (iI b9)), (2, .int (iI q))] := hl
  obtain ⟨hx, hb, hml, hown, hts⟩ := id F.1
  obtain ⟨hSB, w8, w21, w12, w29, w4, w7, w6, w5, w13, w25, w26, w28, w14, w3, wf17⟩ := id hwf
  obtain ⟨hx1, hXB, hx11, hx12, hx13, hx14, hx15, hx16⟩ := id hxr
  have wfb := wf17 b9.toNat
  have hS : va_S A s.heap s.heap [] := va_S.rf
  refine lv_aload_n hx hb dX4_test_0 rfl (lv_at hl 0 rfl) ?_
  refine lv_iload_n hx hb dX4_test_1 rfl (lv_at hl 1 rfl) ?_
  refine wx_cq (vX4_141 F hTB hS (c_X4_bakeAt l hlt D cy ad S X T o A hj hA hwf hxr hin (b9) (by have q0 := rb9; exact ⟨by omega, by omega⟩)) ⟨by decide, by decide⟩ ⟨rfl, rfl⟩ hw hw rfl rfl rfl (Nat.le_of_ble_eq_true rfl) hl.1 dX4_test_2 ⟨(Nat.le_of_ble_eq_true rfl), (Nat.le_of_ble_eq_true rfl)⟩) hS (fun E ce q9 u H1 locs1 hE hk0 hp hB hS1 hce hcv hcl => wx_prop (ad, X) F hno hE (by have hni : ¬ f_isBake S b9 := fun hq => hk0 (if_pos hq); rw [show k_test S b9 = 1 from if_pos hni, if_neg hni]; exact ⟨rfl, by decide⟩) ⟨hxr, hj, x_ext.rf S ad⟩ hB hS1 hce hcv hcl (Nat.le_of_ble_eq_true rfl) (Nat.le_of_ble_eq_true rfl)) (fun locs hK2 hS => ?_)
  have hK2 : f_isBake S b9 := hK2
  refine W.eq (g2 := F0 m 5 ls [.ref (ad 3 b9.toNat)]) rfl ?_
  refine lv_astore_n (lv' := [(3, .ref (ad 3 b9.toNat)), (0, .ref (ad 0 0)), (1, .int (iI b9)), (2, .int (iI q))]) hx hb dX4_test_5 rfl hl (by decide) rfl (fun ls hl => ?_)
  refine lv_aload_n hx hb dX4_test_6 rfl (lv_at hl 0 rfl) ?_
  refine gX4_148 F hw (wW_3 (show ((b9.toNat : Nat) : Int) < S 21 0 by have q := hK2; omega)) (v := .int (iI (S 18 (b9.toNat)))) rfl dX4_test_7 ?_
  refine wa_if_eq (tgt := 23) F dX4_test_10 (by decide) (by have q0 := hSB 18 (b9.toNat); exact ⟨by omega, by omega⟩) (fun c10 => ?_) (fun c10 => ?_)
  · skip
    refine lv_iload_n hx hb dX4_test_23 rfl (lv_at hl 3 rfl) ?_
    refine wa_if_eq (tgt := 35) F dX4_test_24 (by decide) (by have q0 := rq; exact ⟨by omega, by omega⟩) (fun c24 => ?_) (fun c24 => ?_)
    · skip
      refine lv_aload_n hx hb dX4_test_35 rfl (lv_at hl 0 rfl) ?_
      refine wa_const F dX4_test_36 ?_
      refine qX4_157 F hw hj hS (by decide) (show ((b9.toNat : Nat) : Int) < S 21 0 by have q := hK2; omega) dX4_test_37 (fun H locs hw hS => ?_)
      refine lv_aload_n hx hb dX4_test_40 rfl (lv_at hl 0 rfl) ?_
      refine gX4_157 F hw (wW_3 (show ((b9.toNat : Nat) : Int) < S 21 0 by have q := hK2; omega)) (v := .int (iI 1)) (by first | rfl | simp [wx_fI, wx_fB, wx_fM, wa_s]) dX4_test_41 ?_
      rw [a_test_f (by omega) (by omega)]
      exact wx_rZ (ad, X) F (by decide) ⟨congrArg iI (bI_t (Or.inr (by omega))).symm, ((if_neg (not_not_intro hK2)).trans (if_neg (by omega))), ⟨hxr, wj_of hj rfl rfl rfl, x_ext.rf S ad⟩⟩ hw hS (Nat.le_of_ble_eq_true rfl) (Nat.le_of_ble_eq_true rfl) dX4_test_44
    · skip
      refine lv_aload_n hx hb dX4_test_27 rfl (lv_at hl 0 rfl) ?_
      refine wa_const F dX4_test_28 ?_
      refine qX4_154 F hw hj hS (by decide) (show ((b9.toNat : Nat) : Int) < S 21 0 by have q := hK2; omega) dX4_test_29 (fun H locs hw hS => ?_)
      refine wa_goto (tgt := 40) F dX4_test_32 (by decide) ?_
      refine lv_aload_n hx hb dX4_test_40 rfl (lv_at hl 0 rfl) ?_
      refine gX4_157 F hw (wW_3 (show ((b9.toNat : Nat) : Int) < S 21 0 by have q := hK2; omega)) (v := .int (iI (S 17 (b9.toNat)))) (by first | rfl | simp [wx_fI, wx_fB, wx_fM, wa_s]) dX4_test_41 ?_
      rw [a_test_t (by omega) (by omega)]
      exact wx_rZ (ad, X) F (by omega) ⟨congrArg iI (by by_cases q2 : S 17 b9.toNat ≠ 0; (rw [bI_t (Or.inl q2)]; omega); (rw [bI_f (by omega)]; omega)), ((if_neg (not_not_intro hK2)).trans (if_neg (by omega))), ⟨hxr, wj_of hj rfl rfl rfl, x_ext.rf S ad⟩⟩ hw hS (Nat.le_of_ble_eq_true rfl) (Nat.le_of_ble_eq_true rfl) dX4_test_44
  · skip
    exact tX4_70 (is := 152) (text := "the bake is gone") 2 (((if_neg (not_not_intro hK2)).trans (if_pos (by omega)))) (by decide) rfl (ad, X) F hlt hTB (by decide) hS (wa_fresh hA hw hj (rfl : wW cy ad S X T o 0 0 = some (.inr (4, wx_fs ad S)))) hA hl.1 hno dX4_test_13 dX4_test_16 dX4_test_17 dX4_test_19 dX4_test_22 (by decide) (Nat.le_of_ble_eq_true rfl) (Nat.le_of_ble_eq_true rfl) (Nat.le_of_ble_eq_true rfl) (Nat.le_of_ble_eq_true rfl) (Nat.le_of_ble_eq_true rfl) ⟨hxr, hj, x_ext.rf S ad⟩ (fun H1 hz hk => hw.grow hk)
set_option maxRecDepth 100000 in
set_option maxHeartbeats 4000000 in
/-- pass -/
theorem c_X4_pass (l : Launch) (hlt : l.stackTraces = false) (D : va_G) (cy : Nat → ClassId) (ad : Nat → Nat → Nat) (S X T : wa_St) (o : Int64) (A : Nat → Prop) (hj : wa_wj A ad (wW cy ad S X T o)) (hA : wa_Up A) (hwf : wf S) (hxr : xr S X) (hin : wx_inj ad S) (d9 : Int) (rd : wa_r d9) (hday : S 1 0 ≤ 99000 ∧ 0 ≤ S 1 0) : vx_Met l yX4_pass wX4_pass ({ frames := 6, cells := 1, slots := 6, locals := 82 } : Room) (wx_pc [.ref (ad 0 0), .int (iI d9)] D cy A (fun H => wa_wd D ad (wW cy ad S X T o) H)) (va_Qi (fun r (u : (Nat → Nat → Nat) × wa_St) => r = iI ((f_pin (S 21 0).toNat 0 (wa_s S 1 0 (S 1 0 + d9)) 0).2) ∧ k_pass d9 = 0 ∧ wx_P A cy ad T o S ((f_pin (S 21 0).toNat 0 (wa_s S 1 0 (S 1 0 + d9)) 0).1) u) (fun u t => wx_B D cy T o ((f_pin (S 21 0).toNat 0 (wa_s S 1 0 (S 1 0 + d9)) 0).1) u t.heap) A) (wx_XC A exC (k_pass d9) (wx_P A cy ad T o S S) (wx_B D cy T o S)) 1 6 A := by
  refine wx_en (by decide +kernel) (Nat.le_of_ble_eq_true rfl) ?_
  intro p e s m args below meth c F hTB hno hw ls hl
  have F : wa_fx p s m c meth args cX4_pass 7 RX4 "pass" (Option.some FieldType.int) D cy := F
  have hw : wa_wd D ad (wW cy ad S X T o) s.heap := hw
  have hl : lv_has ls 7 [(0, .ref (ad 0 0)), (1, .int (iI d9))] := hl
  obtain ⟨hx, hb, hml, hown, hts⟩ := id F.1
  obtain ⟨hSB, w8, w21, w12, w29, w4, w7, w6, w5, w13, w25, w26, w28, w14, w3, wf17⟩ := id hwf
  obtain ⟨hx1, hXB, hx11, hx12, hx13, hx14, hx15, hx16⟩ := id hxr
  have hS : va_S A s.heap s.heap [] := va_S.rf
  refine lv_iload_n hx hb dX4_pass_0 rfl (lv_at hl 1 rfl) ?_
  refine wa_const F dX4_pass_1 ?_
  refine wa_ic_lt (tgt := 11) F dX4_pass_2 (by decide) (by have q0 := rd; exact ⟨by omega, by omega⟩) (by decide) (fun c2 => ?_) (fun c2 => ?_)
  · skip
    exact tX4_83 (is := 193) (text := "days is out of range") 1 (if_neg (by omega)) (by decide) rfl (ad, X) F hlt hTB (by decide) hS (wa_fresh hA hw hj (rfl : wW cy ad S X T o 0 0 = some (.inr (4, wx_fs ad S)))) hA hl.1 hno dX4_pass_11 dX4_pass_14 dX4_pass_15 dX4_pass_17 dX4_pass_20 (by decide) (Nat.le_of_ble_eq_true rfl) (Nat.le_of_ble_eq_true rfl) (Nat.le_of_ble_eq_true rfl) (Nat.le_of_ble_eq_true rfl) (Nat.le_of_ble_eq_true rfl) ⟨hxr, hj, x_ext.rf S ad⟩ (fun H1 hz hk => hw.grow hk)
  · skip
    refine lv_iload_n hx hb dX4_pass_5 rfl (lv_at hl 1 rfl) ?_
    refine wa_bi F dX4_pass_6 (by decide +kernel) ?_
    refine wa_ic_le (tgt := 21) F dX4_pass_8 (by decide) (by have q0 := rd; exact ⟨by omega, by omega⟩) (by decide) (fun c8 => ?_) (fun c8 => ?_)
    · skip
      refine lv_aload_n hx hb dX4_pass_21 rfl (lv_at hl 0 rfl) ?_
      refine lv_dup hx hb dX4_pass_22 rfl ?_
      refine gX4_178 F hw rfl (v := .int (iI (S 1 0))) rfl dX4_pass_23 ?_
      refine lv_iload_n hx hb dX4_pass_26 rfl (lv_at hl 1 rfl) ?_
      refine wa_add F dX4_pass_27 ?_
      refine qX4_178 F hw hj hS dX4_pass_28 (fun H locs hw hS => ?_)
      have hwf1 : wf (wa_s S 1 0 (S 1 0 + d9)) := wf_day hwf (by omega)
      refine wa_const F dX4_pass_31 ?_
      refine lv_istore_n (lv' := [(2, .int (iI 0)), (0, .ref (ad 0 0)), (1, .int (iI d9))]) hx hb dX4_pass_32 rfl hl (by decide) rfl (fun ls hl => ?_)
      refine lv_aload_n hx hb dX4_pass_33 rfl (lv_at hl 1 rfl) ?_
      refine gX4_31 F hw rfl (v := .ref (ad 0 8)) rfl dX4_pass_34 ?_
      refine lv_astore_n (lv' := [(3, .ref (ad 0 8)), (2, .int (iI 0)), (0, .ref (ad 0 0)), (1, .int (iI d9))]) hx hb dX4_pass_37 rfl hl (by decide) rfl (fun ls hl => ?_)
      refine lv_aload_n hx hb dX4_pass_38 rfl (lv_at hl 0 rfl) ?_
      refine wa_alen (t0 := 2) F hw rfl rfl 60 rfl (by decide) dX4_pass_39 ?_
      refine W.eq (g2 := F0 m 40 ls [.int (iI 60)]) rfl ?_
      refine lv_istore (lv' := [(4, .int (iI 60)), (3, .ref (ad 0 8)), (2, .int (iI 0)), (0, .ref (ad 0 0)), (1, .int (iI d9))]) hx hb dX4_pass_40 hl (by decide) rfl (fun ls hl => ?_)
      refine wa_const F dX4_pass_42 ?_
      refine lv_istore (lv' := [(5, .int (iI 0)), (4, .int (iI 60)), (3, .ref (ad 0 8)), (2, .int (iI 0)), (0, .ref (ad 0 0)), (1, .int (iI d9))]) hx hb dX4_pass_43 hl (by decide) rfl (fun ls hl => ?_)
      have loop45 : ∀ (k : Nat) (jx : Nat) (q : Int) (S0 : wa_St) (H : Heap) (locs : List Loc), (jx + k = 60) → (wf S0) → (∀ a b, a ≠ 18 → S0 a b = (wa_s S 1 0 (S 1 0 + d9)) a b) → (0 ≤ q ∧ q ≤ (jx : Int)) → (f_pin ((S 21 0).toNat - min jx (S 21 0).toNat) (min jx (S 21 0).toNat) S0 q = f_pin (S 21 0).toNat 0 (wa_s S 1 0 (S 1 0 + d9)) 0) → wa_wd D ad (wW cy ad S0 X T o) H → va_S A s.heap H locs → ∀ ls : Array Slot, lv_has ls 7 [(0, .ref (ad 0 0)), (1, .int (iI d9)), (2, .int (iI q)), (3, .ref (ad 0 8)), (4, .int (iI 60)), (5, .int (iI (jx : Int)))] → W p l e ({ frames := 6, cells := 1, slots := 6, locals := 82 } : Room) s m args below meth c H locs (0) (0) (vx_MQ below (va_Qi (fun r (u : (Nat → Nat → Nat) × wa_St) => r = iI ((f_pin (S 21 0).toNat 0 (wa_s S 1 0 (S 1 0 + d9)) 0).2) ∧ k_pass d9 = 0 ∧ wx_P A cy ad T o S ((f_pin (S 21 0).toNat 0 (wa_s S 1 0 (S 1 0 + d9)) 0).1) u) (fun u t => wx_B D cy T o ((f_pin (S 21 0).toNat 0 (wa_s S 1 0 (S 1 0 + d9)) 0).1) u t.heap) A) (wx_XC A exC (k_pass d9) (wx_P A cy ad T o S S) (wx_B D cy T o S)) args s 1 6 A) (F0 m 45 ls []) := by
        intro k
        induction k with
        | zero =>
          intro jx q S0 H locs hk hwf0 hsm rq hr hw hS ls hl
          have e21 : S0 21 0 = S 21 0 := hsm 21 0 (by decide)
          have e8 : S0 8 0 = S 8 0 := hsm 8 0 (by decide)
          have e29 : S0 29 0 = S 29 0 := hsm 29 0 (by decide)
          obtain ⟨hSB, w8, w21, w12, w29, w4, w7, w6, w5, w13, w25, w26, w28, w14, w3, wf17⟩ := id hwf0
          have hxr0 : xr S0 X := xr_same hxr (fun a b h => (hsm a b (by omega)).trans (wa_s_nk (by omega)))
          have hin0 := hin.same e8 e21
          refine lv_iload hx hb dX4_pass_45 (lv_at hl 5 rfl) ?_
          refine lv_iload hx hb dX4_pass_47 (lv_at hl 4 rfl) ?_
          refine wa_ic_ge (tgt := 87) F dX4_pass_49 (by decide) (by exact ⟨by omega, by omega⟩) (by decide) (fun c49 => ?_) (fun c49 => absurd c49 (by omega))
          refine lv_iload_n hx hb dX4_pass_87 rfl (lv_at hl 2 rfl) ?_
          rw [show (f_pin (S 21 0).toNat 0 (wa_s S 1 0 (S 1 0 + d9)) 0).1 = S0 from by rw [← hr, show (S 21 0).toNat - min jx (S 21 0).toNat = 0 by omega]; rfl]
          exact wx_rI (ad, X) F ⟨congrArg iI (by rw [← hr, show (S 21 0).toNat - min jx (S 21 0).toNat = 0 by omega]; rfl), (if_pos (by omega)), ⟨hxr0, wj_of hj e8 e21 e29, x_ext.rf S ad⟩⟩ hw hS (Nat.le_of_ble_eq_true rfl) (Nat.le_of_ble_eq_true rfl) dX4_pass_88
        | succ k ih45 =>
          intro jx q S0 H locs hk hwf0 hsm rq hr hw hS ls hl
          have e21 : S0 21 0 = S 21 0 := hsm 21 0 (by decide)
          have e8 : S0 8 0 = S 8 0 := hsm 8 0 (by decide)
          have e29 : S0 29 0 = S 29 0 := hsm 29 0 (by decide)
          obtain ⟨hSB, w8, w21, w12, w29, w4, w7, w6, w5, w13, w25, w26, w28, w14, w3, wf17⟩ := id hwf0
          have hxr0 : xr S0 X := xr_same hxr (fun a b h => (hsm a b (by omega)).trans (wa_s_nk (by omega)))
          have hin0 := hin.same e8 e21
          refine lv_iload hx hb dX4_pass_45 (lv_at hl 5 rfl) ?_
          refine lv_iload hx hb dX4_pass_47 (lv_at hl 4 rfl) ?_
          refine wa_ic_ge (tgt := 87) F dX4_pass_49 (by decide) (by exact ⟨by omega, by omega⟩) (by decide) (fun c49 => absurd c49 (by omega)) (fun c49 => ?_)
          refine lv_aload_n hx hb dX4_pass_52 rfl (lv_at hl 3 rfl) ?_
          refine lv_iload hx hb dX4_pass_53 (lv_at hl 5 rfl) ?_
          refine wa_aald (g := (wx_in ad 3 (S0 21 0))) (t0 := 2) F hw rfl rfl jx rfl (by omega) (by decide) dX4_pass_55 ?_
          refine wa_stq (lv' := [(6, va_rf (wx_in ad 3 (S0 21 0) jx)), (0, .ref (ad 0 0)), (1, .int (iI d9)), (2, .int (iI q)), (3, .ref (ad 0 8)), (4, .int (iI 60)), (5, .int (iI (jx : Int)))]) F dX4_pass_56 hl (by decide) rfl (fun ls hl => ?_)
          refine wa_ldq F dX4_pass_58 (lv_at hl 0 rfl) ?_
          refine wa_nu_in (tgt := 81) F dX4_pass_60 (by decide) (fun c60 => ?_) (fun c60 => ?_)
          · skip
            refine wa_inc (k := 6) (b := ((jx + 1) : Int)) (lv' := [(5, .int (iI ((jx + 1) : Int))), (6, va_rf (wx_in ad 3 (S0 21 0) jx)), (0, .ref (ad 0 0)), (1, .int (iI d9)), (2, .int (iI q)), (3, .ref (ad 0 8)), (4, .int (iI 60))]) F dX4_pass_81 hl rfl (by omega) (by decide) rfl (fun ls hl => ?_)
            refine wa_goto (tgt := 45) F dX4_pass_84 (by decide) ?_
            exact ih45 (jx + 1) q S0 _ _ (by omega) hwf0 hsm (by omega) (by rw [← hr, show min (jx + 1) (S 21 0).toNat = min jx (S 21 0).toNat by omega]) hw hS ls (lv_sub hl [2, 3, 4, 5, 6, 0] rfl)
          · skip
            rw [wx_in_ref (ad := ad) (kd := 3) c60] at hl
            have hl : lv_has ls 7 [(6, .ref (ad 3 jx)), (0, .ref (ad 0 0)), (1, .int (iI d9)), (2, .int (iI q)), (3, .ref (ad 0 8)), (4, .int (iI 60)), (5, .int (iI (jx : Int)))] := hl
            refine lv_aload_n hx hb dX4_pass_63 rfl (lv_at hl 1 rfl) ?_
            refine lv_aload hx hb dX4_pass_64 (lv_at hl 0 rfl) ?_
            refine wa_cp (kX4_195 F (c_X4_mustGo l D cy ad S0 X T o hwf0 hxr0 hin0 jx c60) ⟨by decide, by decide⟩ ⟨rfl, rfl⟩ hw hw rfl rfl rfl (Nat.le_of_ble_eq_true rfl) hl.1 dX4_pass_66 ⟨Nat.le_of_ble_eq_true rfl, Nat.le_of_ble_eq_true rfl⟩) ?_
            by_cases b66 : x_go S0 jx
            · rw [bI_t b66]
              refine wa_if_eq (tgt := 81) F dX4_pass_69 (by decide) (by decide) (fun c69 => absurd c69 (by decide)) (fun c69 => ?_)
              refine lv_aload hx hb dX4_pass_72 (lv_at hl 0 rfl) ?_
              refine wa_const F dX4_pass_74 ?_
              refine qX4_148 F hw (wj_of hj e8 e21 e29) hS (by decide) c60 dX4_pass_75 (fun H locs hw hS => ?_)
              refine wa_inc (k := 3) (b := (q + 1)) (lv' := [(2, .int (iI (q + 1))), (6, .ref (ad 3 jx)), (0, .ref (ad 0 0)), (1, .int (iI d9)), (3, .ref (ad 0 8)), (4, .int (iI 60)), (5, .int (iI (jx : Int)))]) F dX4_pass_78 hl rfl rfl (by decide) rfl (fun ls hl => ?_)
              refine wa_inc (k := 6) (b := ((jx + 1) : Int)) (lv' := [(5, .int (iI ((jx + 1) : Int))), (2, .int (iI (q + 1))), (6, .ref (ad 3 jx)), (0, .ref (ad 0 0)), (1, .int (iI d9)), (3, .ref (ad 0 8)), (4, .int (iI 60))]) F dX4_pass_81 hl rfl (by omega) (by decide) rfl (fun ls hl => ?_)
              refine wa_goto (tgt := 45) F dX4_pass_84 (by decide) ?_
              exact ih45 (jx + 1) (q + 1) (wa_s S0 18 jx 1) _ _ (by omega) (wf_18 hwf0 jx) (fun a b ha => by rw [wa_s_nk ha]; exact hsm a b ha) (by omega) (by rw [← hr, show min (jx + 1) (S 21 0).toNat = jx + 1 by omega, show min jx (S 21 0).toNat = jx by omega, show (S 21 0).toNat - jx = ((S 21 0).toNat - (jx + 1)) + 1 by omega]; simp only [f_pin]; rw [if_pos b66]) hw hS ls (lv_sub hl [3, 4, 1, 5, 6, 0] rfl)
            · rw [bI_f b66]
              refine wa_if_eq (tgt := 81) F dX4_pass_69 (by decide) (by decide) (fun c69 => ?_) (fun c69 => absurd c69 (by decide))
              refine wa_inc (k := 6) (b := ((jx + 1) : Int)) (lv' := [(5, .int (iI ((jx + 1) : Int))), (6, .ref (ad 3 jx)), (0, .ref (ad 0 0)), (1, .int (iI d9)), (2, .int (iI q)), (3, .ref (ad 0 8)), (4, .int (iI 60))]) F dX4_pass_81 hl rfl (by omega) (by decide) rfl (fun ls hl => ?_)
              refine wa_goto (tgt := 45) F dX4_pass_84 (by decide) ?_
              exact ih45 (jx + 1) q S0 _ _ (by omega) hwf0 hsm (by omega) (by rw [← hr, show min (jx + 1) (S 21 0).toNat = jx + 1 by omega, show min jx (S 21 0).toNat = jx by omega, show (S 21 0).toNat - jx = ((S 21 0).toNat - (jx + 1)) + 1 by omega]; simp only [f_pin]; rw [if_neg b66]) hw hS ls (lv_sub hl [2, 3, 4, 5, 6, 0] rfl)
      exact loop45 (60) 0 0 (wa_s S 1 0 (S 1 0 + d9)) _ _ (by omega) hwf1 (fun _ _ _ => rfl) (by omega) (by rw [show min 0 (S 21 0).toNat = 0 by omega]; rfl) hw hS ls (lv_sub hl [4, 5, 3, 2, 1, 0] rfl)
    · skip
      exact tX4_83 (is := 193) (text := "days is out of range") 1 (if_neg (by omega)) (by decide) rfl (ad, X) F hlt hTB (by decide) hS (wa_fresh hA hw hj (rfl : wW cy ad S X T o 0 0 = some (.inr (4, wx_fs ad S)))) hA hl.1 hno dX4_pass_11 dX4_pass_14 dX4_pass_15 dX4_pass_17 dX4_pass_20 (by decide) (Nat.le_of_ble_eq_true rfl) (Nat.le_of_ble_eq_true rfl) (Nat.le_of_ble_eq_true rfl) (Nat.le_of_ble_eq_true rfl) (Nat.le_of_ble_eq_true rfl) ⟨hxr, hj, x_ext.rf S ad⟩ (fun H1 hz hk => hw.grow hk)
