/-! contracts of the class: public methods, eighth part: start (laid by program) -/
theorem xr_29 {S S' X : wa_St} (h : xr S X) (h29 : S' 29 0 = S 29 0 + 1) (e : ∀ a b, a = 8 ∨ a = 9 ∨ a = 10 ∨ a = 11 ∨ a = 12 → S' a b = S a b) : xr S' X := by
  obtain ⟨h1, h2, h3, h4, h5, h6, h7, h8⟩ := h
  have e12 := e 12 0 (by decide)
  have e8 := e 8 0 (by decide)
  refine ⟨fun j hj => ?_, h2, fun j => ?_, fun j hj => ?_, fun j => ?_, fun j => ?_, fun j => ?_, fun j hj => ?_⟩
  · rw [e 9 j (by decide), e 10 j (by decide), e 11 j (by decide)]; exact h1 j (by omega)
  · rw [e8]; exact h3 j
  · exact h4 j (by omega)
  · rw [e 9 j (by decide)]; exact h5 j
  · rw [e8]; exact h6 j
  · have := h7 j; omega
  · rw [e 9 j (by decide)]; exact h8 j (by omega)

set_option maxRecDepth 100000 in
set_option maxHeartbeats 4000000 in
/-- start -/
theorem c_X4_start (l : Launch) (hlt : l.stackTraces = false) (D : va_G) (cy : Nat → ClassId) (ad : Nat → Nat → Nat) (S X T : wa_St) (o : Int64) (A : Nat → Prop) (hj : wa_wj A ad (wW cy ad S X T o)) (hA : wa_Up A) (hwf : wf S) (hxr : xr S X) (hin : wx_inj ad S) (i q rg : Int) (ri : wa_r i) (rq : wa_r q) (rrg : wa_r rg) : vx_Met l yX4_start wX4_start ({ frames := 7, cells := 2, slots := 12, locals := 104 } : Room) (wx_pc [.ref (ad 0 0), .int (iI i), .int (iI q), .int (iI rg)] D cy A (fun H => wa_wd D ad (wW cy ad S X T o) H)) (va_Qi (fun r (u : (Nat → Nat → Nat) × wa_St) => r = iI (S 29 0) ∧ k_start S i q rg = 0 ∧ wx_P A cy ad T o S (a_start S i q rg) u) (fun u t => wx_B D cy T o (a_start S i q rg) u t.heap) A) (wx_XC A exA (k_start S i q rg) (wx_P A cy ad T o S S) (wx_B D cy T o S)) 2 12 A := by
  refine wx_en (by decide +kernel) (Nat.le_of_ble_eq_true rfl) ?_
  intro p e s m args below meth c F hTB hno hw ls hl
  have F : wa_fx p s m c meth args cX4_start 7 RX4 "start" (Option.some FieldType.int) D cy := F
  have hw : wa_wd D ad (wW cy ad S X T o) s.heap := hw
  have hl : lv_has ls 7 [(0, .ref (ad 0 0)), (1, .int (iI i)), (2, .int (iI q)), (3, .int (iI rg))] := hl
  obtain ⟨hx, hb, hml, hown, hts⟩ := id F.1
  obtain ⟨hSB, w8, w21, w12, w29, w4, w7, w6, w5, w13, w25, w26, w28, w14, w3, wf17⟩ := id hwf
  obtain ⟨hx1, hXB, hx11, hx12, hx13, hx14, hx15, hx16⟩ := id hxr
  have hS : va_S A s.heap s.heap [] := va_S.rf
  refine lv_aload_n hx hb dX4_start_0 rfl (lv_at hl 0 rfl) ?_
  refine lv_iload_n hx hb dX4_start_1 rfl (lv_at hl 1 rfl) ?_
  refine wx_cq (vX4_63 F hTB hS (c_X4_imageAt l hlt D cy ad S X T o A hj hA hwf hxr hin (i) (by have q0 := ri; exact ⟨by omega, by omega⟩)) ⟨by decide, by decide⟩ ⟨rfl, rfl⟩ hw hw rfl rfl rfl (Nat.le_of_ble_eq_true rfl) hl.1 dX4_start_2 ⟨(Nat.le_of_ble_eq_true rfl), (Nat.le_of_ble_eq_true rfl)⟩) hS (fun E ce q9 u H1 locs1 hE hk0 hp hB hS1 hce hcv hcl => wx_prop (ad, X) F hno hE (by have hni : ¬ f_isImage S i := fun hq => hk0 (if_pos hq); rw [show k_start S i q rg = 1 from if_pos hni, if_neg hni]; exact ⟨rfl, by decide⟩) ⟨hxr, hj, x_ext.rf S ad⟩ hB hS1 hce hcv hcl (Nat.le_of_ble_eq_true rfl) (Nat.le_of_ble_eq_true rfl)) (fun locs hK2 hS => ?_)
  have hK2 : f_isImage S i := hK2
  refine W.eq (g2 := F0 m 5 ls [.ref (ad 1 i.toNat)]) rfl ?_
  refine lv_astore (lv' := [(4, .ref (ad 1 i.toNat)), (0, .ref (ad 0 0)), (1, .int (iI i)), (2, .int (iI q)), (3, .int (iI rg))]) hx hb dX4_start_5 hl (by decide) rfl (fun ls hl => ?_)
  refine lv_iload_n hx hb dX4_start_7 rfl (lv_at hl 3 rfl) ?_
  refine wa_if_lt (tgt := 25) F dX4_start_8 (by decide) (by have q0 := rq; exact ⟨by omega, by omega⟩) (fun c8 => ?_) (fun c8 => ?_)
  · skip
    exact tX4_83 (is := 202) (text := "place or ring is out of range") 2 (((if_neg (not_not_intro hK2)).trans (if_pos (by omega)))) (by decide) rfl (ad, X) F hlt hTB (by decide) hS (wa_fresh hA hw hj (rfl : wW cy ad S X T o 0 0 = some (.inr (4, wx_fs ad S)))) hA hl.1 hno dX4_start_25 dX4_start_28 dX4_start_29 dX4_start_31 dX4_start_34 (by decide) (Nat.le_of_ble_eq_true rfl) (Nat.le_of_ble_eq_true rfl) (Nat.le_of_ble_eq_true rfl) (Nat.le_of_ble_eq_true rfl) (Nat.le_of_ble_eq_true rfl) ⟨hxr, hj, x_ext.rf S ad⟩ (fun H1 hz hk => hw.grow hk)
  · skip
    refine lv_iload_n hx hb dX4_start_11 rfl (lv_at hl 3 rfl) ?_
    refine wa_const F dX4_start_12 ?_
    refine wa_ic_ge (tgt := 25) F dX4_start_13 (by decide) (by have q0 := rq; exact ⟨by omega, by omega⟩) (by decide) (fun c13 => ?_) (fun c13 => ?_)
    · skip
      exact tX4_83 (is := 202) (text := "place or ring is out of range") 2 (((if_neg (not_not_intro hK2)).trans (if_pos (by omega)))) (by decide) rfl (ad, X) F hlt hTB (by decide) hS (wa_fresh hA hw hj (rfl : wW cy ad S X T o 0 0 = some (.inr (4, wx_fs ad S)))) hA hl.1 hno dX4_start_25 dX4_start_28 dX4_start_29 dX4_start_31 dX4_start_34 (by decide) (Nat.le_of_ble_eq_true rfl) (Nat.le_of_ble_eq_true rfl) (Nat.le_of_ble_eq_true rfl) (Nat.le_of_ble_eq_true rfl) (Nat.le_of_ble_eq_true rfl) ⟨hxr, hj, x_ext.rf S ad⟩ (fun H1 hz hk => hw.grow hk)
    · skip
      refine lv_iload_n hx hb dX4_start_16 rfl (lv_at hl 4 rfl) ?_
      refine wa_if_lt (tgt := 25) F dX4_start_17 (by decide) (by have q0 := rrg; exact ⟨by omega, by omega⟩) (fun c17 => ?_) (fun c17 => ?_)
      · skip
        exact tX4_83 (is := 202) (text := "place or ring is out of range") 2 (((if_neg (not_not_intro hK2)).trans (if_pos (by omega)))) (by decide) rfl (ad, X) F hlt hTB (by decide) hS (wa_fresh hA hw hj (rfl : wW cy ad S X T o 0 0 = some (.inr (4, wx_fs ad S)))) hA hl.1 hno dX4_start_25 dX4_start_28 dX4_start_29 dX4_start_31 dX4_start_34 (by decide) (Nat.le_of_ble_eq_true rfl) (Nat.le_of_ble_eq_true rfl) (Nat.le_of_ble_eq_true rfl) (Nat.le_of_ble_eq_true rfl) (Nat.le_of_ble_eq_true rfl) ⟨hxr, hj, x_ext.rf S ad⟩ (fun H1 hz hk => hw.grow hk)
      · skip
        refine lv_iload_n hx hb dX4_start_20 rfl (lv_at hl 4 rfl) ?_
        refine wa_const F dX4_start_21 ?_
        refine wa_ic_le (tgt := 35) F dX4_start_22 (by decide) (by have q0 := rrg; exact ⟨by omega, by omega⟩) (by decide) (fun c22 => ?_) (fun c22 => ?_)
        · skip
          refine lv_aload_n hx hb dX4_start_35 rfl (lv_at hl 1 rfl) ?_
          refine lv_aload hx hb dX4_start_36 (lv_at hl 0 rfl) ?_
          refine lv_iload_n hx hb dX4_start_38 rfl (lv_at hl 3 rfl) ?_
          refine lv_iload_n hx hb dX4_start_39 rfl (lv_at hl 4 rfl) ?_
          refine wa_cq (kX4_204 F (c_X4_bakeFor l D cy ad S X T o hwf hxr hin (i) (show 0 ≤ i ∧ i < S 8 0 by have := hK2; omega) (q) (rg) (show 0 ≤ q ∧ q ≤ 2 by omega) (by have q0 := rrg; exact ⟨by omega, by omega⟩)) ⟨by decide, by decide⟩ ⟨rfl, rfl⟩ hw hw rfl rfl rfl (Nat.le_of_ble_eq_true rfl) hl.1 dX4_start_40 ⟨Nat.le_of_ble_eq_true rfl, Nat.le_of_ble_eq_true rfl⟩) ?_
          refine wa_stq (lv' := [(5, va_rf (wa_op ad 3 (f_bakeFor S i q rg))), (4, .ref (ad 1 i.toNat)), (0, .ref (ad 0 0)), (1, .int (iI i)), (2, .int (iI q)), (3, .int (iI rg))]) F dX4_start_43 hl (by decide) rfl (fun ls hl => ?_)
          refine wa_ldq F dX4_start_45 (lv_at hl 0 rfl) ?_
          refine wa_nu_op (tgt := 69) F dX4_start_47 (by decide) (fun c47 => ?_) (fun c47 => ?_)
          · skip
            exact tX4_70 (is := 211) (text := "there is no bake for it, or there were 30 machines") 3 (((if_neg (not_not_intro hK2)).trans ((if_neg (by omega)).trans (if_pos (by have := (f_bakeFor_rng3 hwf i q rg); omega))))) (by decide) rfl (ad, X) F hlt hTB (by decide) hS (wa_fresh hA hw hj (rfl : wW cy ad S X T o 0 0 = some (.inr (4, wx_fs ad S)))) hA hl.1 hno dX4_start_69 dX4_start_72 dX4_start_73 dX4_start_75 dX4_start_78 (by decide) (Nat.le_of_ble_eq_true rfl) (Nat.le_of_ble_eq_true rfl) (Nat.le_of_ble_eq_true rfl) (Nat.le_of_ble_eq_true rfl) (Nat.le_of_ble_eq_true rfl) ⟨hxr, hj, x_ext.rf S ad⟩ (fun H1 hz hk => hw.grow hk)
          · skip
            rw [wa_op_ref (ad := ad) (kd := 3) c47] at hl
            have hl : lv_has ls 7 [(5, .ref (ad 3 ((f_bakeFor S i q rg).toNat))), (4, .ref (ad 1 i.toNat)), (0, .ref (ad 0 0)), (1, .int (iI i)), (2, .int (iI q)), (3, .int (iI rg))] := hl
            refine lv_aload_n hx hb dX4_start_50 rfl (lv_at hl 2 rfl) ?_
            refine gX4_208 F hw rfl (v := .int (iI (S 29 0))) rfl dX4_start_51 ?_
            refine wa_if_lt (tgt := 69) F dX4_start_54 (by decide) (by have q0 := hSB 29 0; exact ⟨by omega, by omega⟩) (fun c54 => absurd c54 (by omega)) (fun c54 => ?_)
            refine lv_aload_n hx hb dX4_start_57 rfl (lv_at hl 2 rfl) ?_
            refine gX4_208 F hw rfl (v := .int (iI (S 29 0))) rfl dX4_start_58 ?_
            refine lv_aload_n hx hb dX4_start_61 rfl (lv_at hl 2 rfl) ?_
            refine gX4_37 F hw rfl (v := .ref (ad 0 9)) rfl dX4_start_62 ?_
            refine wa_alen (t0 := 4) F hw rfl rfl 30 rfl (by decide) dX4_start_65 ?_
            refine W.eq (g2 := F0 m 66 ls [.int (iI 30), .int (iI (S 29 0))]) rfl ?_
            refine wa_ic_lt (tgt := 79) F dX4_start_66 (by decide) (by have q0 := hSB 29 0; exact ⟨by omega, by omega⟩) (by decide) (fun c66 => ?_) (fun c66 => ?_)
            · skip
              obtain ⟨n, hn9⟩ : ∃ n : Nat, S 29 0 = (n : Int) := ⟨(S 29 0).toNat, by omega⟩
              have hnB : (wW cy ad S X T o) 5 n = none := if_neg (by omega)
              have hbr := f_bakeFor_rng3 hwf i q rg
              refine nX4_35 5 n F hw hj hS (wa_fresh hA hw hj (rfl : (wW cy ad S X T o) 0 0 = some (.inr (4, wx_fs ad S)))) hnB (Nat.le_of_ble_eq_true rfl) (Nat.le_of_ble_eq_true rfl) dX4_start_79 (fun q9 H hw hj1 hS => ?_)
              refine lv_dup hx hb dX4_start_82 rfl ?_
              refine lv_aload_n hx hb dX4_start_83 rfl (lv_at hl 2 rfl) ?_
              refine gX4_208 (kd := 0) (i := 0) (ad := (wa_ad ad 5 n q9)) F hw (rfl : (wa_up (wW cy ad S X T o) 5 n (.inr (3, [.int 0, .null, .int 0, .int 0, .null]))) 0 0 = some (.inr (4, wx_fs ad S))) (v := .int (iI (S 29 0))) rfl dX4_start_84 ?_
              refine lv_aload hx hb dX4_start_87 (lv_at hl 1 rfl) ?_
              refine lv_iload_n hx hb dX4_start_89 rfl (lv_at hl 4 rfl) ?_
              refine lv_iload_n hx hb dX4_start_90 rfl (lv_at hl 5 rfl) ?_
              refine lv_aload hx hb dX4_start_91 (lv_at hl 0 rfl) ?_
              refine W.eq (g2 := F0 m 93 ls [va_rf (some (ad 3 (f_bakeFor S i q rg).toNat)), .int (iI rg), .int (iI q), va_rf (some (ad 1 i.toNat)), .int (iI (n : Int)), .ref ((wa_ad ad 5 n q9) 5 n), .ref q9]) (by rw [hn9]; simp [wa_ad, va_rf]) ?_
              refine wa_cV (kX4_213 F (c_X3_init l D cy (wa_ad ad 5 n q9) (wa_up (wW cy ad S X T o) 5 n (.inr (3, [.int 0, .null, .int 0, .int 0, .null]))) A hj1 hA n (wa_up_s _ _ _ _) (some (ad 1 i.toNat)) (some (ad 3 (f_bakeFor S i q rg).toNat)) q rg) ⟨by decide, by decide⟩ ⟨rfl, rfl⟩ hw rfl rfl (Nat.le_of_ble_eq_true rfl) hl.1 dX4_start_93 ⟨(Nat.le_of_ble_eq_true rfl), (Nat.le_of_ble_eq_true rfl)⟩) hS (fun u0 H locs hj2 hw hS hz9 => ?_)
              replace hw : wa_wd D (wa_ad ad 5 n q9) (wa_up (wa_up (wW cy ad S X T o) 5 n (.inr (3, [.int 0, .null, .int 0, .int 0, .null]))) 5 n (.inr (3, [.int (iI (n : Int)), va_rf (some (ad 1 i.toNat)), .int (iI q), .int (iI rg), va_rf (some (ad 3 (f_bakeFor S i q rg).toNat))]))) H := hw
              replace hj2 : wa_wj A (wa_ad ad 5 n q9) (wa_up (wa_up (wW cy ad S X T o) 5 n (.inr (3, [.int 0, .null, .int 0, .int 0, .null]))) 5 n (.inr (3, [.int (iI (n : Int)), va_rf (some (ad 1 i.toNat)), .int (iI q), .int (iI rg), va_rf (some (ad 3 (f_bakeFor S i q rg).toNat))]))) := hj2
              refine lv_astore (lv' := [(6, .ref q9), (5, .ref (ad 3 ((f_bakeFor S i q rg).toNat))), (4, .ref (ad 1 i.toNat)), (0, .ref (ad 0 0)), (1, .int (iI i)), (2, .int (iI q)), (3, .int (iI rg))]) hx hb dX4_start_96 hl (by decide) rfl (fun ls hl => ?_)
              refine lv_aload_n hx hb dX4_start_98 rfl (lv_at hl 3 rfl) ?_
              refine gX4_37 (kd := 0) (i := 0) (ad := (wa_ad ad 5 n q9)) F hw (rfl : (wa_up (wa_up (wW cy ad S X T o) 5 n (.inr (3, [.int 0, .null, .int 0, .int 0, .null]))) 5 n (.inr (3, [.int (iI (n : Int)), va_rf (some (ad 1 i.toNat)), .int (iI q), .int (iI rg), va_rf (some (ad 3 (f_bakeFor S i q rg).toNat))]))) 0 0 = some (.inr (4, wx_fs ad S))) (v := .ref (ad 0 9)) rfl dX4_start_99 ?_
              refine lv_aload_n hx hb dX4_start_102 rfl (lv_at hl 3 rfl) ?_
              refine gX4_208 (kd := 0) (i := 0) (ad := (wa_ad ad 5 n q9)) F hw (rfl : (wa_up (wa_up (wW cy ad S X T o) 5 n (.inr (3, [.int 0, .null, .int 0, .int 0, .null]))) 5 n (.inr (3, [.int (iI (n : Int)), va_rf (some (ad 1 i.toNat)), .int (iI q), .int (iI rg), va_rf (some (ad 3 (f_bakeFor S i q rg).toNat))]))) 0 0 = some (.inr (4, wx_fs ad S))) (v := .int (iI (S 29 0))) rfl dX4_start_103 ?_
              refine lv_aload hx hb dX4_start_106 (lv_at hl 0 rfl) ?_
              refine W.eq (g2 := F0 m 108 ls [.ref ((wa_ad ad 5 n q9) 5 n), .int (iI (S 29 0)), .ref ((wa_ad ad 5 n q9) 0 9)]) (by simp [wa_ad]) ?_
              refine wa_aast (kd := 0) (i := 9) (kd' := 5) (i' := n) (ad := (wa_ad ad 5 n q9)) (t0 := 4) (ci := 3) (n := 30) (g := wx_in ad 5 (S 29 0)) F hw hj2 hS (rfl : (wa_up (wa_up (wW cy ad S X T o) 5 n (.inr (3, [.int 0, .null, .int 0, .int 0, .null]))) 5 n (.inr (3, [.int (iI (n : Int)), va_rf (some (ad 1 i.toNat)), .int (iI q), .int (iI rg), va_rf (some (ad 3 (f_bakeFor S i q rg).toNat))]))) 0 9 = some (wa_aR (cy 4) 30 (wx_in ad 5 (S 29 0)))) rfl (show (wa_up (wa_up (wW cy ad S X T o) 5 n (.inr (3, [.int 0, .null, .int 0, .int 0, .null]))) 5 n (.inr (3, [.int (iI (n : Int)), va_rf (some (ad 1 i.toNat)), .int (iI q), .int (iI rg), va_rf (some (ad 3 (f_bakeFor S i q rg).toNat))]))) 5 n = some (.inr (3, [.int (iI (n : Int)), va_rf (some (ad 1 i.toNat)), .int (iI q), .int (iI rg), va_rf (some (ad 3 (f_bakeFor S i q rg).toNat))])) from wa_up_s _ _ _ _) rfl n hn9 (by omega) (by decide) dX4_start_108 (fun H locs hw hS => ?_)
              rw [show (wa_ad ad 5 n q9) 5 n = q9 from by simp [wa_ad]] at hw
              replace hj2 := wa_wj.put (kd := 0) (i := 9) (e := (wa_aR (cy 4) 30 (va_up (wx_in ad 5 (S 29 0)) n (some q9)))) hj2 (rfl : (wa_up (wa_up (wW cy ad S X T o) 5 n (.inr (3, [.int 0, .null, .int 0, .int 0, .null]))) 5 n (.inr (3, [.int (iI (n : Int)), va_rf (some (ad 1 i.toNat)), .int (iI q), .int (iI rg), va_rf (some (ad 3 (f_bakeFor S i q rg).toNat))]))) 0 9 = some (wa_aR (cy 4) 30 (wx_in ad 5 (S 29 0))))
              refine lv_aload_n hx hb dX4_start_109 rfl (lv_at hl 3 rfl) ?_
              refine lv_dup hx hb dX4_start_110 rfl ?_
              refine gX4_208 (kd := 0) (i := 0) (ad := (wa_ad ad 5 n q9)) F hw (rfl : (wa_up (wa_up (wa_up (wW cy ad S X T o) 5 n (.inr (3, [.int 0, .null, .int 0, .int 0, .null]))) 5 n (.inr (3, [.int (iI (n : Int)), va_rf (some (ad 1 i.toNat)), .int (iI q), .int (iI rg), va_rf (some (ad 3 (f_bakeFor S i q rg).toNat))]))) 0 9 (wa_aR (cy 4) 30 (va_up (wx_in ad 5 (S 29 0)) n (some q9)))) 0 0 = some (.inr (4, wx_fs ad S))) (v := .int (iI (S 29 0))) rfl dX4_start_111 ?_
              refine wa_const F dX4_start_114 ?_
              refine wa_add F dX4_start_115 ?_
              refine pX4_208 (kd := 0) (i := 0) (ad := (wa_ad ad 5 n q9)) F hw hj2 hS (rfl : (wa_up (wa_up (wa_up (wW cy ad S X T o) 5 n (.inr (3, [.int 0, .null, .int 0, .int 0, .null]))) 5 n (.inr (3, [.int (iI (n : Int)), va_rf (some (ad 1 i.toNat)), .int (iI q), .int (iI rg), va_rf (some (ad 3 (f_bakeFor S i q rg).toNat))]))) 0 9 (wa_aR (cy 4) 30 (va_up (wx_in ad 5 (S 29 0)) n (some q9)))) 0 0 = some (.inr (4, wx_fs ad S))) (Nat.le_of_ble_eq_true rfl) dX4_start_116 (fun H locs hw hS => ?_)
              replace hj2 := wa_wj.put (kd := 0) (i := 0) (e := (.inr (4, (wx_fs ad S).set 8 (.int (iI (S 29 0 + 1)))))) hj2 (rfl : (wa_up (wa_up (wa_up (wW cy ad S X T o) 5 n (.inr (3, [.int 0, .null, .int 0, .int 0, .null]))) 5 n (.inr (3, [.int (iI (n : Int)), va_rf (some (ad 1 i.toNat)), .int (iI q), .int (iI rg), va_rf (some (ad 3 (f_bakeFor S i q rg).toNat))]))) 0 9 (wa_aR (cy 4) 30 (va_up (wx_in ad 5 (S 29 0)) n (some q9)))) 0 0 = some (.inr (4, wx_fs ad S)))
              refine lv_aload hx hb dX4_start_119 (lv_at hl 0 rfl) ?_
              refine W.eq (g2 := F0 m 121 ls [.ref ((wa_ad ad 5 n q9) 5 n)]) (by simp [wa_ad]) ?_
              refine gX4_216 (kd := 5) (i := n) (ad := (wa_ad ad 5 n q9)) F hw (show (wa_up (wa_up (wa_up (wa_up (wW cy ad S X T o) 5 n (.inr (3, [.int 0, .null, .int 0, .int 0, .null]))) 5 n (.inr (3, [.int (iI (n : Int)), va_rf (some (ad 1 i.toNat)), .int (iI q), .int (iI rg), va_rf (some (ad 3 (f_bakeFor S i q rg).toNat))]))) 0 9 (wa_aR (cy 4) 30 (va_up (wx_in ad 5 (S 29 0)) n (some q9)))) 0 0 (.inr (4, (wx_fs ad S).set 8 (.int (iI (S 29 0 + 1)))))) 5 n = some (.inr (3, [.int (iI (n : Int)), va_rf (some (ad 1 i.toNat)), .int (iI q), .int (iI rg), va_rf (some (ad 3 (f_bakeFor S i q rg).toNat))])) from wa_up_s _ _ _ _) (v := .int (iI (n : Int))) rfl dX4_start_121 ?_
              have hfin := wx_allocM (cy := cy) (ad := ad) (T := T) (o := o) hxr (q := q9) hn9 i q rg (by have := hK2; omega) (by omega) (BL := .inr (3, [.int 0, .null, .int 0, .int 0, .null]))
              have hw3 := hw.cg hfin
              have hj3 := wj_cg hj2 hfin
              have hx3 : xr (a_start S i q rg) X := xr_29 hxr (show a_start S i q rg 29 0 = S 29 0 + 1 from wa_s_eq) (fun a b h => by unfold a_start; rw [wa_s_nk (by omega), wa_s_nk (by omega), wa_s_nk (by omega), wa_s_nk (by omega), wa_s_nk (by omega), wa_s_nk (by omega)])
              exact wx_rI ((wa_ad ad 5 n q9), X) F ⟨by rw [hn9], (if_neg (not_not_intro hK2)).trans ((if_neg (by omega)).trans (if_neg (by omega))), ⟨hx3, hj3, fun _ => rfl, fun _ _ => ⟨rfl, rfl⟩, fun _ _ => ⟨rfl, rfl⟩, fun j hj9 => (by have hne : ¬ (j = n) := (by omega); exact (by simp [wa_ad, hne])), fun _ => rfl, fun _ => rfl⟩⟩ hw3 hS (Nat.le_of_ble_eq_true rfl) (Nat.le_of_ble_eq_true rfl) dX4_start_124
            · skip
              exact tX4_70 (is := 211) (text := "there is no bake for it, or there were 30 machines") 3 (((if_neg (not_not_intro hK2)).trans ((if_neg (by omega)).trans (if_pos (by have := (f_bakeFor_rng3 hwf i q rg); omega))))) (by decide) rfl (ad, X) F hlt hTB (by decide) hS (wa_fresh hA hw hj (rfl : wW cy ad S X T o 0 0 = some (.inr (4, wx_fs ad S)))) hA hl.1 hno dX4_start_69 dX4_start_72 dX4_start_73 dX4_start_75 dX4_start_78 (by decide) (Nat.le_of_ble_eq_true rfl) (Nat.le_of_ble_eq_true rfl) (Nat.le_of_ble_eq_true rfl) (Nat.le_of_ble_eq_true rfl) (Nat.le_of_ble_eq_true rfl) ⟨hxr, hj, x_ext.rf S ad⟩ (fun H1 hz hk => hw.grow hk)
        · skip
          exact tX4_83 (is := 202) (text := "place or ring is out of range") 2 (((if_neg (not_not_intro hK2)).trans (if_pos (by omega)))) (by decide) rfl (ad, X) F hlt hTB (by decide) hS (wa_fresh hA hw hj (rfl : wW cy ad S X T o 0 0 = some (.inr (4, wx_fs ad S)))) hA hl.1 hno dX4_start_25 dX4_start_28 dX4_start_29 dX4_start_31 dX4_start_34 (by decide) (Nat.le_of_ble_eq_true rfl) (Nat.le_of_ble_eq_true rfl) (Nat.le_of_ble_eq_true rfl) (Nat.le_of_ble_eq_true rfl) (Nat.le_of_ble_eq_true rfl) ⟨hxr, hj, x_ext.rf S ad⟩ (fun H1 hz hk => hw.grow hk)
