/-! contracts of the class: public methods, ninth part: add (laid by program) -/
theorem xr_8 {S S' X : wa_St} (h : xr S X) (h8' : S' 8 0 = S 8 0 + 1) (e : ∀ a b, a = 29 ∨ a = 9 ∨ a = 10 ∨ a = 11 ∨ a = 12 → S' a b = S a b) : xr S' X := by
  obtain ⟨h1, h2, h3, h4, h5, h6, h7, h8⟩ := h
  have e12 := e 12 0 (by decide)
  have e29 := e 29 0 (by decide)
  refine ⟨fun j hj => ?_, h2, fun j => ?_, fun j hj => ?_, fun j => ?_, fun j => ?_, fun j => ?_, fun j hj => ?_⟩
  · rw [e 9 j (by decide), e 10 j (by decide), e 11 j (by decide)]; exact h1 j (by omega)
  · have := h3 j; omega
  · exact h4 j (by omega)
  · rw [e 9 j (by decide)]; exact h5 j
  · have := h6 j; omega
  · rw [e29]; exact h7 j
  · rw [e 9 j (by decide)]; exact h8 j (by omega)

set_option maxRecDepth 100000 in
set_option maxHeartbeats 4000000 in
/-- add -/
theorem c_X4_add (l : Launch) (hlt : l.stackTraces = false) (D : va_G) (cy : Nat → ClassId) (ad : Nat → Nat → Nat) (S X T : wa_St) (o : Int64) (A : Nat → Prop) (hj : wa_wj A ad (wW cy ad S X T o)) (hA : wa_Up A) (hwf : wf S) (hxr : xr S X) (hin : wx_inj ad S) (z : Int) (rz : wa_r z) (h6 : ∀ j : Nat, S 8 0 ≤ (j : Int) → S 6 j = 0) (h5 : ∀ j : Nat, 5 * S 8 0 ≤ (j : Int) → S 5 j = 0) : vx_Met l yX4_add wX4_add ({ frames := 7, cells := 3, slots := 18, locals := 104 } : Room) (wx_pc [.ref (ad 0 0), .int (iI z)] D cy A (fun H => wa_wd D ad (wW cy ad S X T o) H)) (va_Qi (fun r (u : (Nat → Nat → Nat) × wa_St) => r = iI (S 8 0) ∧ k_add S z = 0 ∧ wx_P A cy ad T o S (a_add S z) u) (fun u t => wx_B D cy T o (a_add S z) u t.heap) A) (wx_XC A exB (k_add S z) (wx_P A cy ad T o S S) (wx_B D cy T o S)) 3 18 A := by
  refine wx_en (by decide +kernel) (Nat.le_of_ble_eq_true rfl) ?_
  intro p e s m args below meth c F hTB hno hw ls hl
  have F : wa_fx p s m c meth args cX4_add 4 RX4 "add" (Option.some FieldType.int) D cy := F
  have hw : wa_wd D ad (wW cy ad S X T o) s.heap := hw
  have hl : lv_has ls 4 [(0, .ref (ad 0 0)), (1, .int (iI z))] := hl
  obtain ⟨hx, hb, hml, hown, hts⟩ := id F.1
  obtain ⟨hSB, w8, w21, w12, w29, w4, w7, w6, w5, w13, w25, w26, w28, w14, w3, wf17⟩ := id hwf
  obtain ⟨hx1, hXB, hx11, hx12, hx13, hx14, hx15, hx16⟩ := id hxr
  have hS : va_S A s.heap s.heap [] := va_S.rf
  refine lv_iload_n hx hb dX4_add_0 rfl (lv_at hl 1 rfl) ?_
  refine wa_const F dX4_add_1 ?_
  refine wa_ic_ne (tgt := 9) F dX4_add_2 (by decide) (by have q0 := rz; exact ⟨by omega, by omega⟩) (by decide) (fun c2 => ?_) (fun c2 => ?_)
  · skip
    refine lv_aload_n hx hb dX4_add_9 rfl (lv_at hl 0 rfl) ?_
    refine lv_iload_n hx hb dX4_add_10 rfl (lv_at hl 1 rfl) ?_
    refine wx_cq (vX4_63 F hTB hS (c_X4_imageAt l hlt D cy ad S X T o A hj hA hwf hxr hin (z) (by have q0 := rz; exact ⟨by omega, by omega⟩)) ⟨by decide, by decide⟩ ⟨rfl, rfl⟩ hw hw rfl rfl rfl (Nat.le_of_ble_eq_true rfl) hl.1 dX4_add_11 ⟨(Nat.le_of_ble_eq_true rfl), (Nat.le_of_ble_eq_true rfl)⟩) hS (fun E ce q9 u H1 locs1 hE hk0 hp hB hS1 hce hcv hcl => wx_prop (ad, X) F hno hE (by have hni : ¬ f_isImage S z := fun hq => hk0 (if_pos hq); rw [show k_add S z = 1 from if_pos (fun hq => by omega), if_neg hni]; exact ⟨rfl, by decide⟩) ⟨hxr, hj, x_ext.rf S ad⟩ hB hS1 hce hcv hcl (Nat.le_of_ble_eq_true rfl) (Nat.le_of_ble_eq_true rfl)) (fun locs hK11 hS => ?_)
    have hK11 : f_isImage S z := hK11
    refine W.eq (g2 := F0 m 14 ls [.ref (ad 1 z.toNat)]) rfl ?_
    refine lv_astore_n (lv' := [(2, .ref (ad 1 z.toNat)), (0, .ref (ad 0 0)), (1, .int (iI z))]) hx hb dX4_add_14 rfl hl (by decide) rfl (fun ls hl => ?_)
    refine lv_aload_n hx hb dX4_add_15 rfl (lv_at hl 1 rfl) ?_
    refine gX4_67 F hw rfl (v := .int (iI (S 8 0))) rfl dX4_add_16 ?_
    refine wa_if_lt (tgt := 34) F dX4_add_19 (by decide) (by have q0 := hSB 8 0; exact ⟨by omega, by omega⟩) (fun c19 => absurd c19 (by omega)) (fun c19 => ?_)
    refine lv_aload_n hx hb dX4_add_22 rfl (lv_at hl 1 rfl) ?_
    refine gX4_67 F hw rfl (v := .int (iI (S 8 0))) rfl dX4_add_23 ?_
    refine lv_aload_n hx hb dX4_add_26 rfl (lv_at hl 1 rfl) ?_
    refine gX4_25 F hw rfl (v := .ref (ad 0 7)) rfl dX4_add_27 ?_
    refine wa_alen (t0 := 3) F hw rfl rfl 10 rfl (by decide) dX4_add_30 ?_
    refine W.eq (g2 := F0 m 31 ls [.int (iI 10), .int (iI (S 8 0))]) rfl ?_
    refine wa_ic_lt (tgt := 44) F dX4_add_31 (by decide) (by have q0 := hSB 8 0; exact ⟨by omega, by omega⟩) (by decide) (fun c31 => ?_) (fun c31 => ?_)
    · skip
      have hzr : -1 ≤ z ∧ z < S 8 0 := by first | omega | (have := hK11; omega)
      obtain ⟨n, hn9⟩ : ∃ n : Nat, S 8 0 = (n : Int) := ⟨(S 8 0).toNat, by omega⟩
      have hnB : (wW cy ad S X T o) 1 n = none := if_neg (by omega)
      have hn2 : (wW cy ad S X T o) 2 n = none := if_neg (by omega)
      refine nX4_23 1 n F hw hj hS (wa_fresh hA hw hj (rfl : (wW cy ad S X T o) 0 0 = some (.inr (4, wx_fs ad S)))) hnB (Nat.le_of_ble_eq_true rfl) (Nat.le_of_ble_eq_true rfl) dX4_add_44 (fun q9 H hw hj1 hS => ?_)
      refine lv_dup hx hb dX4_add_47 rfl ?_
      refine lv_aload_n hx hb dX4_add_48 rfl (lv_at hl 1 rfl) ?_
      refine gX4_67 (kd := 0) (i := 0) (ad := (wa_ad ad 1 n q9)) F hw (rfl : (wa_up (wW cy ad S X T o) 1 n (.inr (1, [.int 0, .null, .null, .int 0, .null, .int 0]))) 0 0 = some (.inr (4, wx_fs ad S))) (v := .int (iI (S 8 0))) rfl dX4_add_49 ?_
      refine lv_aload_n hx hb dX4_add_52 rfl (lv_at hl 0 rfl) ?_
      refine W.eq (g2 := F0 m 53 ls [va_rf (wa_op ad 1 z), .int (iI (n : Int)), .ref ((wa_ad ad 1 n q9) 1 n), .ref q9]) (by rw [hn9]; first | (rw [wa_op_n (by omega)]; simp [wa_ad, va_rf]) | (rw [wa_op_s (by omega)]; simp [wa_ad, va_rf])) ?_
      refine wa_cV (kX4_77 F (c_X1_init l D cy (wa_ad ad 1 n q9) (wa_up (wW cy ad S X T o) 1 n (.inr (1, [.int 0, .null, .null, .int 0, .null, .int 0]))) A hj1 hA n (wa_up_s _ _ _ _) (show (wa_up (wW cy ad S X T o) 1 n (.inr (1, [.int 0, .null, .null, .int 0, .null, .int 0]))) 2 n = none from hn2) (wa_op ad 1 z)) ⟨by decide, by decide⟩ ⟨rfl, rfl⟩ hw rfl rfl (Nat.le_of_ble_eq_true rfl) hl.1 dX4_add_53 ⟨(Nat.le_of_ble_eq_true rfl), (Nat.le_of_ble_eq_true rfl)⟩) hS (fun u9 H locs hj2 hw hS hz9 => ?_)
      replace hw : wa_wd D (wa_ad (wa_ad ad 1 n q9) 2 n u9) (wa_up (wa_up (wa_up (wW cy ad S X T o) 1 n (.inr (1, [.int 0, .null, .null, .int 0, .null, .int 0]))) 2 n (wa_aI (cy 0) 5 (fun _ => 0))) 1 n (.inr (1, [.int (iI (n : Int)), va_rf (wa_op ad 1 z), .ref u9, .int 0, .null, .int 0]))) H := hw
      replace hj2 : wa_wj A (wa_ad (wa_ad ad 1 n q9) 2 n u9) (wa_up (wa_up (wa_up (wW cy ad S X T o) 1 n (.inr (1, [.int 0, .null, .null, .int 0, .null, .int 0]))) 2 n (wa_aI (cy 0) 5 (fun _ => 0))) 1 n (.inr (1, [.int (iI (n : Int)), va_rf (wa_op ad 1 z), .ref u9, .int 0, .null, .int 0]))) := hj2
      refine lv_astore_n (lv' := [(3, .ref q9), (2, .ref (ad 1 z.toNat)), (0, .ref (ad 0 0)), (1, .int (iI z))]) hx hb dX4_add_56 rfl hl (by decide) rfl (fun ls hl => ?_)
      refine lv_aload_n hx hb dX4_add_57 rfl (lv_at hl 2 rfl) ?_
      refine gX4_25 (kd := 0) (i := 0) (ad := (wa_ad (wa_ad ad 1 n q9) 2 n u9)) F hw (rfl : (wa_up (wa_up (wa_up (wW cy ad S X T o) 1 n (.inr (1, [.int 0, .null, .null, .int 0, .null, .int 0]))) 2 n (wa_aI (cy 0) 5 (fun _ => 0))) 1 n (.inr (1, [.int (iI (n : Int)), va_rf (wa_op ad 1 z), .ref u9, .int 0, .null, .int 0]))) 0 0 = some (.inr (4, wx_fs ad S))) (v := .ref (ad 0 7)) rfl dX4_add_58 ?_
      refine lv_aload_n hx hb dX4_add_61 rfl (lv_at hl 2 rfl) ?_
      refine gX4_67 (kd := 0) (i := 0) (ad := (wa_ad (wa_ad ad 1 n q9) 2 n u9)) F hw (rfl : (wa_up (wa_up (wa_up (wW cy ad S X T o) 1 n (.inr (1, [.int 0, .null, .null, .int 0, .null, .int 0]))) 2 n (wa_aI (cy 0) 5 (fun _ => 0))) 1 n (.inr (1, [.int (iI (n : Int)), va_rf (wa_op ad 1 z), .ref u9, .int 0, .null, .int 0]))) 0 0 = some (.inr (4, wx_fs ad S))) (v := .int (iI (S 8 0))) rfl dX4_add_62 ?_
      refine lv_aload_n hx hb dX4_add_65 rfl (lv_at hl 0 rfl) ?_
      refine W.eq (g2 := F0 m 66 ls [.ref ((wa_ad (wa_ad ad 1 n q9) 2 n u9) 1 n), .int (iI (S 8 0)), .ref ((wa_ad (wa_ad ad 1 n q9) 2 n u9) 0 7)]) (by simp [wa_ad]) ?_
      refine wa_aast (kd := 0) (i := 7) (kd' := 1) (i' := n) (ad := (wa_ad (wa_ad ad 1 n q9) 2 n u9)) (t0 := 3) (ci := 1) (n := 10) (g := wx_in ad 1 (S 8 0)) F hw hj2 hS (rfl : (wa_up (wa_up (wa_up (wW cy ad S X T o) 1 n (.inr (1, [.int 0, .null, .null, .int 0, .null, .int 0]))) 2 n (wa_aI (cy 0) 5 (fun _ => 0))) 1 n (.inr (1, [.int (iI (n : Int)), va_rf (wa_op ad 1 z), .ref u9, .int 0, .null, .int 0]))) 0 7 = some (wa_aR (cy 3) 10 (wx_in ad 1 (S 8 0)))) rfl (show (wa_up (wa_up (wa_up (wW cy ad S X T o) 1 n (.inr (1, [.int 0, .null, .null, .int 0, .null, .int 0]))) 2 n (wa_aI (cy 0) 5 (fun _ => 0))) 1 n (.inr (1, [.int (iI (n : Int)), va_rf (wa_op ad 1 z), .ref u9, .int 0, .null, .int 0]))) 1 n = some (.inr (1, [.int (iI (n : Int)), va_rf (wa_op ad 1 z), .ref u9, .int 0, .null, .int 0])) from wa_up_s _ _ _ _) rfl n hn9 (by omega) (by decide) dX4_add_66 (fun H locs hw hS => ?_)
      rw [show (wa_ad (wa_ad ad 1 n q9) 2 n u9) 1 n = q9 from by simp [wa_ad]] at hw
      replace hj2 := wa_wj.put (kd := 0) (i := 7) (e := (wa_aR (cy 3) 10 (va_up (wx_in ad 1 (S 8 0)) n (some q9)))) hj2 (rfl : (wa_up (wa_up (wa_up (wW cy ad S X T o) 1 n (.inr (1, [.int 0, .null, .null, .int 0, .null, .int 0]))) 2 n (wa_aI (cy 0) 5 (fun _ => 0))) 1 n (.inr (1, [.int (iI (n : Int)), va_rf (wa_op ad 1 z), .ref u9, .int 0, .null, .int 0]))) 0 7 = some (wa_aR (cy 3) 10 (wx_in ad 1 (S 8 0))))
      refine lv_aload_n hx hb dX4_add_67 rfl (lv_at hl 2 rfl) ?_
      refine lv_dup hx hb dX4_add_68 rfl ?_
      refine gX4_67 (kd := 0) (i := 0) (ad := (wa_ad (wa_ad ad 1 n q9) 2 n u9)) F hw (rfl : (wa_up (wa_up (wa_up (wa_up (wW cy ad S X T o) 1 n (.inr (1, [.int 0, .null, .null, .int 0, .null, .int 0]))) 2 n (wa_aI (cy 0) 5 (fun _ => 0))) 1 n (.inr (1, [.int (iI (n : Int)), va_rf (wa_op ad 1 z), .ref u9, .int 0, .null, .int 0]))) 0 7 (wa_aR (cy 3) 10 (va_up (wx_in ad 1 (S 8 0)) n (some q9)))) 0 0 = some (.inr (4, wx_fs ad S))) (v := .int (iI (S 8 0))) rfl dX4_add_69 ?_
      refine wa_const F dX4_add_72 ?_
      refine wa_add F dX4_add_73 ?_
      refine pX4_67 (kd := 0) (i := 0) (ad := (wa_ad (wa_ad ad 1 n q9) 2 n u9)) F hw hj2 hS (rfl : (wa_up (wa_up (wa_up (wa_up (wW cy ad S X T o) 1 n (.inr (1, [.int 0, .null, .null, .int 0, .null, .int 0]))) 2 n (wa_aI (cy 0) 5 (fun _ => 0))) 1 n (.inr (1, [.int (iI (n : Int)), va_rf (wa_op ad 1 z), .ref u9, .int 0, .null, .int 0]))) 0 7 (wa_aR (cy 3) 10 (va_up (wx_in ad 1 (S 8 0)) n (some q9)))) 0 0 = some (.inr (4, wx_fs ad S))) (Nat.le_of_ble_eq_true rfl) dX4_add_74 (fun H locs hw hS => ?_)
      replace hj2 := wa_wj.put (kd := 0) (i := 0) (e := (.inr (4, (wx_fs ad S).set 4 (.int (iI (S 8 0 + 1)))))) hj2 (rfl : (wa_up (wa_up (wa_up (wa_up (wW cy ad S X T o) 1 n (.inr (1, [.int 0, .null, .null, .int 0, .null, .int 0]))) 2 n (wa_aI (cy 0) 5 (fun _ => 0))) 1 n (.inr (1, [.int (iI (n : Int)), va_rf (wa_op ad 1 z), .ref u9, .int 0, .null, .int 0]))) 0 7 (wa_aR (cy 3) 10 (va_up (wx_in ad 1 (S 8 0)) n (some q9)))) 0 0 = some (.inr (4, wx_fs ad S)))
      refine lv_aload_n hx hb dX4_add_77 rfl (lv_at hl 0 rfl) ?_
      refine W.eq (g2 := F0 m 78 ls [.ref ((wa_ad (wa_ad ad 1 n q9) 2 n u9) 1 n)]) (by simp [wa_ad]) ?_
      refine gX4_80 (kd := 1) (i := n) (ad := (wa_ad (wa_ad ad 1 n q9) 2 n u9)) F hw (show (wa_up (wa_up (wa_up (wa_up (wa_up (wW cy ad S X T o) 1 n (.inr (1, [.int 0, .null, .null, .int 0, .null, .int 0]))) 2 n (wa_aI (cy 0) 5 (fun _ => 0))) 1 n (.inr (1, [.int (iI (n : Int)), va_rf (wa_op ad 1 z), .ref u9, .int 0, .null, .int 0]))) 0 7 (wa_aR (cy 3) 10 (va_up (wx_in ad 1 (S 8 0)) n (some q9)))) 0 0 (.inr (4, (wx_fs ad S).set 4 (.int (iI (S 8 0 + 1)))))) 1 n = some (.inr (1, [.int (iI (n : Int)), va_rf (wa_op ad 1 z), .ref u9, .int 0, .null, .int 0])) from wa_up_s _ _ _ _) (v := .int (iI (n : Int))) rfl dX4_add_78 ?_
      have hfin := wx_allocI (cy := cy) (ad := ad) (T := T) (o := o) hwf hxr (q := q9) (r := u9) hn9 z hzr (h6 n (by omega)) (fun j hj9 => h5 _ (by omega)) (BL := .inr (1, [.int 0, .null, .null, .int 0, .null, .int 0]))
      have hw3 := hw.cg hfin
      have hj3 := wj_cg hj2 hfin
      have hx3 : xr (a_add S z) (wa_s X 20 n 0) := xr_8 (xr_20 hxr n (by omega)) (show a_add S z 8 0 = S 8 0 + 1 from wa_s_eq) (fun a b h => by unfold a_add; rw [wa_s_nk (by omega), wa_s_nk (by omega), wa_s_nk (by omega), wa_s_nk (by omega)])
      exact wx_rI ((wa_ad (wa_ad ad 1 n q9) 2 n u9), wa_s X 20 n 0) F ⟨by rw [hn9], (if_neg (not_not_intro (show -1 ≤ z ∧ z ≤ S 8 0 - 1 by omega))).trans (if_neg (by omega)), ⟨hx3, hj3, fun _ => rfl, fun j hj9 => (by have hne : ¬ (j = n) := (by omega); exact ⟨by simp [wa_ad, hne], by simp [wa_ad, hne]⟩), fun _ _ => ⟨rfl, rfl⟩, fun _ _ => rfl, fun _ => rfl, fun _ => rfl⟩⟩ hw3 hS (Nat.le_of_ble_eq_true rfl) (Nat.le_of_ble_eq_true rfl) dX4_add_81
    · skip
      exact tX4_70 (is := 72) (text := "there are 10 images") 2 (((if_neg (not_not_intro (show -1 ≤ z ∧ z ≤ S 8 0 - 1 by first | omega | (have := hK11; omega)))).trans (if_pos (by omega)))) (by decide) rfl (ad, X) F hlt hTB (by decide) hS (wa_fresh hA hw hj (rfl : wW cy ad S X T o 0 0 = some (.inr (4, wx_fs ad S)))) hA hl.1 hno dX4_add_34 dX4_add_37 dX4_add_38 dX4_add_40 dX4_add_43 (by decide) (Nat.le_of_ble_eq_true rfl) (Nat.le_of_ble_eq_true rfl) (Nat.le_of_ble_eq_true rfl) (Nat.le_of_ble_eq_true rfl) (Nat.le_of_ble_eq_true rfl) ⟨hxr, hj, x_ext.rf S ad⟩ (fun H1 hz hk => hw.grow hk)
  · skip
    refine lv_null hx hb dX4_add_5 ?_
    refine wa_goto (tgt := 14) F dX4_add_6 (by decide) ?_
    refine lv_astore_nN (lv' := [(2, .null), (0, .ref (ad 0 0)), (1, .int (iI z))]) hx hb dX4_add_14 rfl hl (by decide) rfl (fun ls hl => ?_)
    refine lv_aload_n hx hb dX4_add_15 rfl (lv_at hl 1 rfl) ?_
    refine gX4_67 F hw rfl (v := .int (iI (S 8 0))) rfl dX4_add_16 ?_
    refine wa_if_lt (tgt := 34) F dX4_add_19 (by decide) (by have q0 := hSB 8 0; exact ⟨by omega, by omega⟩) (fun c19 => absurd c19 (by omega)) (fun c19 => ?_)
    refine lv_aload_n hx hb dX4_add_22 rfl (lv_at hl 1 rfl) ?_
    refine gX4_67 F hw rfl (v := .int (iI (S 8 0))) rfl dX4_add_23 ?_
    refine lv_aload_n hx hb dX4_add_26 rfl (lv_at hl 1 rfl) ?_
    refine gX4_25 F hw rfl (v := .ref (ad 0 7)) rfl dX4_add_27 ?_
    refine wa_alen (t0 := 3) F hw rfl rfl 10 rfl (by decide) dX4_add_30 ?_
    refine W.eq (g2 := F0 m 31 ls [.int (iI 10), .int (iI (S 8 0))]) rfl ?_
    refine wa_ic_lt (tgt := 44) F dX4_add_31 (by decide) (by have q0 := hSB 8 0; exact ⟨by omega, by omega⟩) (by decide) (fun c31 => ?_) (fun c31 => ?_)
    · skip
      have hzr : -1 ≤ z ∧ z < S 8 0 := by first | omega | (have := hK11; omega)
      obtain ⟨n, hn9⟩ : ∃ n : Nat, S 8 0 = (n : Int) := ⟨(S 8 0).toNat, by omega⟩
      have hnB : (wW cy ad S X T o) 1 n = none := if_neg (by omega)
      have hn2 : (wW cy ad S X T o) 2 n = none := if_neg (by omega)
      refine nX4_23 1 n F hw hj hS (wa_fresh hA hw hj (rfl : (wW cy ad S X T o) 0 0 = some (.inr (4, wx_fs ad S)))) hnB (Nat.le_of_ble_eq_true rfl) (Nat.le_of_ble_eq_true rfl) dX4_add_44 (fun q9 H hw hj1 hS => ?_)
      refine lv_dup hx hb dX4_add_47 rfl ?_
      refine lv_aload_n hx hb dX4_add_48 rfl (lv_at hl 1 rfl) ?_
      refine gX4_67 (kd := 0) (i := 0) (ad := (wa_ad ad 1 n q9)) F hw (rfl : (wa_up (wW cy ad S X T o) 1 n (.inr (1, [.int 0, .null, .null, .int 0, .null, .int 0]))) 0 0 = some (.inr (4, wx_fs ad S))) (v := .int (iI (S 8 0))) rfl dX4_add_49 ?_
      refine lv_aload_nN hx hb dX4_add_52 rfl (lv_at hl 0 rfl) ?_
      refine W.eq (g2 := F0 m 53 ls [va_rf (wa_op ad 1 z), .int (iI (n : Int)), .ref ((wa_ad ad 1 n q9) 1 n), .ref q9]) (by rw [hn9]; first | (rw [wa_op_n (by omega)]; simp [wa_ad, va_rf]) | (rw [wa_op_s (by omega)]; simp [wa_ad, va_rf])) ?_
      refine wa_cV (kX4_77 F (c_X1_init l D cy (wa_ad ad 1 n q9) (wa_up (wW cy ad S X T o) 1 n (.inr (1, [.int 0, .null, .null, .int 0, .null, .int 0]))) A hj1 hA n (wa_up_s _ _ _ _) (show (wa_up (wW cy ad S X T o) 1 n (.inr (1, [.int 0, .null, .null, .int 0, .null, .int 0]))) 2 n = none from hn2) (wa_op ad 1 z)) ⟨by decide, by decide⟩ ⟨rfl, rfl⟩ hw rfl rfl (Nat.le_of_ble_eq_true rfl) hl.1 dX4_add_53 ⟨(Nat.le_of_ble_eq_true rfl), (Nat.le_of_ble_eq_true rfl)⟩) hS (fun u9 H locs hj2 hw hS hz9 => ?_)
      replace hw : wa_wd D (wa_ad (wa_ad ad 1 n q9) 2 n u9) (wa_up (wa_up (wa_up (wW cy ad S X T o) 1 n (.inr (1, [.int 0, .null, .null, .int 0, .null, .int 0]))) 2 n (wa_aI (cy 0) 5 (fun _ => 0))) 1 n (.inr (1, [.int (iI (n : Int)), va_rf (wa_op ad 1 z), .ref u9, .int 0, .null, .int 0]))) H := hw
      replace hj2 : wa_wj A (wa_ad (wa_ad ad 1 n q9) 2 n u9) (wa_up (wa_up (wa_up (wW cy ad S X T o) 1 n (.inr (1, [.int 0, .null, .null, .int 0, .null, .int 0]))) 2 n (wa_aI (cy 0) 5 (fun _ => 0))) 1 n (.inr (1, [.int (iI (n : Int)), va_rf (wa_op ad 1 z), .ref u9, .int 0, .null, .int 0]))) := hj2
      refine lv_astore_n (lv' := [(3, .ref q9), (2, .null), (0, .ref (ad 0 0)), (1, .int (iI z))]) hx hb dX4_add_56 rfl hl (by decide) rfl (fun ls hl => ?_)
      refine lv_aload_n hx hb dX4_add_57 rfl (lv_at hl 2 rfl) ?_
      refine gX4_25 (kd := 0) (i := 0) (ad := (wa_ad (wa_ad ad 1 n q9) 2 n u9)) F hw (rfl : (wa_up (wa_up (wa_up (wW cy ad S X T o) 1 n (.inr (1, [.int 0, .null, .null, .int 0, .null, .int 0]))) 2 n (wa_aI (cy 0) 5 (fun _ => 0))) 1 n (.inr (1, [.int (iI (n : Int)), va_rf (wa_op ad 1 z), .ref u9, .int 0, .null, .int 0]))) 0 0 = some (.inr (4, wx_fs ad S))) (v := .ref (ad 0 7)) rfl dX4_add_58 ?_
      refine lv_aload_n hx hb dX4_add_61 rfl (lv_at hl 2 rfl) ?_
      refine gX4_67 (kd := 0) (i := 0) (ad := (wa_ad (wa_ad ad 1 n q9) 2 n u9)) F hw (rfl : (wa_up (wa_up (wa_up (wW cy ad S X T o) 1 n (.inr (1, [.int 0, .null, .null, .int 0, .null, .int 0]))) 2 n (wa_aI (cy 0) 5 (fun _ => 0))) 1 n (.inr (1, [.int (iI (n : Int)), va_rf (wa_op ad 1 z), .ref u9, .int 0, .null, .int 0]))) 0 0 = some (.inr (4, wx_fs ad S))) (v := .int (iI (S 8 0))) rfl dX4_add_62 ?_
      refine lv_aload_n hx hb dX4_add_65 rfl (lv_at hl 0 rfl) ?_
      refine W.eq (g2 := F0 m 66 ls [.ref ((wa_ad (wa_ad ad 1 n q9) 2 n u9) 1 n), .int (iI (S 8 0)), .ref ((wa_ad (wa_ad ad 1 n q9) 2 n u9) 0 7)]) (by simp [wa_ad]) ?_
      refine wa_aast (kd := 0) (i := 7) (kd' := 1) (i' := n) (ad := (wa_ad (wa_ad ad 1 n q9) 2 n u9)) (t0 := 3) (ci := 1) (n := 10) (g := wx_in ad 1 (S 8 0)) F hw hj2 hS (rfl : (wa_up (wa_up (wa_up (wW cy ad S X T o) 1 n (.inr (1, [.int 0, .null, .null, .int 0, .null, .int 0]))) 2 n (wa_aI (cy 0) 5 (fun _ => 0))) 1 n (.inr (1, [.int (iI (n : Int)), va_rf (wa_op ad 1 z), .ref u9, .int 0, .null, .int 0]))) 0 7 = some (wa_aR (cy 3) 10 (wx_in ad 1 (S 8 0)))) rfl (show (wa_up (wa_up (wa_up (wW cy ad S X T o) 1 n (.inr (1, [.int 0, .null, .null, .int 0, .null, .int 0]))) 2 n (wa_aI (cy 0) 5 (fun _ => 0))) 1 n (.inr (1, [.int (iI (n : Int)), va_rf (wa_op ad 1 z), .ref u9, .int 0, .null, .int 0]))) 1 n = some (.inr (1, [.int (iI (n : Int)), va_rf (wa_op ad 1 z), .ref u9, .int 0, .null, .int 0])) from wa_up_s _ _ _ _) rfl n hn9 (by omega) (by decide) dX4_add_66 (fun H locs hw hS => ?_)
      rw [show (wa_ad (wa_ad ad 1 n q9) 2 n u9) 1 n = q9 from by simp [wa_ad]] at hw
      replace hj2 := wa_wj.put (kd := 0) (i := 7) (e := (wa_aR (cy 3) 10 (va_up (wx_in ad 1 (S 8 0)) n (some q9)))) hj2 (rfl : (wa_up (wa_up (wa_up (wW cy ad S X T o) 1 n (.inr (1, [.int 0, .null, .null, .int 0, .null, .int 0]))) 2 n (wa_aI (cy 0) 5 (fun _ => 0))) 1 n (.inr (1, [.int (iI (n : Int)), va_rf (wa_op ad 1 z), .ref u9, .int 0, .null, .int 0]))) 0 7 = some (wa_aR (cy 3) 10 (wx_in ad 1 (S 8 0))))
      refine lv_aload_n hx hb dX4_add_67 rfl (lv_at hl 2 rfl) ?_
      refine lv_dup hx hb dX4_add_68 rfl ?_
      refine gX4_67 (kd := 0) (i := 0) (ad := (wa_ad (wa_ad ad 1 n q9) 2 n u9)) F hw (rfl : (wa_up (wa_up (wa_up (wa_up (wW cy ad S X T o) 1 n (.inr (1, [.int 0, .null, .null, .int 0, .null, .int 0]))) 2 n (wa_aI (cy 0) 5 (fun _ => 0))) 1 n (.inr (1, [.int (iI (n : Int)), va_rf (wa_op ad 1 z), .ref u9, .int 0, .null, .int 0]))) 0 7 (wa_aR (cy 3) 10 (va_up (wx_in ad 1 (S 8 0)) n (some q9)))) 0 0 = some (.inr (4, wx_fs ad S))) (v := .int (iI (S 8 0))) rfl dX4_add_69 ?_
      refine wa_const F dX4_add_72 ?_
      refine wa_add F dX4_add_73 ?_
      refine pX4_67 (kd := 0) (i := 0) (ad := (wa_ad (wa_ad ad 1 n q9) 2 n u9)) F hw hj2 hS (rfl : (wa_up (wa_up (wa_up (wa_up (wW cy ad S X T o) 1 n (.inr (1, [.int 0, .null, .null, .int 0, .null, .int 0]))) 2 n (wa_aI (cy 0) 5 (fun _ => 0))) 1 n (.inr (1, [.int (iI (n : Int)), va_rf (wa_op ad 1 z), .ref u9, .int 0, .null, .int 0]))) 0 7 (wa_aR (cy 3) 10 (va_up (wx_in ad 1 (S 8 0)) n (some q9)))) 0 0 = some (.inr (4, wx_fs ad S))) (Nat.le_of_ble_eq_true rfl) dX4_add_74 (fun H locs hw hS => ?_)
      replace hj2 := wa_wj.put (kd := 0) (i := 0) (e := (.inr (4, (wx_fs ad S).set 4 (.int (iI (S 8 0 + 1)))))) hj2 (rfl : (wa_up (wa_up (wa_up (wa_up (wW cy ad S X T o) 1 n (.inr (1, [.int 0, .null, .null, .int 0, .null, .int 0]))) 2 n (wa_aI (cy 0) 5 (fun _ => 0))) 1 n (.inr (1, [.int (iI (n : Int)), va_rf (wa_op ad 1 z), .ref u9, .int 0, .null, .int 0]))) 0 7 (wa_aR (cy 3) 10 (va_up (wx_in ad 1 (S 8 0)) n (some q9)))) 0 0 = some (.inr (4, wx_fs ad S)))
      refine lv_aload_n hx hb dX4_add_77 rfl (lv_at hl 0 rfl) ?_
      refine W.eq (g2 := F0 m 78 ls [.ref ((wa_ad (wa_ad ad 1 n q9) 2 n u9) 1 n)]) (by simp [wa_ad]) ?_
      refine gX4_80 (kd := 1) (i := n) (ad := (wa_ad (wa_ad ad 1 n q9) 2 n u9)) F hw (show (wa_up (wa_up (wa_up (wa_up (wa_up (wW cy ad S X T o) 1 n (.inr (1, [.int 0, .null, .null, .int 0, .null, .int 0]))) 2 n (wa_aI (cy 0) 5 (fun _ => 0))) 1 n (.inr (1, [.int (iI (n : Int)), va_rf (wa_op ad 1 z), .ref u9, .int 0, .null, .int 0]))) 0 7 (wa_aR (cy 3) 10 (va_up (wx_in ad 1 (S 8 0)) n (some q9)))) 0 0 (.inr (4, (wx_fs ad S).set 4 (.int (iI (S 8 0 + 1)))))) 1 n = some (.inr (1, [.int (iI (n : Int)), va_rf (wa_op ad 1 z), .ref u9, .int 0, .null, .int 0])) from wa_up_s _ _ _ _) (v := .int (iI (n : Int))) rfl dX4_add_78 ?_
      have hfin := wx_allocI (cy := cy) (ad := ad) (T := T) (o := o) hwf hxr (q := q9) (r := u9) hn9 z hzr (h6 n (by omega)) (fun j hj9 => h5 _ (by omega)) (BL := .inr (1, [.int 0, .null, .null, .int 0, .null, .int 0]))
      have hw3 := hw.cg hfin
      have hj3 := wj_cg hj2 hfin
      have hx3 : xr (a_add S z) (wa_s X 20 n 0) := xr_8 (xr_20 hxr n (by omega)) (show a_add S z 8 0 = S 8 0 + 1 from wa_s_eq) (fun a b h => by unfold a_add; rw [wa_s_nk (by omega), wa_s_nk (by omega), wa_s_nk (by omega), wa_s_nk (by omega)])
      exact wx_rI ((wa_ad (wa_ad ad 1 n q9) 2 n u9), wa_s X 20 n 0) F ⟨by rw [hn9], (if_neg (not_not_intro (show -1 ≤ z ∧ z ≤ S 8 0 - 1 by omega))).trans (if_neg (by omega)), ⟨hx3, hj3, fun _ => rfl, fun j hj9 => (by have hne : ¬ (j = n) := (by omega); exact ⟨by simp [wa_ad, hne], by simp [wa_ad, hne]⟩), fun _ _ => ⟨rfl, rfl⟩, fun _ _ => rfl, fun _ => rfl, fun _ => rfl⟩⟩ hw3 hS (Nat.le_of_ble_eq_true rfl) (Nat.le_of_ble_eq_true rfl) dX4_add_81
    · skip
      exact tX4_70 (is := 72) (text := "there are 10 images") 2 (((if_neg (not_not_intro (show -1 ≤ z ∧ z ≤ S 8 0 - 1 by first | omega | (have := hK11; omega)))).trans (if_pos (by omega)))) (by decide) rfl (ad, X) F hlt hTB (by decide) hS (wa_fresh hA hw hj (rfl : wW cy ad S X T o 0 0 = some (.inr (4, wx_fs ad S)))) hA hl.1 hno dX4_add_34 dX4_add_37 dX4_add_38 dX4_add_40 dX4_add_43 (by decide) (Nat.le_of_ble_eq_true rfl) (Nat.le_of_ble_eq_true rfl) (Nat.le_of_ble_eq_true rfl) (Nat.le_of_ble_eq_true rfl) (Nat.le_of_ble_eq_true rfl) ⟨hxr, hj, x_ext.rf S ad⟩ (fun H1 hz hk => hw.grow hk)
