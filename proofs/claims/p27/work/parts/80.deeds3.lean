/-! the law: its deeds on bakes and days (laid by program) -/
section WLD
variable {p : Program} {l : Launch} {e : Env} {s : State} {m : MethodId} {below : List Frame} {meth : Method} {c : Code} {Q : State → Prop}
variable {D : va_G} {A : Nat → Prop} {cy : Nat → ClassId} {b L : Nat} {xs : Nat → Int32} {o : Int64} {tn : Int} {t : Nat} {ad : Nat → Nat → Nat} {T X G : wa_St} {H : Heap} {locs : List Loc} {ls : Array Slot} {x y dd : Int} {im bk : Nat}
set_option maxRecDepth 100000 in
set_option maxHeartbeats 4000000 in
theorem law_d_test (hF : law_F p l s m meth c D cy A b L xs) (hE : law_E p l e s m below meth c D cy A b Q o tn t) (ht : t < 280) (htn : -100000 ≤ tn ∧ tn ≤ 100000) (hg : gi (2 * t) T) (hm : mg T) (hG : LG T G) (h3 : ic t T) (hxr : xr T X) (hj : wa_wj A ad (wW cy ad T X G o)) (hw : wa_wd D ad (wW cy ad T X G o) H) (hS : va_S A s.heap H locs) (hy : 0 ≤ y ∧ y < 268435456) (ht3 : 3 ≤ t) (hbk : (bk : Int) < T 21 0) (hl : lv_has ls 21 [(0, .ref b), (1, .ref (ad 0 0)), (2, .ref (ad 6 0)), (3, .ref (ad 6 1)), (4, .ref (ad 6 2)), (5, .int (iI (T 8 0))), (6, .int (iI (T 29 0))), (7, .int (iI 1)), (8, .int (iI tn)), (9, .int (iI (t : Int))), (10, .int (iI x)), (11, .int (iI y)), (12, .int (iI dd)), (13, .int (iI (im : Int))), (14, .int (iI (T 21 0))), (15, .int (iI (T 12 0))), (16, .int (iI (bk : Int)))]) : W p l e room_1 s m #[Value.ref b] below meth c H locs (400 + 700 * t) (4000 + 4200 * t) (Q) (F0 m 884 ls []) := by
  obtain ⟨F, hTB, hN, hA, hlt, hX, hbl, hbA, hL⟩ := id hF
  obtain ⟨hx, hb, hml, hown, hts⟩ := id F.1
  obtain ⟨hB, w8, w21, w12, w29, w4, w7, w6, w5, w13, w25, w26, w28, w14, w3, wf17⟩ := id hg.1
  have h3a := h3.1
  have h3b := h3.2
  have vs := vs_t hg bk
  refine lv_aload_n hx hb dL_law_884 rfl (lv_at hl 1 rfl) ?_
  refine lv_iload hx hb dL_law_885 (lv_at hl 16 rfl) ?_
  refine ql_state (i := (bk : Int)) hlt F hTB hA hg.1 hxr hj hw hS (show (0 : Int) ≤ (bk : Int) ∧ (bk : Int) < T 21 0 by omega) ⟨by decide, by decide⟩ (Nat.le_of_ble_eq_true rfl) hl.1 dL_law_887 ⟨Nat.le_trans (show _ ≤ 300000 by omega) (Nat.le_of_ble_eq_true rfl), Nat.le_trans (show _ ≤ 2000000 by omega) (Nat.le_of_ble_eq_true rfl)⟩ (fun X H locs hxr hj hw hS => ?_)
  refine W.eq (g2 := F0 m 890 ls [.int (iI (v_state T bk))]) rfl ?_
  refine lv_istore (lv' := [(17, .int (iI (v_state T bk))), (0, .ref b), (1, .ref (ad 0 0)), (2, .ref (ad 6 0)), (3, .ref (ad 6 1)), (4, .ref (ad 6 2)), (5, .int (iI (T 8 0))), (6, .int (iI (T 29 0))), (7, .int (iI 1)), (8, .int (iI tn)), (9, .int (iI (t : Int))), (10, .int (iI x)), (11, .int (iI y)), (12, .int (iI dd)), (13, .int (iI (im : Int))), (14, .int (iI (T 21 0))), (15, .int (iI (T 12 0))), (16, .int (iI (bk : Int)))]) hx hb dL_law_890 hl (by decide) rfl (fun ls hl => ?_)
  refine lv_iload hx hb dL_law_892 (lv_at hl 12 rfl) ?_
  refine wa_bi F dL_law_894 (by decide +kernel) ?_
  refine wl_shr 9 512 F (by have q0 := (show wa_r y from ⟨by omega, by omega⟩); exact ⟨by omega, by omega⟩) (by decide +kernel) rfl dL_law_896 ?_
  refine wa_const F dL_law_897 ?_
  refine wl_and 2 4 F (by decide) (by decide +kernel) rfl (by decide) dL_law_898 ?_
  refine wa_if_le (tgt := 906) F dL_law_899 (by decide) (by have q0 := (show wa_r y from ⟨by omega, by omega⟩); exact ⟨by omega, by omega⟩) (fun c899 => ?_) (fun c899 => ?_)
  · skip
    refine wa_const F dL_law_906 ?_
    refine lv_istore (lv' := [(18, .int (iI 0)), (17, .int (iI (v_state T bk))), (0, .ref b), (1, .ref (ad 0 0)), (2, .ref (ad 6 0)), (3, .ref (ad 6 1)), (4, .ref (ad 6 2)), (5, .int (iI (T 8 0))), (6, .int (iI (T 29 0))), (7, .int (iI 1)), (8, .int (iI tn)), (9, .int (iI (t : Int))), (10, .int (iI x)), (11, .int (iI y)), (12, .int (iI dd)), (13, .int (iI (im : Int))), (14, .int (iI (T 21 0))), (15, .int (iI (T 12 0))), (16, .int (iI (bk : Int)))]) hx hb dL_law_907 hl (by decide) rfl (fun ls hl => ?_)
    rcases w_test hg hm hbk 0 with ⟨k0, c18⟩ | ⟨k0, c18, hg1, hm1, ⟨a8, a12, a21, a29⟩, e17, hG1⟩
    · skip
      have hg1 := hg.th (k := 2) (by decide)
      have hm1 := hm.th 2
      have hG1 := hG.th 2
      have a8 : wa_s T 0 0 2 8 0 = T 8 0 := rfl
      have a12 : wa_s T 0 0 2 12 0 = T 12 0 := rfl
      have a21 : wa_s T 0 0 2 21 0 = T 21 0 := rfl
      have a29 : wa_s T 0 0 2 29 0 = T 29 0 := rfl
      generalize hT1 : wa_s T 0 0 2 = T1 at *
      refine lv_aload_n hx hb dL_law_909 rfl (lv_at hl 3 rfl) ?_
      refine wa_const F dL_law_910 ?_
      refine lv_iload hx hb dL_law_911 (lv_at hl 18 rfl) ?_
      refine lv_iload hx hb dL_law_913 (lv_at hl 0 rfl) ?_
      refine wa_if_eq (tgt := 922) F dL_law_915 (by decide) (by decide) (fun c915 => ?_) (fun c915 => absurd c915 (by decide))
      refine wa_const F dL_law_922 ?_
      refine va_calli (wl_runS F hTB hN hS (c_L_tried5f l hlt D cy ad (T) X (G) o A hj hA hg hxr (bk : Int) ⟨by omega, by omega⟩ (T1) ((-3)) (Or.inr k0) (fun z => absurd (k0.symm.trans z) (by decide)) (fun _ => ⟨hT1.symm, rfl⟩)) qw_348 qw_349 qw_30 qw_350 ⟨by decide, by decide, rfl⟩ ⟨by decide, by decide⟩ ⟨rfl, rfl⟩ hw rfl rfl (Nat.le_of_ble_eq_true rfl) hl.1 dL_law_923 ⟨Nat.le_trans (show _ ≤ 300000 by omega) (Nat.le_of_ble_eq_true rfl), Nat.le_trans (show _ ≤ 2000000 by omega) (Nat.le_of_ble_eq_true rfl)⟩) hS (fun _ _ h => h) (fun _ h => h) (fun r u t9 H locs ht9 hvm9 hq9 hB9 hz9 hk9 hS => ?_)
      obtain ⟨ad, X⟩ := u
      obtain ⟨hr9, hxr, hj, he⟩ := hq9
      have hxr : xr (T1) X := hxr
      have hj : wa_wj A ad (wW cy ad T1 X G o) := hj
      have hw : wa_wd D ad (wW cy ad T1 X G o) H := by rw [← ht9]; exact hB9
      rw [hr9]
      dsimp only at he
      have hl : lv_has ls 21 [(18, .int (iI 0)), (17, .int (iI (v_state T bk))), (0, .ref b), (1, .ref (ad 0 0)), (2, .ref (ad 6 0)), (3, .ref (ad 6 1)), (4, .ref (ad 6 2)), (5, .int (iI (T 8 0))), (6, .int (iI (T 29 0))), (7, .int (iI 1)), (8, .int (iI tn)), (9, .int (iI (t : Int))), (10, .int (iI x)), (11, .int (iI y)), (12, .int (iI dd)), (13, .int (iI (im : Int))), (14, .int (iI (T 21 0))), (15, .int (iI (T 12 0))), (16, .int (iI (bk : Int)))] := by rw [he.1 0, he.2.2.2.2.1 0, he.2.2.2.2.1 1, he.2.2.2.2.1 2]; exact hl
      refine lv_istore (lv' := [(19, .int (iI (-3))), (18, .int (iI 0)), (17, .int (iI (v_state T bk))), (0, .ref b), (1, .ref (ad 0 0)), (2, .ref (ad 6 0)), (3, .ref (ad 6 1)), (4, .ref (ad 6 2)), (5, .int (iI (T 8 0))), (6, .int (iI (T 29 0))), (7, .int (iI 1)), (8, .int (iI tn)), (9, .int (iI (t : Int))), (10, .int (iI x)), (11, .int (iI y)), (12, .int (iI dd)), (13, .int (iI (im : Int))), (14, .int (iI (T 21 0))), (15, .int (iI (T 12 0))), (16, .int (iI (bk : Int)))]) hx hb dL_law_926 hl (by decide) rfl (fun ls hl => ?_)
      refine lv_iload hx hb dL_law_928 (lv_at hl 0 rfl) ?_
      refine wa_bi F dL_law_930 (by decide +kernel) ?_
      refine wa_ic_ne (tgt := 950) F dL_law_932 (by decide) (by decide) (by decide) (fun c932 => absurd c932 (by decide)) (fun c932 => ?_)
      refine lv_iload hx hb dL_law_935 (lv_at hl 2 rfl) ?_
      refine wa_bi F dL_law_937 (by decide +kernel) ?_
      refine wa_ic_lt (tgt := 946) F dL_law_939 (by decide) (by have q0 := (vs_t hg bk).1; exact ⟨by omega, by omega⟩) (by decide) (fun c939 => absurd c939 (by omega)) (fun c939 => ?_)
      refine wa_const F dL_law_942 ?_
      refine wa_goto (tgt := 999) F dL_law_943 (by decide) ?_
      refine lv_istore (lv' := [(7, .int (iI 1)), (19, .int (iI (-3))), (18, .int (iI 0)), (17, .int (iI (v_state T bk))), (0, .ref b), (1, .ref (ad 0 0)), (2, .ref (ad 6 0)), (3, .ref (ad 6 1)), (4, .ref (ad 6 2)), (5, .int (iI (T 8 0))), (6, .int (iI (T 29 0))), (8, .int (iI tn)), (9, .int (iI (t : Int))), (10, .int (iI x)), (11, .int (iI y)), (12, .int (iI dd)), (13, .int (iI (im : Int))), (14, .int (iI (T 21 0))), (15, .int (iI (T 12 0))), (16, .int (iI (bk : Int)))]) hx hb dL_law_999 hl (by decide) rfl (fun ls hl => ?_)
      refine wa_goto (tgt := 1799) F dL_law_1001 (by decide) ?_
      refine W.widen (k := 600 + 700 * t) (n := 5200 + 4200 * t) (by omega) (by omega) ?_
      exact hE ad X (T1) (G) _ _ ls (hg1.le (by omega)) hm1 hG1 ⟨fun z => by omega, fun z => by omega⟩ hxr hj hw hS (by rw [a8, a29]; exact lv_sub hl [4, 5, 6, 7, 8, 9, 10, 0, 11, 12] rfl)
    · skip
      have hG1 := hG1 G hG
      generalize hT1 : a_test T (bk : Int) 0 = T1 at *
      have vs1 := vs_t hg1 bk
      rw [bI_t (Or.inr rfl)] at e17
      refine lv_aload_n hx hb dL_law_909 rfl (lv_at hl 3 rfl) ?_
      refine wa_const F dL_law_910 ?_
      refine lv_iload hx hb dL_law_911 (lv_at hl 18 rfl) ?_
      refine lv_iload hx hb dL_law_913 (lv_at hl 0 rfl) ?_
      refine wa_if_eq (tgt := 922) F dL_law_915 (by decide) (by decide) (fun c915 => ?_) (fun c915 => absurd c915 (by decide))
      refine wa_const F dL_law_922 ?_
      refine va_calli (wl_runS F hTB hN hS (c_L_tried5f l hlt D cy ad (T) X (G) o A hj hA hg hxr (bk : Int) ⟨by omega, by omega⟩ (T1) (1) (Or.inl k0) (fun _ => ⟨hT1.symm, by rw [Int.toNat_natCast]; exact (bI_t (Or.inr rfl)).symm⟩) (fun z => absurd (k0.symm.trans z) (by decide))) qw_348 qw_349 qw_30 qw_350 ⟨by decide, by decide, rfl⟩ ⟨by decide, by decide⟩ ⟨rfl, rfl⟩ hw rfl rfl (Nat.le_of_ble_eq_true rfl) hl.1 dL_law_923 ⟨Nat.le_trans (show _ ≤ 300000 by omega) (Nat.le_of_ble_eq_true rfl), Nat.le_trans (show _ ≤ 2000000 by omega) (Nat.le_of_ble_eq_true rfl)⟩) hS (fun _ _ h => h) (fun _ h => h) (fun r u t9 H locs ht9 hvm9 hq9 hB9 hz9 hk9 hS => ?_)
      obtain ⟨ad, X⟩ := u
      obtain ⟨hr9, hxr, hj, he⟩ := hq9
      have hxr : xr (T1) X := hxr
      have hj : wa_wj A ad (wW cy ad T1 X G o) := hj
      have hw : wa_wd D ad (wW cy ad T1 X G o) H := by rw [← ht9]; exact hB9
      rw [hr9]
      dsimp only at he
      have hl : lv_has ls 21 [(18, .int (iI 0)), (17, .int (iI (v_state T bk))), (0, .ref b), (1, .ref (ad 0 0)), (2, .ref (ad 6 0)), (3, .ref (ad 6 1)), (4, .ref (ad 6 2)), (5, .int (iI (T 8 0))), (6, .int (iI (T 29 0))), (7, .int (iI 1)), (8, .int (iI tn)), (9, .int (iI (t : Int))), (10, .int (iI x)), (11, .int (iI y)), (12, .int (iI dd)), (13, .int (iI (im : Int))), (14, .int (iI (T 21 0))), (15, .int (iI (T 12 0))), (16, .int (iI (bk : Int)))] := by rw [he.1 0, he.2.2.2.2.1 0, he.2.2.2.2.1 1, he.2.2.2.2.1 2]; exact hl
      refine lv_istore (lv' := [(19, .int (iI 1)), (18, .int (iI 0)), (17, .int (iI (v_state T bk))), (0, .ref b), (1, .ref (ad 0 0)), (2, .ref (ad 6 0)), (3, .ref (ad 6 1)), (4, .ref (ad 6 2)), (5, .int (iI (T 8 0))), (6, .int (iI (T 29 0))), (7, .int (iI 1)), (8, .int (iI tn)), (9, .int (iI (t : Int))), (10, .int (iI x)), (11, .int (iI y)), (12, .int (iI dd)), (13, .int (iI (im : Int))), (14, .int (iI (T 21 0))), (15, .int (iI (T 12 0))), (16, .int (iI (bk : Int)))]) hx hb dL_law_926 hl (by decide) rfl (fun ls hl => ?_)
      refine lv_iload hx hb dL_law_928 (lv_at hl 0 rfl) ?_
      refine wa_bi F dL_law_930 (by decide +kernel) ?_
      refine wa_ic_ne (tgt := 950) F dL_law_932 (by decide) (by decide) (by decide) (fun c932 => ?_) (fun c932 => absurd c932 (by decide))
      refine lv_iload hx hb dL_law_950 (lv_at hl 2 rfl) ?_
      refine wa_bi F dL_law_952 (by decide +kernel) ?_
      refine wa_ic_ge (tgt := 998) F dL_law_954 (by decide) (by have q0 := (vs_t hg bk).1; exact ⟨by omega, by omega⟩) (by decide) (fun c954 => absurd c954 (by omega)) (fun c954 => ?_)
      refine lv_iload hx hb dL_law_957 (lv_at hl 0 rfl) ?_
      refine lv_iload hx hb dL_law_959 (lv_at hl 1 rfl) ?_
      refine wa_if_eq (tgt := 974) F dL_law_961 (by decide) (by decide) (fun c961 => ?_) (fun c961 => absurd c961 (by decide))
      refine wa_const F dL_law_974 ?_
      refine wa_ic_ne (tgt := 998) F dL_law_975 (by decide) (by decide) (by decide) (fun c975 => absurd c975 (by decide)) (fun c975 => ?_)
      refine lv_aload_n hx hb dL_law_978 rfl (lv_at hl 4 rfl) ?_
      refine lv_iload hx hb dL_law_979 (lv_at hl 19 rfl) ?_
      refine ql_state (i := (bk : Int)) hlt F hTB hA hg1.1 hxr hj hw hS (show (0 : Int) ≤ (bk : Int) ∧ (bk : Int) < T1 21 0 by omega) ⟨by decide, by decide⟩ (Nat.le_of_ble_eq_true rfl) hl.1 dL_law_981 ⟨Nat.le_trans (show _ ≤ 300000 by omega) (Nat.le_of_ble_eq_true rfl), Nat.le_trans (show _ ≤ 2000000 by omega) (Nat.le_of_ble_eq_true rfl)⟩ (fun X H locs hxr hj hw hS => ?_)
      refine W.eq (g2 := F0 m 984 ls [.int (iI (v_state T1 bk))]) rfl ?_
      refine wa_bi F dL_law_984 (by decide +kernel) ?_
      refine wl_div F (by have q0 := (vs_t hg1 bk).1; omega) (by decide) dL_law_986 ?_
      refine wa_const F dL_law_987 ?_
      refine wl_rem F (by have q0 := (vs_t hg1 bk).1; omega) (by decide) dL_law_988 ?_
      refine lv_iload hx hb dL_law_989 (lv_at hl 0 rfl) ?_
      refine wa_ic_ne (tgt := 998) F dL_law_991 (by decide) (by have q0 := (vs_t hg1 bk).1; exact ⟨by omega, by omega⟩) (by decide) (fun c991 => absurd c991 (by omega)) (fun c991 => ?_)
      refine wa_const F dL_law_994 ?_
      refine wa_goto (tgt := 999) F dL_law_995 (by decide) ?_
      refine lv_istore (lv' := [(7, .int (iI 1)), (19, .int (iI 1)), (18, .int (iI 0)), (17, .int (iI (v_state T bk))), (0, .ref b), (1, .ref (ad 0 0)), (2, .ref (ad 6 0)), (3, .ref (ad 6 1)), (4, .ref (ad 6 2)), (5, .int (iI (T 8 0))), (6, .int (iI (T 29 0))), (8, .int (iI tn)), (9, .int (iI (t : Int))), (10, .int (iI x)), (11, .int (iI y)), (12, .int (iI dd)), (13, .int (iI (im : Int))), (14, .int (iI (T 21 0))), (15, .int (iI (T 12 0))), (16, .int (iI (bk : Int)))]) hx hb dL_law_999 hl (by decide) rfl (fun ls hl => ?_)
      refine wa_goto (tgt := 1799) F dL_law_1001 (by decide) ?_
      refine W.widen (k := 600 + 700 * t) (n := 5200 + 4200 * t) (by omega) (by omega) ?_
      exact hE ad X (T1) (G) _ _ ls (hg1.le (by omega)) hm1 hG1 ⟨fun z => by omega, fun z => by omega⟩ hxr hj hw hS (by rw [a8, a29]; exact lv_sub hl [4, 5, 6, 7, 8, 9, 10, 0, 11, 12] rfl)
  · skip
    refine wa_const F dL_law_902 ?_
    refine wa_goto (tgt := 907) F dL_law_903 (by decide) ?_
    refine lv_istore (lv' := [(18, .int (iI 1)), (17, .int (iI (v_state T bk))), (0, .ref b), (1, .ref (ad 0 0)), (2, .ref (ad 6 0)), (3, .ref (ad 6 1)), (4, .ref (ad 6 2)), (5, .int (iI (T 8 0))), (6, .int (iI (T 29 0))), (7, .int (iI 1)), (8, .int (iI tn)), (9, .int (iI (t : Int))), (10, .int (iI x)), (11, .int (iI y)), (12, .int (iI dd)), (13, .int (iI (im : Int))), (14, .int (iI (T 21 0))), (15, .int (iI (T 12 0))), (16, .int (iI (bk : Int)))]) hx hb dL_law_907 hl (by decide) rfl (fun ls hl => ?_)
    rcases w_test hg hm hbk 1 with ⟨k0, c18⟩ | ⟨k0, c18, hg1, hm1, ⟨a8, a12, a21, a29⟩, e17, hG1⟩
    · skip
      have hg1 := hg.th (k := 2) (by decide)
      have hm1 := hm.th 2
      have hG1 := hG.th 2
      have a8 : wa_s T 0 0 2 8 0 = T 8 0 := rfl
      have a12 : wa_s T 0 0 2 12 0 = T 12 0 := rfl
      have a21 : wa_s T 0 0 2 21 0 = T 21 0 := rfl
      have a29 : wa_s T 0 0 2 29 0 = T 29 0 := rfl
      generalize hT1 : wa_s T 0 0 2 = T1 at *
      refine lv_aload_n hx hb dL_law_909 rfl (lv_at hl 3 rfl) ?_
      refine wa_const F dL_law_910 ?_
      refine lv_iload hx hb dL_law_911 (lv_at hl 18 rfl) ?_
      refine lv_iload hx hb dL_law_913 (lv_at hl 0 rfl) ?_
      refine wa_if_eq (tgt := 922) F dL_law_915 (by decide) (by decide) (fun c915 => absurd c915 (by decide)) (fun c915 => ?_)
      refine wa_const F dL_law_918 ?_
      refine wa_goto (tgt := 923) F dL_law_919 (by decide) ?_
      refine va_calli (wl_runS F hTB hN hS (c_L_tried5p l hlt D cy ad (T) X (G) o A hj hA hg hxr (bk : Int) ⟨by omega, by omega⟩ (T1) ((-3)) (Or.inr k0) (fun z => absurd (k0.symm.trans z) (by decide)) (fun _ => ⟨hT1.symm, rfl⟩)) qw_348 qw_349 qw_30 qw_350 ⟨by decide, by decide, rfl⟩ ⟨by decide, by decide⟩ ⟨rfl, rfl⟩ hw rfl rfl (Nat.le_of_ble_eq_true rfl) hl.1 dL_law_923 ⟨Nat.le_trans (show _ ≤ 300000 by omega) (Nat.le_of_ble_eq_true rfl), Nat.le_trans (show _ ≤ 2000000 by omega) (Nat.le_of_ble_eq_true rfl)⟩) hS (fun _ _ h => h) (fun _ h => h) (fun r u t9 H locs ht9 hvm9 hq9 hB9 hz9 hk9 hS => ?_)
      obtain ⟨ad, X⟩ := u
      obtain ⟨hr9, hxr, hj, he⟩ := hq9
      have hxr : xr (T1) X := hxr
      have hj : wa_wj A ad (wW cy ad T1 X G o) := hj
      have hw : wa_wd D ad (wW cy ad T1 X G o) H := by rw [← ht9]; exact hB9
      rw [hr9]
      dsimp only at he
      have hl : lv_has ls 21 [(18, .int (iI 1)), (17, .int (iI (v_state T bk))), (0, .ref b), (1, .ref (ad 0 0)), (2, .ref (ad 6 0)), (3, .ref (ad 6 1)), (4, .ref (ad 6 2)), (5, .int (iI (T 8 0))), (6, .int (iI (T 29 0))), (7, .int (iI 1)), (8, .int (iI tn)), (9, .int (iI (t : Int))), (10, .int (iI x)), (11, .int (iI y)), (12, .int (iI dd)), (13, .int (iI (im : Int))), (14, .int (iI (T 21 0))), (15, .int (iI (T 12 0))), (16, .int (iI (bk : Int)))] := by rw [he.1 0, he.2.2.2.2.1 0, he.2.2.2.2.1 1, he.2.2.2.2.1 2]; exact hl
      refine lv_istore (lv' := [(19, .int (iI (-3))), (18, .int (iI 1)), (17, .int (iI (v_state T bk))), (0, .ref b), (1, .ref (ad 0 0)), (2, .ref (ad 6 0)), (3, .ref (ad 6 1)), (4, .ref (ad 6 2)), (5, .int (iI (T 8 0))), (6, .int (iI (T 29 0))), (7, .int (iI 1)), (8, .int (iI tn)), (9, .int (iI (t : Int))), (10, .int (iI x)), (11, .int (iI y)), (12, .int (iI dd)), (13, .int (iI (im : Int))), (14, .int (iI (T 21 0))), (15, .int (iI (T 12 0))), (16, .int (iI (bk : Int)))]) hx hb dL_law_926 hl (by decide) rfl (fun ls hl => ?_)
      refine lv_iload hx hb dL_law_928 (lv_at hl 0 rfl) ?_
      refine wa_bi F dL_law_930 (by decide +kernel) ?_
      refine wa_ic_ne (tgt := 950) F dL_law_932 (by decide) (by decide) (by decide) (fun c932 => absurd c932 (by decide)) (fun c932 => ?_)
      refine lv_iload hx hb dL_law_935 (lv_at hl 2 rfl) ?_
      refine wa_bi F dL_law_937 (by decide +kernel) ?_
      refine wa_ic_lt (tgt := 946) F dL_law_939 (by decide) (by have q0 := (vs_t hg bk).1; exact ⟨by omega, by omega⟩) (by decide) (fun c939 => absurd c939 (by omega)) (fun c939 => ?_)
      refine wa_const F dL_law_942 ?_
      refine wa_goto (tgt := 999) F dL_law_943 (by decide) ?_
      refine lv_istore (lv' := [(7, .int (iI 1)), (19, .int (iI (-3))), (18, .int (iI 1)), (17, .int (iI (v_state T bk))), (0, .ref b), (1, .ref (ad 0 0)), (2, .ref (ad 6 0)), (3, .ref (ad 6 1)), (4, .ref (ad 6 2)), (5, .int (iI (T 8 0))), (6, .int (iI (T 29 0))), (8, .int (iI tn)), (9, .int (iI (t : Int))), (10, .int (iI x)), (11, .int (iI y)), (12, .int (iI dd)), (13, .int (iI (im : Int))), (14, .int (iI (T 21 0))), (15, .int (iI (T 12 0))), (16, .int (iI (bk : Int)))]) hx hb dL_law_999 hl (by decide) rfl (fun ls hl => ?_)
      refine wa_goto (tgt := 1799) F dL_law_1001 (by decide) ?_
      refine W.widen (k := 600 + 700 * t) (n := 5200 + 4200 * t) (by omega) (by omega) ?_
      exact hE ad X (T1) (G) _ _ ls (hg1.le (by omega)) hm1 hG1 ⟨fun z => by omega, fun z => by omega⟩ hxr hj hw hS (by rw [a8, a29]; exact lv_sub hl [4, 5, 6, 7, 8, 9, 10, 0, 11, 12] rfl)
    · skip
      have hG1 := hG1 G hG
      generalize hT1 : a_test T (bk : Int) 1 = T1 at *
      have vs1 := vs_t hg1 bk
      have e17b : bI (T 17 bk ≠ 0 ∨ (1 : Int) = 0) = T 17 bk := by by_cases z : T 17 bk = 0; (rw [bI_f (fun y9 => y9.elim (fun w => w z) (fun w => by omega))]; exact z.symm); (rw [bI_t (Or.inl z)]; omega)
      rw [e17b] at e17
      refine lv_aload_n hx hb dL_law_909 rfl (lv_at hl 3 rfl) ?_
      refine wa_const F dL_law_910 ?_
      refine lv_iload hx hb dL_law_911 (lv_at hl 18 rfl) ?_
      refine lv_iload hx hb dL_law_913 (lv_at hl 0 rfl) ?_
      refine wa_if_eq (tgt := 922) F dL_law_915 (by decide) (by decide) (fun c915 => absurd c915 (by decide)) (fun c915 => ?_)
      refine wa_const F dL_law_918 ?_
      refine wa_goto (tgt := 923) F dL_law_919 (by decide) ?_
      refine va_calli (wl_runS F hTB hN hS (c_L_tried5p l hlt D cy ad (T) X (G) o A hj hA hg hxr (bk : Int) ⟨by omega, by omega⟩ (T1) ((T 17 bk)) (Or.inl k0) (fun _ => ⟨hT1.symm, by rw [Int.toNat_natCast]; exact e17b.symm⟩) (fun z => absurd (k0.symm.trans z) (by decide))) qw_348 qw_349 qw_30 qw_350 ⟨by decide, by decide, rfl⟩ ⟨by decide, by decide⟩ ⟨rfl, rfl⟩ hw rfl rfl (Nat.le_of_ble_eq_true rfl) hl.1 dL_law_923 ⟨Nat.le_trans (show _ ≤ 300000 by omega) (Nat.le_of_ble_eq_true rfl), Nat.le_trans (show _ ≤ 2000000 by omega) (Nat.le_of_ble_eq_true rfl)⟩) hS (fun _ _ h => h) (fun _ h => h) (fun r u t9 H locs ht9 hvm9 hq9 hB9 hz9 hk9 hS => ?_)
      obtain ⟨ad, X⟩ := u
      obtain ⟨hr9, hxr, hj, he⟩ := hq9
      have hxr : xr (T1) X := hxr
      have hj : wa_wj A ad (wW cy ad T1 X G o) := hj
      have hw : wa_wd D ad (wW cy ad T1 X G o) H := by rw [← ht9]; exact hB9
      rw [hr9]
      dsimp only at he
      have hl : lv_has ls 21 [(18, .int (iI 1)), (17, .int (iI (v_state T bk))), (0, .ref b), (1, .ref (ad 0 0)), (2, .ref (ad 6 0)), (3, .ref (ad 6 1)), (4, .ref (ad 6 2)), (5, .int (iI (T 8 0))), (6, .int (iI (T 29 0))), (7, .int (iI 1)), (8, .int (iI tn)), (9, .int (iI (t : Int))), (10, .int (iI x)), (11, .int (iI y)), (12, .int (iI dd)), (13, .int (iI (im : Int))), (14, .int (iI (T 21 0))), (15, .int (iI (T 12 0))), (16, .int (iI (bk : Int)))] := by rw [he.1 0, he.2.2.2.2.1 0, he.2.2.2.2.1 1, he.2.2.2.2.1 2]; exact hl
      refine lv_istore (lv' := [(19, .int (iI (T 17 bk))), (18, .int (iI 1)), (17, .int (iI (v_state T bk))), (0, .ref b), (1, .ref (ad 0 0)), (2, .ref (ad 6 0)), (3, .ref (ad 6 1)), (4, .ref (ad 6 2)), (5, .int (iI (T 8 0))), (6, .int (iI (T 29 0))), (7, .int (iI 1)), (8, .int (iI tn)), (9, .int (iI (t : Int))), (10, .int (iI x)), (11, .int (iI y)), (12, .int (iI dd)), (13, .int (iI (im : Int))), (14, .int (iI (T 21 0))), (15, .int (iI (T 12 0))), (16, .int (iI (bk : Int)))]) hx hb dL_law_926 hl (by decide) rfl (fun ls hl => ?_)
      refine lv_iload hx hb dL_law_928 (lv_at hl 0 rfl) ?_
      refine wa_bi F dL_law_930 (by decide +kernel) ?_
      refine wa_ic_ne (tgt := 950) F dL_law_932 (by decide) (by have q0 := hB 17 bk; exact ⟨by omega, by omega⟩) (by decide) (fun c932 => ?_) (fun c932 => absurd c932 (by omega))
      refine lv_iload hx hb dL_law_950 (lv_at hl 2 rfl) ?_
      refine wa_bi F dL_law_952 (by decide +kernel) ?_
      refine wa_ic_ge (tgt := 998) F dL_law_954 (by decide) (by have q0 := (vs_t hg bk).1; exact ⟨by omega, by omega⟩) (by decide) (fun c954 => absurd c954 (by omega)) (fun c954 => ?_)
      refine lv_iload hx hb dL_law_957 (lv_at hl 0 rfl) ?_
      refine lv_iload hx hb dL_law_959 (lv_at hl 1 rfl) ?_
      refine wa_if_eq (tgt := 974) F dL_law_961 (by decide) (by decide) (fun c961 => absurd c961 (by decide)) (fun c961 => ?_)
      refine lv_iload hx hb dL_law_964 (lv_at hl 2 rfl) ?_
      refine wa_bi F dL_law_966 (by decide +kernel) ?_
      refine wl_div F (by have q0 := (vs_t hg bk).1; omega) (by decide) dL_law_968 ?_
      refine wa_const F dL_law_969 ?_
      refine wl_rem F (by have q0 := (vs_t hg bk).1; omega) (by decide) dL_law_970 ?_
      refine wa_goto (tgt := 975) F dL_law_971 (by decide) ?_
      refine wa_ic_ne (tgt := 998) F dL_law_975 (by decide) (by have q0 := hB 17 bk; exact ⟨by omega, by omega⟩) (by have q0 := (vs_t hg bk).1; exact ⟨by omega, by omega⟩) (fun c975 => absurd c975 (by omega)) (fun c975 => ?_)
      refine lv_aload_n hx hb dL_law_978 rfl (lv_at hl 4 rfl) ?_
      refine lv_iload hx hb dL_law_979 (lv_at hl 19 rfl) ?_
      refine ql_state (i := (bk : Int)) hlt F hTB hA hg1.1 hxr hj hw hS (show (0 : Int) ≤ (bk : Int) ∧ (bk : Int) < T1 21 0 by omega) ⟨by decide, by decide⟩ (Nat.le_of_ble_eq_true rfl) hl.1 dL_law_981 ⟨Nat.le_trans (show _ ≤ 300000 by omega) (Nat.le_of_ble_eq_true rfl), Nat.le_trans (show _ ≤ 2000000 by omega) (Nat.le_of_ble_eq_true rfl)⟩ (fun X H locs hxr hj hw hS => ?_)
      refine W.eq (g2 := F0 m 984 ls [.int (iI (v_state T1 bk))]) rfl ?_
      refine wa_bi F dL_law_984 (by decide +kernel) ?_
      refine wl_div F (by have q0 := (vs_t hg1 bk).1; omega) (by decide) dL_law_986 ?_
      refine wa_const F dL_law_987 ?_
      refine wl_rem F (by have q0 := (vs_t hg1 bk).1; omega) (by decide) dL_law_988 ?_
      refine lv_iload hx hb dL_law_989 (lv_at hl 0 rfl) ?_
      refine wa_ic_ne (tgt := 998) F dL_law_991 (by decide) (by have q0 := (vs_t hg1 bk).1; exact ⟨by omega, by omega⟩) (by have q0 := hB 17 bk; exact ⟨by omega, by omega⟩) (fun c991 => absurd c991 (by omega)) (fun c991 => ?_)
      refine wa_const F dL_law_994 ?_
      refine wa_goto (tgt := 999) F dL_law_995 (by decide) ?_
      refine lv_istore (lv' := [(7, .int (iI 1)), (19, .int (iI (T 17 bk))), (18, .int (iI 1)), (17, .int (iI (v_state T bk))), (0, .ref b), (1, .ref (ad 0 0)), (2, .ref (ad 6 0)), (3, .ref (ad 6 1)), (4, .ref (ad 6 2)), (5, .int (iI (T 8 0))), (6, .int (iI (T 29 0))), (8, .int (iI tn)), (9, .int (iI (t : Int))), (10, .int (iI x)), (11, .int (iI y)), (12, .int (iI dd)), (13, .int (iI (im : Int))), (14, .int (iI (T 21 0))), (15, .int (iI (T 12 0))), (16, .int (iI (bk : Int)))]) hx hb dL_law_999 hl (by decide) rfl (fun ls hl => ?_)
      refine wa_goto (tgt := 1799) F dL_law_1001 (by decide) ?_
      refine W.widen (k := 600 + 700 * t) (n := 5200 + 4200 * t) (by omega) (by omega) ?_
      exact hE ad X (T1) (G) _ _ ls (hg1.le (by omega)) hm1 hG1 ⟨fun z => by omega, fun z => by omega⟩ hxr hj hw hS (by rw [a8, a29]; exact lv_sub hl [4, 5, 6, 7, 8, 9, 10, 0, 11, 12] rfl)
set_option maxRecDepth 100000 in
set_option maxHeartbeats 4000000 in
theorem law_d_raise (hF : law_F p l s m meth c D cy A b L xs) (hE : law_E p l e s m below meth c D cy A b Q o tn t) (ht : t < 280) (htn : -100000 ≤ tn ∧ tn ≤ 100000) (hg : gi (2 * t) T) (hm : mg T) (hG : LG T G) (h3 : ic t T) (hxr : xr T X) (hj : wa_wj A ad (wW cy ad T X G o)) (hw : wa_wd D ad (wW cy ad T X G o) H) (hS : va_S A s.heap H locs) (hy : 0 ≤ y ∧ y < 268435456) (ht3 : 3 ≤ t) (hbk : (bk : Int) < T 21 0) (hl : lv_has ls 21 [(0, .ref b), (1, .ref (ad 0 0)), (2, .ref (ad 6 0)), (3, .ref (ad 6 1)), (4, .ref (ad 6 2)), (5, .int (iI (T 8 0))), (6, .int (iI (T 29 0))), (7, .int (iI 1)), (8, .int (iI tn)), (9, .int (iI (t : Int))), (10, .int (iI x)), (11, .int (iI y)), (12, .int (iI dd)), (13, .int (iI (im : Int))), (14, .int (iI (T 21 0))), (15, .int (iI (T 12 0))), (16, .int (iI (bk : Int)))]) : W p l e room_1 s m #[Value.ref b] below meth c H locs (400 + 700 * t) (4000 + 4200 * t) (Q) (F0 m 1016 ls []) := by
  obtain ⟨F, hTB, hN, hA, hlt, hX, hbl, hbA, hL⟩ := id hF
  obtain ⟨hx, hb, hml, hown, hts⟩ := id F.1
  obtain ⟨hB, w8, w21, w12, w29, w4, w7, w6, w5, w13, w25, w26, w28, w14, w3, wf17⟩ := id hg.1
  have h3a := h3.1
  have h3b := h3.2
  have vs := vs_t hg bk
  refine lv_aload_n hx hb dL_law_1016 rfl (lv_at hl 1 rfl) ?_
  refine lv_iload hx hb dL_law_1017 (lv_at hl 16 rfl) ?_
  refine ql_state (i := (bk : Int)) hlt F hTB hA hg.1 hxr hj hw hS (show (0 : Int) ≤ (bk : Int) ∧ (bk : Int) < T 21 0 by omega) ⟨by decide, by decide⟩ (Nat.le_of_ble_eq_true rfl) hl.1 dL_law_1019 ⟨Nat.le_trans (show _ ≤ 300000 by omega) (Nat.le_of_ble_eq_true rfl), Nat.le_trans (show _ ≤ 2000000 by omega) (Nat.le_of_ble_eq_true rfl)⟩ (fun X H locs hxr hj hw hS => ?_)
  refine W.eq (g2 := F0 m 1022 ls [.int (iI (v_state T bk))]) rfl ?_
  refine lv_istore (lv' := [(17, .int (iI (v_state T bk))), (0, .ref b), (1, .ref (ad 0 0)), (2, .ref (ad 6 0)), (3, .ref (ad 6 1)), (4, .ref (ad 6 2)), (5, .int (iI (T 8 0))), (6, .int (iI (T 29 0))), (7, .int (iI 1)), (8, .int (iI tn)), (9, .int (iI (t : Int))), (10, .int (iI x)), (11, .int (iI y)), (12, .int (iI dd)), (13, .int (iI (im : Int))), (14, .int (iI (T 21 0))), (15, .int (iI (T 12 0))), (16, .int (iI (bk : Int)))]) hx hb dL_law_1022 hl (by decide) rfl (fun ls hl => ?_)
  rcases w_raise hg hm hbk with k0 | ⟨k0, c18, c17, hg1, hm1, ⟨a8, a12, a21, a29⟩, k2, hG1⟩
  · skip
    have hg1 := hg.th (k := 2) (by decide)
    have hm1 := hm.th 2
    have hG1 := hG.th 2
    have a8 : wa_s T 0 0 2 8 0 = T 8 0 := rfl
    have a12 : wa_s T 0 0 2 12 0 = T 12 0 := rfl
    have a21 : wa_s T 0 0 2 21 0 = T 21 0 := rfl
    have a29 : wa_s T 0 0 2 29 0 = T 29 0 := rfl
    have ev : v_state (wa_s T 0 0 2) bk = v_state T bk := rfl
    generalize hT1 : wa_s T 0 0 2 = T1 at *
    refine lv_aload_n hx hb dL_law_1024 rfl (lv_at hl 2 rfl) ?_
    refine wa_const F dL_law_1025 ?_
    refine lv_iload hx hb dL_law_1026 (lv_at hl 17 rfl) ?_
    refine wa_const F dL_law_1028 ?_
    refine va_calli (wl_runS F hTB hN hS (c_L_tried2 l hlt D cy ad (T) X (G) o A hj hA hg hxr (bk : Int) 0 ⟨by omega, by omega⟩ (by decide) (T1) ((-3)) (Or.inr k0) (fun z => absurd (k0.symm.trans z) (by decide)) (fun _ => ⟨hT1.symm, rfl⟩)) qw_348 qw_349 qw_30 qw_350 ⟨by decide, by decide, rfl⟩ ⟨by decide, by decide⟩ ⟨rfl, rfl⟩ hw rfl rfl (Nat.le_of_ble_eq_true rfl) hl.1 dL_law_1029 ⟨Nat.le_trans (show _ ≤ 300000 by omega) (Nat.le_of_ble_eq_true rfl), Nat.le_trans (show _ ≤ 2000000 by omega) (Nat.le_of_ble_eq_true rfl)⟩) hS (fun _ _ h => h) (fun _ h => h) (fun r u t9 H locs ht9 hvm9 hq9 hB9 hz9 hk9 hS => ?_)
    obtain ⟨ad, X⟩ := u
    obtain ⟨hr9, hxr, hj, he⟩ := hq9
    have hxr : xr (T1) X := hxr
    have hj : wa_wj A ad (wW cy ad T1 X G o) := hj
    have hw : wa_wd D ad (wW cy ad T1 X G o) H := by rw [← ht9]; exact hB9
    rw [hr9]
    dsimp only at he
    have hl : lv_has ls 21 [(17, .int (iI (v_state T bk))), (0, .ref b), (1, .ref (ad 0 0)), (2, .ref (ad 6 0)), (3, .ref (ad 6 1)), (4, .ref (ad 6 2)), (5, .int (iI (T 8 0))), (6, .int (iI (T 29 0))), (7, .int (iI 1)), (8, .int (iI tn)), (9, .int (iI (t : Int))), (10, .int (iI x)), (11, .int (iI y)), (12, .int (iI dd)), (13, .int (iI (im : Int))), (14, .int (iI (T 21 0))), (15, .int (iI (T 12 0))), (16, .int (iI (bk : Int)))] := by rw [he.1 0, he.2.2.2.2.1 0, he.2.2.2.2.1 1, he.2.2.2.2.1 2]; exact hl
    refine lv_istore (lv' := [(18, .int (iI (-3))), (17, .int (iI (v_state T bk))), (0, .ref b), (1, .ref (ad 0 0)), (2, .ref (ad 6 0)), (3, .ref (ad 6 1)), (4, .ref (ad 6 2)), (5, .int (iI (T 8 0))), (6, .int (iI (T 29 0))), (7, .int (iI 1)), (8, .int (iI tn)), (9, .int (iI (t : Int))), (10, .int (iI x)), (11, .int (iI y)), (12, .int (iI dd)), (13, .int (iI (im : Int))), (14, .int (iI (T 21 0))), (15, .int (iI (T 12 0))), (16, .int (iI (bk : Int)))]) hx hb dL_law_1032 hl (by decide) rfl (fun ls hl => ?_)
    refine lv_iload hx hb dL_law_1034 (lv_at hl 0 rfl) ?_
    refine wa_bi F dL_law_1036 (by decide +kernel) ?_
    refine wa_ic_ne (tgt := 1060) F dL_law_1038 (by decide) (by decide) (by decide) (fun c1038 => absurd c1038 (by decide)) (fun c1038 => ?_)
    refine lv_aload_n hx hb dL_law_1041 rfl (lv_at hl 3 rfl) ?_
    refine lv_iload hx hb dL_law_1042 (lv_at hl 18 rfl) ?_
    refine ql_state (i := (bk : Int)) hlt F hTB hA hg1.1 hxr hj hw hS (show (0 : Int) ≤ (bk : Int) ∧ (bk : Int) < T1 21 0 by omega) ⟨by decide, by decide⟩ (Nat.le_of_ble_eq_true rfl) hl.1 dL_law_1044 ⟨Nat.le_trans (show _ ≤ 300000 by omega) (Nat.le_of_ble_eq_true rfl), Nat.le_trans (show _ ≤ 2000000 by omega) (Nat.le_of_ble_eq_true rfl)⟩ (fun X H locs hxr hj hw hS => ?_)
    refine W.eq (g2 := F0 m 1047 ls [.int (iI (v_state T1 bk))]) rfl ?_
    refine lv_iload hx hb dL_law_1047 (lv_at hl 1 rfl) ?_
    refine wa_ic_ne (tgt := 1056) F dL_law_1049 (by decide) (by have q0 := (vs_t hg1 bk).1; exact ⟨by omega, by omega⟩) (by have q0 := (vs_t hg bk).1; exact ⟨by omega, by omega⟩) (fun c1049 => absurd c1049 (by omega)) (fun c1049 => ?_)
    refine wa_const F dL_law_1052 ?_
    refine wa_goto (tgt := 1107) F dL_law_1053 (by decide) ?_
    refine lv_istore (lv' := [(7, .int (iI 1)), (18, .int (iI (-3))), (17, .int (iI (v_state T bk))), (0, .ref b), (1, .ref (ad 0 0)), (2, .ref (ad 6 0)), (3, .ref (ad 6 1)), (4, .ref (ad 6 2)), (5, .int (iI (T 8 0))), (6, .int (iI (T 29 0))), (8, .int (iI tn)), (9, .int (iI (t : Int))), (10, .int (iI x)), (11, .int (iI y)), (12, .int (iI dd)), (13, .int (iI (im : Int))), (14, .int (iI (T 21 0))), (15, .int (iI (T 12 0))), (16, .int (iI (bk : Int)))]) hx hb dL_law_1107 hl (by decide) rfl (fun ls hl => ?_)
    refine wa_goto (tgt := 1799) F dL_law_1109 (by decide) ?_
    refine W.widen (k := 600 + 700 * t) (n := 5200 + 4200 * t) (by omega) (by omega) ?_
    exact hE ad X (T1) (G) _ _ ls (hg1.le (by omega)) hm1 hG1 ⟨fun z => by omega, fun z => by omega⟩ hxr hj hw hS (by rw [a8, a29]; exact lv_sub hl [3, 4, 5, 6, 7, 8, 9, 0, 10, 11] rfl)
  · skip
    have hG1 := hG1 G hG
    generalize hT1 : a_raise T (bk : Int) = T1 at *
    have hg2 := hg1.th (k := 2) (by decide)
    have hm2 := hm1.th 2
    have hG2 := hG1.th 2
    have b8 : wa_s T1 0 0 2 8 0 = T1 8 0 := rfl
    have b12 : wa_s T1 0 0 2 12 0 = T1 12 0 := rfl
    have b21 : wa_s T1 0 0 2 21 0 = T1 21 0 := rfl
    have b29 : wa_s T1 0 0 2 29 0 = T1 29 0 := rfl
    have f8 := b8.trans a8
    have f29 := b29.trans a29
    generalize hT2 : wa_s T1 0 0 2 = T2 at *
    refine lv_aload_n hx hb dL_law_1024 rfl (lv_at hl 2 rfl) ?_
    refine wa_const F dL_law_1025 ?_
    refine lv_iload hx hb dL_law_1026 (lv_at hl 17 rfl) ?_
    refine wa_const F dL_law_1028 ?_
    refine va_calli (wl_runS F hTB hN hS (c_L_tried2 l hlt D cy ad (T) X (G) o A hj hA hg hxr (bk : Int) 0 ⟨by omega, by omega⟩ (by decide) (T1) (((T 16 bk) + 1)) (Or.inl k0) (fun _ => ⟨hT1.symm, by rw [Int.toNat_natCast]⟩) (fun z => absurd (k0.symm.trans z) (by decide))) qw_348 qw_349 qw_30 qw_350 ⟨by decide, by decide, rfl⟩ ⟨by decide, by decide⟩ ⟨rfl, rfl⟩ hw rfl rfl (Nat.le_of_ble_eq_true rfl) hl.1 dL_law_1029 ⟨Nat.le_trans (show _ ≤ 300000 by omega) (Nat.le_of_ble_eq_true rfl), Nat.le_trans (show _ ≤ 2000000 by omega) (Nat.le_of_ble_eq_true rfl)⟩) hS (fun _ _ h => h) (fun _ h => h) (fun r u t9 H locs ht9 hvm9 hq9 hB9 hz9 hk9 hS => ?_)
    obtain ⟨ad, X⟩ := u
    obtain ⟨hr9, hxr, hj, he⟩ := hq9
    have hxr : xr (T1) X := hxr
    have hj : wa_wj A ad (wW cy ad T1 X G o) := hj
    have hw : wa_wd D ad (wW cy ad T1 X G o) H := by rw [← ht9]; exact hB9
    rw [hr9]
    dsimp only at he
    have hl : lv_has ls 21 [(17, .int (iI (v_state T bk))), (0, .ref b), (1, .ref (ad 0 0)), (2, .ref (ad 6 0)), (3, .ref (ad 6 1)), (4, .ref (ad 6 2)), (5, .int (iI (T 8 0))), (6, .int (iI (T 29 0))), (7, .int (iI 1)), (8, .int (iI tn)), (9, .int (iI (t : Int))), (10, .int (iI x)), (11, .int (iI y)), (12, .int (iI dd)), (13, .int (iI (im : Int))), (14, .int (iI (T 21 0))), (15, .int (iI (T 12 0))), (16, .int (iI (bk : Int)))] := by rw [he.1 0, he.2.2.2.2.1 0, he.2.2.2.2.1 1, he.2.2.2.2.1 2]; exact hl
    refine lv_istore (lv' := [(18, .int (iI ((T 16 bk) + 1))), (17, .int (iI (v_state T bk))), (0, .ref b), (1, .ref (ad 0 0)), (2, .ref (ad 6 0)), (3, .ref (ad 6 1)), (4, .ref (ad 6 2)), (5, .int (iI (T 8 0))), (6, .int (iI (T 29 0))), (7, .int (iI 1)), (8, .int (iI tn)), (9, .int (iI (t : Int))), (10, .int (iI x)), (11, .int (iI y)), (12, .int (iI dd)), (13, .int (iI (im : Int))), (14, .int (iI (T 21 0))), (15, .int (iI (T 12 0))), (16, .int (iI (bk : Int)))]) hx hb dL_law_1032 hl (by decide) rfl (fun ls hl => ?_)
    refine lv_iload hx hb dL_law_1034 (lv_at hl 0 rfl) ?_
    refine wa_bi F dL_law_1036 (by decide +kernel) ?_
    refine wa_ic_ne (tgt := 1060) F dL_law_1038 (by decide) (by have q0 := hB 16 bk; exact ⟨by omega, by omega⟩) (by decide) (fun c1038 => ?_) (fun c1038 => absurd c1038 (by omega))
    refine lv_iload hx hb dL_law_1060 (lv_at hl 1 rfl) ?_
    refine wa_bi F dL_law_1062 (by decide +kernel) ?_
    refine wa_ic_ge (tgt := 1106) F dL_law_1064 (by decide) (by have q0 := (vs_t hg bk).1; exact ⟨by omega, by omega⟩) (by decide) (fun c1064 => absurd c1064 (by omega)) (fun c1064 => ?_)
    refine lv_iload hx hb dL_law_1067 (lv_at hl 1 rfl) ?_
    refine wa_bi F dL_law_1069 (by decide +kernel) ?_
    refine wl_div F (by have q0 := (vs_t hg bk).1; omega) (by decide) dL_law_1071 ?_
    refine wa_const F dL_law_1072 ?_
    refine wl_rem F (by have q0 := (vs_t hg bk).1; omega) (by decide) dL_law_1073 ?_
    refine wa_if_ne (tgt := 1106) F dL_law_1074 (by decide) (by have q0 := (vs_t hg bk).1; exact ⟨by omega, by omega⟩) (fun c1074 => absurd c1074 (by omega)) (fun c1074 => ?_)
    refine lv_iload hx hb dL_law_1077 (lv_at hl 0 rfl) ?_
    refine lv_iload hx hb dL_law_1079 (lv_at hl 1 rfl) ?_
    refine wa_bi F dL_law_1081 (by decide +kernel) ?_
    refine wl_rem F (by have q0 := (vs_t hg bk).1; omega) (by decide) dL_law_1083 ?_
    refine wa_const F dL_law_1084 ?_
    refine wa_add F dL_law_1085 ?_
    refine wa_ic_ne (tgt := 1106) F dL_law_1086 (by decide) (by have q0 := hB 16 bk; exact ⟨by omega, by omega⟩) (by have q0 := (vs_t hg bk).1; exact ⟨by omega, by omega⟩) (fun c1086 => absurd c1086 (by omega)) (fun c1086 => ?_)
    refine lv_aload_n hx hb dL_law_1089 rfl (lv_at hl 3 rfl) ?_
    refine wa_const F dL_law_1090 ?_
    refine lv_iload hx hb dL_law_1091 (lv_at hl 18 rfl) ?_
    refine wa_const F dL_law_1093 ?_
    refine va_calli (wl_runS F hTB hN hS (c_L_tried2 l hlt D cy ad (T1) X (G) o A hj hA hg1 hxr (bk : Int) 0 ⟨by omega, by omega⟩ (by decide) (T2) ((-3)) (Or.inr k2) (fun z => absurd (k2.symm.trans z) (by decide)) (fun _ => ⟨hT2.symm, rfl⟩)) qw_348 qw_349 qw_30 qw_350 ⟨by decide, by decide, rfl⟩ ⟨by decide, by decide⟩ ⟨rfl, rfl⟩ hw rfl rfl (Nat.le_of_ble_eq_true rfl) hl.1 dL_law_1094 ⟨Nat.le_trans (show _ ≤ 300000 by omega) (Nat.le_of_ble_eq_true rfl), Nat.le_trans (show _ ≤ 2000000 by omega) (Nat.le_of_ble_eq_true rfl)⟩) hS (fun _ _ h => h) (fun _ h => h) (fun r u t9 H locs ht9 hvm9 hq9 hB9 hz9 hk9 hS => ?_)
    obtain ⟨ad, X⟩ := u
    obtain ⟨hr9, hxr, hj, he⟩ := hq9
    have hxr : xr (T2) X := hxr
    have hj : wa_wj A ad (wW cy ad T2 X G o) := hj
    have hw : wa_wd D ad (wW cy ad T2 X G o) H := by rw [← ht9]; exact hB9
    rw [hr9]
    dsimp only at he
    have hl : lv_has ls 21 [(18, .int (iI ((T 16 bk) + 1))), (17, .int (iI (v_state T bk))), (0, .ref b), (1, .ref (ad 0 0)), (2, .ref (ad 6 0)), (3, .ref (ad 6 1)), (4, .ref (ad 6 2)), (5, .int (iI (T 8 0))), (6, .int (iI (T 29 0))), (7, .int (iI 1)), (8, .int (iI tn)), (9, .int (iI (t : Int))), (10, .int (iI x)), (11, .int (iI y)), (12, .int (iI dd)), (13, .int (iI (im : Int))), (14, .int (iI (T 21 0))), (15, .int (iI (T 12 0))), (16, .int (iI (bk : Int)))] := by rw [he.1 0, he.2.2.2.2.1 0, he.2.2.2.2.1 1, he.2.2.2.2.1 2]; exact hl
    refine wa_bi F dL_law_1097 (by decide +kernel) ?_
    refine wa_ic_ne (tgt := 1106) F dL_law_1099 (by decide) (by decide) (by decide) (fun c1099 => absurd c1099 (by decide)) (fun c1099 => ?_)
    refine wa_const F dL_law_1102 ?_
    refine wa_goto (tgt := 1107) F dL_law_1103 (by decide) ?_
    refine lv_istore (lv' := [(7, .int (iI 1)), (18, .int (iI ((T 16 bk) + 1))), (17, .int (iI (v_state T bk))), (0, .ref b), (1, .ref (ad 0 0)), (2, .ref (ad 6 0)), (3, .ref (ad 6 1)), (4, .ref (ad 6 2)), (5, .int (iI (T 8 0))), (6, .int (iI (T 29 0))), (8, .int (iI tn)), (9, .int (iI (t : Int))), (10, .int (iI x)), (11, .int (iI y)), (12, .int (iI dd)), (13, .int (iI (im : Int))), (14, .int (iI (T 21 0))), (15, .int (iI (T 12 0))), (16, .int (iI (bk : Int)))]) hx hb dL_law_1107 hl (by decide) rfl (fun ls hl => ?_)
    refine wa_goto (tgt := 1799) F dL_law_1109 (by decide) ?_
    refine W.widen (k := 600 + 700 * t) (n := 5200 + 4200 * t) (by omega) (by omega) ?_
    exact hE ad X (T2) (G) _ _ ls (hg2.le (by omega)) hm2 hG2 ⟨fun z => by omega, fun z => by omega⟩ hxr hj hw hS (by rw [f8, f29]; exact lv_sub hl [3, 4, 5, 6, 7, 8, 9, 0, 10, 11] rfl)
set_option maxRecDepth 100000 in
set_option maxHeartbeats 4000000 in
theorem law_d_hold (hF : law_F p l s m meth c D cy A b L xs) (hE : law_E p l e s m below meth c D cy A b Q o tn t) (ht : t < 280) (htn : -100000 ≤ tn ∧ tn ≤ 100000) (hg : gi (2 * t) T) (hm : mg T) (hG : LG T G) (h3 : ic t T) (hxr : xr T X) (hj : wa_wj A ad (wW cy ad T X G o)) (hw : wa_wd D ad (wW cy ad T X G o) H) (hS : va_S A s.heap H locs) (hy : 0 ≤ y ∧ y < 268435456) (ht3 : 3 ≤ t) (hbk : (bk : Int) < T 21 0) (hl : lv_has ls 21 [(0, .ref b), (1, .ref (ad 0 0)), (2, .ref (ad 6 0)), (3, .ref (ad 6 1)), (4, .ref (ad 6 2)), (5, .int (iI (T 8 0))), (6, .int (iI (T 29 0))), (7, .int (iI 1)), (8, .int (iI tn)), (9, .int (iI (t : Int))), (10, .int (iI x)), (11, .int (iI y)), (12, .int (iI dd)), (13, .int (iI (im : Int))), (14, .int (iI (T 21 0))), (15, .int (iI (T 12 0))), (16, .int (iI (bk : Int)))]) : W p l e room_1 s m #[Value.ref b] below meth c H locs (400 + 700 * t) (4000 + 4200 * t) (Q) (F0 m 1134 ls []) := by
  obtain ⟨F, hTB, hN, hA, hlt, hX, hbl, hbA, hL⟩ := id hF
  obtain ⟨hx, hb, hml, hown, hts⟩ := id F.1
  obtain ⟨hB, w8, w21, w12, w29, w4, w7, w6, w5, w13, w25, w26, w28, w14, w3, wf17⟩ := id hg.1
  have h3a := h3.1
  have h3b := h3.2
  have vs := vs_t hg bk
  refine lv_aload_n hx hb dL_law_1134 rfl (lv_at hl 1 rfl) ?_
  refine lv_iload hx hb dL_law_1135 (lv_at hl 16 rfl) ?_
  refine ql_state (i := (bk : Int)) hlt F hTB hA hg.1 hxr hj hw hS (show (0 : Int) ≤ (bk : Int) ∧ (bk : Int) < T 21 0 by omega) ⟨by decide, by decide⟩ (Nat.le_of_ble_eq_true rfl) hl.1 dL_law_1137 ⟨Nat.le_trans (show _ ≤ 300000 by omega) (Nat.le_of_ble_eq_true rfl), Nat.le_trans (show _ ≤ 2000000 by omega) (Nat.le_of_ble_eq_true rfl)⟩ (fun X H locs hxr hj hw hS => ?_)
  refine W.eq (g2 := F0 m 1140 ls [.int (iI (v_state T bk))]) rfl ?_
  refine lv_istore (lv' := [(17, .int (iI (v_state T bk))), (0, .ref b), (1, .ref (ad 0 0)), (2, .ref (ad 6 0)), (3, .ref (ad 6 1)), (4, .ref (ad 6 2)), (5, .int (iI (T 8 0))), (6, .int (iI (T 29 0))), (7, .int (iI 1)), (8, .int (iI tn)), (9, .int (iI (t : Int))), (10, .int (iI x)), (11, .int (iI y)), (12, .int (iI dd)), (13, .int (iI (im : Int))), (14, .int (iI (T 21 0))), (15, .int (iI (T 12 0))), (16, .int (iI (bk : Int)))]) hx hb dL_law_1140 hl (by decide) rfl (fun ls hl => ?_)
  refine wa_const F dL_law_1142 ?_
  refine lv_istore (lv' := [(18, .int (iI 0)), (17, .int (iI (v_state T bk))), (0, .ref b), (1, .ref (ad 0 0)), (2, .ref (ad 6 0)), (3, .ref (ad 6 1)), (4, .ref (ad 6 2)), (5, .int (iI (T 8 0))), (6, .int (iI (T 29 0))), (7, .int (iI 1)), (8, .int (iI tn)), (9, .int (iI (t : Int))), (10, .int (iI x)), (11, .int (iI y)), (12, .int (iI dd)), (13, .int (iI (im : Int))), (14, .int (iI (T 21 0))), (15, .int (iI (T 12 0))), (16, .int (iI (bk : Int)))]) hx hb dL_law_1143 hl (by decide) rfl (fun ls hl => ?_)
  refine wa_const F dL_law_1145 ?_
  refine lv_istore (lv' := [(19, .int (iI 0)), (18, .int (iI 0)), (17, .int (iI (v_state T bk))), (0, .ref b), (1, .ref (ad 0 0)), (2, .ref (ad 6 0)), (3, .ref (ad 6 1)), (4, .ref (ad 6 2)), (5, .int (iI (T 8 0))), (6, .int (iI (T 29 0))), (7, .int (iI 1)), (8, .int (iI tn)), (9, .int (iI (t : Int))), (10, .int (iI x)), (11, .int (iI y)), (12, .int (iI dd)), (13, .int (iI (im : Int))), (14, .int (iI (T 21 0))), (15, .int (iI (T 12 0))), (16, .int (iI (bk : Int)))]) hx hb dL_law_1146 hl (by decide) rfl (fun ls hl => ?_)
  have loop1148 : ∀ (k : Nat) (mx : Nat) (rv : Int) (X : wa_St) (H : Heap) (locs : List Loc), (mx + k = (T 29 0).toNat) → (rv = f_cnt (fun e9 => decide (T 28 e9 = (bk : Int))) mx) → xr T X → wa_wj A ad (wW cy ad T X G o) → wa_wd D ad (wW cy ad T X G o) H → va_S A s.heap H locs → ∀ ls : Array Slot, lv_has ls 21 [(0, .ref b), (1, .ref (ad 0 0)), (2, .ref (ad 6 0)), (3, .ref (ad 6 1)), (4, .ref (ad 6 2)), (5, .int (iI (T 8 0))), (6, .int (iI (T 29 0))), (7, .int (iI 1)), (8, .int (iI tn)), (9, .int (iI (t : Int))), (10, .int (iI x)), (11, .int (iI y)), (12, .int (iI dd)), (13, .int (iI (im : Int))), (14, .int (iI (T 21 0))), (15, .int (iI (T 12 0))), (16, .int (iI (bk : Int))), (17, .int (iI (v_state T bk))), (18, .int (iI rv)), (19, .int (iI (mx : Int)))] → W p l e room_1 s m #[Value.ref b] below meth c H locs (401 + 700 * t + mx) (4006 + 4200 * t + 6 * mx) (Q) (F0 m 1148 ls []) := by
    intro k
    induction k with
    | zero =>
      intro mx rv X H locs hk hrv hxr hj hw hS ls hl
      refine lv_iload hx hb dL_law_1148 (lv_at hl 19 rfl) ?_
      refine lv_iload hx hb dL_law_1150 (lv_at hl 6 rfl) ?_
      refine wa_ic_ge (tgt := 1182) F dL_law_1152 (by decide) (by exact ⟨by omega, by omega⟩) (by have q0 := hB 29 0; exact ⟨by omega, by omega⟩) (fun c1152 => ?_) (fun c1152 => absurd c1152 (by omega))
      have hrf : f_run T (bk : Int) = rv := by rw [hrv, show mx = (T 29 0).toNat by omega]; rfl
      have hcr := f_run_rng hg.1 (bk : Int)
      rcases w_hold hg hm hbk with ⟨k0, c18⟩ | ⟨k0, c18, c17, hg1, hm1, ⟨a8, a12, a21, a29⟩, e17, hG1⟩
      · skip
        have hg1 := hg.th (k := 2) (by decide)
        have hm1 := hm.th 2
        have hG1 := hG.th 2
        have a8 : wa_s T 0 0 2 8 0 = T 8 0 := rfl
        have a12 : wa_s T 0 0 2 12 0 = T 12 0 := rfl
        have a21 : wa_s T 0 0 2 21 0 = T 21 0 := rfl
        have a29 : wa_s T 0 0 2 29 0 = T 29 0 := rfl
        have ev : v_state (wa_s T 0 0 2) bk = v_state T bk := rfl
        generalize hT1 : wa_s T 0 0 2 = T1 at *
        refine lv_aload_n hx hb dL_law_1182 rfl (lv_at hl 1 rfl) ?_
        refine wa_const F dL_law_1183 ?_
        refine lv_iload hx hb dL_law_1184 (lv_at hl 16 rfl) ?_
        refine wa_const F dL_law_1186 ?_
        refine va_calli (wl_runS F hTB hN hS (c_L_tried1 l hlt D cy ad (T) X (G) o A hj hA hg hxr (bk : Int) 0 ⟨by omega, by omega⟩ (by decide) (T1) ((-3)) (Or.inr k0) (fun z => absurd (k0.symm.trans z) (by decide)) (fun _ => ⟨hT1.symm, rfl⟩)) qw_348 qw_349 qw_30 qw_350 ⟨by decide, by decide, rfl⟩ ⟨by decide, by decide⟩ ⟨rfl, rfl⟩ hw rfl rfl (Nat.le_of_ble_eq_true rfl) hl.1 dL_law_1187 ⟨Nat.le_trans (show _ ≤ 300000 by omega) (Nat.le_of_ble_eq_true rfl), Nat.le_trans (show _ ≤ 2000000 by omega) (Nat.le_of_ble_eq_true rfl)⟩) hS (fun _ _ h => h) (fun _ h => h) (fun r u t9 H locs ht9 hvm9 hq9 hB9 hz9 hk9 hS => ?_)
        obtain ⟨ad, X⟩ := u
        obtain ⟨hr9, hxr, hj, he⟩ := hq9
        have hxr : xr (T1) X := hxr
        have hj : wa_wj A ad (wW cy ad T1 X G o) := hj
        have hw : wa_wd D ad (wW cy ad T1 X G o) H := by rw [← ht9]; exact hB9
        rw [hr9]
        dsimp only at he
        have hl : lv_has ls 21 [(0, .ref b), (1, .ref (ad 0 0)), (2, .ref (ad 6 0)), (3, .ref (ad 6 1)), (4, .ref (ad 6 2)), (5, .int (iI (T 8 0))), (6, .int (iI (T 29 0))), (7, .int (iI 1)), (8, .int (iI tn)), (9, .int (iI (t : Int))), (10, .int (iI x)), (11, .int (iI y)), (12, .int (iI dd)), (13, .int (iI (im : Int))), (14, .int (iI (T 21 0))), (15, .int (iI (T 12 0))), (16, .int (iI (bk : Int))), (17, .int (iI (v_state T bk))), (18, .int (iI rv)), (19, .int (iI (mx : Int)))] := by rw [he.1 0, he.2.2.2.2.1 0, he.2.2.2.2.1 1, he.2.2.2.2.1 2]; exact hl
        refine lv_iload hx hb dL_law_1190 (lv_at hl 17 rfl) ?_
        refine wa_bi F dL_law_1192 (by decide +kernel) ?_
        refine wa_ic_ge (tgt := 1208) F dL_law_1194 (by decide) (by have q0 := (vs_t hg bk).1; exact ⟨by omega, by omega⟩) (by decide) (fun c1194 => ?_) (fun c1194 => ?_)
        · skip
          refine wa_bi F dL_law_1208 (by decide +kernel) ?_
          refine wa_goto (tgt := 1215) F dL_law_1210 (by decide) ?_
          refine wa_ic_ne (tgt := 1244) F dL_law_1215 (by decide) (by decide) (by decide) (fun c1215 => absurd c1215 (by decide)) (fun c1215 => ?_)
          refine lv_iload hx hb dL_law_1218 (lv_at hl 17 rfl) ?_
          refine wa_bi F dL_law_1220 (by decide +kernel) ?_
          refine wa_ic_ge (tgt := 1240) F dL_law_1222 (by decide) (by have q0 := (vs_t hg bk).1; exact ⟨by omega, by omega⟩) (by decide) (fun c1222 => ?_) (fun c1222 => absurd c1222 (by omega))
          refine wa_const F dL_law_1240 ?_
          refine wa_goto (tgt := 1245) F dL_law_1241 (by decide) ?_
          refine lv_istore (lv' := [(7, .int (iI 1)), (0, .ref b), (1, .ref (ad 0 0)), (2, .ref (ad 6 0)), (3, .ref (ad 6 1)), (4, .ref (ad 6 2)), (5, .int (iI (T 8 0))), (6, .int (iI (T 29 0))), (8, .int (iI tn)), (9, .int (iI (t : Int))), (10, .int (iI x)), (11, .int (iI y)), (12, .int (iI dd)), (13, .int (iI (im : Int))), (14, .int (iI (T 21 0))), (15, .int (iI (T 12 0))), (16, .int (iI (bk : Int))), (17, .int (iI (v_state T bk))), (18, .int (iI rv)), (19, .int (iI (mx : Int)))]) hx hb dL_law_1245 hl (by decide) rfl (fun ls hl => ?_)
          refine wa_goto (tgt := 1799) F dL_law_1247 (by decide) ?_
          refine W.widen (k := 600 + 700 * t) (n := 5200 + 4200 * t) (by omega) (by omega) ?_
          exact hE ad X (T1) (G) _ _ ls (hg1.le (by omega)) hm1 hG1 ⟨fun z => by omega, fun z => by omega⟩ hxr hj hw hS (by rw [a8, a29]; exact lv_sub hl [1, 2, 3, 4, 5, 6, 7, 0, 8, 9] rfl)
        · skip
          refine lv_iload hx hb dL_law_1197 (lv_at hl 17 rfl) ?_
          refine wa_bi F dL_law_1199 (by decide +kernel) ?_
          refine wl_div F (by have q0 := (vs_t hg bk).1; omega) (by decide) dL_law_1201 ?_
          refine wa_const F dL_law_1202 ?_
          refine wl_rem F (by have q0 := (vs_t hg bk).1; omega) (by decide) dL_law_1203 ?_
          refine wa_const F dL_law_1204 ?_
          refine wa_ic_ne (tgt := 1213) F dL_law_1205 (by decide) (by have q0 := (vs_t hg bk).1; exact ⟨by omega, by omega⟩) (by decide) (fun c1205 => absurd c1205 (by omega)) (fun c1205 => ?_)
          refine wa_bi F dL_law_1208 (by decide +kernel) ?_
          refine wa_goto (tgt := 1215) F dL_law_1210 (by decide) ?_
          refine wa_ic_ne (tgt := 1244) F dL_law_1215 (by decide) (by decide) (by decide) (fun c1215 => absurd c1215 (by decide)) (fun c1215 => ?_)
          refine lv_iload hx hb dL_law_1218 (lv_at hl 17 rfl) ?_
          refine wa_bi F dL_law_1220 (by decide +kernel) ?_
          refine wa_ic_ge (tgt := 1240) F dL_law_1222 (by decide) (by have q0 := (vs_t hg bk).1; exact ⟨by omega, by omega⟩) (by decide) (fun c1222 => absurd c1222 (by omega)) (fun c1222 => ?_)
          refine lv_aload_n hx hb dL_law_1225 rfl (lv_at hl 1 rfl) ?_
          refine lv_iload hx hb dL_law_1226 (lv_at hl 16 rfl) ?_
          refine ql_state (i := (bk : Int)) hlt F hTB hA hg1.1 hxr hj hw hS (show (0 : Int) ≤ (bk : Int) ∧ (bk : Int) < T1 21 0 by omega) ⟨by decide, by decide⟩ (Nat.le_of_ble_eq_true rfl) hl.1 dL_law_1228 ⟨Nat.le_trans (show _ ≤ 300000 by omega) (Nat.le_of_ble_eq_true rfl), Nat.le_trans (show _ ≤ 2000000 by omega) (Nat.le_of_ble_eq_true rfl)⟩ (fun X H locs hxr hj hw hS => ?_)
          refine W.eq (g2 := F0 m 1231 ls [.int (iI (v_state T1 bk))]) rfl ?_
          refine wa_bi F dL_law_1231 (by decide +kernel) ?_
          refine wl_div F (by have q0 := (vs_t hg1 bk).1; omega) (by decide) dL_law_1233 ?_
          refine wa_const F dL_law_1234 ?_
          refine wl_rem F (by have q0 := (vs_t hg1 bk).1; omega) (by decide) dL_law_1235 ?_
          refine wa_const F dL_law_1236 ?_
          refine wa_ic_ne (tgt := 1244) F dL_law_1237 (by decide) (by have q0 := (vs_t hg1 bk).1; exact ⟨by omega, by omega⟩) (by decide) (fun c1237 => absurd c1237 (by omega)) (fun c1237 => ?_)
          refine wa_const F dL_law_1240 ?_
          refine wa_goto (tgt := 1245) F dL_law_1241 (by decide) ?_
          refine lv_istore (lv' := [(7, .int (iI 1)), (0, .ref b), (1, .ref (ad 0 0)), (2, .ref (ad 6 0)), (3, .ref (ad 6 1)), (4, .ref (ad 6 2)), (5, .int (iI (T 8 0))), (6, .int (iI (T 29 0))), (8, .int (iI tn)), (9, .int (iI (t : Int))), (10, .int (iI x)), (11, .int (iI y)), (12, .int (iI dd)), (13, .int (iI (im : Int))), (14, .int (iI (T 21 0))), (15, .int (iI (T 12 0))), (16, .int (iI (bk : Int))), (17, .int (iI (v_state T bk))), (18, .int (iI rv)), (19, .int (iI (mx : Int)))]) hx hb dL_law_1245 hl (by decide) rfl (fun ls hl => ?_)
          refine wa_goto (tgt := 1799) F dL_law_1247 (by decide) ?_
          refine W.widen (k := 600 + 700 * t) (n := 5200 + 4200 * t) (by omega) (by omega) ?_
          exact hE ad X (T1) (G) _ _ ls (hg1.le (by omega)) hm1 hG1 ⟨fun z => by omega, fun z => by omega⟩ hxr hj hw hS (by rw [a8, a29]; exact lv_sub hl [1, 2, 3, 4, 5, 6, 7, 0, 8, 9] rfl)
      · skip
        have hG1 := hG1 G hG
        generalize hT1 : a_hold T (bk : Int) = T1 at *
        have vs1 := vs_t hg1 bk
        refine lv_aload_n hx hb dL_law_1182 rfl (lv_at hl 1 rfl) ?_
        refine wa_const F dL_law_1183 ?_
        refine lv_iload hx hb dL_law_1184 (lv_at hl 16 rfl) ?_
        refine wa_const F dL_law_1186 ?_
        refine va_calli (wl_runS F hTB hN hS (c_L_tried1 l hlt D cy ad (T) X (G) o A hj hA hg hxr (bk : Int) 0 ⟨by omega, by omega⟩ (by decide) (T1) (rv) (Or.inl k0) (fun _ => ⟨hT1.symm, hrf.symm⟩) (fun z => absurd (k0.symm.trans z) (by decide))) qw_348 qw_349 qw_30 qw_350 ⟨by decide, by decide, rfl⟩ ⟨by decide, by decide⟩ ⟨rfl, rfl⟩ hw rfl rfl (Nat.le_of_ble_eq_true rfl) hl.1 dL_law_1187 ⟨Nat.le_trans (show _ ≤ 300000 by omega) (Nat.le_of_ble_eq_true rfl), Nat.le_trans (show _ ≤ 2000000 by omega) (Nat.le_of_ble_eq_true rfl)⟩) hS (fun _ _ h => h) (fun _ h => h) (fun r u t9 H locs ht9 hvm9 hq9 hB9 hz9 hk9 hS => ?_)
        obtain ⟨ad, X⟩ := u
        obtain ⟨hr9, hxr, hj, he⟩ := hq9
        have hxr : xr (T1) X := hxr
        have hj : wa_wj A ad (wW cy ad T1 X G o) := hj
        have hw : wa_wd D ad (wW cy ad T1 X G o) H := by rw [← ht9]; exact hB9
        rw [hr9]
        dsimp only at he
        have hl : lv_has ls 21 [(0, .ref b), (1, .ref (ad 0 0)), (2, .ref (ad 6 0)), (3, .ref (ad 6 1)), (4, .ref (ad 6 2)), (5, .int (iI (T 8 0))), (6, .int (iI (T 29 0))), (7, .int (iI 1)), (8, .int (iI tn)), (9, .int (iI (t : Int))), (10, .int (iI x)), (11, .int (iI y)), (12, .int (iI dd)), (13, .int (iI (im : Int))), (14, .int (iI (T 21 0))), (15, .int (iI (T 12 0))), (16, .int (iI (bk : Int))), (17, .int (iI (v_state T bk))), (18, .int (iI rv)), (19, .int (iI (mx : Int)))] := by rw [he.1 0, he.2.2.2.2.1 0, he.2.2.2.2.1 1, he.2.2.2.2.1 2]; exact hl
        refine lv_iload hx hb dL_law_1190 (lv_at hl 17 rfl) ?_
        refine wa_bi F dL_law_1192 (by decide +kernel) ?_
        refine wa_ic_ge (tgt := 1208) F dL_law_1194 (by decide) (by have q0 := (vs_t hg bk).1; exact ⟨by omega, by omega⟩) (by decide) (fun c1194 => absurd c1194 (by omega)) (fun c1194 => ?_)
        refine lv_iload hx hb dL_law_1197 (lv_at hl 17 rfl) ?_
        refine wa_bi F dL_law_1199 (by decide +kernel) ?_
        refine wl_div F (by have q0 := (vs_t hg bk).1; omega) (by decide) dL_law_1201 ?_
        refine wa_const F dL_law_1202 ?_
        refine wl_rem F (by have q0 := (vs_t hg bk).1; omega) (by decide) dL_law_1203 ?_
        refine wa_const F dL_law_1204 ?_
        refine wa_ic_ne (tgt := 1213) F dL_law_1205 (by decide) (by have q0 := (vs_t hg bk).1; exact ⟨by omega, by omega⟩) (by decide) (fun c1205 => ?_) (fun c1205 => absurd c1205 (by omega))
        refine lv_iload hx hb dL_law_1213 (lv_at hl 18 rfl) ?_
        refine wa_ic_ne (tgt := 1244) F dL_law_1215 (by decide) (by have q0 := (show wa_r rv from ⟨by omega, by omega⟩); exact ⟨by omega, by omega⟩) (by have q0 := (show wa_r rv from ⟨by omega, by omega⟩); exact ⟨by omega, by omega⟩) (fun c1215 => absurd c1215 (by omega)) (fun c1215 => ?_)
        refine lv_iload hx hb dL_law_1218 (lv_at hl 17 rfl) ?_
        refine wa_bi F dL_law_1220 (by decide +kernel) ?_
        refine wa_ic_ge (tgt := 1240) F dL_law_1222 (by decide) (by have q0 := (vs_t hg bk).1; exact ⟨by omega, by omega⟩) (by decide) (fun c1222 => absurd c1222 (by omega)) (fun c1222 => ?_)
        refine lv_aload_n hx hb dL_law_1225 rfl (lv_at hl 1 rfl) ?_
        refine lv_iload hx hb dL_law_1226 (lv_at hl 16 rfl) ?_
        refine ql_state (i := (bk : Int)) hlt F hTB hA hg1.1 hxr hj hw hS (show (0 : Int) ≤ (bk : Int) ∧ (bk : Int) < T1 21 0 by omega) ⟨by decide, by decide⟩ (Nat.le_of_ble_eq_true rfl) hl.1 dL_law_1228 ⟨Nat.le_trans (show _ ≤ 300000 by omega) (Nat.le_of_ble_eq_true rfl), Nat.le_trans (show _ ≤ 2000000 by omega) (Nat.le_of_ble_eq_true rfl)⟩ (fun X H locs hxr hj hw hS => ?_)
        refine W.eq (g2 := F0 m 1231 ls [.int (iI (v_state T1 bk))]) rfl ?_
        refine wa_bi F dL_law_1231 (by decide +kernel) ?_
        refine wl_div F (by have q0 := (vs_t hg1 bk).1; omega) (by decide) dL_law_1233 ?_
        refine wa_const F dL_law_1234 ?_
        refine wl_rem F (by have q0 := (vs_t hg1 bk).1; omega) (by decide) dL_law_1235 ?_
        refine wa_const F dL_law_1236 ?_
        refine wa_ic_ne (tgt := 1244) F dL_law_1237 (by decide) (by have q0 := (vs_t hg1 bk).1; exact ⟨by omega, by omega⟩) (by decide) (fun c1237 => absurd c1237 (by omega)) (fun c1237 => ?_)
        refine wa_const F dL_law_1240 ?_
        refine wa_goto (tgt := 1245) F dL_law_1241 (by decide) ?_
        refine lv_istore (lv' := [(7, .int (iI 1)), (0, .ref b), (1, .ref (ad 0 0)), (2, .ref (ad 6 0)), (3, .ref (ad 6 1)), (4, .ref (ad 6 2)), (5, .int (iI (T 8 0))), (6, .int (iI (T 29 0))), (8, .int (iI tn)), (9, .int (iI (t : Int))), (10, .int (iI x)), (11, .int (iI y)), (12, .int (iI dd)), (13, .int (iI (im : Int))), (14, .int (iI (T 21 0))), (15, .int (iI (T 12 0))), (16, .int (iI (bk : Int))), (17, .int (iI (v_state T bk))), (18, .int (iI rv)), (19, .int (iI (mx : Int)))]) hx hb dL_law_1245 hl (by decide) rfl (fun ls hl => ?_)
        refine wa_goto (tgt := 1799) F dL_law_1247 (by decide) ?_
        refine W.widen (k := 600 + 700 * t) (n := 5200 + 4200 * t) (by omega) (by omega) ?_
        exact hE ad X (T1) (G) _ _ ls (hg1.le (by omega)) hm1 hG1 ⟨fun z => by omega, fun z => by omega⟩ hxr hj hw hS (by rw [a8, a29]; exact lv_sub hl [1, 2, 3, 4, 5, 6, 7, 0, 8, 9] rfl)
    | succ k ih1148 =>
      intro mx rv X H locs hk hrv hxr hj hw hS ls hl
      have hcr := f_cnt_rng (fun e9 => decide (T 28 e9 = (bk : Int))) mx
      refine lv_iload hx hb dL_law_1148 (lv_at hl 19 rfl) ?_
      refine lv_iload hx hb dL_law_1150 (lv_at hl 6 rfl) ?_
      refine wa_ic_ge (tgt := 1182) F dL_law_1152 (by decide) (by exact ⟨by omega, by omega⟩) (by have q0 := hB 29 0; exact ⟨by omega, by omega⟩) (fun c1152 => absurd c1152 (by omega)) (fun c1152 => ?_)
      refine lv_iload hx hb dL_law_1155 (lv_at hl 18 rfl) ?_
      refine lv_aload_n hx hb dL_law_1157 rfl (lv_at hl 1 rfl) ?_
      refine lv_iload hx hb dL_law_1158 (lv_at hl 19 rfl) ?_
      refine ql_runsFrom (i := (mx : Int)) hlt F hTB hA hg.1 hxr hj hw hS (show (0 : Int) ≤ (mx : Int) ∧ (mx : Int) < T 29 0 by omega) ⟨by decide, by decide⟩ (Nat.le_of_ble_eq_true rfl) hl.1 dL_law_1160 ⟨Nat.le_trans (show _ ≤ 300000 by omega) (Nat.le_of_ble_eq_true rfl), Nat.le_trans (show _ ≤ 2000000 by omega) (Nat.le_of_ble_eq_true rfl)⟩ (fun X H locs hxr hj hw hS => ?_)
      refine W.eq (g2 := F0 m 1163 ls [.int (iI (T 28 mx)), .int (iI rv)]) rfl ?_
      refine lv_iload hx hb dL_law_1163 (lv_at hl 16 rfl) ?_
      refine wa_ic_ne (tgt := 1172) F dL_law_1165 (by decide) (by have q0 := hB 28 mx; exact ⟨by omega, by omega⟩) (by exact ⟨by omega, by omega⟩) (fun c1165 => ?_) (fun c1165 => ?_)
      · skip
        refine wa_const F dL_law_1172 ?_
        refine wa_add F dL_law_1173 ?_
        refine lv_istore (lv' := [(18, .int (iI (rv + 0))), (0, .ref b), (1, .ref (ad 0 0)), (2, .ref (ad 6 0)), (3, .ref (ad 6 1)), (4, .ref (ad 6 2)), (5, .int (iI (T 8 0))), (6, .int (iI (T 29 0))), (7, .int (iI 1)), (8, .int (iI tn)), (9, .int (iI (t : Int))), (10, .int (iI x)), (11, .int (iI y)), (12, .int (iI dd)), (13, .int (iI (im : Int))), (14, .int (iI (T 21 0))), (15, .int (iI (T 12 0))), (16, .int (iI (bk : Int))), (17, .int (iI (v_state T bk))), (19, .int (iI (mx : Int)))]) hx hb dL_law_1174 hl (by decide) rfl (fun ls hl => ?_)
        refine wa_inc (k := 19) (b := ((mx + 1) : Int)) (lv' := [(19, .int (iI ((mx + 1) : Int))), (18, .int (iI (rv + 0))), (0, .ref b), (1, .ref (ad 0 0)), (2, .ref (ad 6 0)), (3, .ref (ad 6 1)), (4, .ref (ad 6 2)), (5, .int (iI (T 8 0))), (6, .int (iI (T 29 0))), (7, .int (iI 1)), (8, .int (iI tn)), (9, .int (iI (t : Int))), (10, .int (iI x)), (11, .int (iI y)), (12, .int (iI dd)), (13, .int (iI (im : Int))), (14, .int (iI (T 21 0))), (15, .int (iI (T 12 0))), (16, .int (iI (bk : Int))), (17, .int (iI (v_state T bk)))]) F dL_law_1176 hl rfl (by omega) (by decide) rfl (fun ls hl => ?_)
        refine wa_goto (tgt := 1148) F dL_law_1179 (by decide) ?_
        refine W.widen (k := 401 + 700 * t + (mx + 1)) (n := 4006 + 4200 * t + 6 * (mx + 1)) (by omega) (by omega) ?_
        exact ih1148 (mx + 1) ((rv + 0)) X _ _ (by omega) (by simp only [f_cnt]; rw [bI_f (fun z => c1165 (of_decide_eq_true z))]; omega) hxr hj hw hS ls (lv_sub hl [2, 3, 4, 5, 6, 7, 8, 9, 10, 11, 12, 13, 14, 15, 16, 17, 18, 19, 1, 0] rfl)
      · skip
        refine wa_const F dL_law_1168 ?_
        refine wa_goto (tgt := 1173) F dL_law_1169 (by decide) ?_
        refine wa_add F dL_law_1173 ?_
        refine lv_istore (lv' := [(18, .int (iI (rv + 1))), (0, .ref b), (1, .ref (ad 0 0)), (2, .ref (ad 6 0)), (3, .ref (ad 6 1)), (4, .ref (ad 6 2)), (5, .int (iI (T 8 0))), (6, .int (iI (T 29 0))), (7, .int (iI 1)), (8, .int (iI tn)), (9, .int (iI (t : Int))), (10, .int (iI x)), (11, .int (iI y)), (12, .int (iI dd)), (13, .int (iI (im : Int))), (14, .int (iI (T 21 0))), (15, .int (iI (T 12 0))), (16, .int (iI (bk : Int))), (17, .int (iI (v_state T bk))), (19, .int (iI (mx : Int)))]) hx hb dL_law_1174 hl (by decide) rfl (fun ls hl => ?_)
        refine wa_inc (k := 19) (b := ((mx + 1) : Int)) (lv' := [(19, .int (iI ((mx + 1) : Int))), (18, .int (iI (rv + 1))), (0, .ref b), (1, .ref (ad 0 0)), (2, .ref (ad 6 0)), (3, .ref (ad 6 1)), (4, .ref (ad 6 2)), (5, .int (iI (T 8 0))), (6, .int (iI (T 29 0))), (7, .int (iI 1)), (8, .int (iI tn)), (9, .int (iI (t : Int))), (10, .int (iI x)), (11, .int (iI y)), (12, .int (iI dd)), (13, .int (iI (im : Int))), (14, .int (iI (T 21 0))), (15, .int (iI (T 12 0))), (16, .int (iI (bk : Int))), (17, .int (iI (v_state T bk)))]) F dL_law_1176 hl rfl (by omega) (by decide) rfl (fun ls hl => ?_)
        refine wa_goto (tgt := 1148) F dL_law_1179 (by decide) ?_
        refine W.widen (k := 401 + 700 * t + (mx + 1)) (n := 4006 + 4200 * t + 6 * (mx + 1)) (by omega) (by omega) ?_
        exact ih1148 (mx + 1) ((rv + 1)) X _ _ (by omega) (by simp only [f_cnt]; rw [bI_t (decide_eq_true c1165)]; omega) hxr hj hw hS ls (lv_sub hl [2, 3, 4, 5, 6, 7, 8, 9, 10, 11, 12, 13, 14, 15, 16, 17, 18, 19, 1, 0] rfl)
  refine W.widen (k := 401 + 700 * t + (0)) (n := 4006 + 4200 * t + 6 * (0)) (by omega) (by omega) ?_
  exact loop1148 ((T 29 0).toNat) 0 0 X _ _ (by omega) rfl hxr hj hw hS ls (lv_sub hl [3, 4, 5, 6, 7, 8, 9, 10, 11, 12, 13, 14, 15, 16, 17, 18, 19, 2, 1, 0] rfl)
set_option maxRecDepth 100000 in
set_option maxHeartbeats 4000000 in
theorem law_d_copy (hF : law_F p l s m meth c D cy A b L xs) (hE : law_E p l e s m below meth c D cy A b Q o tn t) (ht : t < 280) (htn : -100000 ≤ tn ∧ tn ≤ 100000) (hg : gi (2 * t) T) (hm : mg T) (hG : LG T G) (h3 : ic t T) (hxr : xr T X) (hj : wa_wj A ad (wW cy ad T X G o)) (hw : wa_wd D ad (wW cy ad T X G o) H) (hS : va_S A s.heap H locs) (hy : 0 ≤ y ∧ y < 268435456) (ht3 : 3 ≤ t) (hbk : (bk : Int) < T 21 0) (hl : lv_has ls 21 [(0, .ref b), (1, .ref (ad 0 0)), (2, .ref (ad 6 0)), (3, .ref (ad 6 1)), (4, .ref (ad 6 2)), (5, .int (iI (T 8 0))), (6, .int (iI (T 29 0))), (7, .int (iI 1)), (8, .int (iI tn)), (9, .int (iI (t : Int))), (10, .int (iI x)), (11, .int (iI y)), (12, .int (iI dd)), (13, .int (iI (im : Int))), (14, .int (iI (T 21 0))), (15, .int (iI (T 12 0))), (16, .int (iI (bk : Int)))]) : W p l e room_1 s m #[Value.ref b] below meth c H locs (400 + 700 * t) (4000 + 4200 * t) (Q) (F0 m 1262 ls []) := by
  obtain ⟨F, hTB, hN, hA, hlt, hX, hbl, hbA, hL⟩ := id hF
  obtain ⟨hx, hb, hml, hown, hts⟩ := id F.1
  obtain ⟨hB, w8, w21, w12, w29, w4, w7, w6, w5, w13, w25, w26, w28, w14, w3, wf17⟩ := id hg.1
  have h3a := h3.1
  have h3b := h3.2
  have hq9 : 0 ≤ y / 512 % 3 ∧ y / 512 % 3 ≤ 2 := by omega
  rcases w_copy hg (by omega) hm hbk hq9 with k0 | ⟨k0, c0, hg1, hm1, ⟨a8, a12, a21, a29⟩, k2, hG1⟩
  · skip
    have k2 : k_copy (wa_s T 0 0 3) (bk : Int) (y / 512 % 3) = 3 := k0
    have hg1 := hg.th (k := 3) (by decide)
    have hm1 := hm.th 3
    have hG1 := hG.th 3
    have a8 : wa_s T 0 0 3 8 0 = T 8 0 := rfl
    have a12 : wa_s T 0 0 3 12 0 = T 12 0 := rfl
    have a21 : wa_s T 0 0 3 21 0 = T 21 0 := rfl
    have a29 : wa_s T 0 0 3 29 0 = T 29 0 := rfl
    generalize hT1 : wa_s T 0 0 3 = T1 at *
    have hg2 := hg1.th (k := 3) (by decide)
    have hm2 := hm1.th 3
    have hG2 := hG1.th 3
    have b8 : wa_s T1 0 0 3 8 0 = T1 8 0 := rfl
    have b12 : wa_s T1 0 0 3 12 0 = T1 12 0 := rfl
    have b21 : wa_s T1 0 0 3 21 0 = T1 21 0 := rfl
    have b29 : wa_s T1 0 0 3 29 0 = T1 29 0 := rfl
    have f8 := b8.trans a8
    have f29 := b29.trans a29
    generalize hT2 : wa_s T1 0 0 3 = T2 at *
    refine lv_aload_n hx hb dL_law_1262 rfl (lv_at hl 1 rfl) ?_
    refine wa_const F dL_law_1263 ?_
    refine lv_iload hx hb dL_law_1264 (lv_at hl 16 rfl) ?_
    refine lv_iload hx hb dL_law_1266 (lv_at hl 11 rfl) ?_
    refine wa_bi F dL_law_1268 (by decide +kernel) ?_
    refine wl_shr 9 512 F (by have q0 := (show wa_r y from ⟨by omega, by omega⟩); exact ⟨by omega, by omega⟩) (by decide +kernel) rfl dL_law_1270 ?_
    refine wa_const F dL_law_1271 ?_
    refine wl_rem F (by have q0 := (show wa_r y from ⟨by omega, by omega⟩); omega) (by decide) dL_law_1272 ?_
    refine va_calli (wl_runS F hTB hN hS (c_L_tried3 l hlt D cy ad (T) X (G) o A hj hA hg hxr (bk : Int) (y / 512 % 3) ⟨by omega, by omega⟩ ⟨by omega, by omega⟩ (by omega) (T1) ((-3)) (Or.inr k0) (fun z => absurd (k0.symm.trans z) (by decide)) (fun _ => ⟨hT1.symm, rfl⟩)) qw_348 qw_349 qw_30 qw_350 ⟨by decide, by decide, rfl⟩ ⟨by decide, by decide⟩ ⟨rfl, rfl⟩ hw rfl rfl (Nat.le_of_ble_eq_true rfl) hl.1 dL_law_1273 ⟨Nat.le_trans (show _ ≤ 300000 by omega) (Nat.le_of_ble_eq_true rfl), Nat.le_trans (show _ ≤ 2000000 by omega) (Nat.le_of_ble_eq_true rfl)⟩) hS (fun _ _ h => h) (fun _ h => h) (fun r u t9 H locs ht9 hvm9 hq9 hB9 hz9 hk9 hS => ?_)
    obtain ⟨ad, X⟩ := u
    obtain ⟨hr9, hxr, hj, he⟩ := hq9
    have hxr : xr (T1) X := hxr
    have hj : wa_wj A ad (wW cy ad T1 X G o) := hj
    have hw : wa_wd D ad (wW cy ad T1 X G o) H := by rw [← ht9]; exact hB9
    rw [hr9]
    dsimp only at he
    have hl : lv_has ls 21 [(0, .ref b), (1, .ref (ad 0 0)), (2, .ref (ad 6 0)), (3, .ref (ad 6 1)), (4, .ref (ad 6 2)), (5, .int (iI (T 8 0))), (6, .int (iI (T 29 0))), (7, .int (iI 1)), (8, .int (iI tn)), (9, .int (iI (t : Int))), (10, .int (iI x)), (11, .int (iI y)), (12, .int (iI dd)), (13, .int (iI (im : Int))), (14, .int (iI (T 21 0))), (15, .int (iI (T 12 0))), (16, .int (iI (bk : Int)))] := by rw [he.1 0, he.2.2.2.2.1 0, he.2.2.2.2.1 1, he.2.2.2.2.1 2]; exact hl
    refine lv_istore (lv' := [(17, .int (iI (-3))), (0, .ref b), (1, .ref (ad 0 0)), (2, .ref (ad 6 0)), (3, .ref (ad 6 1)), (4, .ref (ad 6 2)), (5, .int (iI (T 8 0))), (6, .int (iI (T 29 0))), (7, .int (iI 1)), (8, .int (iI tn)), (9, .int (iI (t : Int))), (10, .int (iI x)), (11, .int (iI y)), (12, .int (iI dd)), (13, .int (iI (im : Int))), (14, .int (iI (T 21 0))), (15, .int (iI (T 12 0))), (16, .int (iI (bk : Int)))]) hx hb dL_law_1276 hl (by decide) rfl (fun ls hl => ?_)
    refine lv_iload hx hb dL_law_1278 (lv_at hl 0 rfl) ?_
    refine wa_if_ge (tgt := 1290) F dL_law_1280 (by decide) (by decide) (fun c1280 => absurd c1280 (by decide)) (fun c1280 => ?_)
    refine lv_iload hx hb dL_law_1283 (lv_at hl 0 rfl) ?_
    refine wa_bi F dL_law_1285 (by decide +kernel) ?_
    refine wa_ic_ne (tgt := 1313) F dL_law_1287 (by decide) (by decide) (by decide) (fun c1287 => absurd c1287 (by decide)) (fun c1287 => ?_)
    refine lv_aload_n hx hb dL_law_1290 rfl (lv_at hl 2 rfl) ?_
    refine wa_const F dL_law_1291 ?_
    refine lv_iload hx hb dL_law_1292 (lv_at hl 17 rfl) ?_
    refine lv_iload hx hb dL_law_1294 (lv_at hl 12 rfl) ?_
    refine wa_bi F dL_law_1296 (by decide +kernel) ?_
    refine wl_shr 9 512 F (by have q0 := (show wa_r y from ⟨by omega, by omega⟩); exact ⟨by omega, by omega⟩) (by decide +kernel) rfl dL_law_1298 ?_
    refine wa_const F dL_law_1299 ?_
    refine wl_rem F (by have q0 := (show wa_r y from ⟨by omega, by omega⟩); omega) (by decide) dL_law_1300 ?_
    refine va_calli (wl_runS F hTB hN hS (c_L_tried3 l hlt D cy ad (T1) X (G) o A hj hA hg1 hxr (bk : Int) (y / 512 % 3) ⟨by omega, by omega⟩ ⟨by omega, by omega⟩ (by omega) (T2) ((-3)) (Or.inr k2) (fun z => absurd (k2.symm.trans z) (by decide)) (fun _ => ⟨hT2.symm, rfl⟩)) qw_348 qw_349 qw_30 qw_350 ⟨by decide, by decide, rfl⟩ ⟨by decide, by decide⟩ ⟨rfl, rfl⟩ hw rfl rfl (Nat.le_of_ble_eq_true rfl) hl.1 dL_law_1301 ⟨Nat.le_trans (show _ ≤ 300000 by omega) (Nat.le_of_ble_eq_true rfl), Nat.le_trans (show _ ≤ 2000000 by omega) (Nat.le_of_ble_eq_true rfl)⟩) hS (fun _ _ h => h) (fun _ h => h) (fun r u t9 H locs ht9 hvm9 hq9 hB9 hz9 hk9 hS => ?_)
    obtain ⟨ad, X⟩ := u
    obtain ⟨hr9, hxr, hj, he⟩ := hq9
    have hxr : xr (T2) X := hxr
    have hj : wa_wj A ad (wW cy ad T2 X G o) := hj
    have hw : wa_wd D ad (wW cy ad T2 X G o) H := by rw [← ht9]; exact hB9
    rw [hr9]
    dsimp only at he
    have hl : lv_has ls 21 [(17, .int (iI (-3))), (0, .ref b), (1, .ref (ad 0 0)), (2, .ref (ad 6 0)), (3, .ref (ad 6 1)), (4, .ref (ad 6 2)), (5, .int (iI (T 8 0))), (6, .int (iI (T 29 0))), (7, .int (iI 1)), (8, .int (iI tn)), (9, .int (iI (t : Int))), (10, .int (iI x)), (11, .int (iI y)), (12, .int (iI dd)), (13, .int (iI (im : Int))), (14, .int (iI (T 21 0))), (15, .int (iI (T 12 0))), (16, .int (iI (bk : Int)))] := by rw [he.1 0, he.2.2.2.2.1 0, he.2.2.2.2.1 1, he.2.2.2.2.1 2]; exact hl
    refine wa_bi F dL_law_1304 (by decide +kernel) ?_
    refine wa_ic_ne (tgt := 1313) F dL_law_1306 (by decide) (by decide) (by decide) (fun c1306 => absurd c1306 (by decide)) (fun c1306 => ?_)
    refine wa_const F dL_law_1309 ?_
    refine wa_goto (tgt := 1314) F dL_law_1310 (by decide) ?_
    refine lv_istore (lv' := [(7, .int (iI 1)), (17, .int (iI (-3))), (0, .ref b), (1, .ref (ad 0 0)), (2, .ref (ad 6 0)), (3, .ref (ad 6 1)), (4, .ref (ad 6 2)), (5, .int (iI (T 8 0))), (6, .int (iI (T 29 0))), (8, .int (iI tn)), (9, .int (iI (t : Int))), (10, .int (iI x)), (11, .int (iI y)), (12, .int (iI dd)), (13, .int (iI (im : Int))), (14, .int (iI (T 21 0))), (15, .int (iI (T 12 0))), (16, .int (iI (bk : Int)))]) hx hb dL_law_1314 hl (by decide) rfl (fun ls hl => ?_)
    refine wa_goto (tgt := 1799) F dL_law_1316 (by decide) ?_
    refine W.widen (k := 600 + 700 * t) (n := 5200 + 4200 * t) (by omega) (by omega) ?_
    exact hE ad X (T2) (G) _ _ ls (hg2.le (by omega)) hm2 hG2 ⟨fun z => by omega, fun z => by omega⟩ hxr hj hw hS (by rw [f8, f29]; exact lv_sub hl [2, 3, 4, 5, 6, 7, 8, 0, 9, 10] rfl)
  · skip
    have hG1 := hG1 G hG
    have hcB : T 1 0 + T 22 (y / 512 % 3).toNat ≤ 200000 := by have q1 := hB 1 0; have q2 := hB 22 (y / 512 % 3).toNat; omega
    generalize hT1 : a_copy T (bk : Int) (y / 512 % 3) = T1 at *
    have hg2 := hg1.th (k := 3) (by decide)
    have hm2 := hm1.th 3
    have hG2 := hG1.th 3
    have b8 : wa_s T1 0 0 3 8 0 = T1 8 0 := rfl
    have b12 : wa_s T1 0 0 3 12 0 = T1 12 0 := rfl
    have b21 : wa_s T1 0 0 3 21 0 = T1 21 0 := rfl
    have b29 : wa_s T1 0 0 3 29 0 = T1 29 0 := rfl
    have f8 := b8.trans a8
    have f29 := b29.trans a29
    generalize hT2 : wa_s T1 0 0 3 = T2 at *
    refine lv_aload_n hx hb dL_law_1262 rfl (lv_at hl 1 rfl) ?_
    refine wa_const F dL_law_1263 ?_
    refine lv_iload hx hb dL_law_1264 (lv_at hl 16 rfl) ?_
    refine lv_iload hx hb dL_law_1266 (lv_at hl 11 rfl) ?_
    refine wa_bi F dL_law_1268 (by decide +kernel) ?_
    refine wl_shr 9 512 F (by have q0 := (show wa_r y from ⟨by omega, by omega⟩); exact ⟨by omega, by omega⟩) (by decide +kernel) rfl dL_law_1270 ?_
    refine wa_const F dL_law_1271 ?_
    refine wl_rem F (by have q0 := (show wa_r y from ⟨by omega, by omega⟩); omega) (by decide) dL_law_1272 ?_
    refine va_calli (wl_runS F hTB hN hS (c_L_tried3 l hlt D cy ad (T) X (G) o A hj hA hg hxr (bk : Int) (y / 512 % 3) ⟨by omega, by omega⟩ ⟨by omega, by omega⟩ (by omega) (T1) ((T 1 0 + T 22 (y / 512 % 3).toNat)) (Or.inl k0) (fun _ => ⟨hT1.symm, rfl⟩) (fun z => absurd (k0.symm.trans z) (by decide))) qw_348 qw_349 qw_30 qw_350 ⟨by decide, by decide, rfl⟩ ⟨by decide, by decide⟩ ⟨rfl, rfl⟩ hw rfl rfl (Nat.le_of_ble_eq_true rfl) hl.1 dL_law_1273 ⟨Nat.le_trans (show _ ≤ 300000 by omega) (Nat.le_of_ble_eq_true rfl), Nat.le_trans (show _ ≤ 2000000 by omega) (Nat.le_of_ble_eq_true rfl)⟩) hS (fun _ _ h => h) (fun _ h => h) (fun r u t9 H locs ht9 hvm9 hq9 hB9 hz9 hk9 hS => ?_)
    obtain ⟨ad, X⟩ := u
    obtain ⟨hr9, hxr, hj, he⟩ := hq9
    have hxr : xr (T1) X := hxr
    have hj : wa_wj A ad (wW cy ad T1 X G o) := hj
    have hw : wa_wd D ad (wW cy ad T1 X G o) H := by rw [← ht9]; exact hB9
    rw [hr9]
    dsimp only at he
    have hl : lv_has ls 21 [(0, .ref b), (1, .ref (ad 0 0)), (2, .ref (ad 6 0)), (3, .ref (ad 6 1)), (4, .ref (ad 6 2)), (5, .int (iI (T 8 0))), (6, .int (iI (T 29 0))), (7, .int (iI 1)), (8, .int (iI tn)), (9, .int (iI (t : Int))), (10, .int (iI x)), (11, .int (iI y)), (12, .int (iI dd)), (13, .int (iI (im : Int))), (14, .int (iI (T 21 0))), (15, .int (iI (T 12 0))), (16, .int (iI (bk : Int)))] := by rw [he.1 0, he.2.2.2.2.1 0, he.2.2.2.2.1 1, he.2.2.2.2.1 2]; exact hl
    refine lv_istore (lv' := [(17, .int (iI (T 1 0 + T 22 (y / 512 % 3).toNat))), (0, .ref b), (1, .ref (ad 0 0)), (2, .ref (ad 6 0)), (3, .ref (ad 6 1)), (4, .ref (ad 6 2)), (5, .int (iI (T 8 0))), (6, .int (iI (T 29 0))), (7, .int (iI 1)), (8, .int (iI tn)), (9, .int (iI (t : Int))), (10, .int (iI x)), (11, .int (iI y)), (12, .int (iI dd)), (13, .int (iI (im : Int))), (14, .int (iI (T 21 0))), (15, .int (iI (T 12 0))), (16, .int (iI (bk : Int)))]) hx hb dL_law_1276 hl (by decide) rfl (fun ls hl => ?_)
    refine lv_iload hx hb dL_law_1278 (lv_at hl 0 rfl) ?_
    refine wa_if_ge (tgt := 1290) F dL_law_1280 (by decide) (by have q0 := (show wa_r (T 1 0 + T 22 (y / 512 % 3).toNat) from ⟨by omega, by omega⟩); exact ⟨by omega, by omega⟩) (fun c1280 => ?_) (fun c1280 => absurd c1280 (by omega))
    refine lv_aload_n hx hb dL_law_1290 rfl (lv_at hl 2 rfl) ?_
    refine wa_const F dL_law_1291 ?_
    refine lv_iload hx hb dL_law_1292 (lv_at hl 17 rfl) ?_
    refine lv_iload hx hb dL_law_1294 (lv_at hl 12 rfl) ?_
    refine wa_bi F dL_law_1296 (by decide +kernel) ?_
    refine wl_shr 9 512 F (by have q0 := (show wa_r y from ⟨by omega, by omega⟩); exact ⟨by omega, by omega⟩) (by decide +kernel) rfl dL_law_1298 ?_
    refine wa_const F dL_law_1299 ?_
    refine wl_rem F (by have q0 := (show wa_r y from ⟨by omega, by omega⟩); omega) (by decide) dL_law_1300 ?_
    refine va_calli (wl_runS F hTB hN hS (c_L_tried3 l hlt D cy ad (T1) X (G) o A hj hA hg1 hxr (bk : Int) (y / 512 % 3) ⟨by omega, by omega⟩ ⟨by omega, by omega⟩ (by omega) (T2) ((-3)) (Or.inr k2) (fun z => absurd (k2.symm.trans z) (by decide)) (fun _ => ⟨hT2.symm, rfl⟩)) qw_348 qw_349 qw_30 qw_350 ⟨by decide, by decide, rfl⟩ ⟨by decide, by decide⟩ ⟨rfl, rfl⟩ hw rfl rfl (Nat.le_of_ble_eq_true rfl) hl.1 dL_law_1301 ⟨Nat.le_trans (show _ ≤ 300000 by omega) (Nat.le_of_ble_eq_true rfl), Nat.le_trans (show _ ≤ 2000000 by omega) (Nat.le_of_ble_eq_true rfl)⟩) hS (fun _ _ h => h) (fun _ h => h) (fun r u t9 H locs ht9 hvm9 hq9 hB9 hz9 hk9 hS => ?_)
    obtain ⟨ad, X⟩ := u
    obtain ⟨hr9, hxr, hj, he⟩ := hq9
    have hxr : xr (T2) X := hxr
    have hj : wa_wj A ad (wW cy ad T2 X G o) := hj
    have hw : wa_wd D ad (wW cy ad T2 X G o) H := by rw [← ht9]; exact hB9
    rw [hr9]
    dsimp only at he
    have hl : lv_has ls 21 [(17, .int (iI (T 1 0 + T 22 (y / 512 % 3).toNat))), (0, .ref b), (1, .ref (ad 0 0)), (2, .ref (ad 6 0)), (3, .ref (ad 6 1)), (4, .ref (ad 6 2)), (5, .int (iI (T 8 0))), (6, .int (iI (T 29 0))), (7, .int (iI 1)), (8, .int (iI tn)), (9, .int (iI (t : Int))), (10, .int (iI x)), (11, .int (iI y)), (12, .int (iI dd)), (13, .int (iI (im : Int))), (14, .int (iI (T 21 0))), (15, .int (iI (T 12 0))), (16, .int (iI (bk : Int)))] := by rw [he.1 0, he.2.2.2.2.1 0, he.2.2.2.2.1 1, he.2.2.2.2.1 2]; exact hl
    refine wa_bi F dL_law_1304 (by decide +kernel) ?_
    refine wa_ic_ne (tgt := 1313) F dL_law_1306 (by decide) (by decide) (by decide) (fun c1306 => absurd c1306 (by decide)) (fun c1306 => ?_)
    refine wa_const F dL_law_1309 ?_
    refine wa_goto (tgt := 1314) F dL_law_1310 (by decide) ?_
    refine lv_istore (lv' := [(7, .int (iI 1)), (17, .int (iI (T 1 0 + T 22 (y / 512 % 3).toNat))), (0, .ref b), (1, .ref (ad 0 0)), (2, .ref (ad 6 0)), (3, .ref (ad 6 1)), (4, .ref (ad 6 2)), (5, .int (iI (T 8 0))), (6, .int (iI (T 29 0))), (8, .int (iI tn)), (9, .int (iI (t : Int))), (10, .int (iI x)), (11, .int (iI y)), (12, .int (iI dd)), (13, .int (iI (im : Int))), (14, .int (iI (T 21 0))), (15, .int (iI (T 12 0))), (16, .int (iI (bk : Int)))]) hx hb dL_law_1314 hl (by decide) rfl (fun ls hl => ?_)
    refine wa_goto (tgt := 1799) F dL_law_1316 (by decide) ?_
    refine W.widen (k := 600 + 700 * t) (n := 5200 + 4200 * t) (by omega) (by omega) ?_
    exact hE ad X (T2) (G) _ _ ls (hg2.le (by omega)) hm2 hG2 ⟨fun z => by omega, fun z => by omega⟩ hxr hj hw hS (by rw [f8, f29]; exact lv_sub hl [2, 3, 4, 5, 6, 7, 8, 0, 9, 10] rfl)
set_option maxRecDepth 100000 in
set_option maxHeartbeats 4000000 in
theorem law_d_rules (hF : law_F p l s m meth c D cy A b L xs) (hE : law_E p l e s m below meth c D cy A b Q o tn t) (ht : t < 280) (htn : -100000 ≤ tn ∧ tn ≤ 100000) (hg : gi (2 * t) T) (hm : mg T) (hG : LG T G) (h3 : ic t T) (hxr : xr T X) (hj : wa_wj A ad (wW cy ad T X G o)) (hw : wa_wd D ad (wW cy ad T X G o) H) (hS : va_S A s.heap H locs) (hy : 0 ≤ y ∧ y < 268435456) (ht3 : 3 ≤ t) (hl : lv_has ls 21 [(0, .ref b), (1, .ref (ad 0 0)), (2, .ref (ad 6 0)), (3, .ref (ad 6 1)), (4, .ref (ad 6 2)), (5, .int (iI (T 8 0))), (6, .int (iI (T 29 0))), (7, .int (iI 1)), (8, .int (iI tn)), (9, .int (iI (t : Int))), (10, .int (iI x)), (11, .int (iI y)), (12, .int (iI dd)), (13, .int (iI (im : Int))), (14, .int (iI (T 21 0))), (15, .int (iI (T 12 0))), (16, .int (iI (bk : Int)))]) : W p l e room_1 s m #[Value.ref b] below meth c H locs (400 + 700 * t) (4000 + 4200 * t) (Q) (F0 m 1333 ls []) := by
  obtain ⟨F, hTB, hN, hA, hlt, hX, hbl, hbA, hL⟩ := id hF
  obtain ⟨hx, hb, hml, hown, hts⟩ := id F.1
  obtain ⟨hB, w8, w21, w12, w29, w4, w7, w6, w5, w13, w25, w26, w28, w14, w3, wf17⟩ := id hg.1
  have h3a := h3.1
  have h3b := h3.2
  obtain ⟨k0, hg1, hm1, ⟨a8, a12, a21, a29⟩, hG1⟩ := w_rules (q := y / 4 % 3) (d := y / 16 % 4) (st := y / 128 % 16) (kp := y / 4096 % 30) hg hm (by omega) (by omega) (by omega) (by omega)
  have hG1 := hG1 G hG
  refine lv_aload_n hx hb dL_law_1333 rfl (lv_at hl 1 rfl) ?_
  refine lv_iload hx hb dL_law_1334 (lv_at hl 11 rfl) ?_
  refine wa_const F dL_law_1336 ?_
  refine wl_shr 2 4 F (by have q0 := (show wa_r y from ⟨by omega, by omega⟩); exact ⟨by omega, by omega⟩) (by decide +kernel) rfl dL_law_1337 ?_
  refine wa_const F dL_law_1338 ?_
  refine wl_rem F (by have q0 := (show wa_r y from ⟨by omega, by omega⟩); omega) (by decide) dL_law_1339 ?_
  refine lv_iload hx hb dL_law_1340 (lv_at hl 11 rfl) ?_
  refine wa_const F dL_law_1342 ?_
  refine wl_shr 4 16 F (by have q0 := (show wa_r y from ⟨by omega, by omega⟩); exact ⟨by omega, by omega⟩) (by decide +kernel) rfl dL_law_1343 ?_
  refine wa_const F dL_law_1344 ?_
  refine wl_rem F (by have q0 := (show wa_r y from ⟨by omega, by omega⟩); omega) (by decide) dL_law_1345 ?_
  refine lv_iload hx hb dL_law_1346 (lv_at hl 11 rfl) ?_
  refine wa_bi F dL_law_1348 (by decide +kernel) ?_
  refine wl_shr 7 128 F (by have q0 := (show wa_r y from ⟨by omega, by omega⟩); exact ⟨by omega, by omega⟩) (by decide +kernel) rfl dL_law_1350 ?_
  refine wa_bi F dL_law_1351 (by decide +kernel) ?_
  refine wl_rem F (by have q0 := (show wa_r y from ⟨by omega, by omega⟩); omega) (by decide) dL_law_1353 ?_
  refine lv_iload hx hb dL_law_1354 (lv_at hl 11 rfl) ?_
  refine wa_bi F dL_law_1356 (by decide +kernel) ?_
  refine wl_shr 12 4096 F (by have q0 := (show wa_r y from ⟨by omega, by omega⟩); exact ⟨by omega, by omega⟩) (by decide +kernel) rfl dL_law_1358 ?_
  refine wa_bi F dL_law_1359 (by decide +kernel) ?_
  refine wl_rem F (by have q0 := (show wa_r y from ⟨by omega, by omega⟩); omega) (by decide) dL_law_1361 ?_
  refine wl_cv (vL_108 F hTB hS (c_X4_setRules l hlt D cy ad T X (G) o A hj hA hg.1 hxr (wx_inj.of hj) (y / 4 % 3) (y / 16 % 4) (y / 128 % 16) (y / 4096 % 30) ⟨by omega, by omega⟩ ⟨by omega, by omega⟩ ⟨by omega, by omega⟩ ⟨by omega, by omega⟩) ⟨by decide, by decide⟩ ⟨rfl, rfl⟩ hw hw rfl rfl rfl (Nat.le_of_ble_eq_true rfl) hl.1 dL_law_1362 ⟨Nat.le_trans (show _ ≤ 300000 by omega) (Nat.le_of_ble_eq_true rfl), Nat.le_trans (show _ ≤ 2000000 by omega) (Nat.le_of_ble_eq_true rfl)⟩) hS (fun E ce q9 u H1 locs1 hE9 hk0 _ _ _ _ _ _ => absurd k0 hk0) (fun u H locs hK hp9 hB9 hS => ?_)
  generalize hT1 : a_rules T (y / 4 % 3) (y / 16 % 4) (y / 128 % 16) (y / 4096 % 30) = T1 at *
  obtain ⟨ad, X⟩ := u
  obtain ⟨hxr, hj, he⟩ := hp9
  have hxr : xr T1 X := hxr
  have hj : wa_wj A ad (wW cy ad T1 X G o) := hj
  have hw : wa_wd D ad (wW cy ad T1 X G o) H := hB9
  dsimp only at he
  have hl : lv_has ls 21 [(0, .ref b), (1, .ref (ad 0 0)), (2, .ref (ad 6 0)), (3, .ref (ad 6 1)), (4, .ref (ad 6 2)), (5, .int (iI (T 8 0))), (6, .int (iI (T 29 0))), (7, .int (iI 1)), (8, .int (iI tn)), (9, .int (iI (t : Int))), (10, .int (iI x)), (11, .int (iI y)), (12, .int (iI dd)), (13, .int (iI (im : Int))), (14, .int (iI (T 21 0))), (15, .int (iI (T 12 0))), (16, .int (iI (bk : Int)))] := by rw [he.1 0, he.2.2.2.2.1 0, he.2.2.2.2.1 1, he.2.2.2.2.1 2]; exact hl
  refine wa_goto (tgt := 1799) F dL_law_1365 (by decide) ?_
  refine W.widen (k := 600 + 700 * t) (n := 5200 + 4200 * t) (by omega) (by omega) ?_
  exact hE ad X (T1) (G) _ _ ls (hg1.le (by omega)) hm1 hG1 ⟨fun z => by omega, fun z => by omega⟩ hxr hj hw hS (by rw [a8, a29]; exact lv_sub hl [0, 1, 2, 3, 4, 5, 6, 7, 8, 9] rfl)
end WLD
