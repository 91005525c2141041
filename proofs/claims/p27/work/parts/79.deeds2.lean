/-! the law: its deeds on images, second part: bakes (laid by program) -/
section WLD
variable {p : Program} {l : Launch} {e : Env} {s : State} {m : MethodId} {below : List Frame} {meth : Method} {c : Code} {Q : State → Prop}
variable {D : va_G} {A : Nat → Prop} {cy : Nat → ClassId} {b L : Nat} {xs : Nat → Int32} {o : Int64} {tn : Int} {t : Nat} {ad : Nat → Nat → Nat} {T X G : wa_St} {H : Heap} {locs : List Loc} {ls : Array Slot} {x y dd : Int} {im bk : Nat}
set_option maxRecDepth 100000 in
set_option maxHeartbeats 4000000 in
theorem law_d_bake (hF : law_F p l s m meth c D cy A b L xs) (hE : law_E p l e s m below meth c D cy A b Q o tn t) (ht : t < 280) (htn : -100000 ≤ tn ∧ tn ≤ 100000) (hg : gi (2 * t) T) (hm : mg T) (hG : LG T G) (h3 : ic t T) (hxr : xr T X) (hj : wa_wj A ad (wW cy ad T X G o)) (hw : wa_wd D ad (wW cy ad T X G o) H) (hS : va_S A s.heap H locs) (hy : 0 ≤ y ∧ y < 268435456) (ht3 : 3 ≤ t) (him : (im : Int) < T 8 0) (hl : lv_has ls 21 [(0, .ref b), (1, .ref (ad 0 0)), (2, .ref (ad 6 0)), (3, .ref (ad 6 1)), (4, .ref (ad 6 2)), (5, .int (iI (T 8 0))), (6, .int (iI (T 29 0))), (7, .int (iI 1)), (8, .int (iI tn)), (9, .int (iI (t : Int))), (10, .int (iI x)), (11, .int (iI y)), (12, .int (iI dd)), (13, .int (iI (im : Int))), (14, .int (iI (T 21 0))), (15, .int (iI (T 12 0))), (16, .int (iI (bk : Int)))]) : W p l e room_1 s m #[Value.ref b] below meth c H locs (400 + 700 * t) (4000 + 4200 * t) (Q) (F0 m 507 ls []) := by
  obtain ⟨F, hTB, hN, hA, hlt, hX, hbl, hbA, hL⟩ := id hF
  obtain ⟨hx, hb, hml, hown, hts⟩ := id F.1
  obtain ⟨hB, w8, w21, w12, w29, w4, w7, w6, w5, w13, w25, w26, w28, w14, w3, wf17⟩ := id hg.1
  have h3a := h3.1
  have h3b := h3.2
  have g0 := hG.2.1 im him
  have g1 := hG.2.2.1 im (by omega)
  have p4 := w4 im him
  have p7 := w7 im him
  have p6 := w6 im
  refine lv_aload_n hx hb dL_law_507 rfl (lv_at hl 2 rfl) ?_
  refine lv_iload hx hb dL_law_508 (lv_at hl 13 rfl) ?_
  refine wl_gld F hw 0 (by decide) im rfl (by omega) dL_law_510 ?_
  rw [g0]
  refine wa_if_lt (tgt := 525) F dL_law_511 (by decide) (by have q0 := hB 4 im; exact ⟨by omega, by omega⟩) (fun c511 => ?_) (fun c511 => ?_)
  · skip
    refine wa_const F dL_law_525 ?_
    refine wa_goto (tgt := 530) F dL_law_526 (by decide) ?_
    refine lv_istore (lv' := [(17, .int (iI 1)), (0, .ref b), (1, .ref (ad 0 0)), (2, .ref (ad 6 0)), (3, .ref (ad 6 1)), (4, .ref (ad 6 2)), (5, .int (iI (T 8 0))), (6, .int (iI (T 29 0))), (7, .int (iI 1)), (8, .int (iI tn)), (9, .int (iI (t : Int))), (10, .int (iI x)), (11, .int (iI y)), (12, .int (iI dd)), (13, .int (iI (im : Int))), (14, .int (iI (T 21 0))), (15, .int (iI (T 12 0))), (16, .int (iI (bk : Int)))]) hx hb dL_law_530 hl (by decide) rfl (fun ls hl => ?_)
    refine lv_aload_n hx hb dL_law_532 rfl (lv_at hl 3 rfl) ?_
    refine lv_iload hx hb dL_law_533 (lv_at hl 14 rfl) ?_
    refine wl_gld F hw 0 (by decide) im rfl (by omega) dL_law_535 ?_
    rw [g0]
    refine wa_if_lt (tgt := 550) F dL_law_536 (by decide) (by have q0 := hB 4 im; exact ⟨by omega, by omega⟩) (fun c536 => ?_) (fun c536 => absurd c536 (by omega))
    refine wa_const F dL_law_550 ?_
    refine wa_goto (tgt := 555) F dL_law_551 (by decide) ?_
    refine lv_istore (lv' := [(18, .int (iI 1)), (17, .int (iI 1)), (0, .ref b), (1, .ref (ad 0 0)), (2, .ref (ad 6 0)), (3, .ref (ad 6 1)), (4, .ref (ad 6 2)), (5, .int (iI (T 8 0))), (6, .int (iI (T 29 0))), (7, .int (iI 1)), (8, .int (iI tn)), (9, .int (iI (t : Int))), (10, .int (iI x)), (11, .int (iI y)), (12, .int (iI dd)), (13, .int (iI (im : Int))), (14, .int (iI (T 21 0))), (15, .int (iI (T 12 0))), (16, .int (iI (bk : Int)))]) hx hb dL_law_555 hl (by decide) rfl (fun ls hl => ?_)
    refine lv_aload_n hx hb dL_law_557 rfl (lv_at hl 3 rfl) ?_
    refine lv_iload hx hb dL_law_558 (lv_at hl 15 rfl) ?_
    refine ql_latest (i := (im : Int)) hlt F hTB hA hg.1 hxr hj hw hS (show (0 : Int) ≤ (im : Int) ∧ (im : Int) < T 8 0 by omega) ⟨by decide, by decide⟩ (Nat.le_of_ble_eq_true rfl) hl.1 dL_law_560 ⟨Nat.le_trans (show _ ≤ 300000 by omega) (Nat.le_of_ble_eq_true rfl), Nat.le_trans (show _ ≤ 2000000 by omega) (Nat.le_of_ble_eq_true rfl)⟩ (fun X H locs hxr hj hw hS => ?_)
    refine W.eq (g2 := F0 m 563 ls [.int (iI (T 7 im))]) rfl ?_
    refine lv_istore (lv' := [(19, .int (iI (T 7 im))), (18, .int (iI 1)), (17, .int (iI 1)), (0, .ref b), (1, .ref (ad 0 0)), (2, .ref (ad 6 0)), (3, .ref (ad 6 1)), (4, .ref (ad 6 2)), (5, .int (iI (T 8 0))), (6, .int (iI (T 29 0))), (7, .int (iI 1)), (8, .int (iI tn)), (9, .int (iI (t : Int))), (10, .int (iI x)), (11, .int (iI y)), (12, .int (iI dd)), (13, .int (iI (im : Int))), (14, .int (iI (T 21 0))), (15, .int (iI (T 12 0))), (16, .int (iI (bk : Int)))]) hx hb dL_law_563 hl (by decide) rfl (fun ls hl => ?_)
    rcases w_bake hg hm him with ⟨k0, k1⟩ | ⟨k0, hbs, hwb⟩
    · skip
      have a7 : wa_s T 0 0 2 7 im = T 7 im := rfl
      have hg1 := hg.th (k := 2) (by decide)
      have hm1 := hm.th 2
      have hG1 := hG.th 2
      have a8 : wa_s T 0 0 2 8 0 = T 8 0 := rfl
      have a12 : wa_s T 0 0 2 12 0 = T 12 0 := rfl
      have a21 : wa_s T 0 0 2 21 0 = T 21 0 := rfl
      have a29 : wa_s T 0 0 2 29 0 = T 29 0 := rfl
      generalize hT1 : wa_s T 0 0 2 = T1 at *
      have k60 : T 21 0 = 60 := k1.resolve_left (fun z => z (Or.inl (by omega)))
      refine lv_aload_n hx hb dL_law_565 rfl (lv_at hl 4 rfl) ?_
      refine wa_const F dL_law_566 ?_
      refine lv_iload hx hb dL_law_567 (lv_at hl 16 rfl) ?_
      refine wa_const F dL_law_569 ?_
      refine va_calli (wl_runS F hTB hN hS (c_L_tried0 l hlt D cy ad (T) X (G) o A hj hA hg hxr (im : Int) 0 ⟨by omega, by omega⟩ (by decide) (T1) ((-3)) (Or.inr k0) (fun z => absurd (k0.symm.trans z) (by decide)) (fun _ => ⟨hT1.symm, rfl⟩)) qw_348 qw_349 qw_30 qw_350 ⟨by decide, by decide, rfl⟩ ⟨by decide, by decide⟩ ⟨rfl, rfl⟩ hw rfl rfl (Nat.le_of_ble_eq_true rfl) hl.1 dL_law_570 ⟨Nat.le_trans (show _ ≤ 300000 by omega) (Nat.le_of_ble_eq_true rfl), Nat.le_trans (show _ ≤ 2000000 by omega) (Nat.le_of_ble_eq_true rfl)⟩) hS (fun _ _ h => h) (fun _ h => h) (fun r u t9 H locs ht9 hvm9 hq9 hB9 hz9 hk9 hS => ?_)
      obtain ⟨ad, X⟩ := u
      obtain ⟨hr9, hxr, hj, he⟩ := hq9
      have hxr : xr (T1) X := hxr
      have hj : wa_wj A ad (wW cy ad T1 X G o) := hj
      have hw : wa_wd D ad (wW cy ad T1 X G o) H := by rw [← ht9]; exact hB9
      rw [hr9]
      dsimp only at he
      have hl : lv_has ls 21 [(19, .int (iI (T 7 im))), (18, .int (iI 1)), (17, .int (iI 1)), (0, .ref b), (1, .ref (ad 0 0)), (2, .ref (ad 6 0)), (3, .ref (ad 6 1)), (4, .ref (ad 6 2)), (5, .int (iI (T 8 0))), (6, .int (iI (T 29 0))), (7, .int (iI 1)), (8, .int (iI tn)), (9, .int (iI (t : Int))), (10, .int (iI x)), (11, .int (iI y)), (12, .int (iI dd)), (13, .int (iI (im : Int))), (14, .int (iI (T 21 0))), (15, .int (iI (T 12 0))), (16, .int (iI (bk : Int)))] := by rw [he.1 0, he.2.2.2.2.1 0, he.2.2.2.2.1 1, he.2.2.2.2.1 2]; exact hl
      refine lv_istore (lv' := [(20, .int (iI (-3))), (19, .int (iI (T 7 im))), (18, .int (iI 1)), (17, .int (iI 1)), (0, .ref b), (1, .ref (ad 0 0)), (2, .ref (ad 6 0)), (3, .ref (ad 6 1)), (4, .ref (ad 6 2)), (5, .int (iI (T 8 0))), (6, .int (iI (T 29 0))), (7, .int (iI 1)), (8, .int (iI tn)), (9, .int (iI (t : Int))), (10, .int (iI x)), (11, .int (iI y)), (12, .int (iI dd)), (13, .int (iI (im : Int))), (14, .int (iI (T 21 0))), (15, .int (iI (T 12 0))), (16, .int (iI (bk : Int)))]) hx hb dL_law_573 hl (by decide) rfl (fun ls hl => ?_)
      refine lv_iload hx hb dL_law_575 (lv_at hl 0 rfl) ?_
      refine wa_bi F dL_law_577 (by decide +kernel) ?_
      refine wa_ic_ne (tgt := 622) F dL_law_579 (by decide) (by decide) (by decide) (fun c579 => absurd c579 (by decide)) (fun c579 => ?_)
      refine lv_iload hx hb dL_law_582 (lv_at hl 3 rfl) ?_
      refine wa_if_eq (tgt := 594) F dL_law_584 (by decide) (by decide) (fun c584 => absurd c584 (by decide)) (fun c584 => ?_)
      refine lv_iload hx hb dL_law_587 (lv_at hl 18 rfl) ?_
      refine wa_bi F dL_law_589 (by decide +kernel) ?_
      refine wa_ic_ne (tgt := 618) F dL_law_591 (by decide) (by have q0 := hB 21 0; exact ⟨by omega, by omega⟩) (by decide) (fun c591 => absurd c591 (by omega)) (fun c591 => ?_)
      refine lv_aload_n hx hb dL_law_594 rfl (lv_at hl 5 rfl) ?_
      refine ql_layers F hg1.1 hxr hj hw ⟨by decide, by decide⟩ (Nat.le_of_ble_eq_true rfl) hl.1 dL_law_595 ⟨Nat.le_trans (show _ ≤ 300000 by omega) (Nat.le_of_ble_eq_true rfl), Nat.le_trans (show _ ≤ 2000000 by omega) (Nat.le_of_ble_eq_true rfl)⟩ ?_
      refine lv_iload hx hb dL_law_598 (lv_at hl 19 rfl) ?_
      refine wa_ic_ne (tgt := 618) F dL_law_600 (by decide) (by have q0 := hg1.1.1 12 0; exact ⟨by omega, by omega⟩) (by have q0 := hB 12 0; exact ⟨by omega, by omega⟩) (fun c600 => absurd c600 (by omega)) (fun c600 => ?_)
      refine lv_aload_n hx hb dL_law_603 rfl (lv_at hl 5 rfl) ?_
      refine lv_iload hx hb dL_law_604 (lv_at hl 17 rfl) ?_
      refine ql_latest (i := (im : Int)) hlt F hTB hA hg1.1 hxr hj hw hS (show (0 : Int) ≤ (im : Int) ∧ (im : Int) < T1 8 0 by omega) ⟨by decide, by decide⟩ (Nat.le_of_ble_eq_true rfl) hl.1 dL_law_606 ⟨Nat.le_trans (show _ ≤ 300000 by omega) (Nat.le_of_ble_eq_true rfl), Nat.le_trans (show _ ≤ 2000000 by omega) (Nat.le_of_ble_eq_true rfl)⟩ (fun X H locs hxr hj hw hS => ?_)
      refine W.eq (g2 := F0 m 609 ls [.int (iI (T1 7 im))]) rfl ?_
      refine lv_iload hx hb dL_law_609 (lv_at hl 1 rfl) ?_
      refine wa_ic_ne (tgt := 618) F dL_law_611 (by decide) (by have q0 := hg1.1.1 7 im; exact ⟨by omega, by omega⟩) (by have q0 := hB 7 im; exact ⟨by omega, by omega⟩) (fun c611 => absurd c611 (by omega)) (fun c611 => ?_)
      refine wa_const F dL_law_614 ?_
      refine wa_goto (tgt := 715) F dL_law_615 (by decide) ?_
      refine lv_istore (lv' := [(7, .int (iI 1)), (20, .int (iI (-3))), (19, .int (iI (T 7 im))), (18, .int (iI 1)), (17, .int (iI 1)), (0, .ref b), (1, .ref (ad 0 0)), (2, .ref (ad 6 0)), (3, .ref (ad 6 1)), (4, .ref (ad 6 2)), (5, .int (iI (T 8 0))), (6, .int (iI (T 29 0))), (8, .int (iI tn)), (9, .int (iI (t : Int))), (10, .int (iI x)), (11, .int (iI y)), (12, .int (iI dd)), (13, .int (iI (im : Int))), (14, .int (iI (T 21 0))), (15, .int (iI (T 12 0))), (16, .int (iI (bk : Int)))]) hx hb dL_law_715 hl (by decide) rfl (fun ls hl => ?_)
      refine lv_iload hx hb dL_law_717 (lv_at hl 0 rfl) ?_
      refine wa_if_eq (tgt := 744) F dL_law_719 (by decide) (by decide) (fun c719 => absurd c719 (by decide)) (fun c719 => ?_)
      refine lv_iload hx hb dL_law_722 (lv_at hl 1 rfl) ?_
      refine wa_bi F dL_law_724 (by decide +kernel) ?_
      refine wa_ic_eq (tgt := 740) F dL_law_726 (by decide) (by decide) (by decide) (fun c726 => ?_) (fun c726 => absurd c726 (by decide))
      refine wa_const F dL_law_740 ?_
      refine wa_goto (tgt := 745) F dL_law_741 (by decide) ?_
      refine lv_istore (lv' := [(7, .int (iI 1)), (20, .int (iI (-3))), (19, .int (iI (T 7 im))), (18, .int (iI 1)), (17, .int (iI 1)), (0, .ref b), (1, .ref (ad 0 0)), (2, .ref (ad 6 0)), (3, .ref (ad 6 1)), (4, .ref (ad 6 2)), (5, .int (iI (T 8 0))), (6, .int (iI (T 29 0))), (8, .int (iI tn)), (9, .int (iI (t : Int))), (10, .int (iI x)), (11, .int (iI y)), (12, .int (iI dd)), (13, .int (iI (im : Int))), (14, .int (iI (T 21 0))), (15, .int (iI (T 12 0))), (16, .int (iI (bk : Int)))]) hx hb dL_law_745 hl (by decide) rfl (fun ls hl => ?_)
      refine wa_goto (tgt := 1799) F dL_law_747 (by decide) ?_
      refine W.widen (k := 600 + 700 * t) (n := 5200 + 4200 * t) (by omega) (by omega) ?_
      exact hE ad X (T1) (G) _ _ ls (hg1.le (by omega)) hm1 hG1 ⟨fun z => by omega, fun z => by omega⟩ hxr hj hw hS (by rw [a8, a29]; exact lv_sub hl [5, 6, 7, 8, 9, 10, 11, 0, 12, 13] rfl)
    · obtain ⟨hg1, hm1, ⟨a8, a29⟩, ⟨a21, a12⟩, hcs, hfr, hG1⟩ := hwb
      have hG1 := hG1 G hG
      generalize hT1 : a_bake T (im : Int) = T1 at *
      have hB1 := hg1.1.1
      have q7 := hB1 7 im
      have vs1 := vs_t hg1 (T1 7 im).toNat
      rcases hcs with ⟨e7, e21, e12⟩ | ⟨e7, e7n, e16, c60, e21⟩
      · skip
        refine lv_aload_n hx hb dL_law_565 rfl (lv_at hl 4 rfl) ?_
        refine wa_const F dL_law_566 ?_
        refine lv_iload hx hb dL_law_567 (lv_at hl 16 rfl) ?_
        refine wa_const F dL_law_569 ?_
        refine va_calli (wl_runS F hTB hN hS (c_L_tried0 l hlt D cy ad (T) X (G) o A hj hA hg hxr (im : Int) 0 ⟨by omega, by omega⟩ (by decide) (T1) ((T1 7 im)) (Or.inl k0) (fun _ => ⟨hT1.symm, by rw [Int.toNat_natCast, hT1]⟩) (fun z => absurd (k0.symm.trans z) (by decide))) qw_348 qw_349 qw_30 qw_350 ⟨by decide, by decide, rfl⟩ ⟨by decide, by decide⟩ ⟨rfl, rfl⟩ hw rfl rfl (Nat.le_of_ble_eq_true rfl) hl.1 dL_law_570 ⟨Nat.le_trans (show _ ≤ 300000 by omega) (Nat.le_of_ble_eq_true rfl), Nat.le_trans (show _ ≤ 2000000 by omega) (Nat.le_of_ble_eq_true rfl)⟩) hS (fun _ _ h => h) (fun _ h => h) (fun r u t9 H locs ht9 hvm9 hq9 hB9 hz9 hk9 hS => ?_)
        obtain ⟨ad, X⟩ := u
        obtain ⟨hr9, hxr, hj, he⟩ := hq9
        have hxr : xr (T1) X := hxr
        have hj : wa_wj A ad (wW cy ad T1 X G o) := hj
        have hw : wa_wd D ad (wW cy ad T1 X G o) H := by rw [← ht9]; exact hB9
        rw [hr9]
        dsimp only at he
        have hl : lv_has ls 21 [(19, .int (iI (T 7 im))), (18, .int (iI 1)), (17, .int (iI 1)), (0, .ref b), (1, .ref (ad 0 0)), (2, .ref (ad 6 0)), (3, .ref (ad 6 1)), (4, .ref (ad 6 2)), (5, .int (iI (T 8 0))), (6, .int (iI (T 29 0))), (7, .int (iI 1)), (8, .int (iI tn)), (9, .int (iI (t : Int))), (10, .int (iI x)), (11, .int (iI y)), (12, .int (iI dd)), (13, .int (iI (im : Int))), (14, .int (iI (T 21 0))), (15, .int (iI (T 12 0))), (16, .int (iI (bk : Int)))] := by rw [he.1 0, he.2.2.2.2.1 0, he.2.2.2.2.1 1, he.2.2.2.2.1 2]; exact hl
        refine lv_istore (lv' := [(20, .int (iI (T1 7 im))), (19, .int (iI (T 7 im))), (18, .int (iI 1)), (17, .int (iI 1)), (0, .ref b), (1, .ref (ad 0 0)), (2, .ref (ad 6 0)), (3, .ref (ad 6 1)), (4, .ref (ad 6 2)), (5, .int (iI (T 8 0))), (6, .int (iI (T 29 0))), (7, .int (iI 1)), (8, .int (iI tn)), (9, .int (iI (t : Int))), (10, .int (iI x)), (11, .int (iI y)), (12, .int (iI dd)), (13, .int (iI (im : Int))), (14, .int (iI (T 21 0))), (15, .int (iI (T 12 0))), (16, .int (iI (bk : Int)))]) hx hb dL_law_573 hl (by decide) rfl (fun ls hl => ?_)
        refine lv_iload hx hb dL_law_575 (lv_at hl 0 rfl) ?_
        refine wa_bi F dL_law_577 (by decide +kernel) ?_
        refine wa_ic_ne (tgt := 622) F dL_law_579 (by decide) (by have q0 := hg1.1.1 7 im; exact ⟨by omega, by omega⟩) (by decide) (fun c579 => ?_) (fun c579 => absurd c579 (by omega))
        refine lv_iload hx hb dL_law_622 (lv_at hl 3 rfl) ?_
        refine wa_if_eq (tgt := 714) F dL_law_624 (by decide) (by decide) (fun c624 => absurd c624 (by decide)) (fun c624 => ?_)
        refine lv_iload hx hb dL_law_627 (lv_at hl 0 rfl) ?_
        refine lv_aload_n hx hb dL_law_629 rfl (lv_at hl 5 rfl) ?_
        refine lv_iload hx hb dL_law_630 (lv_at hl 17 rfl) ?_
        refine ql_latest (i := (im : Int)) hlt F hTB hA hg1.1 hxr hj hw hS (show (0 : Int) ≤ (im : Int) ∧ (im : Int) < T1 8 0 by omega) ⟨by decide, by decide⟩ (Nat.le_of_ble_eq_true rfl) hl.1 dL_law_632 ⟨Nat.le_trans (show _ ≤ 300000 by omega) (Nat.le_of_ble_eq_true rfl), Nat.le_trans (show _ ≤ 2000000 by omega) (Nat.le_of_ble_eq_true rfl)⟩ (fun X H locs hxr hj hw hS => ?_)
        refine W.eq (g2 := F0 m 635 ls [.int (iI (T1 7 im)), .int (iI (T1 7 im))]) rfl ?_
        refine wa_ic_ne (tgt := 714) F dL_law_635 (by decide) (by have q0 := hg1.1.1 7 im; exact ⟨by omega, by omega⟩) (by have q0 := hg1.1.1 7 im; exact ⟨by omega, by omega⟩) (fun c635 => absurd c635 (by omega)) (fun c635 => ?_)
        refine lv_aload_n hx hb dL_law_638 rfl (lv_at hl 5 rfl) ?_
        refine ql_bakes F hg1.1 hxr hj hw ⟨by decide, by decide⟩ (Nat.le_of_ble_eq_true rfl) hl.1 dL_law_639 ⟨Nat.le_trans (show _ ≤ 300000 by omega) (Nat.le_of_ble_eq_true rfl), Nat.le_trans (show _ ≤ 2000000 by omega) (Nat.le_of_ble_eq_true rfl)⟩ ?_
        refine lv_iload hx hb dL_law_642 (lv_at hl 18 rfl) ?_
        refine wa_const F dL_law_644 ?_
        refine wa_add F dL_law_645 ?_
        refine wa_ic_gt (tgt := 714) F dL_law_646 (by decide) (by have q0 := hg1.1.1 21 0; exact ⟨by omega, by omega⟩) (by have q0 := hB 21 0; exact ⟨by omega, by omega⟩) (fun c646 => absurd c646 (by omega)) (fun c646 => ?_)
        refine lv_aload_n hx hb dL_law_649 rfl (lv_at hl 5 rfl) ?_
        refine ql_layers F hg1.1 hxr hj hw ⟨by decide, by decide⟩ (Nat.le_of_ble_eq_true rfl) hl.1 dL_law_650 ⟨Nat.le_trans (show _ ≤ 300000 by omega) (Nat.le_of_ble_eq_true rfl), Nat.le_trans (show _ ≤ 2000000 by omega) (Nat.le_of_ble_eq_true rfl)⟩ ?_
        refine lv_iload hx hb dL_law_653 (lv_at hl 19 rfl) ?_
        refine lv_aload_n hx hb dL_law_655 rfl (lv_at hl 7 rfl) ?_
        refine lv_iload hx hb dL_law_656 (lv_at hl 17 rfl) ?_
        refine wl_gld F hw 1 (by decide) im rfl (by omega) dL_law_658 ?_
        refine wa_add F dL_law_659 ?_
        refine wa_ic_gt (tgt := 714) F dL_law_660 (by decide) (by have q0 := hg1.1.1 12 0; exact ⟨by omega, by omega⟩) (by have q0 := hB 12 0; have q1 := hG.1 1 im; exact ⟨by omega, by omega⟩) (fun c660 => absurd c660 (by omega)) (fun c660 => ?_)
        refine lv_iload hx hb dL_law_663 (lv_at hl 0 rfl) ?_
        refine lv_iload hx hb dL_law_665 (lv_at hl 1 rfl) ?_
        refine wa_ic_ne (tgt := 691) F dL_law_667 (by decide) (by have q0 := hg1.1.1 7 im; exact ⟨by omega, by omega⟩) (by have q0 := hB 7 im; exact ⟨by omega, by omega⟩) (fun c667 => absurd c667 (by omega)) (fun c667 => ?_)
        refine lv_aload_n hx hb dL_law_670 rfl (lv_at hl 5 rfl) ?_
        refine ql_bakes F hg1.1 hxr hj hw ⟨by decide, by decide⟩ (Nat.le_of_ble_eq_true rfl) hl.1 dL_law_671 ⟨Nat.le_trans (show _ ≤ 300000 by omega) (Nat.le_of_ble_eq_true rfl), Nat.le_trans (show _ ≤ 2000000 by omega) (Nat.le_of_ble_eq_true rfl)⟩ ?_
        refine lv_iload hx hb dL_law_674 (lv_at hl 18 rfl) ?_
        refine wa_ic_ne (tgt := 714) F dL_law_676 (by decide) (by have q0 := hg1.1.1 21 0; exact ⟨by omega, by omega⟩) (by have q0 := hB 21 0; exact ⟨by omega, by omega⟩) (fun c676 => absurd c676 (by omega)) (fun c676 => ?_)
        refine lv_aload_n hx hb dL_law_679 rfl (lv_at hl 5 rfl) ?_
        refine ql_layers F hg1.1 hxr hj hw ⟨by decide, by decide⟩ (Nat.le_of_ble_eq_true rfl) hl.1 dL_law_680 ⟨Nat.le_trans (show _ ≤ 300000 by omega) (Nat.le_of_ble_eq_true rfl), Nat.le_trans (show _ ≤ 2000000 by omega) (Nat.le_of_ble_eq_true rfl)⟩ ?_
        refine lv_iload hx hb dL_law_683 (lv_at hl 19 rfl) ?_
        refine wa_ic_ne (tgt := 714) F dL_law_685 (by decide) (by have q0 := hg1.1.1 12 0; exact ⟨by omega, by omega⟩) (by have q0 := hB 12 0; exact ⟨by omega, by omega⟩) (fun c685 => absurd c685 (by omega)) (fun c685 => ?_)
        refine wa_goto (tgt := 710) F dL_law_688 (by decide) ?_
        refine wa_const F dL_law_710 ?_
        refine wa_goto (tgt := 715) F dL_law_711 (by decide) ?_
        refine lv_istore (lv' := [(7, .int (iI 1)), (20, .int (iI (T1 7 im))), (19, .int (iI (T 7 im))), (18, .int (iI 1)), (17, .int (iI 1)), (0, .ref b), (1, .ref (ad 0 0)), (2, .ref (ad 6 0)), (3, .ref (ad 6 1)), (4, .ref (ad 6 2)), (5, .int (iI (T 8 0))), (6, .int (iI (T 29 0))), (8, .int (iI tn)), (9, .int (iI (t : Int))), (10, .int (iI x)), (11, .int (iI y)), (12, .int (iI dd)), (13, .int (iI (im : Int))), (14, .int (iI (T 21 0))), (15, .int (iI (T 12 0))), (16, .int (iI (bk : Int)))]) hx hb dL_law_715 hl (by decide) rfl (fun ls hl => ?_)
        refine lv_iload hx hb dL_law_717 (lv_at hl 0 rfl) ?_
        refine wa_if_eq (tgt := 744) F dL_law_719 (by decide) (by decide) (fun c719 => absurd c719 (by decide)) (fun c719 => ?_)
        refine lv_iload hx hb dL_law_722 (lv_at hl 1 rfl) ?_
        refine wa_bi F dL_law_724 (by decide +kernel) ?_
        refine wa_ic_eq (tgt := 740) F dL_law_726 (by decide) (by have q0 := hg1.1.1 7 im; exact ⟨by omega, by omega⟩) (by decide) (fun c726 => absurd c726 (by omega)) (fun c726 => ?_)
        refine lv_aload_n hx hb dL_law_729 rfl (lv_at hl 6 rfl) ?_
        refine lv_iload hx hb dL_law_730 (lv_at hl 17 rfl) ?_
        refine ql_isFresh (i := (im : Int)) hlt F hTB hA hg1.1 hxr hj hw hS (show (0 : Int) ≤ (im : Int) ∧ (im : Int) < T1 8 0 by omega) ⟨by decide, by decide⟩ (Nat.le_of_ble_eq_true rfl) hl.1 dL_law_732 ⟨Nat.le_trans (show _ ≤ 300000 by omega) (Nat.le_of_ble_eq_true rfl), Nat.le_trans (show _ ≤ 2000000 by omega) (Nat.le_of_ble_eq_true rfl)⟩ (fun X H locs hxr hj hw hS => ?_)
        rw [bI_t (hfr.mpr (Or.inl (by omega)))]
        refine lv_iload hx hb dL_law_735 (lv_at hl 3 rfl) ?_
        refine wa_ic_ne (tgt := 744) F dL_law_737 (by decide) (by decide) (by decide) (fun c737 => absurd c737 (by decide)) (fun c737 => ?_)
        refine wa_const F dL_law_740 ?_
        refine wa_goto (tgt := 745) F dL_law_741 (by decide) ?_
        refine lv_istore (lv' := [(7, .int (iI 1)), (20, .int (iI (T1 7 im))), (19, .int (iI (T 7 im))), (18, .int (iI 1)), (17, .int (iI 1)), (0, .ref b), (1, .ref (ad 0 0)), (2, .ref (ad 6 0)), (3, .ref (ad 6 1)), (4, .ref (ad 6 2)), (5, .int (iI (T 8 0))), (6, .int (iI (T 29 0))), (8, .int (iI tn)), (9, .int (iI (t : Int))), (10, .int (iI x)), (11, .int (iI y)), (12, .int (iI dd)), (13, .int (iI (im : Int))), (14, .int (iI (T 21 0))), (15, .int (iI (T 12 0))), (16, .int (iI (bk : Int)))]) hx hb dL_law_745 hl (by decide) rfl (fun ls hl => ?_)
        refine wa_goto (tgt := 1799) F dL_law_747 (by decide) ?_
        refine W.widen (k := 600 + 700 * t) (n := 5200 + 4200 * t) (by omega) (by omega) ?_
        exact hE ad X (T1) (G) _ _ ls (hg1.le (by omega)) hm1 hG1 ⟨fun z => by omega, fun z => by omega⟩ hxr hj hw hS (by rw [a8, a29]; exact lv_sub hl [5, 6, 7, 8, 9, 10, 11, 0, 12, 13] rfl)
      · skip
        have e16b : T1 16 (T1 7 im).toNat = 0 := by rw [e7]; exact e16
        refine lv_aload_n hx hb dL_law_565 rfl (lv_at hl 4 rfl) ?_
        refine wa_const F dL_law_566 ?_
        refine lv_iload hx hb dL_law_567 (lv_at hl 16 rfl) ?_
        refine wa_const F dL_law_569 ?_
        refine va_calli (wl_runS F hTB hN hS (c_L_tried0 l hlt D cy ad (T) X (G) o A hj hA hg hxr (im : Int) 0 ⟨by omega, by omega⟩ (by decide) (T1) ((T1 7 im)) (Or.inl k0) (fun _ => ⟨hT1.symm, by rw [Int.toNat_natCast, hT1]⟩) (fun z => absurd (k0.symm.trans z) (by decide))) qw_348 qw_349 qw_30 qw_350 ⟨by decide, by decide, rfl⟩ ⟨by decide, by decide⟩ ⟨rfl, rfl⟩ hw rfl rfl (Nat.le_of_ble_eq_true rfl) hl.1 dL_law_570 ⟨Nat.le_trans (show _ ≤ 300000 by omega) (Nat.le_of_ble_eq_true rfl), Nat.le_trans (show _ ≤ 2000000 by omega) (Nat.le_of_ble_eq_true rfl)⟩) hS (fun _ _ h => h) (fun _ h => h) (fun r u t9 H locs ht9 hvm9 hq9 hB9 hz9 hk9 hS => ?_)
        obtain ⟨ad, X⟩ := u
        obtain ⟨hr9, hxr, hj, he⟩ := hq9
        have hxr : xr (T1) X := hxr
        have hj : wa_wj A ad (wW cy ad T1 X G o) := hj
        have hw : wa_wd D ad (wW cy ad T1 X G o) H := by rw [← ht9]; exact hB9
        rw [hr9]
        dsimp only at he
        have hl : lv_has ls 21 [(19, .int (iI (T 7 im))), (18, .int (iI 1)), (17, .int (iI 1)), (0, .ref b), (1, .ref (ad 0 0)), (2, .ref (ad 6 0)), (3, .ref (ad 6 1)), (4, .ref (ad 6 2)), (5, .int (iI (T 8 0))), (6, .int (iI (T 29 0))), (7, .int (iI 1)), (8, .int (iI tn)), (9, .int (iI (t : Int))), (10, .int (iI x)), (11, .int (iI y)), (12, .int (iI dd)), (13, .int (iI (im : Int))), (14, .int (iI (T 21 0))), (15, .int (iI (T 12 0))), (16, .int (iI (bk : Int)))] := by rw [he.1 0, he.2.2.2.2.1 0, he.2.2.2.2.1 1, he.2.2.2.2.1 2]; exact hl
        refine lv_istore (lv' := [(20, .int (iI (T1 7 im))), (19, .int (iI (T 7 im))), (18, .int (iI 1)), (17, .int (iI 1)), (0, .ref b), (1, .ref (ad 0 0)), (2, .ref (ad 6 0)), (3, .ref (ad 6 1)), (4, .ref (ad 6 2)), (5, .int (iI (T 8 0))), (6, .int (iI (T 29 0))), (7, .int (iI 1)), (8, .int (iI tn)), (9, .int (iI (t : Int))), (10, .int (iI x)), (11, .int (iI y)), (12, .int (iI dd)), (13, .int (iI (im : Int))), (14, .int (iI (T 21 0))), (15, .int (iI (T 12 0))), (16, .int (iI (bk : Int)))]) hx hb dL_law_573 hl (by decide) rfl (fun ls hl => ?_)
        refine lv_iload hx hb dL_law_575 (lv_at hl 0 rfl) ?_
        refine wa_bi F dL_law_577 (by decide +kernel) ?_
        refine wa_ic_ne (tgt := 622) F dL_law_579 (by decide) (by have q0 := hg1.1.1 7 im; exact ⟨by omega, by omega⟩) (by decide) (fun c579 => ?_) (fun c579 => absurd c579 (by omega))
        refine lv_iload hx hb dL_law_622 (lv_at hl 3 rfl) ?_
        refine wa_if_eq (tgt := 714) F dL_law_624 (by decide) (by decide) (fun c624 => absurd c624 (by decide)) (fun c624 => ?_)
        refine lv_iload hx hb dL_law_627 (lv_at hl 0 rfl) ?_
        refine lv_aload_n hx hb dL_law_629 rfl (lv_at hl 5 rfl) ?_
        refine lv_iload hx hb dL_law_630 (lv_at hl 17 rfl) ?_
        refine ql_latest (i := (im : Int)) hlt F hTB hA hg1.1 hxr hj hw hS (show (0 : Int) ≤ (im : Int) ∧ (im : Int) < T1 8 0 by omega) ⟨by decide, by decide⟩ (Nat.le_of_ble_eq_true rfl) hl.1 dL_law_632 ⟨Nat.le_trans (show _ ≤ 300000 by omega) (Nat.le_of_ble_eq_true rfl), Nat.le_trans (show _ ≤ 2000000 by omega) (Nat.le_of_ble_eq_true rfl)⟩ (fun X H locs hxr hj hw hS => ?_)
        refine W.eq (g2 := F0 m 635 ls [.int (iI (T1 7 im)), .int (iI (T1 7 im))]) rfl ?_
        refine wa_ic_ne (tgt := 714) F dL_law_635 (by decide) (by have q0 := hg1.1.1 7 im; exact ⟨by omega, by omega⟩) (by have q0 := hg1.1.1 7 im; exact ⟨by omega, by omega⟩) (fun c635 => absurd c635 (by omega)) (fun c635 => ?_)
        refine lv_aload_n hx hb dL_law_638 rfl (lv_at hl 5 rfl) ?_
        refine ql_bakes F hg1.1 hxr hj hw ⟨by decide, by decide⟩ (Nat.le_of_ble_eq_true rfl) hl.1 dL_law_639 ⟨Nat.le_trans (show _ ≤ 300000 by omega) (Nat.le_of_ble_eq_true rfl), Nat.le_trans (show _ ≤ 2000000 by omega) (Nat.le_of_ble_eq_true rfl)⟩ ?_
        refine lv_iload hx hb dL_law_642 (lv_at hl 18 rfl) ?_
        refine wa_const F dL_law_644 ?_
        refine wa_add F dL_law_645 ?_
        refine wa_ic_gt (tgt := 714) F dL_law_646 (by decide) (by have q0 := hg1.1.1 21 0; exact ⟨by omega, by omega⟩) (by have q0 := hB 21 0; exact ⟨by omega, by omega⟩) (fun c646 => absurd c646 (by omega)) (fun c646 => ?_)
        refine lv_aload_n hx hb dL_law_649 rfl (lv_at hl 5 rfl) ?_
        refine ql_layers F hg1.1 hxr hj hw ⟨by decide, by decide⟩ (Nat.le_of_ble_eq_true rfl) hl.1 dL_law_650 ⟨Nat.le_trans (show _ ≤ 300000 by omega) (Nat.le_of_ble_eq_true rfl), Nat.le_trans (show _ ≤ 2000000 by omega) (Nat.le_of_ble_eq_true rfl)⟩ ?_
        refine lv_iload hx hb dL_law_653 (lv_at hl 19 rfl) ?_
        refine lv_aload_n hx hb dL_law_655 rfl (lv_at hl 7 rfl) ?_
        refine lv_iload hx hb dL_law_656 (lv_at hl 17 rfl) ?_
        refine wl_gld F hw 1 (by decide) im rfl (by omega) dL_law_658 ?_
        refine wa_add F dL_law_659 ?_
        refine wa_ic_gt (tgt := 714) F dL_law_660 (by decide) (by have q0 := hg1.1.1 12 0; exact ⟨by omega, by omega⟩) (by have q0 := hB 12 0; have q1 := hG.1 1 im; exact ⟨by omega, by omega⟩) (fun c660 => absurd c660 (by omega)) (fun c660 => ?_)
        refine lv_iload hx hb dL_law_663 (lv_at hl 0 rfl) ?_
        refine lv_iload hx hb dL_law_665 (lv_at hl 1 rfl) ?_
        refine wa_ic_ne (tgt := 691) F dL_law_667 (by decide) (by have q0 := hg1.1.1 7 im; exact ⟨by omega, by omega⟩) (by have q0 := hB 7 im; exact ⟨by omega, by omega⟩) (fun c667 => ?_) (fun c667 => absurd c667 (by omega))
        refine lv_iload hx hb dL_law_691 (lv_at hl 0 rfl) ?_
        refine lv_iload hx hb dL_law_693 (lv_at hl 18 rfl) ?_
        refine wa_ic_ne (tgt := 714) F dL_law_695 (by decide) (by have q0 := hg1.1.1 7 im; exact ⟨by omega, by omega⟩) (by have q0 := hB 21 0; exact ⟨by omega, by omega⟩) (fun c695 => absurd c695 (by omega)) (fun c695 => ?_)
        refine lv_aload_n hx hb dL_law_698 rfl (lv_at hl 5 rfl) ?_
        refine lv_iload hx hb dL_law_699 (lv_at hl 0 rfl) ?_
        refine ql_state (i := (T1 7 im)) hlt F hTB hA hg1.1 hxr hj hw hS (show 0 ≤ T1 7 im ∧ T1 7 im < T1 21 0 by omega) ⟨by decide, by decide⟩ (Nat.le_of_ble_eq_true rfl) hl.1 dL_law_701 ⟨Nat.le_trans (show _ ≤ 300000 by omega) (Nat.le_of_ble_eq_true rfl), Nat.le_trans (show _ ≤ 2000000 by omega) (Nat.le_of_ble_eq_true rfl)⟩ (fun X H locs hxr hj hw hS => ?_)
        refine W.eq (g2 := F0 m 704 ls [.int (iI (v_state T1 ((T1 7 im).toNat)))]) rfl ?_
        refine wa_bi F dL_law_704 (by decide +kernel) ?_
        refine wl_rem F (by have q0 := (vs_t hg1 ((T1 7 im).toNat)).1; omega) (by decide) dL_law_706 ?_
        refine wa_if_ne (tgt := 714) F dL_law_707 (by decide) (by have q0 := (vs_t hg1 ((T1 7 im).toNat)).1; exact ⟨by omega, by omega⟩) (fun c707 => absurd c707 (by omega)) (fun c707 => ?_)
        refine wa_const F dL_law_710 ?_
        refine wa_goto (tgt := 715) F dL_law_711 (by decide) ?_
        refine lv_istore (lv' := [(7, .int (iI 1)), (20, .int (iI (T1 7 im))), (19, .int (iI (T 7 im))), (18, .int (iI 1)), (17, .int (iI 1)), (0, .ref b), (1, .ref (ad 0 0)), (2, .ref (ad 6 0)), (3, .ref (ad 6 1)), (4, .ref (ad 6 2)), (5, .int (iI (T 8 0))), (6, .int (iI (T 29 0))), (8, .int (iI tn)), (9, .int (iI (t : Int))), (10, .int (iI x)), (11, .int (iI y)), (12, .int (iI dd)), (13, .int (iI (im : Int))), (14, .int (iI (T 21 0))), (15, .int (iI (T 12 0))), (16, .int (iI (bk : Int)))]) hx hb dL_law_715 hl (by decide) rfl (fun ls hl => ?_)
        refine lv_iload hx hb dL_law_717 (lv_at hl 0 rfl) ?_
        refine wa_if_eq (tgt := 744) F dL_law_719 (by decide) (by decide) (fun c719 => absurd c719 (by decide)) (fun c719 => ?_)
        refine lv_iload hx hb dL_law_722 (lv_at hl 1 rfl) ?_
        refine wa_bi F dL_law_724 (by decide +kernel) ?_
        refine wa_ic_eq (tgt := 740) F dL_law_726 (by decide) (by have q0 := hg1.1.1 7 im; exact ⟨by omega, by omega⟩) (by decide) (fun c726 => absurd c726 (by omega)) (fun c726 => ?_)
        refine lv_aload_n hx hb dL_law_729 rfl (lv_at hl 6 rfl) ?_
        refine lv_iload hx hb dL_law_730 (lv_at hl 17 rfl) ?_
        refine ql_isFresh (i := (im : Int)) hlt F hTB hA hg1.1 hxr hj hw hS (show (0 : Int) ≤ (im : Int) ∧ (im : Int) < T1 8 0 by omega) ⟨by decide, by decide⟩ (Nat.le_of_ble_eq_true rfl) hl.1 dL_law_732 ⟨Nat.le_trans (show _ ≤ 300000 by omega) (Nat.le_of_ble_eq_true rfl), Nat.le_trans (show _ ≤ 2000000 by omega) (Nat.le_of_ble_eq_true rfl)⟩ (fun X H locs hxr hj hw hS => ?_)
        rw [bI_t (hfr.mpr (Or.inl (by omega)))]
        refine lv_iload hx hb dL_law_735 (lv_at hl 3 rfl) ?_
        refine wa_ic_ne (tgt := 744) F dL_law_737 (by decide) (by decide) (by decide) (fun c737 => absurd c737 (by decide)) (fun c737 => ?_)
        refine wa_const F dL_law_740 ?_
        refine wa_goto (tgt := 745) F dL_law_741 (by decide) ?_
        refine lv_istore (lv' := [(7, .int (iI 1)), (20, .int (iI (T1 7 im))), (19, .int (iI (T 7 im))), (18, .int (iI 1)), (17, .int (iI 1)), (0, .ref b), (1, .ref (ad 0 0)), (2, .ref (ad 6 0)), (3, .ref (ad 6 1)), (4, .ref (ad 6 2)), (5, .int (iI (T 8 0))), (6, .int (iI (T 29 0))), (8, .int (iI tn)), (9, .int (iI (t : Int))), (10, .int (iI x)), (11, .int (iI y)), (12, .int (iI dd)), (13, .int (iI (im : Int))), (14, .int (iI (T 21 0))), (15, .int (iI (T 12 0))), (16, .int (iI (bk : Int)))]) hx hb dL_law_745 hl (by decide) rfl (fun ls hl => ?_)
        refine wa_goto (tgt := 1799) F dL_law_747 (by decide) ?_
        refine W.widen (k := 600 + 700 * t) (n := 5200 + 4200 * t) (by omega) (by omega) ?_
        exact hE ad X (T1) (G) _ _ ls (hg1.le (by omega)) hm1 hG1 ⟨fun z => by omega, fun z => by omega⟩ hxr hj hw hS (by rw [a8, a29]; exact lv_sub hl [5, 6, 7, 8, 9, 10, 11, 0, 12, 13] rfl)
  · skip
    refine lv_aload_n hx hb dL_law_514 rfl (lv_at hl 1 rfl) ?_
    refine lv_aload_n hx hb dL_law_515 rfl (lv_at hl 2 rfl) ?_
    refine lv_iload hx hb dL_law_516 (lv_at hl 13 rfl) ?_
    refine wl_gld F hw 0 (by decide) im rfl (by omega) dL_law_518 ?_
    rw [g0]
    refine ql_latest (i := (T 4 im)) hlt F hTB hA hg.1 hxr hj hw hS (show 0 ≤ T 4 im ∧ T 4 im < T 8 0 by omega) ⟨by decide, by decide⟩ (Nat.le_of_ble_eq_true rfl) hl.1 dL_law_519 ⟨Nat.le_trans (show _ ≤ 300000 by omega) (Nat.le_of_ble_eq_true rfl), Nat.le_trans (show _ ≤ 2000000 by omega) (Nat.le_of_ble_eq_true rfl)⟩ (fun X H locs hxr hj hw hS => ?_)
    refine W.eq (g2 := F0 m 522 ls [.int (iI (T 7 ((T 4 im).toNat)))]) rfl ?_
    refine wa_if_lt (tgt := 529) F dL_law_522 (by decide) (by have q0 := hB 7 ((T 4 im).toNat); exact ⟨by omega, by omega⟩) (fun c522 => ?_) (fun c522 => ?_)
    · skip
      have p74 := w7 (T 4 im).toNat (by omega)
      refine wa_const F dL_law_529 ?_
      refine lv_istore (lv' := [(17, .int (iI 0)), (0, .ref b), (1, .ref (ad 0 0)), (2, .ref (ad 6 0)), (3, .ref (ad 6 1)), (4, .ref (ad 6 2)), (5, .int (iI (T 8 0))), (6, .int (iI (T 29 0))), (7, .int (iI 1)), (8, .int (iI tn)), (9, .int (iI (t : Int))), (10, .int (iI x)), (11, .int (iI y)), (12, .int (iI dd)), (13, .int (iI (im : Int))), (14, .int (iI (T 21 0))), (15, .int (iI (T 12 0))), (16, .int (iI (bk : Int)))]) hx hb dL_law_530 hl (by decide) rfl (fun ls hl => ?_)
      refine lv_aload_n hx hb dL_law_532 rfl (lv_at hl 3 rfl) ?_
      refine lv_iload hx hb dL_law_533 (lv_at hl 14 rfl) ?_
      refine wl_gld F hw 0 (by decide) im rfl (by omega) dL_law_535 ?_
      rw [g0]
      refine wa_if_lt (tgt := 550) F dL_law_536 (by decide) (by have q0 := hB 4 im; exact ⟨by omega, by omega⟩) (fun c536 => absurd c536 (by omega)) (fun c536 => ?_)
      refine lv_aload_n hx hb dL_law_539 rfl (lv_at hl 2 rfl) ?_
      refine lv_aload_n hx hb dL_law_540 rfl (lv_at hl 3 rfl) ?_
      refine lv_iload hx hb dL_law_541 (lv_at hl 14 rfl) ?_
      refine wl_gld F hw 0 (by decide) im rfl (by omega) dL_law_543 ?_
      rw [g0]
      refine ql_isFresh (i := (T 4 im)) hlt F hTB hA hg.1 hxr hj hw hS (show 0 ≤ T 4 im ∧ T 4 im < T 8 0 by omega) ⟨by decide, by decide⟩ (Nat.le_of_ble_eq_true rfl) hl.1 dL_law_544 ⟨Nat.le_trans (show _ ≤ 300000 by omega) (Nat.le_of_ble_eq_true rfl), Nat.le_trans (show _ ≤ 2000000 by omega) (Nat.le_of_ble_eq_true rfl)⟩ (fun X H locs hxr hj hw hS => ?_)
      rw [bI_f (fun z => by have q9 := frs_none (T := T) (i := (T 4 im).toNat) (by omega); rw [show (((T 4 im).toNat : Nat) : Int) = T 4 im by omega] at q9; rw [q9] at z; cases z)]
      refine wa_if_eq (tgt := 554) F dL_law_547 (by decide) (by decide) (fun c547 => ?_) (fun c547 => absurd c547 (by decide))
      refine wa_const F dL_law_554 ?_
      refine lv_istore (lv' := [(18, .int (iI 0)), (17, .int (iI 0)), (0, .ref b), (1, .ref (ad 0 0)), (2, .ref (ad 6 0)), (3, .ref (ad 6 1)), (4, .ref (ad 6 2)), (5, .int (iI (T 8 0))), (6, .int (iI (T 29 0))), (7, .int (iI 1)), (8, .int (iI tn)), (9, .int (iI (t : Int))), (10, .int (iI x)), (11, .int (iI y)), (12, .int (iI dd)), (13, .int (iI (im : Int))), (14, .int (iI (T 21 0))), (15, .int (iI (T 12 0))), (16, .int (iI (bk : Int)))]) hx hb dL_law_555 hl (by decide) rfl (fun ls hl => ?_)
      refine lv_aload_n hx hb dL_law_557 rfl (lv_at hl 3 rfl) ?_
      refine lv_iload hx hb dL_law_558 (lv_at hl 15 rfl) ?_
      refine ql_latest (i := (im : Int)) hlt F hTB hA hg.1 hxr hj hw hS (show (0 : Int) ≤ (im : Int) ∧ (im : Int) < T 8 0 by omega) ⟨by decide, by decide⟩ (Nat.le_of_ble_eq_true rfl) hl.1 dL_law_560 ⟨Nat.le_trans (show _ ≤ 300000 by omega) (Nat.le_of_ble_eq_true rfl), Nat.le_trans (show _ ≤ 2000000 by omega) (Nat.le_of_ble_eq_true rfl)⟩ (fun X H locs hxr hj hw hS => ?_)
      refine W.eq (g2 := F0 m 563 ls [.int (iI (T 7 im))]) rfl ?_
      refine lv_istore (lv' := [(19, .int (iI (T 7 im))), (18, .int (iI 0)), (17, .int (iI 0)), (0, .ref b), (1, .ref (ad 0 0)), (2, .ref (ad 6 0)), (3, .ref (ad 6 1)), (4, .ref (ad 6 2)), (5, .int (iI (T 8 0))), (6, .int (iI (T 29 0))), (7, .int (iI 1)), (8, .int (iI tn)), (9, .int (iI (t : Int))), (10, .int (iI x)), (11, .int (iI y)), (12, .int (iI dd)), (13, .int (iI (im : Int))), (14, .int (iI (T 21 0))), (15, .int (iI (T 12 0))), (16, .int (iI (bk : Int)))]) hx hb dL_law_563 hl (by decide) rfl (fun ls hl => ?_)
      rcases w_bake hg hm him with ⟨k0, k1⟩ | ⟨k0, hbs, hwb⟩
      · skip
        have a7 : wa_s T 0 0 2 7 im = T 7 im := rfl
        have hg1 := hg.th (k := 2) (by decide)
        have hm1 := hm.th 2
        have hG1 := hG.th 2
        have a8 : wa_s T 0 0 2 8 0 = T 8 0 := rfl
        have a12 : wa_s T 0 0 2 12 0 = T 12 0 := rfl
        have a21 : wa_s T 0 0 2 21 0 = T 21 0 := rfl
        have a29 : wa_s T 0 0 2 29 0 = T 29 0 := rfl
        generalize hT1 : wa_s T 0 0 2 = T1 at *
        refine lv_aload_n hx hb dL_law_565 rfl (lv_at hl 4 rfl) ?_
        refine wa_const F dL_law_566 ?_
        refine lv_iload hx hb dL_law_567 (lv_at hl 16 rfl) ?_
        refine wa_const F dL_law_569 ?_
        refine va_calli (wl_runS F hTB hN hS (c_L_tried0 l hlt D cy ad (T) X (G) o A hj hA hg hxr (im : Int) 0 ⟨by omega, by omega⟩ (by decide) (T1) ((-3)) (Or.inr k0) (fun z => absurd (k0.symm.trans z) (by decide)) (fun _ => ⟨hT1.symm, rfl⟩)) qw_348 qw_349 qw_30 qw_350 ⟨by decide, by decide, rfl⟩ ⟨by decide, by decide⟩ ⟨rfl, rfl⟩ hw rfl rfl (Nat.le_of_ble_eq_true rfl) hl.1 dL_law_570 ⟨Nat.le_trans (show _ ≤ 300000 by omega) (Nat.le_of_ble_eq_true rfl), Nat.le_trans (show _ ≤ 2000000 by omega) (Nat.le_of_ble_eq_true rfl)⟩) hS (fun _ _ h => h) (fun _ h => h) (fun r u t9 H locs ht9 hvm9 hq9 hB9 hz9 hk9 hS => ?_)
        obtain ⟨ad, X⟩ := u
        obtain ⟨hr9, hxr, hj, he⟩ := hq9
        have hxr : xr (T1) X := hxr
        have hj : wa_wj A ad (wW cy ad T1 X G o) := hj
        have hw : wa_wd D ad (wW cy ad T1 X G o) H := by rw [← ht9]; exact hB9
        rw [hr9]
        dsimp only at he
        have hl : lv_has ls 21 [(19, .int (iI (T 7 im))), (18, .int (iI 0)), (17, .int (iI 0)), (0, .ref b), (1, .ref (ad 0 0)), (2, .ref (ad 6 0)), (3, .ref (ad 6 1)), (4, .ref (ad 6 2)), (5, .int (iI (T 8 0))), (6, .int (iI (T 29 0))), (7, .int (iI 1)), (8, .int (iI tn)), (9, .int (iI (t : Int))), (10, .int (iI x)), (11, .int (iI y)), (12, .int (iI dd)), (13, .int (iI (im : Int))), (14, .int (iI (T 21 0))), (15, .int (iI (T 12 0))), (16, .int (iI (bk : Int)))] := by rw [he.1 0, he.2.2.2.2.1 0, he.2.2.2.2.1 1, he.2.2.2.2.1 2]; exact hl
        refine lv_istore (lv' := [(20, .int (iI (-3))), (19, .int (iI (T 7 im))), (18, .int (iI 0)), (17, .int (iI 0)), (0, .ref b), (1, .ref (ad 0 0)), (2, .ref (ad 6 0)), (3, .ref (ad 6 1)), (4, .ref (ad 6 2)), (5, .int (iI (T 8 0))), (6, .int (iI (T 29 0))), (7, .int (iI 1)), (8, .int (iI tn)), (9, .int (iI (t : Int))), (10, .int (iI x)), (11, .int (iI y)), (12, .int (iI dd)), (13, .int (iI (im : Int))), (14, .int (iI (T 21 0))), (15, .int (iI (T 12 0))), (16, .int (iI (bk : Int)))]) hx hb dL_law_573 hl (by decide) rfl (fun ls hl => ?_)
        refine lv_iload hx hb dL_law_575 (lv_at hl 0 rfl) ?_
        refine wa_bi F dL_law_577 (by decide +kernel) ?_
        refine wa_ic_ne (tgt := 622) F dL_law_579 (by decide) (by decide) (by decide) (fun c579 => absurd c579 (by decide)) (fun c579 => ?_)
        refine lv_iload hx hb dL_law_582 (lv_at hl 3 rfl) ?_
        refine wa_if_eq (tgt := 594) F dL_law_584 (by decide) (by decide) (fun c584 => ?_) (fun c584 => absurd c584 (by decide))
        refine lv_aload_n hx hb dL_law_594 rfl (lv_at hl 5 rfl) ?_
        refine ql_layers F hg1.1 hxr hj hw ⟨by decide, by decide⟩ (Nat.le_of_ble_eq_true rfl) hl.1 dL_law_595 ⟨Nat.le_trans (show _ ≤ 300000 by omega) (Nat.le_of_ble_eq_true rfl), Nat.le_trans (show _ ≤ 2000000 by omega) (Nat.le_of_ble_eq_true rfl)⟩ ?_
        refine lv_iload hx hb dL_law_598 (lv_at hl 19 rfl) ?_
        refine wa_ic_ne (tgt := 618) F dL_law_600 (by decide) (by have q0 := hg1.1.1 12 0; exact ⟨by omega, by omega⟩) (by have q0 := hB 12 0; exact ⟨by omega, by omega⟩) (fun c600 => absurd c600 (by omega)) (fun c600 => ?_)
        refine lv_aload_n hx hb dL_law_603 rfl (lv_at hl 5 rfl) ?_
        refine lv_iload hx hb dL_law_604 (lv_at hl 17 rfl) ?_
        refine ql_latest (i := (im : Int)) hlt F hTB hA hg1.1 hxr hj hw hS (show (0 : Int) ≤ (im : Int) ∧ (im : Int) < T1 8 0 by omega) ⟨by decide, by decide⟩ (Nat.le_of_ble_eq_true rfl) hl.1 dL_law_606 ⟨Nat.le_trans (show _ ≤ 300000 by omega) (Nat.le_of_ble_eq_true rfl), Nat.le_trans (show _ ≤ 2000000 by omega) (Nat.le_of_ble_eq_true rfl)⟩ (fun X H locs hxr hj hw hS => ?_)
        refine W.eq (g2 := F0 m 609 ls [.int (iI (T1 7 im))]) rfl ?_
        refine lv_iload hx hb dL_law_609 (lv_at hl 1 rfl) ?_
        refine wa_ic_ne (tgt := 618) F dL_law_611 (by decide) (by have q0 := hg1.1.1 7 im; exact ⟨by omega, by omega⟩) (by have q0 := hB 7 im; exact ⟨by omega, by omega⟩) (fun c611 => absurd c611 (by omega)) (fun c611 => ?_)
        refine wa_const F dL_law_614 ?_
        refine wa_goto (tgt := 715) F dL_law_615 (by decide) ?_
        refine lv_istore (lv' := [(7, .int (iI 1)), (20, .int (iI (-3))), (19, .int (iI (T 7 im))), (18, .int (iI 0)), (17, .int (iI 0)), (0, .ref b), (1, .ref (ad 0 0)), (2, .ref (ad 6 0)), (3, .ref (ad 6 1)), (4, .ref (ad 6 2)), (5, .int (iI (T 8 0))), (6, .int (iI (T 29 0))), (8, .int (iI tn)), (9, .int (iI (t : Int))), (10, .int (iI x)), (11, .int (iI y)), (12, .int (iI dd)), (13, .int (iI (im : Int))), (14, .int (iI (T 21 0))), (15, .int (iI (T 12 0))), (16, .int (iI (bk : Int)))]) hx hb dL_law_715 hl (by decide) rfl (fun ls hl => ?_)
        refine lv_iload hx hb dL_law_717 (lv_at hl 0 rfl) ?_
        refine wa_if_eq (tgt := 744) F dL_law_719 (by decide) (by decide) (fun c719 => absurd c719 (by decide)) (fun c719 => ?_)
        refine lv_iload hx hb dL_law_722 (lv_at hl 1 rfl) ?_
        refine wa_bi F dL_law_724 (by decide +kernel) ?_
        refine wa_ic_eq (tgt := 740) F dL_law_726 (by decide) (by decide) (by decide) (fun c726 => ?_) (fun c726 => absurd c726 (by decide))
        refine wa_const F dL_law_740 ?_
        refine wa_goto (tgt := 745) F dL_law_741 (by decide) ?_
        refine lv_istore (lv' := [(7, .int (iI 1)), (20, .int (iI (-3))), (19, .int (iI (T 7 im))), (18, .int (iI 0)), (17, .int (iI 0)), (0, .ref b), (1, .ref (ad 0 0)), (2, .ref (ad 6 0)), (3, .ref (ad 6 1)), (4, .ref (ad 6 2)), (5, .int (iI (T 8 0))), (6, .int (iI (T 29 0))), (8, .int (iI tn)), (9, .int (iI (t : Int))), (10, .int (iI x)), (11, .int (iI y)), (12, .int (iI dd)), (13, .int (iI (im : Int))), (14, .int (iI (T 21 0))), (15, .int (iI (T 12 0))), (16, .int (iI (bk : Int)))]) hx hb dL_law_745 hl (by decide) rfl (fun ls hl => ?_)
        refine wa_goto (tgt := 1799) F dL_law_747 (by decide) ?_
        refine W.widen (k := 600 + 700 * t) (n := 5200 + 4200 * t) (by omega) (by omega) ?_
        exact hE ad X (T1) (G) _ _ ls (hg1.le (by omega)) hm1 hG1 ⟨fun z => by omega, fun z => by omega⟩ hxr hj hw hS (by rw [a8, a29]; exact lv_sub hl [5, 6, 7, 8, 9, 10, 11, 0, 12, 13] rfl)
      · exact absurd hbs (fun z => by rcases z with z | z <;> omega)
    · skip
      have p74 := w7 (T 4 im).toNat (by omega)
      refine wa_const F dL_law_525 ?_
      refine wa_goto (tgt := 530) F dL_law_526 (by decide) ?_
      refine lv_istore (lv' := [(17, .int (iI 1)), (0, .ref b), (1, .ref (ad 0 0)), (2, .ref (ad 6 0)), (3, .ref (ad 6 1)), (4, .ref (ad 6 2)), (5, .int (iI (T 8 0))), (6, .int (iI (T 29 0))), (7, .int (iI 1)), (8, .int (iI tn)), (9, .int (iI (t : Int))), (10, .int (iI x)), (11, .int (iI y)), (12, .int (iI dd)), (13, .int (iI (im : Int))), (14, .int (iI (T 21 0))), (15, .int (iI (T 12 0))), (16, .int (iI (bk : Int)))]) hx hb dL_law_530 hl (by decide) rfl (fun ls hl => ?_)
      refine lv_aload_n hx hb dL_law_532 rfl (lv_at hl 3 rfl) ?_
      refine lv_iload hx hb dL_law_533 (lv_at hl 14 rfl) ?_
      refine wl_gld F hw 0 (by decide) im rfl (by omega) dL_law_535 ?_
      rw [g0]
      refine wa_if_lt (tgt := 550) F dL_law_536 (by decide) (by have q0 := hB 4 im; exact ⟨by omega, by omega⟩) (fun c536 => absurd c536 (by omega)) (fun c536 => ?_)
      refine lv_aload_n hx hb dL_law_539 rfl (lv_at hl 2 rfl) ?_
      refine lv_aload_n hx hb dL_law_540 rfl (lv_at hl 3 rfl) ?_
      refine lv_iload hx hb dL_law_541 (lv_at hl 14 rfl) ?_
      refine wl_gld F hw 0 (by decide) im rfl (by omega) dL_law_543 ?_
      rw [g0]
      refine ql_isFresh (i := (T 4 im)) hlt F hTB hA hg.1 hxr hj hw hS (show 0 ≤ T 4 im ∧ T 4 im < T 8 0 by omega) ⟨by decide, by decide⟩ (Nat.le_of_ble_eq_true rfl) hl.1 dL_law_544 ⟨Nat.le_trans (show _ ≤ 300000 by omega) (Nat.le_of_ble_eq_true rfl), Nat.le_trans (show _ ≤ 2000000 by omega) (Nat.le_of_ble_eq_true rfl)⟩ (fun X H locs hxr hj hw hS => ?_)
      by_cases b544 : x_frs T 10 (T 4 im) = true
      · rw [bI_t b544]
        refine wa_if_eq (tgt := 554) F dL_law_547 (by decide) (by decide) (fun c547 => absurd c547 (by decide)) (fun c547 => ?_)
        refine wa_const F dL_law_550 ?_
        refine wa_goto (tgt := 555) F dL_law_551 (by decide) ?_
        refine lv_istore (lv' := [(18, .int (iI 1)), (17, .int (iI 1)), (0, .ref b), (1, .ref (ad 0 0)), (2, .ref (ad 6 0)), (3, .ref (ad 6 1)), (4, .ref (ad 6 2)), (5, .int (iI (T 8 0))), (6, .int (iI (T 29 0))), (7, .int (iI 1)), (8, .int (iI tn)), (9, .int (iI (t : Int))), (10, .int (iI x)), (11, .int (iI y)), (12, .int (iI dd)), (13, .int (iI (im : Int))), (14, .int (iI (T 21 0))), (15, .int (iI (T 12 0))), (16, .int (iI (bk : Int)))]) hx hb dL_law_555 hl (by decide) rfl (fun ls hl => ?_)
        refine lv_aload_n hx hb dL_law_557 rfl (lv_at hl 3 rfl) ?_
        refine lv_iload hx hb dL_law_558 (lv_at hl 15 rfl) ?_
        refine ql_latest (i := (im : Int)) hlt F hTB hA hg.1 hxr hj hw hS (show (0 : Int) ≤ (im : Int) ∧ (im : Int) < T 8 0 by omega) ⟨by decide, by decide⟩ (Nat.le_of_ble_eq_true rfl) hl.1 dL_law_560 ⟨Nat.le_trans (show _ ≤ 300000 by omega) (Nat.le_of_ble_eq_true rfl), Nat.le_trans (show _ ≤ 2000000 by omega) (Nat.le_of_ble_eq_true rfl)⟩ (fun X H locs hxr hj hw hS => ?_)
        refine W.eq (g2 := F0 m 563 ls [.int (iI (T 7 im))]) rfl ?_
        refine lv_istore (lv' := [(19, .int (iI (T 7 im))), (18, .int (iI 1)), (17, .int (iI 1)), (0, .ref b), (1, .ref (ad 0 0)), (2, .ref (ad 6 0)), (3, .ref (ad 6 1)), (4, .ref (ad 6 2)), (5, .int (iI (T 8 0))), (6, .int (iI (T 29 0))), (7, .int (iI 1)), (8, .int (iI tn)), (9, .int (iI (t : Int))), (10, .int (iI x)), (11, .int (iI y)), (12, .int (iI dd)), (13, .int (iI (im : Int))), (14, .int (iI (T 21 0))), (15, .int (iI (T 12 0))), (16, .int (iI (bk : Int)))]) hx hb dL_law_563 hl (by decide) rfl (fun ls hl => ?_)
        rcases w_bake hg hm him with ⟨k0, k1⟩ | ⟨k0, hbs, hwb⟩
        · skip
          have a7 : wa_s T 0 0 2 7 im = T 7 im := rfl
          have hg1 := hg.th (k := 2) (by decide)
          have hm1 := hm.th 2
          have hG1 := hG.th 2
          have a8 : wa_s T 0 0 2 8 0 = T 8 0 := rfl
          have a12 : wa_s T 0 0 2 12 0 = T 12 0 := rfl
          have a21 : wa_s T 0 0 2 21 0 = T 21 0 := rfl
          have a29 : wa_s T 0 0 2 29 0 = T 29 0 := rfl
          generalize hT1 : wa_s T 0 0 2 = T1 at *
          have k60 : T 21 0 = 60 := k1.resolve_left (fun z => z (Or.inr (by omega)))
          refine lv_aload_n hx hb dL_law_565 rfl (lv_at hl 4 rfl) ?_
          refine wa_const F dL_law_566 ?_
          refine lv_iload hx hb dL_law_567 (lv_at hl 16 rfl) ?_
          refine wa_const F dL_law_569 ?_
          refine va_calli (wl_runS F hTB hN hS (c_L_tried0 l hlt D cy ad (T) X (G) o A hj hA hg hxr (im : Int) 0 ⟨by omega, by omega⟩ (by decide) (T1) ((-3)) (Or.inr k0) (fun z => absurd (k0.symm.trans z) (by decide)) (fun _ => ⟨hT1.symm, rfl⟩)) qw_348 qw_349 qw_30 qw_350 ⟨by decide, by decide, rfl⟩ ⟨by decide, by decide⟩ ⟨rfl, rfl⟩ hw rfl rfl (Nat.le_of_ble_eq_true rfl) hl.1 dL_law_570 ⟨Nat.le_trans (show _ ≤ 300000 by omega) (Nat.le_of_ble_eq_true rfl), Nat.le_trans (show _ ≤ 2000000 by omega) (Nat.le_of_ble_eq_true rfl)⟩) hS (fun _ _ h => h) (fun _ h => h) (fun r u t9 H locs ht9 hvm9 hq9 hB9 hz9 hk9 hS => ?_)
          obtain ⟨ad, X⟩ := u
          obtain ⟨hr9, hxr, hj, he⟩ := hq9
          have hxr : xr (T1) X := hxr
          have hj : wa_wj A ad (wW cy ad T1 X G o) := hj
          have hw : wa_wd D ad (wW cy ad T1 X G o) H := by rw [← ht9]; exact hB9
          rw [hr9]
          dsimp only at he
          have hl : lv_has ls 21 [(19, .int (iI (T 7 im))), (18, .int (iI 1)), (17, .int (iI 1)), (0, .ref b), (1, .ref (ad 0 0)), (2, .ref (ad 6 0)), (3, .ref (ad 6 1)), (4, .ref (ad 6 2)), (5, .int (iI (T 8 0))), (6, .int (iI (T 29 0))), (7, .int (iI 1)), (8, .int (iI tn)), (9, .int (iI (t : Int))), (10, .int (iI x)), (11, .int (iI y)), (12, .int (iI dd)), (13, .int (iI (im : Int))), (14, .int (iI (T 21 0))), (15, .int (iI (T 12 0))), (16, .int (iI (bk : Int)))] := by rw [he.1 0, he.2.2.2.2.1 0, he.2.2.2.2.1 1, he.2.2.2.2.1 2]; exact hl
          refine lv_istore (lv' := [(20, .int (iI (-3))), (19, .int (iI (T 7 im))), (18, .int (iI 1)), (17, .int (iI 1)), (0, .ref b), (1, .ref (ad 0 0)), (2, .ref (ad 6 0)), (3, .ref (ad 6 1)), (4, .ref (ad 6 2)), (5, .int (iI (T 8 0))), (6, .int (iI (T 29 0))), (7, .int (iI 1)), (8, .int (iI tn)), (9, .int (iI (t : Int))), (10, .int (iI x)), (11, .int (iI y)), (12, .int (iI dd)), (13, .int (iI (im : Int))), (14, .int (iI (T 21 0))), (15, .int (iI (T 12 0))), (16, .int (iI (bk : Int)))]) hx hb dL_law_573 hl (by decide) rfl (fun ls hl => ?_)
          refine lv_iload hx hb dL_law_575 (lv_at hl 0 rfl) ?_
          refine wa_bi F dL_law_577 (by decide +kernel) ?_
          refine wa_ic_ne (tgt := 622) F dL_law_579 (by decide) (by decide) (by decide) (fun c579 => absurd c579 (by decide)) (fun c579 => ?_)
          refine lv_iload hx hb dL_law_582 (lv_at hl 3 rfl) ?_
          refine wa_if_eq (tgt := 594) F dL_law_584 (by decide) (by decide) (fun c584 => absurd c584 (by decide)) (fun c584 => ?_)
          refine lv_iload hx hb dL_law_587 (lv_at hl 18 rfl) ?_
          refine wa_bi F dL_law_589 (by decide +kernel) ?_
          refine wa_ic_ne (tgt := 618) F dL_law_591 (by decide) (by have q0 := hB 21 0; exact ⟨by omega, by omega⟩) (by decide) (fun c591 => absurd c591 (by omega)) (fun c591 => ?_)
          refine lv_aload_n hx hb dL_law_594 rfl (lv_at hl 5 rfl) ?_
          refine ql_layers F hg1.1 hxr hj hw ⟨by decide, by decide⟩ (Nat.le_of_ble_eq_true rfl) hl.1 dL_law_595 ⟨Nat.le_trans (show _ ≤ 300000 by omega) (Nat.le_of_ble_eq_true rfl), Nat.le_trans (show _ ≤ 2000000 by omega) (Nat.le_of_ble_eq_true rfl)⟩ ?_
          refine lv_iload hx hb dL_law_598 (lv_at hl 19 rfl) ?_
          refine wa_ic_ne (tgt := 618) F dL_law_600 (by decide) (by have q0 := hg1.1.1 12 0; exact ⟨by omega, by omega⟩) (by have q0 := hB 12 0; exact ⟨by omega, by omega⟩) (fun c600 => absurd c600 (by omega)) (fun c600 => ?_)
          refine lv_aload_n hx hb dL_law_603 rfl (lv_at hl 5 rfl) ?_
          refine lv_iload hx hb dL_law_604 (lv_at hl 17 rfl) ?_
          refine ql_latest (i := (im : Int)) hlt F hTB hA hg1.1 hxr hj hw hS (show (0 : Int) ≤ (im : Int) ∧ (im : Int) < T1 8 0 by omega) ⟨by decide, by decide⟩ (Nat.le_of_ble_eq_true rfl) hl.1 dL_law_606 ⟨Nat.le_trans (show _ ≤ 300000 by omega) (Nat.le_of_ble_eq_true rfl), Nat.le_trans (show _ ≤ 2000000 by omega) (Nat.le_of_ble_eq_true rfl)⟩ (fun X H locs hxr hj hw hS => ?_)
          refine W.eq (g2 := F0 m 609 ls [.int (iI (T1 7 im))]) rfl ?_
          refine lv_iload hx hb dL_law_609 (lv_at hl 1 rfl) ?_
          refine wa_ic_ne (tgt := 618) F dL_law_611 (by decide) (by have q0 := hg1.1.1 7 im; exact ⟨by omega, by omega⟩) (by have q0 := hB 7 im; exact ⟨by omega, by omega⟩) (fun c611 => absurd c611 (by omega)) (fun c611 => ?_)
          refine wa_const F dL_law_614 ?_
          refine wa_goto (tgt := 715) F dL_law_615 (by decide) ?_
          refine lv_istore (lv' := [(7, .int (iI 1)), (20, .int (iI (-3))), (19, .int (iI (T 7 im))), (18, .int (iI 1)), (17, .int (iI 1)), (0, .ref b), (1, .ref (ad 0 0)), (2, .ref (ad 6 0)), (3, .ref (ad 6 1)), (4, .ref (ad 6 2)), (5, .int (iI (T 8 0))), (6, .int (iI (T 29 0))), (8, .int (iI tn)), (9, .int (iI (t : Int))), (10, .int (iI x)), (11, .int (iI y)), (12, .int (iI dd)), (13, .int (iI (im : Int))), (14, .int (iI (T 21 0))), (15, .int (iI (T 12 0))), (16, .int (iI (bk : Int)))]) hx hb dL_law_715 hl (by decide) rfl (fun ls hl => ?_)
          refine lv_iload hx hb dL_law_717 (lv_at hl 0 rfl) ?_
          refine wa_if_eq (tgt := 744) F dL_law_719 (by decide) (by decide) (fun c719 => absurd c719 (by decide)) (fun c719 => ?_)
          refine lv_iload hx hb dL_law_722 (lv_at hl 1 rfl) ?_
          refine wa_bi F dL_law_724 (by decide +kernel) ?_
          refine wa_ic_eq (tgt := 740) F dL_law_726 (by decide) (by decide) (by decide) (fun c726 => ?_) (fun c726 => absurd c726 (by decide))
          refine wa_const F dL_law_740 ?_
          refine wa_goto (tgt := 745) F dL_law_741 (by decide) ?_
          refine lv_istore (lv' := [(7, .int (iI 1)), (20, .int (iI (-3))), (19, .int (iI (T 7 im))), (18, .int (iI 1)), (17, .int (iI 1)), (0, .ref b), (1, .ref (ad 0 0)), (2, .ref (ad 6 0)), (3, .ref (ad 6 1)), (4, .ref (ad 6 2)), (5, .int (iI (T 8 0))), (6, .int (iI (T 29 0))), (8, .int (iI tn)), (9, .int (iI (t : Int))), (10, .int (iI x)), (11, .int (iI y)), (12, .int (iI dd)), (13, .int (iI (im : Int))), (14, .int (iI (T 21 0))), (15, .int (iI (T 12 0))), (16, .int (iI (bk : Int)))]) hx hb dL_law_745 hl (by decide) rfl (fun ls hl => ?_)
          refine wa_goto (tgt := 1799) F dL_law_747 (by decide) ?_
          refine W.widen (k := 600 + 700 * t) (n := 5200 + 4200 * t) (by omega) (by omega) ?_
          exact hE ad X (T1) (G) _ _ ls (hg1.le (by omega)) hm1 hG1 ⟨fun z => by omega, fun z => by omega⟩ hxr hj hw hS (by rw [a8, a29]; exact lv_sub hl [5, 6, 7, 8, 9, 10, 11, 0, 12, 13] rfl)
        · obtain ⟨hg1, hm1, ⟨a8, a29⟩, ⟨a21, a12⟩, hcs, hfr, hG1⟩ := hwb
          have hG1 := hG1 G hG
          generalize hT1 : a_bake T (im : Int) = T1 at *
          have hB1 := hg1.1.1
          have q7 := hB1 7 im
          have vs1 := vs_t hg1 (T1 7 im).toNat
          rcases hcs with ⟨e7, e21, e12⟩ | ⟨e7, e7n, e16, c60, e21⟩
          · skip
            refine lv_aload_n hx hb dL_law_565 rfl (lv_at hl 4 rfl) ?_
            refine wa_const F dL_law_566 ?_
            refine lv_iload hx hb dL_law_567 (lv_at hl 16 rfl) ?_
            refine wa_const F dL_law_569 ?_
            refine va_calli (wl_runS F hTB hN hS (c_L_tried0 l hlt D cy ad (T) X (G) o A hj hA hg hxr (im : Int) 0 ⟨by omega, by omega⟩ (by decide) (T1) ((T1 7 im)) (Or.inl k0) (fun _ => ⟨hT1.symm, by rw [Int.toNat_natCast, hT1]⟩) (fun z => absurd (k0.symm.trans z) (by decide))) qw_348 qw_349 qw_30 qw_350 ⟨by decide, by decide, rfl⟩ ⟨by decide, by decide⟩ ⟨rfl, rfl⟩ hw rfl rfl (Nat.le_of_ble_eq_true rfl) hl.1 dL_law_570 ⟨Nat.le_trans (show _ ≤ 300000 by omega) (Nat.le_of_ble_eq_true rfl), Nat.le_trans (show _ ≤ 2000000 by omega) (Nat.le_of_ble_eq_true rfl)⟩) hS (fun _ _ h => h) (fun _ h => h) (fun r u t9 H locs ht9 hvm9 hq9 hB9 hz9 hk9 hS => ?_)
            obtain ⟨ad, X⟩ := u
            obtain ⟨hr9, hxr, hj, he⟩ := hq9
            have hxr : xr (T1) X := hxr
            have hj : wa_wj A ad (wW cy ad T1 X G o) := hj
            have hw : wa_wd D ad (wW cy ad T1 X G o) H := by rw [← ht9]; exact hB9
            rw [hr9]
            dsimp only at he
            have hl : lv_has ls 21 [(19, .int (iI (T 7 im))), (18, .int (iI 1)), (17, .int (iI 1)), (0, .ref b), (1, .ref (ad 0 0)), (2, .ref (ad 6 0)), (3, .ref (ad 6 1)), (4, .ref (ad 6 2)), (5, .int (iI (T 8 0))), (6, .int (iI (T 29 0))), (7, .int (iI 1)), (8, .int (iI tn)), (9, .int (iI (t : Int))), (10, .int (iI x)), (11, .int (iI y)), (12, .int (iI dd)), (13, .int (iI (im : Int))), (14, .int (iI (T 21 0))), (15, .int (iI (T 12 0))), (16, .int (iI (bk : Int)))] := by rw [he.1 0, he.2.2.2.2.1 0, he.2.2.2.2.1 1, he.2.2.2.2.1 2]; exact hl
            refine lv_istore (lv' := [(20, .int (iI (T1 7 im))), (19, .int (iI (T 7 im))), (18, .int (iI 1)), (17, .int (iI 1)), (0, .ref b), (1, .ref (ad 0 0)), (2, .ref (ad 6 0)), (3, .ref (ad 6 1)), (4, .ref (ad 6 2)), (5, .int (iI (T 8 0))), (6, .int (iI (T 29 0))), (7, .int (iI 1)), (8, .int (iI tn)), (9, .int (iI (t : Int))), (10, .int (iI x)), (11, .int (iI y)), (12, .int (iI dd)), (13, .int (iI (im : Int))), (14, .int (iI (T 21 0))), (15, .int (iI (T 12 0))), (16, .int (iI (bk : Int)))]) hx hb dL_law_573 hl (by decide) rfl (fun ls hl => ?_)
            refine lv_iload hx hb dL_law_575 (lv_at hl 0 rfl) ?_
            refine wa_bi F dL_law_577 (by decide +kernel) ?_
            refine wa_ic_ne (tgt := 622) F dL_law_579 (by decide) (by have q0 := hg1.1.1 7 im; exact ⟨by omega, by omega⟩) (by decide) (fun c579 => ?_) (fun c579 => absurd c579 (by omega))
            refine lv_iload hx hb dL_law_622 (lv_at hl 3 rfl) ?_
            refine wa_if_eq (tgt := 714) F dL_law_624 (by decide) (by decide) (fun c624 => absurd c624 (by decide)) (fun c624 => ?_)
            refine lv_iload hx hb dL_law_627 (lv_at hl 0 rfl) ?_
            refine lv_aload_n hx hb dL_law_629 rfl (lv_at hl 5 rfl) ?_
            refine lv_iload hx hb dL_law_630 (lv_at hl 17 rfl) ?_
            refine ql_latest (i := (im : Int)) hlt F hTB hA hg1.1 hxr hj hw hS (show (0 : Int) ≤ (im : Int) ∧ (im : Int) < T1 8 0 by omega) ⟨by decide, by decide⟩ (Nat.le_of_ble_eq_true rfl) hl.1 dL_law_632 ⟨Nat.le_trans (show _ ≤ 300000 by omega) (Nat.le_of_ble_eq_true rfl), Nat.le_trans (show _ ≤ 2000000 by omega) (Nat.le_of_ble_eq_true rfl)⟩ (fun X H locs hxr hj hw hS => ?_)
            refine W.eq (g2 := F0 m 635 ls [.int (iI (T1 7 im)), .int (iI (T1 7 im))]) rfl ?_
            refine wa_ic_ne (tgt := 714) F dL_law_635 (by decide) (by have q0 := hg1.1.1 7 im; exact ⟨by omega, by omega⟩) (by have q0 := hg1.1.1 7 im; exact ⟨by omega, by omega⟩) (fun c635 => absurd c635 (by omega)) (fun c635 => ?_)
            refine lv_aload_n hx hb dL_law_638 rfl (lv_at hl 5 rfl) ?_
            refine ql_bakes F hg1.1 hxr hj hw ⟨by decide, by decide⟩ (Nat.le_of_ble_eq_true rfl) hl.1 dL_law_639 ⟨Nat.le_trans (show _ ≤ 300000 by omega) (Nat.le_of_ble_eq_true rfl), Nat.le_trans (show _ ≤ 2000000 by omega) (Nat.le_of_ble_eq_true rfl)⟩ ?_
            refine lv_iload hx hb dL_law_642 (lv_at hl 18 rfl) ?_
            refine wa_const F dL_law_644 ?_
            refine wa_add F dL_law_645 ?_
            refine wa_ic_gt (tgt := 714) F dL_law_646 (by decide) (by have q0 := hg1.1.1 21 0; exact ⟨by omega, by omega⟩) (by have q0 := hB 21 0; exact ⟨by omega, by omega⟩) (fun c646 => absurd c646 (by omega)) (fun c646 => ?_)
            refine lv_aload_n hx hb dL_law_649 rfl (lv_at hl 5 rfl) ?_
            refine ql_layers F hg1.1 hxr hj hw ⟨by decide, by decide⟩ (Nat.le_of_ble_eq_true rfl) hl.1 dL_law_650 ⟨Nat.le_trans (show _ ≤ 300000 by omega) (Nat.le_of_ble_eq_true rfl), Nat.le_trans (show _ ≤ 2000000 by omega) (Nat.le_of_ble_eq_true rfl)⟩ ?_
            refine lv_iload hx hb dL_law_653 (lv_at hl 19 rfl) ?_
            refine lv_aload_n hx hb dL_law_655 rfl (lv_at hl 7 rfl) ?_
            refine lv_iload hx hb dL_law_656 (lv_at hl 17 rfl) ?_
            refine wl_gld F hw 1 (by decide) im rfl (by omega) dL_law_658 ?_
            refine wa_add F dL_law_659 ?_
            refine wa_ic_gt (tgt := 714) F dL_law_660 (by decide) (by have q0 := hg1.1.1 12 0; exact ⟨by omega, by omega⟩) (by have q0 := hB 12 0; have q1 := hG.1 1 im; exact ⟨by omega, by omega⟩) (fun c660 => absurd c660 (by omega)) (fun c660 => ?_)
            refine lv_iload hx hb dL_law_663 (lv_at hl 0 rfl) ?_
            refine lv_iload hx hb dL_law_665 (lv_at hl 1 rfl) ?_
            refine wa_ic_ne (tgt := 691) F dL_law_667 (by decide) (by have q0 := hg1.1.1 7 im; exact ⟨by omega, by omega⟩) (by have q0 := hB 7 im; exact ⟨by omega, by omega⟩) (fun c667 => absurd c667 (by omega)) (fun c667 => ?_)
            refine lv_aload_n hx hb dL_law_670 rfl (lv_at hl 5 rfl) ?_
            refine ql_bakes F hg1.1 hxr hj hw ⟨by decide, by decide⟩ (Nat.le_of_ble_eq_true rfl) hl.1 dL_law_671 ⟨Nat.le_trans (show _ ≤ 300000 by omega) (Nat.le_of_ble_eq_true rfl), Nat.le_trans (show _ ≤ 2000000 by omega) (Nat.le_of_ble_eq_true rfl)⟩ ?_
            refine lv_iload hx hb dL_law_674 (lv_at hl 18 rfl) ?_
            refine wa_ic_ne (tgt := 714) F dL_law_676 (by decide) (by have q0 := hg1.1.1 21 0; exact ⟨by omega, by omega⟩) (by have q0 := hB 21 0; exact ⟨by omega, by omega⟩) (fun c676 => absurd c676 (by omega)) (fun c676 => ?_)
            refine lv_aload_n hx hb dL_law_679 rfl (lv_at hl 5 rfl) ?_
            refine ql_layers F hg1.1 hxr hj hw ⟨by decide, by decide⟩ (Nat.le_of_ble_eq_true rfl) hl.1 dL_law_680 ⟨Nat.le_trans (show _ ≤ 300000 by omega) (Nat.le_of_ble_eq_true rfl), Nat.le_trans (show _ ≤ 2000000 by omega) (Nat.le_of_ble_eq_true rfl)⟩ ?_
            refine lv_iload hx hb dL_law_683 (lv_at hl 19 rfl) ?_
            refine wa_ic_ne (tgt := 714) F dL_law_685 (by decide) (by have q0 := hg1.1.1 12 0; exact ⟨by omega, by omega⟩) (by have q0 := hB 12 0; exact ⟨by omega, by omega⟩) (fun c685 => absurd c685 (by omega)) (fun c685 => ?_)
            refine wa_goto (tgt := 710) F dL_law_688 (by decide) ?_
            refine wa_const F dL_law_710 ?_
            refine wa_goto (tgt := 715) F dL_law_711 (by decide) ?_
            refine lv_istore (lv' := [(7, .int (iI 1)), (20, .int (iI (T1 7 im))), (19, .int (iI (T 7 im))), (18, .int (iI 1)), (17, .int (iI 1)), (0, .ref b), (1, .ref (ad 0 0)), (2, .ref (ad 6 0)), (3, .ref (ad 6 1)), (4, .ref (ad 6 2)), (5, .int (iI (T 8 0))), (6, .int (iI (T 29 0))), (8, .int (iI tn)), (9, .int (iI (t : Int))), (10, .int (iI x)), (11, .int (iI y)), (12, .int (iI dd)), (13, .int (iI (im : Int))), (14, .int (iI (T 21 0))), (15, .int (iI (T 12 0))), (16, .int (iI (bk : Int)))]) hx hb dL_law_715 hl (by decide) rfl (fun ls hl => ?_)
            refine lv_iload hx hb dL_law_717 (lv_at hl 0 rfl) ?_
            refine wa_if_eq (tgt := 744) F dL_law_719 (by decide) (by decide) (fun c719 => absurd c719 (by decide)) (fun c719 => ?_)
            refine lv_iload hx hb dL_law_722 (lv_at hl 1 rfl) ?_
            refine wa_bi F dL_law_724 (by decide +kernel) ?_
            refine wa_ic_eq (tgt := 740) F dL_law_726 (by decide) (by have q0 := hg1.1.1 7 im; exact ⟨by omega, by omega⟩) (by decide) (fun c726 => absurd c726 (by omega)) (fun c726 => ?_)
            refine lv_aload_n hx hb dL_law_729 rfl (lv_at hl 6 rfl) ?_
            refine lv_iload hx hb dL_law_730 (lv_at hl 17 rfl) ?_
            refine ql_isFresh (i := (im : Int)) hlt F hTB hA hg1.1 hxr hj hw hS (show (0 : Int) ≤ (im : Int) ∧ (im : Int) < T1 8 0 by omega) ⟨by decide, by decide⟩ (Nat.le_of_ble_eq_true rfl) hl.1 dL_law_732 ⟨Nat.le_trans (show _ ≤ 300000 by omega) (Nat.le_of_ble_eq_true rfl), Nat.le_trans (show _ ≤ 2000000 by omega) (Nat.le_of_ble_eq_true rfl)⟩ (fun X H locs hxr hj hw hS => ?_)
            rw [bI_t (hfr.mpr (Or.inr b544))]
            refine lv_iload hx hb dL_law_735 (lv_at hl 3 rfl) ?_
            refine wa_ic_ne (tgt := 744) F dL_law_737 (by decide) (by decide) (by decide) (fun c737 => absurd c737 (by decide)) (fun c737 => ?_)
            refine wa_const F dL_law_740 ?_
            refine wa_goto (tgt := 745) F dL_law_741 (by decide) ?_
            refine lv_istore (lv' := [(7, .int (iI 1)), (20, .int (iI (T1 7 im))), (19, .int (iI (T 7 im))), (18, .int (iI 1)), (17, .int (iI 1)), (0, .ref b), (1, .ref (ad 0 0)), (2, .ref (ad 6 0)), (3, .ref (ad 6 1)), (4, .ref (ad 6 2)), (5, .int (iI (T 8 0))), (6, .int (iI (T 29 0))), (8, .int (iI tn)), (9, .int (iI (t : Int))), (10, .int (iI x)), (11, .int (iI y)), (12, .int (iI dd)), (13, .int (iI (im : Int))), (14, .int (iI (T 21 0))), (15, .int (iI (T 12 0))), (16, .int (iI (bk : Int)))]) hx hb dL_law_745 hl (by decide) rfl (fun ls hl => ?_)
            refine wa_goto (tgt := 1799) F dL_law_747 (by decide) ?_
            refine W.widen (k := 600 + 700 * t) (n := 5200 + 4200 * t) (by omega) (by omega) ?_
            exact hE ad X (T1) (G) _ _ ls (hg1.le (by omega)) hm1 hG1 ⟨fun z => by omega, fun z => by omega⟩ hxr hj hw hS (by rw [a8, a29]; exact lv_sub hl [5, 6, 7, 8, 9, 10, 11, 0, 12, 13] rfl)
          · skip
            have e16b : T1 16 (T1 7 im).toNat = 0 := by rw [e7]; exact e16
            refine lv_aload_n hx hb dL_law_565 rfl (lv_at hl 4 rfl) ?_
            refine wa_const F dL_law_566 ?_
            refine lv_iload hx hb dL_law_567 (lv_at hl 16 rfl) ?_
            refine wa_const F dL_law_569 ?_
            refine va_calli (wl_runS F hTB hN hS (c_L_tried0 l hlt D cy ad (T) X (G) o A hj hA hg hxr (im : Int) 0 ⟨by omega, by omega⟩ (by decide) (T1) ((T1 7 im)) (Or.inl k0) (fun _ => ⟨hT1.symm, by rw [Int.toNat_natCast, hT1]⟩) (fun z => absurd (k0.symm.trans z) (by decide))) qw_348 qw_349 qw_30 qw_350 ⟨by decide, by decide, rfl⟩ ⟨by decide, by decide⟩ ⟨rfl, rfl⟩ hw rfl rfl (Nat.le_of_ble_eq_true rfl) hl.1 dL_law_570 ⟨Nat.le_trans (show _ ≤ 300000 by omega) (Nat.le_of_ble_eq_true rfl), Nat.le_trans (show _ ≤ 2000000 by omega) (Nat.le_of_ble_eq_true rfl)⟩) hS (fun _ _ h => h) (fun _ h => h) (fun r u t9 H locs ht9 hvm9 hq9 hB9 hz9 hk9 hS => ?_)
            obtain ⟨ad, X⟩ := u
            obtain ⟨hr9, hxr, hj, he⟩ := hq9
            have hxr : xr (T1) X := hxr
            have hj : wa_wj A ad (wW cy ad T1 X G o) := hj
            have hw : wa_wd D ad (wW cy ad T1 X G o) H := by rw [← ht9]; exact hB9
            rw [hr9]
            dsimp only at he
            have hl : lv_has ls 21 [(19, .int (iI (T 7 im))), (18, .int (iI 1)), (17, .int (iI 1)), (0, .ref b), (1, .ref (ad 0 0)), (2, .ref (ad 6 0)), (3, .ref (ad 6 1)), (4, .ref (ad 6 2)), (5, .int (iI (T 8 0))), (6, .int (iI (T 29 0))), (7, .int (iI 1)), (8, .int (iI tn)), (9, .int (iI (t : Int))), (10, .int (iI x)), (11, .int (iI y)), (12, .int (iI dd)), (13, .int (iI (im : Int))), (14, .int (iI (T 21 0))), (15, .int (iI (T 12 0))), (16, .int (iI (bk : Int)))] := by rw [he.1 0, he.2.2.2.2.1 0, he.2.2.2.2.1 1, he.2.2.2.2.1 2]; exact hl
            refine lv_istore (lv' := [(20, .int (iI (T1 7 im))), (19, .int (iI (T 7 im))), (18, .int (iI 1)), (17, .int (iI 1)), (0, .ref b), (1, .ref (ad 0 0)), (2, .ref (ad 6 0)), (3, .ref (ad 6 1)), (4, .ref (ad 6 2)), (5, .int (iI (T 8 0))), (6, .int (iI (T 29 0))), (7, .int (iI 1)), (8, .int (iI tn)), (9, .int (iI (t : Int))), (10, .int (iI x)), (11, .int (iI y)), (12, .int (iI dd)), (13, .int (iI (im : Int))), (14, .int (iI (T 21 0))), (15, .int (iI (T 12 0))), (16, .int (iI (bk : Int)))]) hx hb dL_law_573 hl (by decide) rfl (fun ls hl => ?_)
            refine lv_iload hx hb dL_law_575 (lv_at hl 0 rfl) ?_
            refine wa_bi F dL_law_577 (by decide +kernel) ?_
            refine wa_ic_ne (tgt := 622) F dL_law_579 (by decide) (by have q0 := hg1.1.1 7 im; exact ⟨by omega, by omega⟩) (by decide) (fun c579 => ?_) (fun c579 => absurd c579 (by omega))
            refine lv_iload hx hb dL_law_622 (lv_at hl 3 rfl) ?_
            refine wa_if_eq (tgt := 714) F dL_law_624 (by decide) (by decide) (fun c624 => absurd c624 (by decide)) (fun c624 => ?_)
            refine lv_iload hx hb dL_law_627 (lv_at hl 0 rfl) ?_
            refine lv_aload_n hx hb dL_law_629 rfl (lv_at hl 5 rfl) ?_
            refine lv_iload hx hb dL_law_630 (lv_at hl 17 rfl) ?_
            refine ql_latest (i := (im : Int)) hlt F hTB hA hg1.1 hxr hj hw hS (show (0 : Int) ≤ (im : Int) ∧ (im : Int) < T1 8 0 by omega) ⟨by decide, by decide⟩ (Nat.le_of_ble_eq_true rfl) hl.1 dL_law_632 ⟨Nat.le_trans (show _ ≤ 300000 by omega) (Nat.le_of_ble_eq_true rfl), Nat.le_trans (show _ ≤ 2000000 by omega) (Nat.le_of_ble_eq_true rfl)⟩ (fun X H locs hxr hj hw hS => ?_)
            refine W.eq (g2 := F0 m 635 ls [.int (iI (T1 7 im)), .int (iI (T1 7 im))]) rfl ?_
            refine wa_ic_ne (tgt := 714) F dL_law_635 (by decide) (by have q0 := hg1.1.1 7 im; exact ⟨by omega, by omega⟩) (by have q0 := hg1.1.1 7 im; exact ⟨by omega, by omega⟩) (fun c635 => absurd c635 (by omega)) (fun c635 => ?_)
            refine lv_aload_n hx hb dL_law_638 rfl (lv_at hl 5 rfl) ?_
            refine ql_bakes F hg1.1 hxr hj hw ⟨by decide, by decide⟩ (Nat.le_of_ble_eq_true rfl) hl.1 dL_law_639 ⟨Nat.le_trans (show _ ≤ 300000 by omega) (Nat.le_of_ble_eq_true rfl), Nat.le_trans (show _ ≤ 2000000 by omega) (Nat.le_of_ble_eq_true rfl)⟩ ?_
            refine lv_iload hx hb dL_law_642 (lv_at hl 18 rfl) ?_
            refine wa_const F dL_law_644 ?_
            refine wa_add F dL_law_645 ?_
            refine wa_ic_gt (tgt := 714) F dL_law_646 (by decide) (by have q0 := hg1.1.1 21 0; exact ⟨by omega, by omega⟩) (by have q0 := hB 21 0; exact ⟨by omega, by omega⟩) (fun c646 => absurd c646 (by omega)) (fun c646 => ?_)
            refine lv_aload_n hx hb dL_law_649 rfl (lv_at hl 5 rfl) ?_
            refine ql_layers F hg1.1 hxr hj hw ⟨by decide, by decide⟩ (Nat.le_of_ble_eq_true rfl) hl.1 dL_law_650 ⟨Nat.le_trans (show _ ≤ 300000 by omega) (Nat.le_of_ble_eq_true rfl), Nat.le_trans (show _ ≤ 2000000 by omega) (Nat.le_of_ble_eq_true rfl)⟩ ?_
            refine lv_iload hx hb dL_law_653 (lv_at hl 19 rfl) ?_
            refine lv_aload_n hx hb dL_law_655 rfl (lv_at hl 7 rfl) ?_
            refine lv_iload hx hb dL_law_656 (lv_at hl 17 rfl) ?_
            refine wl_gld F hw 1 (by decide) im rfl (by omega) dL_law_658 ?_
            refine wa_add F dL_law_659 ?_
            refine wa_ic_gt (tgt := 714) F dL_law_660 (by decide) (by have q0 := hg1.1.1 12 0; exact ⟨by omega, by omega⟩) (by have q0 := hB 12 0; have q1 := hG.1 1 im; exact ⟨by omega, by omega⟩) (fun c660 => absurd c660 (by omega)) (fun c660 => ?_)
            refine lv_iload hx hb dL_law_663 (lv_at hl 0 rfl) ?_
            refine lv_iload hx hb dL_law_665 (lv_at hl 1 rfl) ?_
            refine wa_ic_ne (tgt := 691) F dL_law_667 (by decide) (by have q0 := hg1.1.1 7 im; exact ⟨by omega, by omega⟩) (by have q0 := hB 7 im; exact ⟨by omega, by omega⟩) (fun c667 => ?_) (fun c667 => absurd c667 (by omega))
            refine lv_iload hx hb dL_law_691 (lv_at hl 0 rfl) ?_
            refine lv_iload hx hb dL_law_693 (lv_at hl 18 rfl) ?_
            refine wa_ic_ne (tgt := 714) F dL_law_695 (by decide) (by have q0 := hg1.1.1 7 im; exact ⟨by omega, by omega⟩) (by have q0 := hB 21 0; exact ⟨by omega, by omega⟩) (fun c695 => absurd c695 (by omega)) (fun c695 => ?_)
            refine lv_aload_n hx hb dL_law_698 rfl (lv_at hl 5 rfl) ?_
            refine lv_iload hx hb dL_law_699 (lv_at hl 0 rfl) ?_
            refine ql_state (i := (T1 7 im)) hlt F hTB hA hg1.1 hxr hj hw hS (show 0 ≤ T1 7 im ∧ T1 7 im < T1 21 0 by omega) ⟨by decide, by decide⟩ (Nat.le_of_ble_eq_true rfl) hl.1 dL_law_701 ⟨Nat.le_trans (show _ ≤ 300000 by omega) (Nat.le_of_ble_eq_true rfl), Nat.le_trans (show _ ≤ 2000000 by omega) (Nat.le_of_ble_eq_true rfl)⟩ (fun X H locs hxr hj hw hS => ?_)
            refine W.eq (g2 := F0 m 704 ls [.int (iI (v_state T1 ((T1 7 im).toNat)))]) rfl ?_
            refine wa_bi F dL_law_704 (by decide +kernel) ?_
            refine wl_rem F (by have q0 := (vs_t hg1 ((T1 7 im).toNat)).1; omega) (by decide) dL_law_706 ?_
            refine wa_if_ne (tgt := 714) F dL_law_707 (by decide) (by have q0 := (vs_t hg1 ((T1 7 im).toNat)).1; exact ⟨by omega, by omega⟩) (fun c707 => absurd c707 (by omega)) (fun c707 => ?_)
            refine wa_const F dL_law_710 ?_
            refine wa_goto (tgt := 715) F dL_law_711 (by decide) ?_
            refine lv_istore (lv' := [(7, .int (iI 1)), (20, .int (iI (T1 7 im))), (19, .int (iI (T 7 im))), (18, .int (iI 1)), (17, .int (iI 1)), (0, .ref b), (1, .ref (ad 0 0)), (2, .ref (ad 6 0)), (3, .ref (ad 6 1)), (4, .ref (ad 6 2)), (5, .int (iI (T 8 0))), (6, .int (iI (T 29 0))), (8, .int (iI tn)), (9, .int (iI (t : Int))), (10, .int (iI x)), (11, .int (iI y)), (12, .int (iI dd)), (13, .int (iI (im : Int))), (14, .int (iI (T 21 0))), (15, .int (iI (T 12 0))), (16, .int (iI (bk : Int)))]) hx hb dL_law_715 hl (by decide) rfl (fun ls hl => ?_)
            refine lv_iload hx hb dL_law_717 (lv_at hl 0 rfl) ?_
            refine wa_if_eq (tgt := 744) F dL_law_719 (by decide) (by decide) (fun c719 => absurd c719 (by decide)) (fun c719 => ?_)
            refine lv_iload hx hb dL_law_722 (lv_at hl 1 rfl) ?_
            refine wa_bi F dL_law_724 (by decide +kernel) ?_
            refine wa_ic_eq (tgt := 740) F dL_law_726 (by decide) (by have q0 := hg1.1.1 7 im; exact ⟨by omega, by omega⟩) (by decide) (fun c726 => absurd c726 (by omega)) (fun c726 => ?_)
            refine lv_aload_n hx hb dL_law_729 rfl (lv_at hl 6 rfl) ?_
            refine lv_iload hx hb dL_law_730 (lv_at hl 17 rfl) ?_
            refine ql_isFresh (i := (im : Int)) hlt F hTB hA hg1.1 hxr hj hw hS (show (0 : Int) ≤ (im : Int) ∧ (im : Int) < T1 8 0 by omega) ⟨by decide, by decide⟩ (Nat.le_of_ble_eq_true rfl) hl.1 dL_law_732 ⟨Nat.le_trans (show _ ≤ 300000 by omega) (Nat.le_of_ble_eq_true rfl), Nat.le_trans (show _ ≤ 2000000 by omega) (Nat.le_of_ble_eq_true rfl)⟩ (fun X H locs hxr hj hw hS => ?_)
            rw [bI_t (hfr.mpr (Or.inr b544))]
            refine lv_iload hx hb dL_law_735 (lv_at hl 3 rfl) ?_
            refine wa_ic_ne (tgt := 744) F dL_law_737 (by decide) (by decide) (by decide) (fun c737 => absurd c737 (by decide)) (fun c737 => ?_)
            refine wa_const F dL_law_740 ?_
            refine wa_goto (tgt := 745) F dL_law_741 (by decide) ?_
            refine lv_istore (lv' := [(7, .int (iI 1)), (20, .int (iI (T1 7 im))), (19, .int (iI (T 7 im))), (18, .int (iI 1)), (17, .int (iI 1)), (0, .ref b), (1, .ref (ad 0 0)), (2, .ref (ad 6 0)), (3, .ref (ad 6 1)), (4, .ref (ad 6 2)), (5, .int (iI (T 8 0))), (6, .int (iI (T 29 0))), (8, .int (iI tn)), (9, .int (iI (t : Int))), (10, .int (iI x)), (11, .int (iI y)), (12, .int (iI dd)), (13, .int (iI (im : Int))), (14, .int (iI (T 21 0))), (15, .int (iI (T 12 0))), (16, .int (iI (bk : Int)))]) hx hb dL_law_745 hl (by decide) rfl (fun ls hl => ?_)
            refine wa_goto (tgt := 1799) F dL_law_747 (by decide) ?_
            refine W.widen (k := 600 + 700 * t) (n := 5200 + 4200 * t) (by omega) (by omega) ?_
            exact hE ad X (T1) (G) _ _ ls (hg1.le (by omega)) hm1 hG1 ⟨fun z => by omega, fun z => by omega⟩ hxr hj hw hS (by rw [a8, a29]; exact lv_sub hl [5, 6, 7, 8, 9, 10, 11, 0, 12, 13] rfl)
      · rw [bI_f b544]
        refine wa_if_eq (tgt := 554) F dL_law_547 (by decide) (by decide) (fun c547 => ?_) (fun c547 => absurd c547 (by decide))
        refine wa_const F dL_law_554 ?_
        refine lv_istore (lv' := [(18, .int (iI 0)), (17, .int (iI 1)), (0, .ref b), (1, .ref (ad 0 0)), (2, .ref (ad 6 0)), (3, .ref (ad 6 1)), (4, .ref (ad 6 2)), (5, .int (iI (T 8 0))), (6, .int (iI (T 29 0))), (7, .int (iI 1)), (8, .int (iI tn)), (9, .int (iI (t : Int))), (10, .int (iI x)), (11, .int (iI y)), (12, .int (iI dd)), (13, .int (iI (im : Int))), (14, .int (iI (T 21 0))), (15, .int (iI (T 12 0))), (16, .int (iI (bk : Int)))]) hx hb dL_law_555 hl (by decide) rfl (fun ls hl => ?_)
        refine lv_aload_n hx hb dL_law_557 rfl (lv_at hl 3 rfl) ?_
        refine lv_iload hx hb dL_law_558 (lv_at hl 15 rfl) ?_
        refine ql_latest (i := (im : Int)) hlt F hTB hA hg.1 hxr hj hw hS (show (0 : Int) ≤ (im : Int) ∧ (im : Int) < T 8 0 by omega) ⟨by decide, by decide⟩ (Nat.le_of_ble_eq_true rfl) hl.1 dL_law_560 ⟨Nat.le_trans (show _ ≤ 300000 by omega) (Nat.le_of_ble_eq_true rfl), Nat.le_trans (show _ ≤ 2000000 by omega) (Nat.le_of_ble_eq_true rfl)⟩ (fun X H locs hxr hj hw hS => ?_)
        refine W.eq (g2 := F0 m 563 ls [.int (iI (T 7 im))]) rfl ?_
        refine lv_istore (lv' := [(19, .int (iI (T 7 im))), (18, .int (iI 0)), (17, .int (iI 1)), (0, .ref b), (1, .ref (ad 0 0)), (2, .ref (ad 6 0)), (3, .ref (ad 6 1)), (4, .ref (ad 6 2)), (5, .int (iI (T 8 0))), (6, .int (iI (T 29 0))), (7, .int (iI 1)), (8, .int (iI tn)), (9, .int (iI (t : Int))), (10, .int (iI x)), (11, .int (iI y)), (12, .int (iI dd)), (13, .int (iI (im : Int))), (14, .int (iI (T 21 0))), (15, .int (iI (T 12 0))), (16, .int (iI (bk : Int)))]) hx hb dL_law_563 hl (by decide) rfl (fun ls hl => ?_)
        rcases w_bake hg hm him with ⟨k0, k1⟩ | ⟨k0, hbs, hwb⟩
        · skip
          have a7 : wa_s T 0 0 2 7 im = T 7 im := rfl
          have hg1 := hg.th (k := 2) (by decide)
          have hm1 := hm.th 2
          have hG1 := hG.th 2
          have a8 : wa_s T 0 0 2 8 0 = T 8 0 := rfl
          have a12 : wa_s T 0 0 2 12 0 = T 12 0 := rfl
          have a21 : wa_s T 0 0 2 21 0 = T 21 0 := rfl
          have a29 : wa_s T 0 0 2 29 0 = T 29 0 := rfl
          generalize hT1 : wa_s T 0 0 2 = T1 at *
          have k60 : T 21 0 = 60 := k1.resolve_left (fun z => z (Or.inr (by omega)))
          refine lv_aload_n hx hb dL_law_565 rfl (lv_at hl 4 rfl) ?_
          refine wa_const F dL_law_566 ?_
          refine lv_iload hx hb dL_law_567 (lv_at hl 16 rfl) ?_
          refine wa_const F dL_law_569 ?_
          refine va_calli (wl_runS F hTB hN hS (c_L_tried0 l hlt D cy ad (T) X (G) o A hj hA hg hxr (im : Int) 0 ⟨by omega, by omega⟩ (by decide) (T1) ((-3)) (Or.inr k0) (fun z => absurd (k0.symm.trans z) (by decide)) (fun _ => ⟨hT1.symm, rfl⟩)) qw_348 qw_349 qw_30 qw_350 ⟨by decide, by decide, rfl⟩ ⟨by decide, by decide⟩ ⟨rfl, rfl⟩ hw rfl rfl (Nat.le_of_ble_eq_true rfl) hl.1 dL_law_570 ⟨Nat.le_trans (show _ ≤ 300000 by omega) (Nat.le_of_ble_eq_true rfl), Nat.le_trans (show _ ≤ 2000000 by omega) (Nat.le_of_ble_eq_true rfl)⟩) hS (fun _ _ h => h) (fun _ h => h) (fun r u t9 H locs ht9 hvm9 hq9 hB9 hz9 hk9 hS => ?_)
          obtain ⟨ad, X⟩ := u
          obtain ⟨hr9, hxr, hj, he⟩ := hq9
          have hxr : xr (T1) X := hxr
          have hj : wa_wj A ad (wW cy ad T1 X G o) := hj
          have hw : wa_wd D ad (wW cy ad T1 X G o) H := by rw [← ht9]; exact hB9
          rw [hr9]
          dsimp only at he
          have hl : lv_has ls 21 [(19, .int (iI (T 7 im))), (18, .int (iI 0)), (17, .int (iI 1)), (0, .ref b), (1, .ref (ad 0 0)), (2, .ref (ad 6 0)), (3, .ref (ad 6 1)), (4, .ref (ad 6 2)), (5, .int (iI (T 8 0))), (6, .int (iI (T 29 0))), (7, .int (iI 1)), (8, .int (iI tn)), (9, .int (iI (t : Int))), (10, .int (iI x)), (11, .int (iI y)), (12, .int (iI dd)), (13, .int (iI (im : Int))), (14, .int (iI (T 21 0))), (15, .int (iI (T 12 0))), (16, .int (iI (bk : Int)))] := by rw [he.1 0, he.2.2.2.2.1 0, he.2.2.2.2.1 1, he.2.2.2.2.1 2]; exact hl
          refine lv_istore (lv' := [(20, .int (iI (-3))), (19, .int (iI (T 7 im))), (18, .int (iI 0)), (17, .int (iI 1)), (0, .ref b), (1, .ref (ad 0 0)), (2, .ref (ad 6 0)), (3, .ref (ad 6 1)), (4, .ref (ad 6 2)), (5, .int (iI (T 8 0))), (6, .int (iI (T 29 0))), (7, .int (iI 1)), (8, .int (iI tn)), (9, .int (iI (t : Int))), (10, .int (iI x)), (11, .int (iI y)), (12, .int (iI dd)), (13, .int (iI (im : Int))), (14, .int (iI (T 21 0))), (15, .int (iI (T 12 0))), (16, .int (iI (bk : Int)))]) hx hb dL_law_573 hl (by decide) rfl (fun ls hl => ?_)
          refine lv_iload hx hb dL_law_575 (lv_at hl 0 rfl) ?_
          refine wa_bi F dL_law_577 (by decide +kernel) ?_
          refine wa_ic_ne (tgt := 622) F dL_law_579 (by decide) (by decide) (by decide) (fun c579 => absurd c579 (by decide)) (fun c579 => ?_)
          refine lv_iload hx hb dL_law_582 (lv_at hl 3 rfl) ?_
          refine wa_if_eq (tgt := 594) F dL_law_584 (by decide) (by decide) (fun c584 => absurd c584 (by decide)) (fun c584 => ?_)
          refine lv_iload hx hb dL_law_587 (lv_at hl 18 rfl) ?_
          refine wa_bi F dL_law_589 (by decide +kernel) ?_
          refine wa_ic_ne (tgt := 618) F dL_law_591 (by decide) (by have q0 := hB 21 0; exact ⟨by omega, by omega⟩) (by decide) (fun c591 => absurd c591 (by omega)) (fun c591 => ?_)
          refine lv_aload_n hx hb dL_law_594 rfl (lv_at hl 5 rfl) ?_
          refine ql_layers F hg1.1 hxr hj hw ⟨by decide, by decide⟩ (Nat.le_of_ble_eq_true rfl) hl.1 dL_law_595 ⟨Nat.le_trans (show _ ≤ 300000 by omega) (Nat.le_of_ble_eq_true rfl), Nat.le_trans (show _ ≤ 2000000 by omega) (Nat.le_of_ble_eq_true rfl)⟩ ?_
          refine lv_iload hx hb dL_law_598 (lv_at hl 19 rfl) ?_
          refine wa_ic_ne (tgt := 618) F dL_law_600 (by decide) (by have q0 := hg1.1.1 12 0; exact ⟨by omega, by omega⟩) (by have q0 := hB 12 0; exact ⟨by omega, by omega⟩) (fun c600 => absurd c600 (by omega)) (fun c600 => ?_)
          refine lv_aload_n hx hb dL_law_603 rfl (lv_at hl 5 rfl) ?_
          refine lv_iload hx hb dL_law_604 (lv_at hl 17 rfl) ?_
          refine ql_latest (i := (im : Int)) hlt F hTB hA hg1.1 hxr hj hw hS (show (0 : Int) ≤ (im : Int) ∧ (im : Int) < T1 8 0 by omega) ⟨by decide, by decide⟩ (Nat.le_of_ble_eq_true rfl) hl.1 dL_law_606 ⟨Nat.le_trans (show _ ≤ 300000 by omega) (Nat.le_of_ble_eq_true rfl), Nat.le_trans (show _ ≤ 2000000 by omega) (Nat.le_of_ble_eq_true rfl)⟩ (fun X H locs hxr hj hw hS => ?_)
          refine W.eq (g2 := F0 m 609 ls [.int (iI (T1 7 im))]) rfl ?_
          refine lv_iload hx hb dL_law_609 (lv_at hl 1 rfl) ?_
          refine wa_ic_ne (tgt := 618) F dL_law_611 (by decide) (by have q0 := hg1.1.1 7 im; exact ⟨by omega, by omega⟩) (by have q0 := hB 7 im; exact ⟨by omega, by omega⟩) (fun c611 => absurd c611 (by omega)) (fun c611 => ?_)
          refine wa_const F dL_law_614 ?_
          refine wa_goto (tgt := 715) F dL_law_615 (by decide) ?_
          refine lv_istore (lv' := [(7, .int (iI 1)), (20, .int (iI (-3))), (19, .int (iI (T 7 im))), (18, .int (iI 0)), (17, .int (iI 1)), (0, .ref b), (1, .ref (ad 0 0)), (2, .ref (ad 6 0)), (3, .ref (ad 6 1)), (4, .ref (ad 6 2)), (5, .int (iI (T 8 0))), (6, .int (iI (T 29 0))), (8, .int (iI tn)), (9, .int (iI (t : Int))), (10, .int (iI x)), (11, .int (iI y)), (12, .int (iI dd)), (13, .int (iI (im : Int))), (14, .int (iI (T 21 0))), (15, .int (iI (T 12 0))), (16, .int (iI (bk : Int)))]) hx hb dL_law_715 hl (by decide) rfl (fun ls hl => ?_)
          refine lv_iload hx hb dL_law_717 (lv_at hl 0 rfl) ?_
          refine wa_if_eq (tgt := 744) F dL_law_719 (by decide) (by decide) (fun c719 => absurd c719 (by decide)) (fun c719 => ?_)
          refine lv_iload hx hb dL_law_722 (lv_at hl 1 rfl) ?_
          refine wa_bi F dL_law_724 (by decide +kernel) ?_
          refine wa_ic_eq (tgt := 740) F dL_law_726 (by decide) (by decide) (by decide) (fun c726 => ?_) (fun c726 => absurd c726 (by decide))
          refine wa_const F dL_law_740 ?_
          refine wa_goto (tgt := 745) F dL_law_741 (by decide) ?_
          refine lv_istore (lv' := [(7, .int (iI 1)), (20, .int (iI (-3))), (19, .int (iI (T 7 im))), (18, .int (iI 0)), (17, .int (iI 1)), (0, .ref b), (1, .ref (ad 0 0)), (2, .ref (ad 6 0)), (3, .ref (ad 6 1)), (4, .ref (ad 6 2)), (5, .int (iI (T 8 0))), (6, .int (iI (T 29 0))), (8, .int (iI tn)), (9, .int (iI (t : Int))), (10, .int (iI x)), (11, .int (iI y)), (12, .int (iI dd)), (13, .int (iI (im : Int))), (14, .int (iI (T 21 0))), (15, .int (iI (T 12 0))), (16, .int (iI (bk : Int)))]) hx hb dL_law_745 hl (by decide) rfl (fun ls hl => ?_)
          refine wa_goto (tgt := 1799) F dL_law_747 (by decide) ?_
          refine W.widen (k := 600 + 700 * t) (n := 5200 + 4200 * t) (by omega) (by omega) ?_
          exact hE ad X (T1) (G) _ _ ls (hg1.le (by omega)) hm1 hG1 ⟨fun z => by omega, fun z => by omega⟩ hxr hj hw hS (by rw [a8, a29]; exact lv_sub hl [5, 6, 7, 8, 9, 10, 11, 0, 12, 13] rfl)
        · obtain ⟨hg1, hm1, ⟨a8, a29⟩, ⟨a21, a12⟩, hcs, hfr, hG1⟩ := hwb
          have hG1 := hG1 G hG
          generalize hT1 : a_bake T (im : Int) = T1 at *
          have hB1 := hg1.1.1
          have q7 := hB1 7 im
          have vs1 := vs_t hg1 (T1 7 im).toNat
          rcases hcs with ⟨e7, e21, e12⟩ | ⟨e7, e7n, e16, c60, e21⟩
          · skip
            refine lv_aload_n hx hb dL_law_565 rfl (lv_at hl 4 rfl) ?_
            refine wa_const F dL_law_566 ?_
            refine lv_iload hx hb dL_law_567 (lv_at hl 16 rfl) ?_
            refine wa_const F dL_law_569 ?_
            refine va_calli (wl_runS F hTB hN hS (c_L_tried0 l hlt D cy ad (T) X (G) o A hj hA hg hxr (im : Int) 0 ⟨by omega, by omega⟩ (by decide) (T1) ((T1 7 im)) (Or.inl k0) (fun _ => ⟨hT1.symm, by rw [Int.toNat_natCast, hT1]⟩) (fun z => absurd (k0.symm.trans z) (by decide))) qw_348 qw_349 qw_30 qw_350 ⟨by decide, by decide, rfl⟩ ⟨by decide, by decide⟩ ⟨rfl, rfl⟩ hw rfl rfl (Nat.le_of_ble_eq_true rfl) hl.1 dL_law_570 ⟨Nat.le_trans (show _ ≤ 300000 by omega) (Nat.le_of_ble_eq_true rfl), Nat.le_trans (show _ ≤ 2000000 by omega) (Nat.le_of_ble_eq_true rfl)⟩) hS (fun _ _ h => h) (fun _ h => h) (fun r u t9 H locs ht9 hvm9 hq9 hB9 hz9 hk9 hS => ?_)
            obtain ⟨ad, X⟩ := u
            obtain ⟨hr9, hxr, hj, he⟩ := hq9
            have hxr : xr (T1) X := hxr
            have hj : wa_wj A ad (wW cy ad T1 X G o) := hj
            have hw : wa_wd D ad (wW cy ad T1 X G o) H := by rw [← ht9]; exact hB9
            rw [hr9]
            dsimp only at he
            have hl : lv_has ls 21 [(19, .int (iI (T 7 im))), (18, .int (iI 0)), (17, .int (iI 1)), (0, .ref b), (1, .ref (ad 0 0)), (2, .ref (ad 6 0)), (3, .ref (ad 6 1)), (4, .ref (ad 6 2)), (5, .int (iI (T 8 0))), (6, .int (iI (T 29 0))), (7, .int (iI 1)), (8, .int (iI tn)), (9, .int (iI (t : Int))), (10, .int (iI x)), (11, .int (iI y)), (12, .int (iI dd)), (13, .int (iI (im : Int))), (14, .int (iI (T 21 0))), (15, .int (iI (T 12 0))), (16, .int (iI (bk : Int)))] := by rw [he.1 0, he.2.2.2.2.1 0, he.2.2.2.2.1 1, he.2.2.2.2.1 2]; exact hl
            refine lv_istore (lv' := [(20, .int (iI (T1 7 im))), (19, .int (iI (T 7 im))), (18, .int (iI 0)), (17, .int (iI 1)), (0, .ref b), (1, .ref (ad 0 0)), (2, .ref (ad 6 0)), (3, .ref (ad 6 1)), (4, .ref (ad 6 2)), (5, .int (iI (T 8 0))), (6, .int (iI (T 29 0))), (7, .int (iI 1)), (8, .int (iI tn)), (9, .int (iI (t : Int))), (10, .int (iI x)), (11, .int (iI y)), (12, .int (iI dd)), (13, .int (iI (im : Int))), (14, .int (iI (T 21 0))), (15, .int (iI (T 12 0))), (16, .int (iI (bk : Int)))]) hx hb dL_law_573 hl (by decide) rfl (fun ls hl => ?_)
            refine lv_iload hx hb dL_law_575 (lv_at hl 0 rfl) ?_
            refine wa_bi F dL_law_577 (by decide +kernel) ?_
            refine wa_ic_ne (tgt := 622) F dL_law_579 (by decide) (by have q0 := hg1.1.1 7 im; exact ⟨by omega, by omega⟩) (by decide) (fun c579 => ?_) (fun c579 => absurd c579 (by omega))
            refine lv_iload hx hb dL_law_622 (lv_at hl 3 rfl) ?_
            refine wa_if_eq (tgt := 714) F dL_law_624 (by decide) (by decide) (fun c624 => absurd c624 (by decide)) (fun c624 => ?_)
            refine lv_iload hx hb dL_law_627 (lv_at hl 0 rfl) ?_
            refine lv_aload_n hx hb dL_law_629 rfl (lv_at hl 5 rfl) ?_
            refine lv_iload hx hb dL_law_630 (lv_at hl 17 rfl) ?_
            refine ql_latest (i := (im : Int)) hlt F hTB hA hg1.1 hxr hj hw hS (show (0 : Int) ≤ (im : Int) ∧ (im : Int) < T1 8 0 by omega) ⟨by decide, by decide⟩ (Nat.le_of_ble_eq_true rfl) hl.1 dL_law_632 ⟨Nat.le_trans (show _ ≤ 300000 by omega) (Nat.le_of_ble_eq_true rfl), Nat.le_trans (show _ ≤ 2000000 by omega) (Nat.le_of_ble_eq_true rfl)⟩ (fun X H locs hxr hj hw hS => ?_)
            refine W.eq (g2 := F0 m 635 ls [.int (iI (T1 7 im)), .int (iI (T1 7 im))]) rfl ?_
            refine wa_ic_ne (tgt := 714) F dL_law_635 (by decide) (by have q0 := hg1.1.1 7 im; exact ⟨by omega, by omega⟩) (by have q0 := hg1.1.1 7 im; exact ⟨by omega, by omega⟩) (fun c635 => absurd c635 (by omega)) (fun c635 => ?_)
            refine lv_aload_n hx hb dL_law_638 rfl (lv_at hl 5 rfl) ?_
            refine ql_bakes F hg1.1 hxr hj hw ⟨by decide, by decide⟩ (Nat.le_of_ble_eq_true rfl) hl.1 dL_law_639 ⟨Nat.le_trans (show _ ≤ 300000 by omega) (Nat.le_of_ble_eq_true rfl), Nat.le_trans (show _ ≤ 2000000 by omega) (Nat.le_of_ble_eq_true rfl)⟩ ?_
            refine lv_iload hx hb dL_law_642 (lv_at hl 18 rfl) ?_
            refine wa_const F dL_law_644 ?_
            refine wa_add F dL_law_645 ?_
            refine wa_ic_gt (tgt := 714) F dL_law_646 (by decide) (by have q0 := hg1.1.1 21 0; exact ⟨by omega, by omega⟩) (by have q0 := hB 21 0; exact ⟨by omega, by omega⟩) (fun c646 => absurd c646 (by omega)) (fun c646 => ?_)
            refine lv_aload_n hx hb dL_law_649 rfl (lv_at hl 5 rfl) ?_
            refine ql_layers F hg1.1 hxr hj hw ⟨by decide, by decide⟩ (Nat.le_of_ble_eq_true rfl) hl.1 dL_law_650 ⟨Nat.le_trans (show _ ≤ 300000 by omega) (Nat.le_of_ble_eq_true rfl), Nat.le_trans (show _ ≤ 2000000 by omega) (Nat.le_of_ble_eq_true rfl)⟩ ?_
            refine lv_iload hx hb dL_law_653 (lv_at hl 19 rfl) ?_
            refine lv_aload_n hx hb dL_law_655 rfl (lv_at hl 7 rfl) ?_
            refine lv_iload hx hb dL_law_656 (lv_at hl 17 rfl) ?_
            refine wl_gld F hw 1 (by decide) im rfl (by omega) dL_law_658 ?_
            refine wa_add F dL_law_659 ?_
            refine wa_ic_gt (tgt := 714) F dL_law_660 (by decide) (by have q0 := hg1.1.1 12 0; exact ⟨by omega, by omega⟩) (by have q0 := hB 12 0; have q1 := hG.1 1 im; exact ⟨by omega, by omega⟩) (fun c660 => absurd c660 (by omega)) (fun c660 => ?_)
            refine lv_iload hx hb dL_law_663 (lv_at hl 0 rfl) ?_
            refine lv_iload hx hb dL_law_665 (lv_at hl 1 rfl) ?_
            refine wa_ic_ne (tgt := 691) F dL_law_667 (by decide) (by have q0 := hg1.1.1 7 im; exact ⟨by omega, by omega⟩) (by have q0 := hB 7 im; exact ⟨by omega, by omega⟩) (fun c667 => absurd c667 (by omega)) (fun c667 => ?_)
            refine lv_aload_n hx hb dL_law_670 rfl (lv_at hl 5 rfl) ?_
            refine ql_bakes F hg1.1 hxr hj hw ⟨by decide, by decide⟩ (Nat.le_of_ble_eq_true rfl) hl.1 dL_law_671 ⟨Nat.le_trans (show _ ≤ 300000 by omega) (Nat.le_of_ble_eq_true rfl), Nat.le_trans (show _ ≤ 2000000 by omega) (Nat.le_of_ble_eq_true rfl)⟩ ?_
            refine lv_iload hx hb dL_law_674 (lv_at hl 18 rfl) ?_
            refine wa_ic_ne (tgt := 714) F dL_law_676 (by decide) (by have q0 := hg1.1.1 21 0; exact ⟨by omega, by omega⟩) (by have q0 := hB 21 0; exact ⟨by omega, by omega⟩) (fun c676 => absurd c676 (by omega)) (fun c676 => ?_)
            refine lv_aload_n hx hb dL_law_679 rfl (lv_at hl 5 rfl) ?_
            refine ql_layers F hg1.1 hxr hj hw ⟨by decide, by decide⟩ (Nat.le_of_ble_eq_true rfl) hl.1 dL_law_680 ⟨Nat.le_trans (show _ ≤ 300000 by omega) (Nat.le_of_ble_eq_true rfl), Nat.le_trans (show _ ≤ 2000000 by omega) (Nat.le_of_ble_eq_true rfl)⟩ ?_
            refine lv_iload hx hb dL_law_683 (lv_at hl 19 rfl) ?_
            refine wa_ic_ne (tgt := 714) F dL_law_685 (by decide) (by have q0 := hg1.1.1 12 0; exact ⟨by omega, by omega⟩) (by have q0 := hB 12 0; exact ⟨by omega, by omega⟩) (fun c685 => absurd c685 (by omega)) (fun c685 => ?_)
            refine wa_goto (tgt := 710) F dL_law_688 (by decide) ?_
            refine wa_const F dL_law_710 ?_
            refine wa_goto (tgt := 715) F dL_law_711 (by decide) ?_
            refine lv_istore (lv' := [(7, .int (iI 1)), (20, .int (iI (T1 7 im))), (19, .int (iI (T 7 im))), (18, .int (iI 0)), (17, .int (iI 1)), (0, .ref b), (1, .ref (ad 0 0)), (2, .ref (ad 6 0)), (3, .ref (ad 6 1)), (4, .ref (ad 6 2)), (5, .int (iI (T 8 0))), (6, .int (iI (T 29 0))), (8, .int (iI tn)), (9, .int (iI (t : Int))), (10, .int (iI x)), (11, .int (iI y)), (12, .int (iI dd)), (13, .int (iI (im : Int))), (14, .int (iI (T 21 0))), (15, .int (iI (T 12 0))), (16, .int (iI (bk : Int)))]) hx hb dL_law_715 hl (by decide) rfl (fun ls hl => ?_)
            refine lv_iload hx hb dL_law_717 (lv_at hl 0 rfl) ?_
            refine wa_if_eq (tgt := 744) F dL_law_719 (by decide) (by decide) (fun c719 => absurd c719 (by decide)) (fun c719 => ?_)
            refine lv_iload hx hb dL_law_722 (lv_at hl 1 rfl) ?_
            refine wa_bi F dL_law_724 (by decide +kernel) ?_
            refine wa_ic_eq (tgt := 740) F dL_law_726 (by decide) (by have q0 := hg1.1.1 7 im; exact ⟨by omega, by omega⟩) (by decide) (fun c726 => absurd c726 (by omega)) (fun c726 => ?_)
            refine lv_aload_n hx hb dL_law_729 rfl (lv_at hl 6 rfl) ?_
            refine lv_iload hx hb dL_law_730 (lv_at hl 17 rfl) ?_
            refine ql_isFresh (i := (im : Int)) hlt F hTB hA hg1.1 hxr hj hw hS (show (0 : Int) ≤ (im : Int) ∧ (im : Int) < T1 8 0 by omega) ⟨by decide, by decide⟩ (Nat.le_of_ble_eq_true rfl) hl.1 dL_law_732 ⟨Nat.le_trans (show _ ≤ 300000 by omega) (Nat.le_of_ble_eq_true rfl), Nat.le_trans (show _ ≤ 2000000 by omega) (Nat.le_of_ble_eq_true rfl)⟩ (fun X H locs hxr hj hw hS => ?_)
            rw [bI_f (fun z => (hfr.mp z).elim (fun q => absurd q (by omega)) b544)]
            refine lv_iload hx hb dL_law_735 (lv_at hl 3 rfl) ?_
            refine wa_ic_ne (tgt := 744) F dL_law_737 (by decide) (by decide) (by decide) (fun c737 => absurd c737 (by decide)) (fun c737 => ?_)
            refine wa_const F dL_law_740 ?_
            refine wa_goto (tgt := 745) F dL_law_741 (by decide) ?_
            refine lv_istore (lv' := [(7, .int (iI 1)), (20, .int (iI (T1 7 im))), (19, .int (iI (T 7 im))), (18, .int (iI 0)), (17, .int (iI 1)), (0, .ref b), (1, .ref (ad 0 0)), (2, .ref (ad 6 0)), (3, .ref (ad 6 1)), (4, .ref (ad 6 2)), (5, .int (iI (T 8 0))), (6, .int (iI (T 29 0))), (8, .int (iI tn)), (9, .int (iI (t : Int))), (10, .int (iI x)), (11, .int (iI y)), (12, .int (iI dd)), (13, .int (iI (im : Int))), (14, .int (iI (T 21 0))), (15, .int (iI (T 12 0))), (16, .int (iI (bk : Int)))]) hx hb dL_law_745 hl (by decide) rfl (fun ls hl => ?_)
            refine wa_goto (tgt := 1799) F dL_law_747 (by decide) ?_
            refine W.widen (k := 600 + 700 * t) (n := 5200 + 4200 * t) (by omega) (by omega) ?_
            exact hE ad X (T1) (G) _ _ ls (hg1.le (by omega)) hm1 hG1 ⟨fun z => by omega, fun z => by omega⟩ hxr hj hw hS (by rw [a8, a29]; exact lv_sub hl [5, 6, 7, 8, 9, 10, 11, 0, 12, 13] rfl)
          · skip
            have e16b : T1 16 (T1 7 im).toNat = 0 := by rw [e7]; exact e16
            refine lv_aload_n hx hb dL_law_565 rfl (lv_at hl 4 rfl) ?_
            refine wa_const F dL_law_566 ?_
            refine lv_iload hx hb dL_law_567 (lv_at hl 16 rfl) ?_
            refine wa_const F dL_law_569 ?_
            refine va_calli (wl_runS F hTB hN hS (c_L_tried0 l hlt D cy ad (T) X (G) o A hj hA hg hxr (im : Int) 0 ⟨by omega, by omega⟩ (by decide) (T1) ((T1 7 im)) (Or.inl k0) (fun _ => ⟨hT1.symm, by rw [Int.toNat_natCast, hT1]⟩) (fun z => absurd (k0.symm.trans z) (by decide))) qw_348 qw_349 qw_30 qw_350 ⟨by decide, by decide, rfl⟩ ⟨by decide, by decide⟩ ⟨rfl, rfl⟩ hw rfl rfl (Nat.le_of_ble_eq_true rfl) hl.1 dL_law_570 ⟨Nat.le_trans (show _ ≤ 300000 by omega) (Nat.le_of_ble_eq_true rfl), Nat.le_trans (show _ ≤ 2000000 by omega) (Nat.le_of_ble_eq_true rfl)⟩) hS (fun _ _ h => h) (fun _ h => h) (fun r u t9 H locs ht9 hvm9 hq9 hB9 hz9 hk9 hS => ?_)
            obtain ⟨ad, X⟩ := u
            obtain ⟨hr9, hxr, hj, he⟩ := hq9
            have hxr : xr (T1) X := hxr
            have hj : wa_wj A ad (wW cy ad T1 X G o) := hj
            have hw : wa_wd D ad (wW cy ad T1 X G o) H := by rw [← ht9]; exact hB9
            rw [hr9]
            dsimp only at he
            have hl : lv_has ls 21 [(19, .int (iI (T 7 im))), (18, .int (iI 0)), (17, .int (iI 1)), (0, .ref b), (1, .ref (ad 0 0)), (2, .ref (ad 6 0)), (3, .ref (ad 6 1)), (4, .ref (ad 6 2)), (5, .int (iI (T 8 0))), (6, .int (iI (T 29 0))), (7, .int (iI 1)), (8, .int (iI tn)), (9, .int (iI (t : Int))), (10, .int (iI x)), (11, .int (iI y)), (12, .int (iI dd)), (13, .int (iI (im : Int))), (14, .int (iI (T 21 0))), (15, .int (iI (T 12 0))), (16, .int (iI (bk : Int)))] := by rw [he.1 0, he.2.2.2.2.1 0, he.2.2.2.2.1 1, he.2.2.2.2.1 2]; exact hl
            refine lv_istore (lv' := [(20, .int (iI (T1 7 im))), (19, .int (iI (T 7 im))), (18, .int (iI 0)), (17, .int (iI 1)), (0, .ref b), (1, .ref (ad 0 0)), (2, .ref (ad 6 0)), (3, .ref (ad 6 1)), (4, .ref (ad 6 2)), (5, .int (iI (T 8 0))), (6, .int (iI (T 29 0))), (7, .int (iI 1)), (8, .int (iI tn)), (9, .int (iI (t : Int))), (10, .int (iI x)), (11, .int (iI y)), (12, .int (iI dd)), (13, .int (iI (im : Int))), (14, .int (iI (T 21 0))), (15, .int (iI (T 12 0))), (16, .int (iI (bk : Int)))]) hx hb dL_law_573 hl (by decide) rfl (fun ls hl => ?_)
            refine lv_iload hx hb dL_law_575 (lv_at hl 0 rfl) ?_
            refine wa_bi F dL_law_577 (by decide +kernel) ?_
            refine wa_ic_ne (tgt := 622) F dL_law_579 (by decide) (by have q0 := hg1.1.1 7 im; exact ⟨by omega, by omega⟩) (by decide) (fun c579 => ?_) (fun c579 => absurd c579 (by omega))
            refine lv_iload hx hb dL_law_622 (lv_at hl 3 rfl) ?_
            refine wa_if_eq (tgt := 714) F dL_law_624 (by decide) (by decide) (fun c624 => absurd c624 (by decide)) (fun c624 => ?_)
            refine lv_iload hx hb dL_law_627 (lv_at hl 0 rfl) ?_
            refine lv_aload_n hx hb dL_law_629 rfl (lv_at hl 5 rfl) ?_
            refine lv_iload hx hb dL_law_630 (lv_at hl 17 rfl) ?_
            refine ql_latest (i := (im : Int)) hlt F hTB hA hg1.1 hxr hj hw hS (show (0 : Int) ≤ (im : Int) ∧ (im : Int) < T1 8 0 by omega) ⟨by decide, by decide⟩ (Nat.le_of_ble_eq_true rfl) hl.1 dL_law_632 ⟨Nat.le_trans (show _ ≤ 300000 by omega) (Nat.le_of_ble_eq_true rfl), Nat.le_trans (show _ ≤ 2000000 by omega) (Nat.le_of_ble_eq_true rfl)⟩ (fun X H locs hxr hj hw hS => ?_)
            refine W.eq (g2 := F0 m 635 ls [.int (iI (T1 7 im)), .int (iI (T1 7 im))]) rfl ?_
            refine wa_ic_ne (tgt := 714) F dL_law_635 (by decide) (by have q0 := hg1.1.1 7 im; exact ⟨by omega, by omega⟩) (by have q0 := hg1.1.1 7 im; exact ⟨by omega, by omega⟩) (fun c635 => absurd c635 (by omega)) (fun c635 => ?_)
            refine lv_aload_n hx hb dL_law_638 rfl (lv_at hl 5 rfl) ?_
            refine ql_bakes F hg1.1 hxr hj hw ⟨by decide, by decide⟩ (Nat.le_of_ble_eq_true rfl) hl.1 dL_law_639 ⟨Nat.le_trans (show _ ≤ 300000 by omega) (Nat.le_of_ble_eq_true rfl), Nat.le_trans (show _ ≤ 2000000 by omega) (Nat.le_of_ble_eq_true rfl)⟩ ?_
            refine lv_iload hx hb dL_law_642 (lv_at hl 18 rfl) ?_
            refine wa_const F dL_law_644 ?_
            refine wa_add F dL_law_645 ?_
            refine wa_ic_gt (tgt := 714) F dL_law_646 (by decide) (by have q0 := hg1.1.1 21 0; exact ⟨by omega, by omega⟩) (by have q0 := hB 21 0; exact ⟨by omega, by omega⟩) (fun c646 => absurd c646 (by omega)) (fun c646 => ?_)
            refine lv_aload_n hx hb dL_law_649 rfl (lv_at hl 5 rfl) ?_
            refine ql_layers F hg1.1 hxr hj hw ⟨by decide, by decide⟩ (Nat.le_of_ble_eq_true rfl) hl.1 dL_law_650 ⟨Nat.le_trans (show _ ≤ 300000 by omega) (Nat.le_of_ble_eq_true rfl), Nat.le_trans (show _ ≤ 2000000 by omega) (Nat.le_of_ble_eq_true rfl)⟩ ?_
            refine lv_iload hx hb dL_law_653 (lv_at hl 19 rfl) ?_
            refine lv_aload_n hx hb dL_law_655 rfl (lv_at hl 7 rfl) ?_
            refine lv_iload hx hb dL_law_656 (lv_at hl 17 rfl) ?_
            refine wl_gld F hw 1 (by decide) im rfl (by omega) dL_law_658 ?_
            refine wa_add F dL_law_659 ?_
            refine wa_ic_gt (tgt := 714) F dL_law_660 (by decide) (by have q0 := hg1.1.1 12 0; exact ⟨by omega, by omega⟩) (by have q0 := hB 12 0; have q1 := hG.1 1 im; exact ⟨by omega, by omega⟩) (fun c660 => absurd c660 (by omega)) (fun c660 => ?_)
            refine lv_iload hx hb dL_law_663 (lv_at hl 0 rfl) ?_
            refine lv_iload hx hb dL_law_665 (lv_at hl 1 rfl) ?_
            refine wa_ic_ne (tgt := 691) F dL_law_667 (by decide) (by have q0 := hg1.1.1 7 im; exact ⟨by omega, by omega⟩) (by have q0 := hB 7 im; exact ⟨by omega, by omega⟩) (fun c667 => ?_) (fun c667 => absurd c667 (by omega))
            refine lv_iload hx hb dL_law_691 (lv_at hl 0 rfl) ?_
            refine lv_iload hx hb dL_law_693 (lv_at hl 18 rfl) ?_
            refine wa_ic_ne (tgt := 714) F dL_law_695 (by decide) (by have q0 := hg1.1.1 7 im; exact ⟨by omega, by omega⟩) (by have q0 := hB 21 0; exact ⟨by omega, by omega⟩) (fun c695 => absurd c695 (by omega)) (fun c695 => ?_)
            refine lv_aload_n hx hb dL_law_698 rfl (lv_at hl 5 rfl) ?_
            refine lv_iload hx hb dL_law_699 (lv_at hl 0 rfl) ?_
            refine ql_state (i := (T1 7 im)) hlt F hTB hA hg1.1 hxr hj hw hS (show 0 ≤ T1 7 im ∧ T1 7 im < T1 21 0 by omega) ⟨by decide, by decide⟩ (Nat.le_of_ble_eq_true rfl) hl.1 dL_law_701 ⟨Nat.le_trans (show _ ≤ 300000 by omega) (Nat.le_of_ble_eq_true rfl), Nat.le_trans (show _ ≤ 2000000 by omega) (Nat.le_of_ble_eq_true rfl)⟩ (fun X H locs hxr hj hw hS => ?_)
            refine W.eq (g2 := F0 m 704 ls [.int (iI (v_state T1 ((T1 7 im).toNat)))]) rfl ?_
            refine wa_bi F dL_law_704 (by decide +kernel) ?_
            refine wl_rem F (by have q0 := (vs_t hg1 ((T1 7 im).toNat)).1; omega) (by decide) dL_law_706 ?_
            refine wa_if_ne (tgt := 714) F dL_law_707 (by decide) (by have q0 := (vs_t hg1 ((T1 7 im).toNat)).1; exact ⟨by omega, by omega⟩) (fun c707 => absurd c707 (by omega)) (fun c707 => ?_)
            refine wa_const F dL_law_710 ?_
            refine wa_goto (tgt := 715) F dL_law_711 (by decide) ?_
            refine lv_istore (lv' := [(7, .int (iI 1)), (20, .int (iI (T1 7 im))), (19, .int (iI (T 7 im))), (18, .int (iI 0)), (17, .int (iI 1)), (0, .ref b), (1, .ref (ad 0 0)), (2, .ref (ad 6 0)), (3, .ref (ad 6 1)), (4, .ref (ad 6 2)), (5, .int (iI (T 8 0))), (6, .int (iI (T 29 0))), (8, .int (iI tn)), (9, .int (iI (t : Int))), (10, .int (iI x)), (11, .int (iI y)), (12, .int (iI dd)), (13, .int (iI (im : Int))), (14, .int (iI (T 21 0))), (15, .int (iI (T 12 0))), (16, .int (iI (bk : Int)))]) hx hb dL_law_715 hl (by decide) rfl (fun ls hl => ?_)
            refine lv_iload hx hb dL_law_717 (lv_at hl 0 rfl) ?_
            refine wa_if_eq (tgt := 744) F dL_law_719 (by decide) (by decide) (fun c719 => absurd c719 (by decide)) (fun c719 => ?_)
            refine lv_iload hx hb dL_law_722 (lv_at hl 1 rfl) ?_
            refine wa_bi F dL_law_724 (by decide +kernel) ?_
            refine wa_ic_eq (tgt := 740) F dL_law_726 (by decide) (by have q0 := hg1.1.1 7 im; exact ⟨by omega, by omega⟩) (by decide) (fun c726 => absurd c726 (by omega)) (fun c726 => ?_)
            refine lv_aload_n hx hb dL_law_729 rfl (lv_at hl 6 rfl) ?_
            refine lv_iload hx hb dL_law_730 (lv_at hl 17 rfl) ?_
            refine ql_isFresh (i := (im : Int)) hlt F hTB hA hg1.1 hxr hj hw hS (show (0 : Int) ≤ (im : Int) ∧ (im : Int) < T1 8 0 by omega) ⟨by decide, by decide⟩ (Nat.le_of_ble_eq_true rfl) hl.1 dL_law_732 ⟨Nat.le_trans (show _ ≤ 300000 by omega) (Nat.le_of_ble_eq_true rfl), Nat.le_trans (show _ ≤ 2000000 by omega) (Nat.le_of_ble_eq_true rfl)⟩ (fun X H locs hxr hj hw hS => ?_)
            rw [bI_f (fun z => (hfr.mp z).elim (fun q => absurd q (by omega)) b544)]
            refine lv_iload hx hb dL_law_735 (lv_at hl 3 rfl) ?_
            refine wa_ic_ne (tgt := 744) F dL_law_737 (by decide) (by decide) (by decide) (fun c737 => absurd c737 (by decide)) (fun c737 => ?_)
            refine wa_const F dL_law_740 ?_
            refine wa_goto (tgt := 745) F dL_law_741 (by decide) ?_
            refine lv_istore (lv' := [(7, .int (iI 1)), (20, .int (iI (T1 7 im))), (19, .int (iI (T 7 im))), (18, .int (iI 0)), (17, .int (iI 1)), (0, .ref b), (1, .ref (ad 0 0)), (2, .ref (ad 6 0)), (3, .ref (ad 6 1)), (4, .ref (ad 6 2)), (5, .int (iI (T 8 0))), (6, .int (iI (T 29 0))), (8, .int (iI tn)), (9, .int (iI (t : Int))), (10, .int (iI x)), (11, .int (iI y)), (12, .int (iI dd)), (13, .int (iI (im : Int))), (14, .int (iI (T 21 0))), (15, .int (iI (T 12 0))), (16, .int (iI (bk : Int)))]) hx hb dL_law_745 hl (by decide) rfl (fun ls hl => ?_)
            refine wa_goto (tgt := 1799) F dL_law_747 (by decide) ?_
            refine W.widen (k := 600 + 700 * t) (n := 5200 + 4200 * t) (by omega) (by omega) ?_
            exact hE ad X (T1) (G) _ _ ls (hg1.le (by omega)) hm1 hG1 ⟨fun z => by omega, fun z => by omega⟩ hxr hj hw hS (by rw [a8, a29]; exact lv_sub hl [5, 6, 7, 8, 9, 10, 11, 0, 12, 13] rfl)
set_option maxRecDepth 100000 in
set_option maxHeartbeats 4000000 in
theorem law_d_bakeAll (hF : law_F p l s m meth c D cy A b L xs) (hE : law_E p l e s m below meth c D cy A b Q o tn t) (ht : t < 280) (htn : -100000 ≤ tn ∧ tn ≤ 100000) (hg : gi (2 * t) T) (hm : mg T) (hG : LG T G) (h3 : ic t T) (hxr : xr T X) (hj : wa_wj A ad (wW cy ad T X G o)) (hw : wa_wd D ad (wW cy ad T X G o) H) (hS : va_S A s.heap H locs) (hy : 0 ≤ y ∧ y < 268435456) (ht3 : 3 ≤ t) (hl : lv_has ls 21 [(0, .ref b), (1, .ref (ad 0 0)), (2, .ref (ad 6 0)), (3, .ref (ad 6 1)), (4, .ref (ad 6 2)), (5, .int (iI (T 8 0))), (6, .int (iI (T 29 0))), (7, .int (iI 1)), (8, .int (iI tn)), (9, .int (iI (t : Int))), (10, .int (iI x)), (11, .int (iI y)), (12, .int (iI dd)), (13, .int (iI (im : Int))), (14, .int (iI (T 21 0))), (15, .int (iI (T 12 0))), (16, .int (iI (bk : Int)))]) : W p l e room_1 s m #[Value.ref b] below meth c H locs (400 + 700 * t) (4000 + 4200 * t) (Q) (F0 m 756 ls []) := by
  obtain ⟨F, hTB, hN, hA, hlt, hX, hbl, hbA, hL⟩ := id hF
  obtain ⟨hx, hb, hml, hown, hts⟩ := id F.1
  obtain ⟨hB, w8, w21, w12, w29, w4, w7, w6, w5, w13, w25, w26, w28, w14, w3, wf17⟩ := id hg.1
  have h3a := h3.1
  have h3b := h3.2
  rcases (w_all hg hxr hm).symm with ⟨k0, hg1, hm1, ⟨a8, a12, a21, a29⟩, hG1⟩ | ⟨k0, hwA⟩
  · skip
    have hG1 := hG1 G hG
    generalize hT1 : s_all T = T1 at *
    refine lv_aload_n hx hb dL_law_756 rfl (lv_at hl 1 rfl) ?_
    refine wa_const F dL_law_757 ?_
    refine wa_const F dL_law_758 ?_
    refine wa_const F dL_law_759 ?_
    refine va_calli (wl_runS F hTB hN hS (c_L_tried4 l hlt D cy ad (T) X (G) o A hj hA hg hxr 0 0 (by decide) (by decide) (T1) ((-3)) (Or.inr k0) (fun z => absurd (k0.symm.trans z) (by decide)) (fun _ => ⟨hT1.symm, rfl⟩)) qw_348 qw_349 qw_30 qw_350 ⟨by decide, by decide, rfl⟩ ⟨by decide, by decide⟩ ⟨rfl, rfl⟩ hw rfl rfl (Nat.le_of_ble_eq_true rfl) hl.1 dL_law_760 ⟨Nat.le_trans (show _ ≤ 300000 by omega) (Nat.le_of_ble_eq_true rfl), Nat.le_trans (show _ ≤ 2000000 by omega) (Nat.le_of_ble_eq_true rfl)⟩) hS (fun _ _ h => h) (fun _ h => h) (fun r u t9 H locs ht9 hvm9 hq9 hB9 hz9 hk9 hS => ?_)
    obtain ⟨ad, X⟩ := u
    obtain ⟨hr9, hxr, hj, he⟩ := hq9
    have hxr : xr (T1) X := hxr
    have hj : wa_wj A ad (wW cy ad T1 X G o) := hj
    have hw : wa_wd D ad (wW cy ad T1 X G o) H := by rw [← ht9]; exact hB9
    rw [hr9]
    dsimp only at he
    have hl : lv_has ls 21 [(0, .ref b), (1, .ref (ad 0 0)), (2, .ref (ad 6 0)), (3, .ref (ad 6 1)), (4, .ref (ad 6 2)), (5, .int (iI (T 8 0))), (6, .int (iI (T 29 0))), (7, .int (iI 1)), (8, .int (iI tn)), (9, .int (iI (t : Int))), (10, .int (iI x)), (11, .int (iI y)), (12, .int (iI dd)), (13, .int (iI (im : Int))), (14, .int (iI (T 21 0))), (15, .int (iI (T 12 0))), (16, .int (iI (bk : Int)))] := by rw [he.1 0, he.2.2.2.2.1 0, he.2.2.2.2.1 1, he.2.2.2.2.1 2]; exact hl
    refine lv_istore (lv' := [(17, .int (iI (-3))), (0, .ref b), (1, .ref (ad 0 0)), (2, .ref (ad 6 0)), (3, .ref (ad 6 1)), (4, .ref (ad 6 2)), (5, .int (iI (T 8 0))), (6, .int (iI (T 29 0))), (7, .int (iI 1)), (8, .int (iI tn)), (9, .int (iI (t : Int))), (10, .int (iI x)), (11, .int (iI y)), (12, .int (iI dd)), (13, .int (iI (im : Int))), (14, .int (iI (T 21 0))), (15, .int (iI (T 12 0))), (16, .int (iI (bk : Int)))]) hx hb dL_law_763 hl (by decide) rfl (fun ls hl => ?_)
    refine lv_iload hx hb dL_law_765 (lv_at hl 0 rfl) ?_
    refine wa_bi F dL_law_767 (by decide +kernel) ?_
    refine wa_ic_ne (tgt := 798) F dL_law_769 (by decide) (by decide) (by decide) (fun c769 => absurd c769 (by decide)) (fun c769 => ?_)
    refine lv_aload_n hx hb dL_law_772 rfl (lv_at hl 2 rfl) ?_
    refine ql_bakes F hg1.1 hxr hj hw ⟨by decide, by decide⟩ (Nat.le_of_ble_eq_true rfl) hl.1 dL_law_773 ⟨Nat.le_trans (show _ ≤ 300000 by omega) (Nat.le_of_ble_eq_true rfl), Nat.le_trans (show _ ≤ 2000000 by omega) (Nat.le_of_ble_eq_true rfl)⟩ ?_
    refine lv_iload hx hb dL_law_776 (lv_at hl 15 rfl) ?_
    refine wa_ic_ne (tgt := 794) F dL_law_778 (by decide) (by have q0 := hg1.1.1 21 0; exact ⟨by omega, by omega⟩) (by have q0 := hB 21 0; exact ⟨by omega, by omega⟩) (fun c778 => absurd c778 (by omega)) (fun c778 => ?_)
    refine lv_aload_n hx hb dL_law_781 rfl (lv_at hl 2 rfl) ?_
    refine ql_layers F hg1.1 hxr hj hw ⟨by decide, by decide⟩ (Nat.le_of_ble_eq_true rfl) hl.1 dL_law_782 ⟨Nat.le_trans (show _ ≤ 300000 by omega) (Nat.le_of_ble_eq_true rfl), Nat.le_trans (show _ ≤ 2000000 by omega) (Nat.le_of_ble_eq_true rfl)⟩ ?_
    refine lv_iload hx hb dL_law_785 (lv_at hl 16 rfl) ?_
    refine wa_ic_ne (tgt := 794) F dL_law_787 (by decide) (by have q0 := hg1.1.1 12 0; exact ⟨by omega, by omega⟩) (by have q0 := hB 12 0; exact ⟨by omega, by omega⟩) (fun c787 => absurd c787 (by omega)) (fun c787 => ?_)
    refine wa_const F dL_law_790 ?_
    refine wa_goto (tgt := 825) F dL_law_791 (by decide) ?_
    refine lv_istore (lv' := [(7, .int (iI 1)), (17, .int (iI (-3))), (0, .ref b), (1, .ref (ad 0 0)), (2, .ref (ad 6 0)), (3, .ref (ad 6 1)), (4, .ref (ad 6 2)), (5, .int (iI (T 8 0))), (6, .int (iI (T 29 0))), (8, .int (iI tn)), (9, .int (iI (t : Int))), (10, .int (iI x)), (11, .int (iI y)), (12, .int (iI dd)), (13, .int (iI (im : Int))), (14, .int (iI (T 21 0))), (15, .int (iI (T 12 0))), (16, .int (iI (bk : Int)))]) hx hb dL_law_825 hl (by decide) rfl (fun ls hl => ?_)
    refine wa_const F dL_law_827 ?_
    refine lv_istore (lv' := [(18, .int (iI 0)), (7, .int (iI 1)), (17, .int (iI (-3))), (0, .ref b), (1, .ref (ad 0 0)), (2, .ref (ad 6 0)), (3, .ref (ad 6 1)), (4, .ref (ad 6 2)), (5, .int (iI (T 8 0))), (6, .int (iI (T 29 0))), (8, .int (iI tn)), (9, .int (iI (t : Int))), (10, .int (iI x)), (11, .int (iI y)), (12, .int (iI dd)), (13, .int (iI (im : Int))), (14, .int (iI (T 21 0))), (15, .int (iI (T 12 0))), (16, .int (iI (bk : Int)))]) hx hb dL_law_828 hl (by decide) rfl (fun ls hl => ?_)
    refine lv_iload hx hb dL_law_830 (lv_at hl 0 rfl) ?_
    refine lv_iload hx hb dL_law_832 (lv_at hl 8 rfl) ?_
    refine wa_ic_ge (tgt := 869) F dL_law_834 (by decide) (by decide) (by have q0 := hB 8 0; exact ⟨by omega, by omega⟩) (fun c834 => absurd c834 (by omega)) (fun c834 => ?_)
    refine lv_iload hx hb dL_law_837 (lv_at hl 2 rfl) ?_
    refine wa_if_lt (tgt := 869) F dL_law_839 (by decide) (by decide) (fun c839 => ?_) (fun c839 => absurd c839 (by decide))
    refine wa_goto (tgt := 1799) F dL_law_869 (by decide) ?_
    refine W.widen (k := 600 + 700 * t) (n := 5200 + 4200 * t) (by omega) (by omega) ?_
    exact hE ad X (T1) (G) _ _ ls (hg1.le (by omega)) hm1 hG1 ⟨fun z => by omega, fun z => by omega⟩ hxr hj hw hS (by rw [a8, a29]; exact lv_sub hl [3, 4, 5, 6, 7, 8, 9, 1, 10, 11] rfl)
  · skip
    generalize hT1 : s_all T = T1 at *
    generalize hv9 : v_all T = v9 at *
    obtain ⟨hg1, hm1, ⟨a8, a29⟩, ⟨v0, a21⟩, hgd, hG1⟩ := hwA
    have hG1 := hG1 G hG
    have hv60 := hg1.1.2.2.1
    refine lv_aload_n hx hb dL_law_756 rfl (lv_at hl 1 rfl) ?_
    refine wa_const F dL_law_757 ?_
    refine wa_const F dL_law_758 ?_
    refine wa_const F dL_law_759 ?_
    refine va_calli (wl_runS F hTB hN hS (c_L_tried4 l hlt D cy ad (T) X (G) o A hj hA hg hxr 0 0 (by decide) (by decide) (T1) (v9) (Or.inl k0) (fun _ => ⟨hT1.symm, hv9.symm⟩) (fun z => absurd (k0.symm.trans z) (by decide))) qw_348 qw_349 qw_30 qw_350 ⟨by decide, by decide, rfl⟩ ⟨by decide, by decide⟩ ⟨rfl, rfl⟩ hw rfl rfl (Nat.le_of_ble_eq_true rfl) hl.1 dL_law_760 ⟨Nat.le_trans (show _ ≤ 300000 by omega) (Nat.le_of_ble_eq_true rfl), Nat.le_trans (show _ ≤ 2000000 by omega) (Nat.le_of_ble_eq_true rfl)⟩) hS (fun _ _ h => h) (fun _ h => h) (fun r u t9 H locs ht9 hvm9 hq9 hB9 hz9 hk9 hS => ?_)
    obtain ⟨ad, X⟩ := u
    obtain ⟨hr9, hxr, hj, he⟩ := hq9
    have hxr : xr (T1) X := hxr
    have hj : wa_wj A ad (wW cy ad T1 X G o) := hj
    have hw : wa_wd D ad (wW cy ad T1 X G o) H := by rw [← ht9]; exact hB9
    rw [hr9]
    dsimp only at he
    have hl : lv_has ls 21 [(0, .ref b), (1, .ref (ad 0 0)), (2, .ref (ad 6 0)), (3, .ref (ad 6 1)), (4, .ref (ad 6 2)), (5, .int (iI (T 8 0))), (6, .int (iI (T 29 0))), (7, .int (iI 1)), (8, .int (iI tn)), (9, .int (iI (t : Int))), (10, .int (iI x)), (11, .int (iI y)), (12, .int (iI dd)), (13, .int (iI (im : Int))), (14, .int (iI (T 21 0))), (15, .int (iI (T 12 0))), (16, .int (iI (bk : Int)))] := by rw [he.1 0, he.2.2.2.2.1 0, he.2.2.2.2.1 1, he.2.2.2.2.1 2]; exact hl
    refine lv_istore (lv' := [(17, .int (iI v9)), (0, .ref b), (1, .ref (ad 0 0)), (2, .ref (ad 6 0)), (3, .ref (ad 6 1)), (4, .ref (ad 6 2)), (5, .int (iI (T 8 0))), (6, .int (iI (T 29 0))), (7, .int (iI 1)), (8, .int (iI tn)), (9, .int (iI (t : Int))), (10, .int (iI x)), (11, .int (iI y)), (12, .int (iI dd)), (13, .int (iI (im : Int))), (14, .int (iI (T 21 0))), (15, .int (iI (T 12 0))), (16, .int (iI (bk : Int)))]) hx hb dL_law_763 hl (by decide) rfl (fun ls hl => ?_)
    refine lv_iload hx hb dL_law_765 (lv_at hl 0 rfl) ?_
    refine wa_bi F dL_law_767 (by decide +kernel) ?_
    refine wa_ic_ne (tgt := 798) F dL_law_769 (by decide) (by have q0 := (show wa_r v9 from ⟨by omega, by omega⟩); exact ⟨by omega, by omega⟩) (by decide) (fun c769 => ?_) (fun c769 => absurd c769 (by omega))
    refine lv_aload_n hx hb dL_law_798 rfl (lv_at hl 2 rfl) ?_
    refine ql_bakes F hg1.1 hxr hj hw ⟨by decide, by decide⟩ (Nat.le_of_ble_eq_true rfl) hl.1 dL_law_799 ⟨Nat.le_trans (show _ ≤ 300000 by omega) (Nat.le_of_ble_eq_true rfl), Nat.le_trans (show _ ≤ 2000000 by omega) (Nat.le_of_ble_eq_true rfl)⟩ ?_
    refine lv_iload hx hb dL_law_802 (lv_at hl 15 rfl) ?_
    refine lv_iload hx hb dL_law_804 (lv_at hl 0 rfl) ?_
    refine wa_add F dL_law_806 ?_
    refine wa_ic_ne (tgt := 824) F dL_law_807 (by decide) (by have q0 := hg1.1.1 21 0; exact ⟨by omega, by omega⟩) (by have q0 := hB 21 0; have q1 := (show wa_r v9 from ⟨by omega, by omega⟩); exact ⟨by omega, by omega⟩) (fun c807 => absurd c807 (by omega)) (fun c807 => ?_)
    obtain ⟨k2, v2⟩ := w_all2 hg1 hxr (fun i hi => hgd i (by omega))
    rcases w_all hg1 hxr hm1 with ⟨k3, hwB⟩ | ⟨k3, -⟩
    rotate_left
    · exact absurd (k2.symm.trans k3) (by decide)
    have hfr2 : ∀ i : Nat, (i : Int) < s_all T1 8 0 → x_frs (s_all T1) 10 (i : Int) = true := fun i hi => hwB.fresh hi
    generalize hT2 : s_all T1 = T2 at *
    obtain ⟨hg2, hm2, ⟨b8, b29⟩, ⟨-, b21⟩, -, hG2⟩ := hwB
    have hG2 := hG2 G hG1
    have f8 : T2 8 0 = T 8 0 := by omega
    have f29 : T2 29 0 = T 29 0 := by omega
    refine lv_aload_n hx hb dL_law_810 rfl (lv_at hl 2 rfl) ?_
    refine wa_const F dL_law_811 ?_
    refine wa_const F dL_law_812 ?_
    refine wa_const F dL_law_813 ?_
    refine va_calli (wl_runS F hTB hN hS (c_L_tried4 l hlt D cy ad (T1) X (G) o A hj hA hg1 hxr 0 0 (by decide) (by decide) (T2) (0) (Or.inl k2) (fun _ => ⟨hT2.symm, v2.symm⟩) (fun z => absurd (k2.symm.trans z) (by decide))) qw_348 qw_349 qw_30 qw_350 ⟨by decide, by decide, rfl⟩ ⟨by decide, by decide⟩ ⟨rfl, rfl⟩ hw rfl rfl (Nat.le_of_ble_eq_true rfl) hl.1 dL_law_814 ⟨Nat.le_trans (show _ ≤ 300000 by omega) (Nat.le_of_ble_eq_true rfl), Nat.le_trans (show _ ≤ 2000000 by omega) (Nat.le_of_ble_eq_true rfl)⟩) hS (fun _ _ h => h) (fun _ h => h) (fun r u t9 H locs ht9 hvm9 hq9 hB9 hz9 hk9 hS => ?_)
    obtain ⟨ad, X⟩ := u
    obtain ⟨hr9, hxr, hj, he⟩ := hq9
    have hxr : xr (T2) X := hxr
    have hj : wa_wj A ad (wW cy ad T2 X G o) := hj
    have hw : wa_wd D ad (wW cy ad T2 X G o) H := by rw [← ht9]; exact hB9
    rw [hr9]
    dsimp only at he
    have hl : lv_has ls 21 [(17, .int (iI v9)), (0, .ref b), (1, .ref (ad 0 0)), (2, .ref (ad 6 0)), (3, .ref (ad 6 1)), (4, .ref (ad 6 2)), (5, .int (iI (T 8 0))), (6, .int (iI (T 29 0))), (7, .int (iI 1)), (8, .int (iI tn)), (9, .int (iI (t : Int))), (10, .int (iI x)), (11, .int (iI y)), (12, .int (iI dd)), (13, .int (iI (im : Int))), (14, .int (iI (T 21 0))), (15, .int (iI (T 12 0))), (16, .int (iI (bk : Int)))] := by rw [he.1 0, he.2.2.2.2.1 0, he.2.2.2.2.1 1, he.2.2.2.2.1 2]; exact hl
    refine wa_if_ne (tgt := 824) F dL_law_817 (by decide) (by decide) (fun c817 => absurd c817 (by decide)) (fun c817 => ?_)
    refine wa_const F dL_law_820 ?_
    refine wa_goto (tgt := 825) F dL_law_821 (by decide) ?_
    refine lv_istore (lv' := [(7, .int (iI 1)), (17, .int (iI v9)), (0, .ref b), (1, .ref (ad 0 0)), (2, .ref (ad 6 0)), (3, .ref (ad 6 1)), (4, .ref (ad 6 2)), (5, .int (iI (T 8 0))), (6, .int (iI (T 29 0))), (8, .int (iI tn)), (9, .int (iI (t : Int))), (10, .int (iI x)), (11, .int (iI y)), (12, .int (iI dd)), (13, .int (iI (im : Int))), (14, .int (iI (T 21 0))), (15, .int (iI (T 12 0))), (16, .int (iI (bk : Int)))]) hx hb dL_law_825 hl (by decide) rfl (fun ls hl => ?_)
    refine wa_const F dL_law_827 ?_
    refine lv_istore (lv' := [(18, .int (iI 0)), (7, .int (iI 1)), (17, .int (iI v9)), (0, .ref b), (1, .ref (ad 0 0)), (2, .ref (ad 6 0)), (3, .ref (ad 6 1)), (4, .ref (ad 6 2)), (5, .int (iI (T 8 0))), (6, .int (iI (T 29 0))), (8, .int (iI tn)), (9, .int (iI (t : Int))), (10, .int (iI x)), (11, .int (iI y)), (12, .int (iI dd)), (13, .int (iI (im : Int))), (14, .int (iI (T 21 0))), (15, .int (iI (T 12 0))), (16, .int (iI (bk : Int)))]) hx hb dL_law_828 hl (by decide) rfl (fun ls hl => ?_)
    have loop830 : ∀ (k : Nat) (ix : Nat) (X : wa_St) (H : Heap) (locs : List Loc), (ix + k = (T 8 0).toNat) → xr T2 X → wa_wj A ad (wW cy ad T2 X G o) → wa_wd D ad (wW cy ad T2 X G o) H → va_S A s.heap H locs → ∀ ls : Array Slot, lv_has ls 21 [(0, .ref b), (1, .ref (ad 0 0)), (2, .ref (ad 6 0)), (3, .ref (ad 6 1)), (4, .ref (ad 6 2)), (5, .int (iI (T 8 0))), (6, .int (iI (T 29 0))), (7, .int (iI 1)), (8, .int (iI tn)), (9, .int (iI (t : Int))), (17, .int (iI v9)), (18, .int (iI (ix : Int)))] → W p l e room_1 s m #[Value.ref b] below meth c H locs (440 + 700 * t + ix) (4240 + 4200 * t + 6 * ix) (Q) (F0 m 830 ls []) := by
      intro k
      induction k with
      | zero =>
        intro ix X H locs hk hxr hj hw hS ls hl
        refine lv_iload hx hb dL_law_830 (lv_at hl 11 rfl) ?_
        refine lv_iload hx hb dL_law_832 (lv_at hl 5 rfl) ?_
        refine wa_ic_ge (tgt := 869) F dL_law_834 (by decide) (by exact ⟨by omega, by omega⟩) (by have q0 := hB 8 0; exact ⟨by omega, by omega⟩) (fun c834 => ?_) (fun c834 => absurd c834 (by omega))
        refine wa_goto (tgt := 1799) F dL_law_869 (by decide) ?_
        refine W.widen (k := 600 + 700 * t) (n := 5200 + 4200 * t) (by omega) (by omega) ?_
        exact hE ad X (T2) (G) _ _ ls (hg2.le (by omega)) hm2 hG2 ⟨fun z => by omega, fun z => by omega⟩ hxr hj hw hS (by rw [f8, f29]; exact lv_sub hl [0, 1, 2, 3, 4, 5, 6, 7, 8, 9] rfl)
      | succ k ih830 =>
        intro ix X H locs hk hxr hj hw hS ls hl
        refine lv_iload hx hb dL_law_830 (lv_at hl 11 rfl) ?_
        refine lv_iload hx hb dL_law_832 (lv_at hl 5 rfl) ?_
        refine wa_ic_ge (tgt := 869) F dL_law_834 (by decide) (by exact ⟨by omega, by omega⟩) (by have q0 := hB 8 0; exact ⟨by omega, by omega⟩) (fun c834 => absurd c834 (by omega)) (fun c834 => ?_)
        refine lv_iload hx hb dL_law_837 (lv_at hl 10 rfl) ?_
        refine wa_if_lt (tgt := 869) F dL_law_839 (by decide) (by have q0 := (show wa_r v9 from ⟨by omega, by omega⟩); exact ⟨by omega, by omega⟩) (fun c839 => absurd c839 (by omega)) (fun c839 => ?_)
        refine lv_iload hx hb dL_law_842 (lv_at hl 7 rfl) ?_
        refine wa_if_eq (tgt := 860) F dL_law_844 (by decide) (by decide) (fun c844 => absurd c844 (by decide)) (fun c844 => ?_)
        refine lv_aload_n hx hb dL_law_847 rfl (lv_at hl 1 rfl) ?_
        refine lv_iload hx hb dL_law_848 (lv_at hl 11 rfl) ?_
        refine ql_isFresh (i := (ix : Int)) hlt F hTB hA hg2.1 hxr hj hw hS (show (0 : Int) ≤ (ix : Int) ∧ (ix : Int) < T2 8 0 by omega) ⟨by decide, by decide⟩ (Nat.le_of_ble_eq_true rfl) hl.1 dL_law_850 ⟨Nat.le_trans (show _ ≤ 300000 by omega) (Nat.le_of_ble_eq_true rfl), Nat.le_trans (show _ ≤ 2000000 by omega) (Nat.le_of_ble_eq_true rfl)⟩ (fun X H locs hxr hj hw hS => ?_)
        rw [bI_t (hfr2 ix (by omega))]
        refine wa_if_eq (tgt := 860) F dL_law_853 (by decide) (by decide) (fun c853 => absurd c853 (by decide)) (fun c853 => ?_)
        refine wa_const F dL_law_856 ?_
        refine wa_goto (tgt := 861) F dL_law_857 (by decide) ?_
        refine lv_istore (lv' := [(7, .int (iI 1)), (0, .ref b), (1, .ref (ad 0 0)), (2, .ref (ad 6 0)), (3, .ref (ad 6 1)), (4, .ref (ad 6 2)), (5, .int (iI (T 8 0))), (6, .int (iI (T 29 0))), (8, .int (iI tn)), (9, .int (iI (t : Int))), (17, .int (iI v9)), (18, .int (iI (ix : Int)))]) hx hb dL_law_861 hl (by decide) rfl (fun ls hl => ?_)
        refine wa_inc (k := 11) (b := ((ix + 1) : Int)) (lv' := [(18, .int (iI ((ix + 1) : Int))), (7, .int (iI 1)), (0, .ref b), (1, .ref (ad 0 0)), (2, .ref (ad 6 0)), (3, .ref (ad 6 1)), (4, .ref (ad 6 2)), (5, .int (iI (T 8 0))), (6, .int (iI (T 29 0))), (8, .int (iI tn)), (9, .int (iI (t : Int))), (17, .int (iI v9))]) F dL_law_863 hl rfl (by omega) (by decide) rfl (fun ls hl => ?_)
        refine wa_goto (tgt := 830) F dL_law_866 (by decide) ?_
        refine W.widen (k := 440 + 700 * t + (ix + 1)) (n := 4240 + 4200 * t + 6 * (ix + 1)) (by omega) (by omega) ?_
        exact ih830 (ix + 1) X _ _ (by omega) hxr hj hw hS ls (lv_sub hl [2, 3, 4, 5, 6, 7, 8, 1, 9, 10, 11, 0] rfl)
    refine W.widen (k := 440 + 700 * t + (0)) (n := 4240 + 4200 * t + 6 * (0)) (by omega) (by omega) ?_
    exact loop830 ((T 8 0).toNat) 0 X _ _ (by omega) hxr hj hw hS ls (lv_sub hl [3, 4, 5, 6, 7, 8, 9, 1, 10, 11, 2, 0] rfl)
end WLD
