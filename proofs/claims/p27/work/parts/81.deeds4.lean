/-! the law: its deeds on machines and days (laid by program) -/
section WLD
variable {p : Program} {l : Launch} {e : Env} {s : State} {m : MethodId} {below : List Frame} {meth : Method} {c : Code} {Q : State → Prop}
variable {D : va_G} {A : Nat → Prop} {cy : Nat → ClassId} {b L : Nat} {xs : Nat → Int32} {o : Int64} {tn : Int} {t : Nat} {ad : Nat → Nat → Nat} {T X G : wa_St} {H : Heap} {locs : List Loc} {ls : Array Slot} {x y dd : Int} {im bk : Nat}
set_option maxRecDepth 100000 in
set_option maxHeartbeats 4000000 in
theorem law_d_start (hF : law_F p l s m meth c D cy A b L xs) (hE : law_E p l e s m below meth c D cy A b Q o tn t) (ht : t < 280) (htn : -100000 ≤ tn ∧ tn ≤ 100000) (hg : gi (2 * t) T) (hm : mg T) (hG : LG T G) (h3 : ic t T) (hxr : xr T X) (hj : wa_wj A ad (wW cy ad T X G o)) (hw : wa_wd D ad (wW cy ad T X G o) H) (hS : va_S A s.heap H locs) (hy : 0 ≤ y ∧ y < 268435456) (ht3 : 3 ≤ t) (him : (im : Int) < T 8 0) (hl : lv_has ls 21 [(0, .ref b), (1, .ref (ad 0 0)), (2, .ref (ad 6 0)), (3, .ref (ad 6 1)), (4, .ref (ad 6 2)), (5, .int (iI (T 8 0))), (6, .int (iI (T 29 0))), (7, .int (iI 1)), (8, .int (iI tn)), (9, .int (iI (t : Int))), (10, .int (iI x)), (11, .int (iI y)), (12, .int (iI dd)), (13, .int (iI (im : Int))), (14, .int (iI (T 21 0))), (15, .int (iI (T 12 0))), (16, .int (iI (bk : Int)))]) : W p l e room_1 s m #[Value.ref b] below meth c H locs (400 + 700 * t) (4000 + 4200 * t) (Q) (F0 m 1380 ls []) := by
  obtain ⟨F, hTB, hN, hA, hlt, hX, hbl, hbA, hL⟩ := id hF
  obtain ⟨hx, hb, hml, hown, hts⟩ := id F.1
  obtain ⟨hB, w8, w21, w12, w29, w4, w7, w6, w5, w13, w25, w26, w28, w14, w3, wf17⟩ := id hg.1
  have h3a := h3.1
  have h3b := h3.2
  have hq9 : 0 ≤ y / 32 % 3 ∧ y / 32 % 3 ≤ 2 := by omega
  have hr9r : 0 ≤ y / 512 % 3 ∧ y / 512 % 3 ≤ 2 := by omega
  refine lv_iload hx hb dL_law_1380 (lv_at hl 11 rfl) ?_
  refine wa_bi F dL_law_1382 (by decide +kernel) ?_
  refine wl_shr 8 256 F (by have q0 := (show wa_r y from ⟨by omega, by omega⟩); exact ⟨by omega, by omega⟩) (by decide +kernel) rfl dL_law_1384 ?_
  refine wa_const F dL_law_1385 ?_
  refine wl_and 1 2 F (by decide) (by decide +kernel) rfl (by decide) dL_law_1386 ?_
  refine wa_if_ne (tgt := 1394) F dL_law_1387 (by decide) (by have q0 := (show wa_r y from ⟨by omega, by omega⟩); exact ⟨by omega, by omega⟩) (fun c1387 => ?_) (fun c1387 => ?_)
  · skip
    refine lv_iload hx hb dL_law_1394 (lv_at hl 11 rfl) ?_
    refine wa_bi F dL_law_1396 (by decide +kernel) ?_
    refine wl_shr 9 512 F (by have q0 := (show wa_r y from ⟨by omega, by omega⟩); exact ⟨by omega, by omega⟩) (by decide +kernel) rfl dL_law_1398 ?_
    refine wa_const F dL_law_1399 ?_
    refine wl_rem F (by have q0 := (show wa_r y from ⟨by omega, by omega⟩); omega) (by decide) dL_law_1400 ?_
    refine lv_istore (lv' := [(17, .int (iI ((y / 512) % 3))), (0, .ref b), (1, .ref (ad 0 0)), (2, .ref (ad 6 0)), (3, .ref (ad 6 1)), (4, .ref (ad 6 2)), (5, .int (iI (T 8 0))), (6, .int (iI (T 29 0))), (7, .int (iI 1)), (8, .int (iI tn)), (9, .int (iI (t : Int))), (10, .int (iI x)), (11, .int (iI y)), (12, .int (iI dd)), (13, .int (iI (im : Int))), (14, .int (iI (T 21 0))), (15, .int (iI (T 12 0))), (16, .int (iI (bk : Int)))]) hx hb dL_law_1401 hl (by decide) rfl (fun ls hl => ?_)
    rcases w_start hg hm him hq9 (r := ((y / 512) % 3)) hr9r with k0 | ⟨k0, c30, hg1, hm1, ⟨a8, a12, a21, a29⟩, ⟨b9, hb9, e28, v10, vr⟩, hG1⟩
    · skip
      have hg1 := hg.th (k := 3) (by decide)
      have hm1 := hm.th 3
      have hG1 := hG.th 3
      have a8 : wa_s T 0 0 3 8 0 = T 8 0 := rfl
      have a12 : wa_s T 0 0 3 12 0 = T 12 0 := rfl
      have a21 : wa_s T 0 0 3 21 0 = T 21 0 := rfl
      have a29 : wa_s T 0 0 3 29 0 = T 29 0 := rfl
      generalize hT1 : wa_s T 0 0 3 = T1 at *
      refine lv_aload_n hx hb dL_law_1403 rfl (lv_at hl 2 rfl) ?_
      refine lv_iload hx hb dL_law_1404 (lv_at hl 14 rfl) ?_
      refine lv_iload hx hb dL_law_1406 (lv_at hl 12 rfl) ?_
      refine wa_const F dL_law_1408 ?_
      refine wl_shr 5 32 F (by have q0 := (show wa_r y from ⟨by omega, by omega⟩); exact ⟨by omega, by omega⟩) (by decide +kernel) rfl dL_law_1409 ?_
      refine wa_const F dL_law_1410 ?_
      refine wl_rem F (by have q0 := (show wa_r y from ⟨by omega, by omega⟩); omega) (by decide) dL_law_1411 ?_
      refine lv_iload hx hb dL_law_1412 (lv_at hl 0 rfl) ?_
      refine va_calli (wl_runS F hTB hN hS (c_L_started l hlt D cy ad (T) X (G) o A hj hA hg hxr (im : Int) (y / 32 % 3) (((y / 512) % 3)) ⟨by omega, by omega⟩ ⟨by omega, by omega⟩ ⟨by omega, by omega⟩ (T1) ((-3)) (Or.inr k0) (fun z => absurd (k0.symm.trans z) (by decide)) (fun _ => ⟨hT1.symm, rfl⟩)) qw_476 qw_477 qw_30 qw_478 ⟨by decide, by decide, rfl⟩ ⟨by decide, by decide⟩ ⟨rfl, rfl⟩ hw rfl rfl (Nat.le_of_ble_eq_true rfl) hl.1 dL_law_1414 ⟨Nat.le_trans (show _ ≤ 300000 by omega) (Nat.le_of_ble_eq_true rfl), Nat.le_trans (show _ ≤ 2000000 by omega) (Nat.le_of_ble_eq_true rfl)⟩) hS (fun _ _ h => h) (fun _ h => h) (fun r u t9 H locs ht9 hvm9 hq9 hB9 hz9 hk9 hS => ?_)
      obtain ⟨ad, X⟩ := u
      obtain ⟨hr9, hxr, hj, he⟩ := hq9
      have hxr : xr (T1) X := hxr
      have hj : wa_wj A ad (wW cy ad T1 X G o) := hj
      have hw : wa_wd D ad (wW cy ad T1 X G o) H := by rw [← ht9]; exact hB9
      rw [hr9]
      dsimp only at he
      have hl : lv_has ls 21 [(17, .int (iI ((y / 512) % 3))), (0, .ref b), (1, .ref (ad 0 0)), (2, .ref (ad 6 0)), (3, .ref (ad 6 1)), (4, .ref (ad 6 2)), (5, .int (iI (T 8 0))), (6, .int (iI (T 29 0))), (7, .int (iI 1)), (8, .int (iI tn)), (9, .int (iI (t : Int))), (10, .int (iI x)), (11, .int (iI y)), (12, .int (iI dd)), (13, .int (iI (im : Int))), (14, .int (iI (T 21 0))), (15, .int (iI (T 12 0))), (16, .int (iI (bk : Int)))] := by rw [he.1 0, he.2.2.2.2.1 0, he.2.2.2.2.1 1, he.2.2.2.2.1 2]; exact hl
      refine lv_istore (lv' := [(18, .int (iI (-3))), (17, .int (iI ((y / 512) % 3))), (0, .ref b), (1, .ref (ad 0 0)), (2, .ref (ad 6 0)), (3, .ref (ad 6 1)), (4, .ref (ad 6 2)), (5, .int (iI (T 8 0))), (6, .int (iI (T 29 0))), (7, .int (iI 1)), (8, .int (iI tn)), (9, .int (iI (t : Int))), (10, .int (iI x)), (11, .int (iI y)), (12, .int (iI dd)), (13, .int (iI (im : Int))), (14, .int (iI (T 21 0))), (15, .int (iI (T 12 0))), (16, .int (iI (bk : Int)))]) hx hb dL_law_1417 hl (by decide) rfl (fun ls hl => ?_)
      refine lv_iload hx hb dL_law_1419 (lv_at hl 0 rfl) ?_
      refine wa_bi F dL_law_1421 (by decide +kernel) ?_
      refine wa_ic_eq (tgt := 1470) F dL_law_1423 (by decide) (by decide) (by decide) (fun c1423 => ?_) (fun c1423 => absurd c1423 (by decide))
      refine wa_const F dL_law_1470 ?_
      refine wa_goto (tgt := 1475) F dL_law_1471 (by decide) ?_
      refine lv_istore (lv' := [(7, .int (iI 1)), (18, .int (iI (-3))), (17, .int (iI ((y / 512) % 3))), (0, .ref b), (1, .ref (ad 0 0)), (2, .ref (ad 6 0)), (3, .ref (ad 6 1)), (4, .ref (ad 6 2)), (5, .int (iI (T 8 0))), (6, .int (iI (T 29 0))), (8, .int (iI tn)), (9, .int (iI (t : Int))), (10, .int (iI x)), (11, .int (iI y)), (12, .int (iI dd)), (13, .int (iI (im : Int))), (14, .int (iI (T 21 0))), (15, .int (iI (T 12 0))), (16, .int (iI (bk : Int)))]) hx hb dL_law_1475 hl (by decide) rfl (fun ls hl => ?_)
      refine lv_iload hx hb dL_law_1477 (lv_at hl 9 rfl) ?_
      refine lv_iload hx hb dL_law_1479 (lv_at hl 1 rfl) ?_
      refine wa_if_lt (tgt := 1488) F dL_law_1481 (by decide) (by decide) (fun c1481 => ?_) (fun c1481 => absurd c1481 (by decide))
      refine wa_const F dL_law_1488 ?_
      refine wa_add F dL_law_1489 ?_
      refine lv_istore (lv' := [(6, .int (iI ((T 29 0) + 0))), (7, .int (iI 1)), (18, .int (iI (-3))), (17, .int (iI ((y / 512) % 3))), (0, .ref b), (1, .ref (ad 0 0)), (2, .ref (ad 6 0)), (3, .ref (ad 6 1)), (4, .ref (ad 6 2)), (5, .int (iI (T 8 0))), (8, .int (iI tn)), (9, .int (iI (t : Int))), (10, .int (iI x)), (11, .int (iI y)), (12, .int (iI dd)), (13, .int (iI (im : Int))), (14, .int (iI (T 21 0))), (15, .int (iI (T 12 0))), (16, .int (iI (bk : Int)))]) hx hb dL_law_1490 hl (by decide) rfl (fun ls hl => ?_)
      refine wa_goto (tgt := 1799) F dL_law_1492 (by decide) ?_
      have f29 : T1 29 0 = ((T 29 0) + 0) := by omega
      refine W.widen (k := 600 + 700 * t) (n := 5200 + 4200 * t) (by omega) (by omega) ?_
      exact hE ad X (T1) (G) _ _ ls (hg1.le (by omega)) hm1 hG1 ⟨fun z => by omega, fun z => by omega⟩ hxr hj hw hS (by rw [a8, f29]; exact lv_sub hl [4, 5, 6, 7, 8, 9, 0, 1, 10, 11] rfl)
    · skip
      have hG1 := hG1 G hG
      generalize hT1 : a_start T (im : Int) (y / 32 % 3) (((y / 512) % 3)) = T1 at *
      have vs1 := vs_t hg1 b9
      refine lv_aload_n hx hb dL_law_1403 rfl (lv_at hl 2 rfl) ?_
      refine lv_iload hx hb dL_law_1404 (lv_at hl 14 rfl) ?_
      refine lv_iload hx hb dL_law_1406 (lv_at hl 12 rfl) ?_
      refine wa_const F dL_law_1408 ?_
      refine wl_shr 5 32 F (by have q0 := (show wa_r y from ⟨by omega, by omega⟩); exact ⟨by omega, by omega⟩) (by decide +kernel) rfl dL_law_1409 ?_
      refine wa_const F dL_law_1410 ?_
      refine wl_rem F (by have q0 := (show wa_r y from ⟨by omega, by omega⟩); omega) (by decide) dL_law_1411 ?_
      refine lv_iload hx hb dL_law_1412 (lv_at hl 0 rfl) ?_
      refine va_calli (wl_runS F hTB hN hS (c_L_started l hlt D cy ad (T) X (G) o A hj hA hg hxr (im : Int) (y / 32 % 3) (((y / 512) % 3)) ⟨by omega, by omega⟩ ⟨by omega, by omega⟩ ⟨by omega, by omega⟩ (T1) ((T 29 0)) (Or.inl k0) (fun _ => ⟨hT1.symm, rfl⟩) (fun z => absurd (k0.symm.trans z) (by decide))) qw_476 qw_477 qw_30 qw_478 ⟨by decide, by decide, rfl⟩ ⟨by decide, by decide⟩ ⟨rfl, rfl⟩ hw rfl rfl (Nat.le_of_ble_eq_true rfl) hl.1 dL_law_1414 ⟨Nat.le_trans (show _ ≤ 300000 by omega) (Nat.le_of_ble_eq_true rfl), Nat.le_trans (show _ ≤ 2000000 by omega) (Nat.le_of_ble_eq_true rfl)⟩) hS (fun _ _ h => h) (fun _ h => h) (fun r u t9 H locs ht9 hvm9 hq9 hB9 hz9 hk9 hS => ?_)
      obtain ⟨ad, X⟩ := u
      obtain ⟨hr9, hxr, hj, he⟩ := hq9
      have hxr : xr (T1) X := hxr
      have hj : wa_wj A ad (wW cy ad T1 X G o) := hj
      have hw : wa_wd D ad (wW cy ad T1 X G o) H := by rw [← ht9]; exact hB9
      rw [hr9]
      dsimp only at he
      have hl : lv_has ls 21 [(17, .int (iI ((y / 512) % 3))), (0, .ref b), (1, .ref (ad 0 0)), (2, .ref (ad 6 0)), (3, .ref (ad 6 1)), (4, .ref (ad 6 2)), (5, .int (iI (T 8 0))), (6, .int (iI (T 29 0))), (7, .int (iI 1)), (8, .int (iI tn)), (9, .int (iI (t : Int))), (10, .int (iI x)), (11, .int (iI y)), (12, .int (iI dd)), (13, .int (iI (im : Int))), (14, .int (iI (T 21 0))), (15, .int (iI (T 12 0))), (16, .int (iI (bk : Int)))] := by rw [he.1 0, he.2.2.2.2.1 0, he.2.2.2.2.1 1, he.2.2.2.2.1 2]; exact hl
      refine lv_istore (lv' := [(18, .int (iI (T 29 0))), (17, .int (iI ((y / 512) % 3))), (0, .ref b), (1, .ref (ad 0 0)), (2, .ref (ad 6 0)), (3, .ref (ad 6 1)), (4, .ref (ad 6 2)), (5, .int (iI (T 8 0))), (6, .int (iI (T 29 0))), (7, .int (iI 1)), (8, .int (iI tn)), (9, .int (iI (t : Int))), (10, .int (iI x)), (11, .int (iI y)), (12, .int (iI dd)), (13, .int (iI (im : Int))), (14, .int (iI (T 21 0))), (15, .int (iI (T 12 0))), (16, .int (iI (bk : Int)))]) hx hb dL_law_1417 hl (by decide) rfl (fun ls hl => ?_)
      refine lv_iload hx hb dL_law_1419 (lv_at hl 0 rfl) ?_
      refine wa_bi F dL_law_1421 (by decide +kernel) ?_
      refine wa_ic_eq (tgt := 1470) F dL_law_1423 (by decide) (by have q0 := hB 29 0; exact ⟨by omega, by omega⟩) (by decide) (fun c1423 => absurd c1423 (by omega)) (fun c1423 => ?_)
      refine lv_iload hx hb dL_law_1426 (lv_at hl 0 rfl) ?_
      refine lv_iload hx hb dL_law_1428 (lv_at hl 8 rfl) ?_
      refine wa_ic_ne (tgt := 1474) F dL_law_1430 (by decide) (by have q0 := hB 29 0; exact ⟨by omega, by omega⟩) (by have q0 := hB 29 0; exact ⟨by omega, by omega⟩) (fun c1430 => absurd c1430 (by omega)) (fun c1430 => ?_)
      refine lv_iload hx hb dL_law_1433 (lv_at hl 8 rfl) ?_
      refine wa_bi F dL_law_1435 (by decide +kernel) ?_
      refine wa_ic_ge (tgt := 1474) F dL_law_1437 (by decide) (by have q0 := hB 29 0; exact ⟨by omega, by omega⟩) (by decide) (fun c1437 => absurd c1437 (by omega)) (fun c1437 => ?_)
      refine lv_aload_n hx hb dL_law_1440 rfl (lv_at hl 3 rfl) ?_
      refine lv_aload_n hx hb dL_law_1441 rfl (lv_at hl 3 rfl) ?_
      refine lv_iload hx hb dL_law_1442 (lv_at hl 0 rfl) ?_
      refine ql_runsFrom (i := (T 29 0)) hlt F hTB hA hg1.1 hxr hj hw hS (show 0 ≤ T 29 0 ∧ T 29 0 < T1 29 0 by omega) ⟨by decide, by decide⟩ (Nat.le_of_ble_eq_true rfl) hl.1 dL_law_1444 ⟨Nat.le_trans (show _ ≤ 300000 by omega) (Nat.le_of_ble_eq_true rfl), Nat.le_trans (show _ ≤ 2000000 by omega) (Nat.le_of_ble_eq_true rfl)⟩ (fun X H locs hxr hj hw hS => ?_)
      refine W.eq (g2 := F0 m 1447 ls [.int (iI (T1 28 ((T 29 0).toNat))), .ref (ad 0 0)]) rfl ?_
      rw [e28]
      refine ql_state (i := (b9 : Int)) hlt F hTB hA hg1.1 hxr hj hw hS (show (0 : Int) ≤ (b9 : Int) ∧ (b9 : Int) < T1 21 0 by omega) ⟨by decide, by decide⟩ (Nat.le_of_ble_eq_true rfl) hl.1 dL_law_1447 ⟨Nat.le_trans (show _ ≤ 300000 by omega) (Nat.le_of_ble_eq_true rfl), Nat.le_trans (show _ ≤ 2000000 by omega) (Nat.le_of_ble_eq_true rfl)⟩ (fun X H locs hxr hj hw hS => ?_)
      refine W.eq (g2 := F0 m 1450 ls [.int (iI (v_state T1 b9))]) rfl ?_
      refine wa_bi F dL_law_1450 (by decide +kernel) ?_
      refine wa_ic_ge (tgt := 1474) F dL_law_1452 (by decide) (by have q0 := (vs_t hg1 b9).1; exact ⟨by omega, by omega⟩) (by decide) (fun c1452 => absurd c1452 (by omega)) (fun c1452 => ?_)
      refine lv_aload_n hx hb dL_law_1455 rfl (lv_at hl 3 rfl) ?_
      refine lv_aload_n hx hb dL_law_1456 rfl (lv_at hl 3 rfl) ?_
      refine lv_iload hx hb dL_law_1457 (lv_at hl 0 rfl) ?_
      refine ql_runsFrom (i := (T 29 0)) hlt F hTB hA hg1.1 hxr hj hw hS (show 0 ≤ T 29 0 ∧ T 29 0 < T1 29 0 by omega) ⟨by decide, by decide⟩ (Nat.le_of_ble_eq_true rfl) hl.1 dL_law_1459 ⟨Nat.le_trans (show _ ≤ 300000 by omega) (Nat.le_of_ble_eq_true rfl), Nat.le_trans (show _ ≤ 2000000 by omega) (Nat.le_of_ble_eq_true rfl)⟩ (fun X H locs hxr hj hw hS => ?_)
      refine W.eq (g2 := F0 m 1462 ls [.int (iI (T1 28 ((T 29 0).toNat))), .ref (ad 0 0)]) rfl ?_
      rw [e28]
      refine ql_state (i := (b9 : Int)) hlt F hTB hA hg1.1 hxr hj hw hS (show (0 : Int) ≤ (b9 : Int) ∧ (b9 : Int) < T1 21 0 by omega) ⟨by decide, by decide⟩ (Nat.le_of_ble_eq_true rfl) hl.1 dL_law_1462 ⟨Nat.le_trans (show _ ≤ 300000 by omega) (Nat.le_of_ble_eq_true rfl), Nat.le_trans (show _ ≤ 2000000 by omega) (Nat.le_of_ble_eq_true rfl)⟩ (fun X H locs hxr hj hw hS => ?_)
      refine W.eq (g2 := F0 m 1465 ls [.int (iI (v_state T1 b9))]) rfl ?_
      refine lv_iload hx hb dL_law_1465 (lv_at hl 1 rfl) ?_
      refine wa_ic_lt (tgt := 1474) F dL_law_1467 (by decide) (by have q0 := (vs_t hg1 b9).1; exact ⟨by omega, by omega⟩) (by have q0 := (show wa_r y from ⟨by omega, by omega⟩); exact ⟨by omega, by omega⟩) (fun c1467 => absurd c1467 (by omega)) (fun c1467 => ?_)
      refine wa_const F dL_law_1470 ?_
      refine wa_goto (tgt := 1475) F dL_law_1471 (by decide) ?_
      refine lv_istore (lv' := [(7, .int (iI 1)), (18, .int (iI (T 29 0))), (17, .int (iI ((y / 512) % 3))), (0, .ref b), (1, .ref (ad 0 0)), (2, .ref (ad 6 0)), (3, .ref (ad 6 1)), (4, .ref (ad 6 2)), (5, .int (iI (T 8 0))), (6, .int (iI (T 29 0))), (8, .int (iI tn)), (9, .int (iI (t : Int))), (10, .int (iI x)), (11, .int (iI y)), (12, .int (iI dd)), (13, .int (iI (im : Int))), (14, .int (iI (T 21 0))), (15, .int (iI (T 12 0))), (16, .int (iI (bk : Int)))]) hx hb dL_law_1475 hl (by decide) rfl (fun ls hl => ?_)
      refine lv_iload hx hb dL_law_1477 (lv_at hl 9 rfl) ?_
      refine lv_iload hx hb dL_law_1479 (lv_at hl 1 rfl) ?_
      refine wa_if_lt (tgt := 1488) F dL_law_1481 (by decide) (by have q0 := hB 29 0; exact ⟨by omega, by omega⟩) (fun c1481 => absurd c1481 (by omega)) (fun c1481 => ?_)
      refine wa_const F dL_law_1484 ?_
      refine wa_goto (tgt := 1489) F dL_law_1485 (by decide) ?_
      refine wa_add F dL_law_1489 ?_
      refine lv_istore (lv' := [(6, .int (iI ((T 29 0) + 1))), (7, .int (iI 1)), (18, .int (iI (T 29 0))), (17, .int (iI ((y / 512) % 3))), (0, .ref b), (1, .ref (ad 0 0)), (2, .ref (ad 6 0)), (3, .ref (ad 6 1)), (4, .ref (ad 6 2)), (5, .int (iI (T 8 0))), (8, .int (iI tn)), (9, .int (iI (t : Int))), (10, .int (iI x)), (11, .int (iI y)), (12, .int (iI dd)), (13, .int (iI (im : Int))), (14, .int (iI (T 21 0))), (15, .int (iI (T 12 0))), (16, .int (iI (bk : Int)))]) hx hb dL_law_1490 hl (by decide) rfl (fun ls hl => ?_)
      refine wa_goto (tgt := 1799) F dL_law_1492 (by decide) ?_
      have f29 : T1 29 0 = ((T 29 0) + 1) := by omega
      refine W.widen (k := 600 + 700 * t) (n := 5200 + 4200 * t) (by omega) (by omega) ?_
      exact hE ad X (T1) (G) _ _ ls (hg1.le (by omega)) hm1 hG1 ⟨fun z => by omega, fun z => by omega⟩ hxr hj hw hS (by rw [a8, f29]; exact lv_sub hl [4, 5, 6, 7, 8, 9, 0, 1, 10, 11] rfl)
  · skip
    refine wa_const F dL_law_1390 ?_
    refine wa_goto (tgt := 1401) F dL_law_1391 (by decide) ?_
    refine lv_istore (lv' := [(17, .int (iI 0)), (0, .ref b), (1, .ref (ad 0 0)), (2, .ref (ad 6 0)), (3, .ref (ad 6 1)), (4, .ref (ad 6 2)), (5, .int (iI (T 8 0))), (6, .int (iI (T 29 0))), (7, .int (iI 1)), (8, .int (iI tn)), (9, .int (iI (t : Int))), (10, .int (iI x)), (11, .int (iI y)), (12, .int (iI dd)), (13, .int (iI (im : Int))), (14, .int (iI (T 21 0))), (15, .int (iI (T 12 0))), (16, .int (iI (bk : Int)))]) hx hb dL_law_1401 hl (by decide) rfl (fun ls hl => ?_)
    rcases w_start hg hm him hq9 (r := 0) (by decide) with k0 | ⟨k0, c30, hg1, hm1, ⟨a8, a12, a21, a29⟩, ⟨b9, hb9, e28, v10, vr⟩, hG1⟩
    · skip
      have hg1 := hg.th (k := 3) (by decide)
      have hm1 := hm.th 3
      have hG1 := hG.th 3
      have a8 : wa_s T 0 0 3 8 0 = T 8 0 := rfl
      have a12 : wa_s T 0 0 3 12 0 = T 12 0 := rfl
      have a21 : wa_s T 0 0 3 21 0 = T 21 0 := rfl
      have a29 : wa_s T 0 0 3 29 0 = T 29 0 := rfl
      generalize hT1 : wa_s T 0 0 3 = T1 at *
      refine lv_aload_n hx hb dL_law_1403 rfl (lv_at hl 2 rfl) ?_
      refine lv_iload hx hb dL_law_1404 (lv_at hl 14 rfl) ?_
      refine lv_iload hx hb dL_law_1406 (lv_at hl 12 rfl) ?_
      refine wa_const F dL_law_1408 ?_
      refine wl_shr 5 32 F (by have q0 := (show wa_r y from ⟨by omega, by omega⟩); exact ⟨by omega, by omega⟩) (by decide +kernel) rfl dL_law_1409 ?_
      refine wa_const F dL_law_1410 ?_
      refine wl_rem F (by have q0 := (show wa_r y from ⟨by omega, by omega⟩); omega) (by decide) dL_law_1411 ?_
      refine lv_iload hx hb dL_law_1412 (lv_at hl 0 rfl) ?_
      refine va_calli (wl_runS F hTB hN hS (c_L_started l hlt D cy ad (T) X (G) o A hj hA hg hxr (im : Int) (y / 32 % 3) 0 ⟨by omega, by omega⟩ ⟨by omega, by omega⟩ ⟨by omega, by omega⟩ (T1) ((-3)) (Or.inr k0) (fun z => absurd (k0.symm.trans z) (by decide)) (fun _ => ⟨hT1.symm, rfl⟩)) qw_476 qw_477 qw_30 qw_478 ⟨by decide, by decide, rfl⟩ ⟨by decide, by decide⟩ ⟨rfl, rfl⟩ hw rfl rfl (Nat.le_of_ble_eq_true rfl) hl.1 dL_law_1414 ⟨Nat.le_trans (show _ ≤ 300000 by omega) (Nat.le_of_ble_eq_true rfl), Nat.le_trans (show _ ≤ 2000000 by omega) (Nat.le_of_ble_eq_true rfl)⟩) hS (fun _ _ h => h) (fun _ h => h) (fun r u t9 H locs ht9 hvm9 hq9 hB9 hz9 hk9 hS => ?_)
      obtain ⟨ad, X⟩ := u
      obtain ⟨hr9, hxr, hj, he⟩ := hq9
      have hxr : xr (T1) X := hxr
      have hj : wa_wj A ad (wW cy ad T1 X G o) := hj
      have hw : wa_wd D ad (wW cy ad T1 X G o) H := by rw [← ht9]; exact hB9
      rw [hr9]
      dsimp only at he
      have hl : lv_has ls 21 [(17, .int (iI 0)), (0, .ref b), (1, .ref (ad 0 0)), (2, .ref (ad 6 0)), (3, .ref (ad 6 1)), (4, .ref (ad 6 2)), (5, .int (iI (T 8 0))), (6, .int (iI (T 29 0))), (7, .int (iI 1)), (8, .int (iI tn)), (9, .int (iI (t : Int))), (10, .int (iI x)), (11, .int (iI y)), (12, .int (iI dd)), (13, .int (iI (im : Int))), (14, .int (iI (T 21 0))), (15, .int (iI (T 12 0))), (16, .int (iI (bk : Int)))] := by rw [he.1 0, he.2.2.2.2.1 0, he.2.2.2.2.1 1, he.2.2.2.2.1 2]; exact hl
      refine lv_istore (lv' := [(18, .int (iI (-3))), (17, .int (iI 0)), (0, .ref b), (1, .ref (ad 0 0)), (2, .ref (ad 6 0)), (3, .ref (ad 6 1)), (4, .ref (ad 6 2)), (5, .int (iI (T 8 0))), (6, .int (iI (T 29 0))), (7, .int (iI 1)), (8, .int (iI tn)), (9, .int (iI (t : Int))), (10, .int (iI x)), (11, .int (iI y)), (12, .int (iI dd)), (13, .int (iI (im : Int))), (14, .int (iI (T 21 0))), (15, .int (iI (T 12 0))), (16, .int (iI (bk : Int)))]) hx hb dL_law_1417 hl (by decide) rfl (fun ls hl => ?_)
      refine lv_iload hx hb dL_law_1419 (lv_at hl 0 rfl) ?_
      refine wa_bi F dL_law_1421 (by decide +kernel) ?_
      refine wa_ic_eq (tgt := 1470) F dL_law_1423 (by decide) (by decide) (by decide) (fun c1423 => ?_) (fun c1423 => absurd c1423 (by decide))
      refine wa_const F dL_law_1470 ?_
      refine wa_goto (tgt := 1475) F dL_law_1471 (by decide) ?_
      refine lv_istore (lv' := [(7, .int (iI 1)), (18, .int (iI (-3))), (17, .int (iI 0)), (0, .ref b), (1, .ref (ad 0 0)), (2, .ref (ad 6 0)), (3, .ref (ad 6 1)), (4, .ref (ad 6 2)), (5, .int (iI (T 8 0))), (6, .int (iI (T 29 0))), (8, .int (iI tn)), (9, .int (iI (t : Int))), (10, .int (iI x)), (11, .int (iI y)), (12, .int (iI dd)), (13, .int (iI (im : Int))), (14, .int (iI (T 21 0))), (15, .int (iI (T 12 0))), (16, .int (iI (bk : Int)))]) hx hb dL_law_1475 hl (by decide) rfl (fun ls hl => ?_)
      refine lv_iload hx hb dL_law_1477 (lv_at hl 9 rfl) ?_
      refine lv_iload hx hb dL_law_1479 (lv_at hl 1 rfl) ?_
      refine wa_if_lt (tgt := 1488) F dL_law_1481 (by decide) (by decide) (fun c1481 => ?_) (fun c1481 => absurd c1481 (by decide))
      refine wa_const F dL_law_1488 ?_
      refine wa_add F dL_law_1489 ?_
      refine lv_istore (lv' := [(6, .int (iI ((T 29 0) + 0))), (7, .int (iI 1)), (18, .int (iI (-3))), (17, .int (iI 0)), (0, .ref b), (1, .ref (ad 0 0)), (2, .ref (ad 6 0)), (3, .ref (ad 6 1)), (4, .ref (ad 6 2)), (5, .int (iI (T 8 0))), (8, .int (iI tn)), (9, .int (iI (t : Int))), (10, .int (iI x)), (11, .int (iI y)), (12, .int (iI dd)), (13, .int (iI (im : Int))), (14, .int (iI (T 21 0))), (15, .int (iI (T 12 0))), (16, .int (iI (bk : Int)))]) hx hb dL_law_1490 hl (by decide) rfl (fun ls hl => ?_)
      refine wa_goto (tgt := 1799) F dL_law_1492 (by decide) ?_
      have f29 : T1 29 0 = ((T 29 0) + 0) := by omega
      refine W.widen (k := 600 + 700 * t) (n := 5200 + 4200 * t) (by omega) (by omega) ?_
      exact hE ad X (T1) (G) _ _ ls (hg1.le (by omega)) hm1 hG1 ⟨fun z => by omega, fun z => by omega⟩ hxr hj hw hS (by rw [a8, f29]; exact lv_sub hl [4, 5, 6, 7, 8, 9, 0, 1, 10, 11] rfl)
    · skip
      have hG1 := hG1 G hG
      generalize hT1 : a_start T (im : Int) (y / 32 % 3) 0 = T1 at *
      have vs1 := vs_t hg1 b9
      refine lv_aload_n hx hb dL_law_1403 rfl (lv_at hl 2 rfl) ?_
      refine lv_iload hx hb dL_law_1404 (lv_at hl 14 rfl) ?_
      refine lv_iload hx hb dL_law_1406 (lv_at hl 12 rfl) ?_
      refine wa_const F dL_law_1408 ?_
      refine wl_shr 5 32 F (by have q0 := (show wa_r y from ⟨by omega, by omega⟩); exact ⟨by omega, by omega⟩) (by decide +kernel) rfl dL_law_1409 ?_
      refine wa_const F dL_law_1410 ?_
      refine wl_rem F (by have q0 := (show wa_r y from ⟨by omega, by omega⟩); omega) (by decide) dL_law_1411 ?_
      refine lv_iload hx hb dL_law_1412 (lv_at hl 0 rfl) ?_
      refine va_calli (wl_runS F hTB hN hS (c_L_started l hlt D cy ad (T) X (G) o A hj hA hg hxr (im : Int) (y / 32 % 3) 0 ⟨by omega, by omega⟩ ⟨by omega, by omega⟩ ⟨by omega, by omega⟩ (T1) ((T 29 0)) (Or.inl k0) (fun _ => ⟨hT1.symm, rfl⟩) (fun z => absurd (k0.symm.trans z) (by decide))) qw_476 qw_477 qw_30 qw_478 ⟨by decide, by decide, rfl⟩ ⟨by decide, by decide⟩ ⟨rfl, rfl⟩ hw rfl rfl (Nat.le_of_ble_eq_true rfl) hl.1 dL_law_1414 ⟨Nat.le_trans (show _ ≤ 300000 by omega) (Nat.le_of_ble_eq_true rfl), Nat.le_trans (show _ ≤ 2000000 by omega) (Nat.le_of_ble_eq_true rfl)⟩) hS (fun _ _ h => h) (fun _ h => h) (fun r u t9 H locs ht9 hvm9 hq9 hB9 hz9 hk9 hS => ?_)
      obtain ⟨ad, X⟩ := u
      obtain ⟨hr9, hxr, hj, he⟩ := hq9
      have hxr : xr (T1) X := hxr
      have hj : wa_wj A ad (wW cy ad T1 X G o) := hj
      have hw : wa_wd D ad (wW cy ad T1 X G o) H := by rw [← ht9]; exact hB9
      rw [hr9]
      dsimp only at he
      have hl : lv_has ls 21 [(17, .int (iI 0)), (0, .ref b), (1, .ref (ad 0 0)), (2, .ref (ad 6 0)), (3, .ref (ad 6 1)), (4, .ref (ad 6 2)), (5, .int (iI (T 8 0))), (6, .int (iI (T 29 0))), (7, .int (iI 1)), (8, .int (iI tn)), (9, .int (iI (t : Int))), (10, .int (iI x)), (11, .int (iI y)), (12, .int (iI dd)), (13, .int (iI (im : Int))), (14, .int (iI (T 21 0))), (15, .int (iI (T 12 0))), (16, .int (iI (bk : Int)))] := by rw [he.1 0, he.2.2.2.2.1 0, he.2.2.2.2.1 1, he.2.2.2.2.1 2]; exact hl
      refine lv_istore (lv' := [(18, .int (iI (T 29 0))), (17, .int (iI 0)), (0, .ref b), (1, .ref (ad 0 0)), (2, .ref (ad 6 0)), (3, .ref (ad 6 1)), (4, .ref (ad 6 2)), (5, .int (iI (T 8 0))), (6, .int (iI (T 29 0))), (7, .int (iI 1)), (8, .int (iI tn)), (9, .int (iI (t : Int))), (10, .int (iI x)), (11, .int (iI y)), (12, .int (iI dd)), (13, .int (iI (im : Int))), (14, .int (iI (T 21 0))), (15, .int (iI (T 12 0))), (16, .int (iI (bk : Int)))]) hx hb dL_law_1417 hl (by decide) rfl (fun ls hl => ?_)
      refine lv_iload hx hb dL_law_1419 (lv_at hl 0 rfl) ?_
      refine wa_bi F dL_law_1421 (by decide +kernel) ?_
      refine wa_ic_eq (tgt := 1470) F dL_law_1423 (by decide) (by have q0 := hB 29 0; exact ⟨by omega, by omega⟩) (by decide) (fun c1423 => absurd c1423 (by omega)) (fun c1423 => ?_)
      refine lv_iload hx hb dL_law_1426 (lv_at hl 0 rfl) ?_
      refine lv_iload hx hb dL_law_1428 (lv_at hl 8 rfl) ?_
      refine wa_ic_ne (tgt := 1474) F dL_law_1430 (by decide) (by have q0 := hB 29 0; exact ⟨by omega, by omega⟩) (by have q0 := hB 29 0; exact ⟨by omega, by omega⟩) (fun c1430 => absurd c1430 (by omega)) (fun c1430 => ?_)
      refine lv_iload hx hb dL_law_1433 (lv_at hl 8 rfl) ?_
      refine wa_bi F dL_law_1435 (by decide +kernel) ?_
      refine wa_ic_ge (tgt := 1474) F dL_law_1437 (by decide) (by have q0 := hB 29 0; exact ⟨by omega, by omega⟩) (by decide) (fun c1437 => absurd c1437 (by omega)) (fun c1437 => ?_)
      refine lv_aload_n hx hb dL_law_1440 rfl (lv_at hl 3 rfl) ?_
      refine lv_aload_n hx hb dL_law_1441 rfl (lv_at hl 3 rfl) ?_
      refine lv_iload hx hb dL_law_1442 (lv_at hl 0 rfl) ?_
      refine ql_runsFrom (i := (T 29 0)) hlt F hTB hA hg1.1 hxr hj hw hS (show 0 ≤ T 29 0 ∧ T 29 0 < T1 29 0 by omega) ⟨by decide, by decide⟩ (Nat.le_of_ble_eq_true rfl) hl.1 dL_law_1444 ⟨Nat.le_trans (show _ ≤ 300000 by omega) (Nat.le_of_ble_eq_true rfl), Nat.le_trans (show _ ≤ 2000000 by omega) (Nat.le_of_ble_eq_true rfl)⟩ (fun X H locs hxr hj hw hS => ?_)
      refine W.eq (g2 := F0 m 1447 ls [.int (iI (T1 28 ((T 29 0).toNat))), .ref (ad 0 0)]) rfl ?_
      rw [e28]
      refine ql_state (i := (b9 : Int)) hlt F hTB hA hg1.1 hxr hj hw hS (show (0 : Int) ≤ (b9 : Int) ∧ (b9 : Int) < T1 21 0 by omega) ⟨by decide, by decide⟩ (Nat.le_of_ble_eq_true rfl) hl.1 dL_law_1447 ⟨Nat.le_trans (show _ ≤ 300000 by omega) (Nat.le_of_ble_eq_true rfl), Nat.le_trans (show _ ≤ 2000000 by omega) (Nat.le_of_ble_eq_true rfl)⟩ (fun X H locs hxr hj hw hS => ?_)
      refine W.eq (g2 := F0 m 1450 ls [.int (iI (v_state T1 b9))]) rfl ?_
      refine wa_bi F dL_law_1450 (by decide +kernel) ?_
      refine wa_ic_ge (tgt := 1474) F dL_law_1452 (by decide) (by have q0 := (vs_t hg1 b9).1; exact ⟨by omega, by omega⟩) (by decide) (fun c1452 => absurd c1452 (by omega)) (fun c1452 => ?_)
      refine lv_aload_n hx hb dL_law_1455 rfl (lv_at hl 3 rfl) ?_
      refine lv_aload_n hx hb dL_law_1456 rfl (lv_at hl 3 rfl) ?_
      refine lv_iload hx hb dL_law_1457 (lv_at hl 0 rfl) ?_
      refine ql_runsFrom (i := (T 29 0)) hlt F hTB hA hg1.1 hxr hj hw hS (show 0 ≤ T 29 0 ∧ T 29 0 < T1 29 0 by omega) ⟨by decide, by decide⟩ (Nat.le_of_ble_eq_true rfl) hl.1 dL_law_1459 ⟨Nat.le_trans (show _ ≤ 300000 by omega) (Nat.le_of_ble_eq_true rfl), Nat.le_trans (show _ ≤ 2000000 by omega) (Nat.le_of_ble_eq_true rfl)⟩ (fun X H locs hxr hj hw hS => ?_)
      refine W.eq (g2 := F0 m 1462 ls [.int (iI (T1 28 ((T 29 0).toNat))), .ref (ad 0 0)]) rfl ?_
      rw [e28]
      refine ql_state (i := (b9 : Int)) hlt F hTB hA hg1.1 hxr hj hw hS (show (0 : Int) ≤ (b9 : Int) ∧ (b9 : Int) < T1 21 0 by omega) ⟨by decide, by decide⟩ (Nat.le_of_ble_eq_true rfl) hl.1 dL_law_1462 ⟨Nat.le_trans (show _ ≤ 300000 by omega) (Nat.le_of_ble_eq_true rfl), Nat.le_trans (show _ ≤ 2000000 by omega) (Nat.le_of_ble_eq_true rfl)⟩ (fun X H locs hxr hj hw hS => ?_)
      refine W.eq (g2 := F0 m 1465 ls [.int (iI (v_state T1 b9))]) rfl ?_
      refine lv_iload hx hb dL_law_1465 (lv_at hl 1 rfl) ?_
      refine wa_ic_lt (tgt := 1474) F dL_law_1467 (by decide) (by have q0 := (vs_t hg1 b9).1; exact ⟨by omega, by omega⟩) (by decide) (fun c1467 => absurd c1467 (by omega)) (fun c1467 => ?_)
      refine wa_const F dL_law_1470 ?_
      refine wa_goto (tgt := 1475) F dL_law_1471 (by decide) ?_
      refine lv_istore (lv' := [(7, .int (iI 1)), (18, .int (iI (T 29 0))), (17, .int (iI 0)), (0, .ref b), (1, .ref (ad 0 0)), (2, .ref (ad 6 0)), (3, .ref (ad 6 1)), (4, .ref (ad 6 2)), (5, .int (iI (T 8 0))), (6, .int (iI (T 29 0))), (8, .int (iI tn)), (9, .int (iI (t : Int))), (10, .int (iI x)), (11, .int (iI y)), (12, .int (iI dd)), (13, .int (iI (im : Int))), (14, .int (iI (T 21 0))), (15, .int (iI (T 12 0))), (16, .int (iI (bk : Int)))]) hx hb dL_law_1475 hl (by decide) rfl (fun ls hl => ?_)
      refine lv_iload hx hb dL_law_1477 (lv_at hl 9 rfl) ?_
      refine lv_iload hx hb dL_law_1479 (lv_at hl 1 rfl) ?_
      refine wa_if_lt (tgt := 1488) F dL_law_1481 (by decide) (by have q0 := hB 29 0; exact ⟨by omega, by omega⟩) (fun c1481 => absurd c1481 (by omega)) (fun c1481 => ?_)
      refine wa_const F dL_law_1484 ?_
      refine wa_goto (tgt := 1489) F dL_law_1485 (by decide) ?_
      refine wa_add F dL_law_1489 ?_
      refine lv_istore (lv' := [(6, .int (iI ((T 29 0) + 1))), (7, .int (iI 1)), (18, .int (iI (T 29 0))), (17, .int (iI 0)), (0, .ref b), (1, .ref (ad 0 0)), (2, .ref (ad 6 0)), (3, .ref (ad 6 1)), (4, .ref (ad 6 2)), (5, .int (iI (T 8 0))), (8, .int (iI tn)), (9, .int (iI (t : Int))), (10, .int (iI x)), (11, .int (iI y)), (12, .int (iI dd)), (13, .int (iI (im : Int))), (14, .int (iI (T 21 0))), (15, .int (iI (T 12 0))), (16, .int (iI (bk : Int)))]) hx hb dL_law_1490 hl (by decide) rfl (fun ls hl => ?_)
      refine wa_goto (tgt := 1799) F dL_law_1492 (by decide) ?_
      have f29 : T1 29 0 = ((T 29 0) + 1) := by omega
      refine W.widen (k := 600 + 700 * t) (n := 5200 + 4200 * t) (by omega) (by omega) ?_
      exact hE ad X (T1) (G) _ _ ls (hg1.le (by omega)) hm1 hG1 ⟨fun z => by omega, fun z => by omega⟩ hxr hj hw hS (by rw [a8, f29]; exact lv_sub hl [4, 5, 6, 7, 8, 9, 0, 1, 10, 11] rfl)
set_option maxRecDepth 100000 in
set_option maxHeartbeats 4000000 in
theorem law_d_machine (hF : law_F p l s m meth c D cy A b L xs) (hE : law_E p l e s m below meth c D cy A b Q o tn t) (ht : t < 280) (htn : -100000 ≤ tn ∧ tn ≤ 100000) (hg : gi (2 * t) T) (hm : mg T) (hG : LG T G) (h3 : ic t T) (hxr : xr T X) (hj : wa_wj A ad (wW cy ad T X G o)) (hw : wa_wd D ad (wW cy ad T X G o) H) (hS : va_S A s.heap H locs) (hy : 0 ≤ y ∧ y < 268435456) (ht3 : 3 ≤ t) (hmn : 0 < T 29 0) (hl : lv_has ls 21 [(0, .ref b), (1, .ref (ad 0 0)), (2, .ref (ad 6 0)), (3, .ref (ad 6 1)), (4, .ref (ad 6 2)), (5, .int (iI (T 8 0))), (6, .int (iI (T 29 0))), (7, .int (iI 1)), (8, .int (iI tn)), (9, .int (iI (t : Int))), (10, .int (iI x)), (11, .int (iI y)), (12, .int (iI dd)), (13, .int (iI (im : Int))), (14, .int (iI (T 21 0))), (15, .int (iI (T 12 0))), (16, .int (iI (bk : Int)))]) : W p l e room_1 s m #[Value.ref b] below meth c H locs (400 + 700 * t) (4000 + 4200 * t) (Q) (F0 m 1507 ls []) := by
  obtain ⟨F, hTB, hN, hA, hlt, hX, hbl, hbA, hL⟩ := id hF
  obtain ⟨hx, hb, hml, hown, hts⟩ := id F.1
  obtain ⟨hB, w8, w21, w12, w29, w4, w7, w6, w5, w13, w25, w26, w28, w14, w3, wf17⟩ := id hg.1
  have h3a := h3.1
  have h3b := h3.2
  have hmm := md_r (a := y) hmn
  obtain ⟨u9, hu9⟩ : ∃ u9 : Nat, y % T 29 0 = (u9 : Int) := ⟨(y % T 29 0).toNat, by omega⟩
  have hu : (u9 : Int) < T 29 0 := by omega
  have p28 := w28 u9 hu
  refine lv_iload hx hb dL_law_1507 (lv_at hl 11 rfl) ?_
  refine lv_iload hx hb dL_law_1509 (lv_at hl 6 rfl) ?_
  refine wl_rem F (by have q0 := (show wa_r y from ⟨by omega, by omega⟩); omega) (by have q0 := hB 29 0; omega) dL_law_1511 ?_
  rw [hu9]
  refine lv_istore (lv' := [(17, .int (iI (u9 : Int))), (0, .ref b), (1, .ref (ad 0 0)), (2, .ref (ad 6 0)), (3, .ref (ad 6 1)), (4, .ref (ad 6 2)), (5, .int (iI (T 8 0))), (6, .int (iI (T 29 0))), (7, .int (iI 1)), (8, .int (iI tn)), (9, .int (iI (t : Int))), (10, .int (iI x)), (11, .int (iI y)), (12, .int (iI dd)), (13, .int (iI (im : Int))), (14, .int (iI (T 21 0))), (15, .int (iI (T 12 0))), (16, .int (iI (bk : Int)))]) hx hb dL_law_1512 hl (by decide) rfl (fun ls hl => ?_)
  refine lv_aload_n hx hb dL_law_1514 rfl (lv_at hl 2 rfl) ?_
  refine lv_iload hx hb dL_law_1515 (lv_at hl 0 rfl) ?_
  refine ql_runsFrom (i := (u9 : Int)) hlt F hTB hA hg.1 hxr hj hw hS (show (0 : Int) ≤ (u9 : Int) ∧ (u9 : Int) < T 29 0 by omega) ⟨by decide, by decide⟩ (Nat.le_of_ble_eq_true rfl) hl.1 dL_law_1517 ⟨Nat.le_trans (show _ ≤ 300000 by omega) (Nat.le_of_ble_eq_true rfl), Nat.le_trans (show _ ≤ 2000000 by omega) (Nat.le_of_ble_eq_true rfl)⟩ (fun X H locs hxr hj hw hS => ?_)
  refine W.eq (g2 := F0 m 1520 ls [.int (iI (T 28 u9))]) rfl ?_
  refine lv_istore (lv' := [(18, .int (iI (T 28 u9))), (17, .int (iI (u9 : Int))), (0, .ref b), (1, .ref (ad 0 0)), (2, .ref (ad 6 0)), (3, .ref (ad 6 1)), (4, .ref (ad 6 2)), (5, .int (iI (T 8 0))), (6, .int (iI (T 29 0))), (7, .int (iI 1)), (8, .int (iI tn)), (9, .int (iI (t : Int))), (10, .int (iI x)), (11, .int (iI y)), (12, .int (iI dd)), (13, .int (iI (im : Int))), (14, .int (iI (T 21 0))), (15, .int (iI (T 12 0))), (16, .int (iI (bk : Int)))]) hx hb dL_law_1520 hl (by decide) rfl (fun ls hl => ?_)
  refine lv_iload hx hb dL_law_1522 (lv_at hl 13 rfl) ?_
  refine wa_bi F dL_law_1524 (by decide +kernel) ?_
  refine wl_shr 6 64 F (by have q0 := (show wa_r y from ⟨by omega, by omega⟩); exact ⟨by omega, by omega⟩) (by decide +kernel) rfl dL_law_1526 ?_
  refine wa_const F dL_law_1527 ?_
  refine wl_and 2 4 F (by decide) (by decide +kernel) rfl (by decide) dL_law_1528 ?_
  refine wa_if_ne (tgt := 1541) F dL_law_1529 (by decide) (by have q0 := (show wa_r y from ⟨by omega, by omega⟩); exact ⟨by omega, by omega⟩) (fun c1529 => ?_) (fun c1529 => ?_)
  · skip
    rcases w_renew hg hm hu with ⟨k0, c28⟩ | ⟨k0, c28, -⟩ | ⟨k0, c28, fr, hg1, hm1, ⟨a8, a12, a21, a29⟩, e28, v10, fe, hG1⟩
    · skip
      have hg1 := hg.th (k := 1) (by decide)
      have hm1 := hm.th 1
      have hG1 := hG.th 1
      have a8 : wa_s T 0 0 1 8 0 = T 8 0 := rfl
      have a12 : wa_s T 0 0 1 12 0 = T 12 0 := rfl
      have a21 : wa_s T 0 0 1 21 0 = T 21 0 := rfl
      have a29 : wa_s T 0 0 1 29 0 = T 29 0 := rfl
      generalize hT1 : wa_s T 0 0 1 = T1 at *
      refine lv_aload_n hx hb dL_law_1541 rfl (lv_at hl 3 rfl) ?_
      refine lv_iload hx hb dL_law_1542 (lv_at hl 1 rfl) ?_
      refine va_calli (wl_runS F hTB hN hS (c_L_renewed l hlt D cy ad (T) X (G) o A hj hA hg hxr (u9 : Int) ⟨by omega, by omega⟩ (T1) ((-1)) (Or.inr (Or.inl k0)) (fun z => absurd (k0.symm.trans z) (by decide)) (fun _ => ⟨hT1.symm, rfl⟩) (fun z => absurd (k0.symm.trans z) (by decide))) qw_519 qw_520 qw_30 qw_521 ⟨by decide, by decide, rfl⟩ ⟨by decide, by decide⟩ ⟨rfl, rfl⟩ hw rfl rfl (Nat.le_of_ble_eq_true rfl) hl.1 dL_law_1544 ⟨Nat.le_trans (show _ ≤ 300000 by omega) (Nat.le_of_ble_eq_true rfl), Nat.le_trans (show _ ≤ 2000000 by omega) (Nat.le_of_ble_eq_true rfl)⟩) hS (fun _ _ h => h) (fun _ h => h) (fun r u t9 H locs ht9 hvm9 hq9 hB9 hz9 hk9 hS => ?_)
      obtain ⟨ad, X⟩ := u
      obtain ⟨hr9, hxr, hj, he⟩ := hq9
      have hxr : xr (T1) X := hxr
      have hj : wa_wj A ad (wW cy ad T1 X G o) := hj
      have hw : wa_wd D ad (wW cy ad T1 X G o) H := by rw [← ht9]; exact hB9
      rw [hr9]
      dsimp only at he
      have hl : lv_has ls 21 [(18, .int (iI (T 28 u9))), (17, .int (iI (u9 : Int))), (0, .ref b), (1, .ref (ad 0 0)), (2, .ref (ad 6 0)), (3, .ref (ad 6 1)), (4, .ref (ad 6 2)), (5, .int (iI (T 8 0))), (6, .int (iI (T 29 0))), (7, .int (iI 1)), (8, .int (iI tn)), (9, .int (iI (t : Int))), (10, .int (iI x)), (11, .int (iI y)), (12, .int (iI dd)), (13, .int (iI (im : Int))), (14, .int (iI (T 21 0))), (15, .int (iI (T 12 0))), (16, .int (iI (bk : Int)))] := by rw [he.1 0, he.2.2.2.2.1 0, he.2.2.2.2.1 1, he.2.2.2.2.1 2]; exact hl
      refine lv_istore (lv' := [(19, .int (iI (-1))), (18, .int (iI (T 28 u9))), (17, .int (iI (u9 : Int))), (0, .ref b), (1, .ref (ad 0 0)), (2, .ref (ad 6 0)), (3, .ref (ad 6 1)), (4, .ref (ad 6 2)), (5, .int (iI (T 8 0))), (6, .int (iI (T 29 0))), (7, .int (iI 1)), (8, .int (iI tn)), (9, .int (iI (t : Int))), (10, .int (iI x)), (11, .int (iI y)), (12, .int (iI dd)), (13, .int (iI (im : Int))), (14, .int (iI (T 21 0))), (15, .int (iI (T 12 0))), (16, .int (iI (bk : Int)))]) hx hb dL_law_1547 hl (by decide) rfl (fun ls hl => ?_)
      refine lv_iload hx hb dL_law_1549 (lv_at hl 14 rfl) ?_
      refine wa_bi F dL_law_1551 (by decide +kernel) ?_
      refine wl_shr 6 64 F (by have q0 := (show wa_r y from ⟨by omega, by omega⟩); exact ⟨by omega, by omega⟩) (by decide +kernel) rfl dL_law_1553 ?_
      refine wa_const F dL_law_1554 ?_
      refine wl_and 2 4 F (by decide) (by decide +kernel) rfl (by decide) dL_law_1555 ?_
      refine wa_if_ne (tgt := 1584) F dL_law_1556 (by decide) (by have q0 := (show wa_r y from ⟨by omega, by omega⟩); exact ⟨by omega, by omega⟩) (fun c1556 => ?_) (fun c1556 => absurd c1556 (by omega))
      refine lv_iload hx hb dL_law_1584 (lv_at hl 0 rfl) ?_
      refine wa_const F dL_law_1586 ?_
      refine wa_ic_ne (tgt := 1604) F dL_law_1587 (by decide) (by decide) (by decide) (fun c1587 => absurd c1587 (by decide)) (fun c1587 => ?_)
      refine lv_iload hx hb dL_law_1590 (lv_at hl 1 rfl) ?_
      refine wa_const F dL_law_1592 ?_
      refine wa_ic_ne (tgt := 1600) F dL_law_1593 (by decide) (by have q0 := hB 28 u9; exact ⟨by omega, by omega⟩) (by decide) (fun c1593 => absurd c1593 (by omega)) (fun c1593 => ?_)
      refine wa_const F dL_law_1596 ?_
      refine wa_goto (tgt := 1668) F dL_law_1597 (by decide) ?_
      refine lv_istore (lv' := [(7, .int (iI 1)), (19, .int (iI (-1))), (18, .int (iI (T 28 u9))), (17, .int (iI (u9 : Int))), (0, .ref b), (1, .ref (ad 0 0)), (2, .ref (ad 6 0)), (3, .ref (ad 6 1)), (4, .ref (ad 6 2)), (5, .int (iI (T 8 0))), (6, .int (iI (T 29 0))), (8, .int (iI tn)), (9, .int (iI (t : Int))), (10, .int (iI x)), (11, .int (iI y)), (12, .int (iI dd)), (13, .int (iI (im : Int))), (14, .int (iI (T 21 0))), (15, .int (iI (T 12 0))), (16, .int (iI (bk : Int)))]) hx hb dL_law_1668 hl (by decide) rfl (fun ls hl => ?_)
      refine wa_goto (tgt := 1799) F dL_law_1670 (by decide) ?_
      refine W.widen (k := 600 + 700 * t) (n := 5200 + 4200 * t) (by omega) (by omega) ?_
      exact hE ad X (T1) (G) _ _ ls (hg1.le (by omega)) hm1 hG1 ⟨fun z => by omega, fun z => by omega⟩ hxr hj hw hS (by rw [a8, a29]; exact lv_sub hl [4, 5, 6, 7, 8, 9, 10, 0, 11, 12] rfl)
    · skip
      have e28 : wa_s T 0 0 2 28 u9 = T 28 u9 := rfl
      have hg1 := hg.th (k := 2) (by decide)
      have hm1 := hm.th 2
      have hG1 := hG.th 2
      have a8 : wa_s T 0 0 2 8 0 = T 8 0 := rfl
      have a12 : wa_s T 0 0 2 12 0 = T 12 0 := rfl
      have a21 : wa_s T 0 0 2 21 0 = T 21 0 := rfl
      have a29 : wa_s T 0 0 2 29 0 = T 29 0 := rfl
      generalize hT1 : wa_s T 0 0 2 = T1 at *
      refine lv_aload_n hx hb dL_law_1541 rfl (lv_at hl 3 rfl) ?_
      refine lv_iload hx hb dL_law_1542 (lv_at hl 1 rfl) ?_
      refine va_calli (wl_runS F hTB hN hS (c_L_renewed l hlt D cy ad (T) X (G) o A hj hA hg hxr (u9 : Int) ⟨by omega, by omega⟩ (T1) ((-3)) (Or.inr (Or.inr k0)) (fun z => absurd (k0.symm.trans z) (by decide)) (fun z => absurd (k0.symm.trans z) (by decide)) (fun _ => ⟨hT1.symm, rfl⟩)) qw_519 qw_520 qw_30 qw_521 ⟨by decide, by decide, rfl⟩ ⟨by decide, by decide⟩ ⟨rfl, rfl⟩ hw rfl rfl (Nat.le_of_ble_eq_true rfl) hl.1 dL_law_1544 ⟨Nat.le_trans (show _ ≤ 300000 by omega) (Nat.le_of_ble_eq_true rfl), Nat.le_trans (show _ ≤ 2000000 by omega) (Nat.le_of_ble_eq_true rfl)⟩) hS (fun _ _ h => h) (fun _ h => h) (fun r u t9 H locs ht9 hvm9 hq9 hB9 hz9 hk9 hS => ?_)
      obtain ⟨ad, X⟩ := u
      obtain ⟨hr9, hxr, hj, he⟩ := hq9
      have hxr : xr (T1) X := hxr
      have hj : wa_wj A ad (wW cy ad T1 X G o) := hj
      have hw : wa_wd D ad (wW cy ad T1 X G o) H := by rw [← ht9]; exact hB9
      rw [hr9]
      dsimp only at he
      have hl : lv_has ls 21 [(18, .int (iI (T 28 u9))), (17, .int (iI (u9 : Int))), (0, .ref b), (1, .ref (ad 0 0)), (2, .ref (ad 6 0)), (3, .ref (ad 6 1)), (4, .ref (ad 6 2)), (5, .int (iI (T 8 0))), (6, .int (iI (T 29 0))), (7, .int (iI 1)), (8, .int (iI tn)), (9, .int (iI (t : Int))), (10, .int (iI x)), (11, .int (iI y)), (12, .int (iI dd)), (13, .int (iI (im : Int))), (14, .int (iI (T 21 0))), (15, .int (iI (T 12 0))), (16, .int (iI (bk : Int)))] := by rw [he.1 0, he.2.2.2.2.1 0, he.2.2.2.2.1 1, he.2.2.2.2.1 2]; exact hl
      refine lv_istore (lv' := [(19, .int (iI (-3))), (18, .int (iI (T 28 u9))), (17, .int (iI (u9 : Int))), (0, .ref b), (1, .ref (ad 0 0)), (2, .ref (ad 6 0)), (3, .ref (ad 6 1)), (4, .ref (ad 6 2)), (5, .int (iI (T 8 0))), (6, .int (iI (T 29 0))), (7, .int (iI 1)), (8, .int (iI tn)), (9, .int (iI (t : Int))), (10, .int (iI x)), (11, .int (iI y)), (12, .int (iI dd)), (13, .int (iI (im : Int))), (14, .int (iI (T 21 0))), (15, .int (iI (T 12 0))), (16, .int (iI (bk : Int)))]) hx hb dL_law_1547 hl (by decide) rfl (fun ls hl => ?_)
      refine lv_iload hx hb dL_law_1549 (lv_at hl 14 rfl) ?_
      refine wa_bi F dL_law_1551 (by decide +kernel) ?_
      refine wl_shr 6 64 F (by have q0 := (show wa_r y from ⟨by omega, by omega⟩); exact ⟨by omega, by omega⟩) (by decide +kernel) rfl dL_law_1553 ?_
      refine wa_const F dL_law_1554 ?_
      refine wl_and 2 4 F (by decide) (by decide +kernel) rfl (by decide) dL_law_1555 ?_
      refine wa_if_ne (tgt := 1584) F dL_law_1556 (by decide) (by have q0 := (show wa_r y from ⟨by omega, by omega⟩); exact ⟨by omega, by omega⟩) (fun c1556 => ?_) (fun c1556 => absurd c1556 (by omega))
      refine lv_iload hx hb dL_law_1584 (lv_at hl 0 rfl) ?_
      refine wa_const F dL_law_1586 ?_
      refine wa_ic_ne (tgt := 1604) F dL_law_1587 (by decide) (by decide) (by decide) (fun c1587 => ?_) (fun c1587 => absurd c1587 (by decide))
      refine lv_iload hx hb dL_law_1604 (lv_at hl 0 rfl) ?_
      refine wa_bi F dL_law_1606 (by decide +kernel) ?_
      refine wa_ic_ne (tgt := 1630) F dL_law_1608 (by decide) (by decide) (by decide) (fun c1608 => absurd c1608 (by decide)) (fun c1608 => ?_)
      refine lv_aload_n hx hb dL_law_1611 rfl (lv_at hl 4 rfl) ?_
      refine lv_iload hx hb dL_law_1612 (lv_at hl 2 rfl) ?_
      refine ql_runsFrom (i := (u9 : Int)) hlt F hTB hA hg1.1 hxr hj hw hS (show (0 : Int) ≤ (u9 : Int) ∧ (u9 : Int) < T1 29 0 by omega) ⟨by decide, by decide⟩ (Nat.le_of_ble_eq_true rfl) hl.1 dL_law_1614 ⟨Nat.le_trans (show _ ≤ 300000 by omega) (Nat.le_of_ble_eq_true rfl), Nat.le_trans (show _ ≤ 2000000 by omega) (Nat.le_of_ble_eq_true rfl)⟩ (fun X H locs hxr hj hw hS => ?_)
      refine W.eq (g2 := F0 m 1617 ls [.int (iI (T1 28 u9))]) rfl ?_
      refine lv_iload hx hb dL_law_1617 (lv_at hl 1 rfl) ?_
      refine wa_ic_ne (tgt := 1626) F dL_law_1619 (by decide) (by have q0 := hg1.1.1 28 u9; exact ⟨by omega, by omega⟩) (by have q0 := hB 28 u9; exact ⟨by omega, by omega⟩) (fun c1619 => absurd c1619 (by omega)) (fun c1619 => ?_)
      refine wa_const F dL_law_1622 ?_
      refine wa_goto (tgt := 1668) F dL_law_1623 (by decide) ?_
      refine lv_istore (lv' := [(7, .int (iI 1)), (19, .int (iI (-3))), (18, .int (iI (T 28 u9))), (17, .int (iI (u9 : Int))), (0, .ref b), (1, .ref (ad 0 0)), (2, .ref (ad 6 0)), (3, .ref (ad 6 1)), (4, .ref (ad 6 2)), (5, .int (iI (T 8 0))), (6, .int (iI (T 29 0))), (8, .int (iI tn)), (9, .int (iI (t : Int))), (10, .int (iI x)), (11, .int (iI y)), (12, .int (iI dd)), (13, .int (iI (im : Int))), (14, .int (iI (T 21 0))), (15, .int (iI (T 12 0))), (16, .int (iI (bk : Int)))]) hx hb dL_law_1668 hl (by decide) rfl (fun ls hl => ?_)
      refine wa_goto (tgt := 1799) F dL_law_1670 (by decide) ?_
      refine W.widen (k := 600 + 700 * t) (n := 5200 + 4200 * t) (by omega) (by omega) ?_
      exact hE ad X (T1) (G) _ _ ls (hg1.le (by omega)) hm1 hG1 ⟨fun z => by omega, fun z => by omega⟩ hxr hj hw hS (by rw [a8, a29]; exact lv_sub hl [4, 5, 6, 7, 8, 9, 10, 0, 11, 12] rfl)
    · skip
      have hG1 := hG1 G hG
      generalize hT1 : a_renew T (u9 : Int) = T1 at *
      have vs1 := vs_t hg1 (f_next T u9).toNat
      refine lv_aload_n hx hb dL_law_1541 rfl (lv_at hl 3 rfl) ?_
      refine lv_iload hx hb dL_law_1542 (lv_at hl 1 rfl) ?_
      refine va_calli (wl_runS F hTB hN hS (c_L_renewed l hlt D cy ad (T) X (G) o A hj hA hg hxr (u9 : Int) ⟨by omega, by omega⟩ (T1) ((f_next T u9)) (Or.inl k0) (fun _ => ⟨hT1.symm, by rw [Int.toNat_natCast]⟩) (fun z => absurd (k0.symm.trans z) (by decide)) (fun z => absurd (k0.symm.trans z) (by decide))) qw_519 qw_520 qw_30 qw_521 ⟨by decide, by decide, rfl⟩ ⟨by decide, by decide⟩ ⟨rfl, rfl⟩ hw rfl rfl (Nat.le_of_ble_eq_true rfl) hl.1 dL_law_1544 ⟨Nat.le_trans (show _ ≤ 300000 by omega) (Nat.le_of_ble_eq_true rfl), Nat.le_trans (show _ ≤ 2000000 by omega) (Nat.le_of_ble_eq_true rfl)⟩) hS (fun _ _ h => h) (fun _ h => h) (fun r u t9 H locs ht9 hvm9 hq9 hB9 hz9 hk9 hS => ?_)
      obtain ⟨ad, X⟩ := u
      obtain ⟨hr9, hxr, hj, he⟩ := hq9
      have hxr : xr (T1) X := hxr
      have hj : wa_wj A ad (wW cy ad T1 X G o) := hj
      have hw : wa_wd D ad (wW cy ad T1 X G o) H := by rw [← ht9]; exact hB9
      rw [hr9]
      dsimp only at he
      have hl : lv_has ls 21 [(18, .int (iI (T 28 u9))), (17, .int (iI (u9 : Int))), (0, .ref b), (1, .ref (ad 0 0)), (2, .ref (ad 6 0)), (3, .ref (ad 6 1)), (4, .ref (ad 6 2)), (5, .int (iI (T 8 0))), (6, .int (iI (T 29 0))), (7, .int (iI 1)), (8, .int (iI tn)), (9, .int (iI (t : Int))), (10, .int (iI x)), (11, .int (iI y)), (12, .int (iI dd)), (13, .int (iI (im : Int))), (14, .int (iI (T 21 0))), (15, .int (iI (T 12 0))), (16, .int (iI (bk : Int)))] := by rw [he.1 0, he.2.2.2.2.1 0, he.2.2.2.2.1 1, he.2.2.2.2.1 2]; exact hl
      refine lv_istore (lv' := [(19, .int (iI (f_next T u9))), (18, .int (iI (T 28 u9))), (17, .int (iI (u9 : Int))), (0, .ref b), (1, .ref (ad 0 0)), (2, .ref (ad 6 0)), (3, .ref (ad 6 1)), (4, .ref (ad 6 2)), (5, .int (iI (T 8 0))), (6, .int (iI (T 29 0))), (7, .int (iI 1)), (8, .int (iI tn)), (9, .int (iI (t : Int))), (10, .int (iI x)), (11, .int (iI y)), (12, .int (iI dd)), (13, .int (iI (im : Int))), (14, .int (iI (T 21 0))), (15, .int (iI (T 12 0))), (16, .int (iI (bk : Int)))]) hx hb dL_law_1547 hl (by decide) rfl (fun ls hl => ?_)
      refine lv_iload hx hb dL_law_1549 (lv_at hl 14 rfl) ?_
      refine wa_bi F dL_law_1551 (by decide +kernel) ?_
      refine wl_shr 6 64 F (by have q0 := (show wa_r y from ⟨by omega, by omega⟩); exact ⟨by omega, by omega⟩) (by decide +kernel) rfl dL_law_1553 ?_
      refine wa_const F dL_law_1554 ?_
      refine wl_and 2 4 F (by decide) (by decide +kernel) rfl (by decide) dL_law_1555 ?_
      refine wa_if_ne (tgt := 1584) F dL_law_1556 (by decide) (by have q0 := (show wa_r y from ⟨by omega, by omega⟩); exact ⟨by omega, by omega⟩) (fun c1556 => ?_) (fun c1556 => absurd c1556 (by omega))
      refine lv_iload hx hb dL_law_1584 (lv_at hl 0 rfl) ?_
      refine wa_const F dL_law_1586 ?_
      refine wa_ic_ne (tgt := 1604) F dL_law_1587 (by decide) (by have q0 := (show wa_r (f_next T u9) from ⟨by omega, by omega⟩); exact ⟨by omega, by omega⟩) (by decide) (fun c1587 => ?_) (fun c1587 => absurd c1587 (by omega))
      refine lv_iload hx hb dL_law_1604 (lv_at hl 0 rfl) ?_
      refine wa_bi F dL_law_1606 (by decide +kernel) ?_
      refine wa_ic_ne (tgt := 1630) F dL_law_1608 (by decide) (by have q0 := (show wa_r (f_next T u9) from ⟨by omega, by omega⟩); exact ⟨by omega, by omega⟩) (by decide) (fun c1608 => ?_) (fun c1608 => absurd c1608 (by omega))
      refine lv_aload_n hx hb dL_law_1630 rfl (lv_at hl 4 rfl) ?_
      refine lv_iload hx hb dL_law_1631 (lv_at hl 2 rfl) ?_
      refine ql_runsFrom (i := (u9 : Int)) hlt F hTB hA hg1.1 hxr hj hw hS (show (0 : Int) ≤ (u9 : Int) ∧ (u9 : Int) < T1 29 0 by omega) ⟨by decide, by decide⟩ (Nat.le_of_ble_eq_true rfl) hl.1 dL_law_1633 ⟨Nat.le_trans (show _ ≤ 300000 by omega) (Nat.le_of_ble_eq_true rfl), Nat.le_trans (show _ ≤ 2000000 by omega) (Nat.le_of_ble_eq_true rfl)⟩ (fun X H locs hxr hj hw hS => ?_)
      refine W.eq (g2 := F0 m 1636 ls [.int (iI (T1 28 u9))]) rfl ?_
      refine lv_iload hx hb dL_law_1636 (lv_at hl 0 rfl) ?_
      refine wa_ic_ne (tgt := 1667) F dL_law_1638 (by decide) (by have q0 := hg1.1.1 28 u9; exact ⟨by omega, by omega⟩) (by have q0 := (show wa_r (f_next T u9) from ⟨by omega, by omega⟩); exact ⟨by omega, by omega⟩) (fun c1638 => absurd c1638 (by omega)) (fun c1638 => ?_)
      refine lv_aload_n hx hb dL_law_1641 rfl (lv_at hl 4 rfl) ?_
      refine lv_iload hx hb dL_law_1642 (lv_at hl 0 rfl) ?_
      refine ql_state (i := (f_next T u9)) hlt F hTB hA hg1.1 hxr hj hw hS (show 0 ≤ f_next T u9 ∧ f_next T u9 < T1 21 0 by omega) ⟨by decide, by decide⟩ (Nat.le_of_ble_eq_true rfl) hl.1 dL_law_1644 ⟨Nat.le_trans (show _ ≤ 300000 by omega) (Nat.le_of_ble_eq_true rfl), Nat.le_trans (show _ ≤ 2000000 by omega) (Nat.le_of_ble_eq_true rfl)⟩ (fun X H locs hxr hj hw hS => ?_)
      refine W.eq (g2 := F0 m 1647 ls [.int (iI (v_state T1 ((f_next T u9).toNat)))]) rfl ?_
      refine wa_bi F dL_law_1647 (by decide +kernel) ?_
      refine wa_ic_ge (tgt := 1667) F dL_law_1649 (by decide) (by have q0 := (vs_t hg1 ((f_next T u9).toNat)).1; exact ⟨by omega, by omega⟩) (by decide) (fun c1649 => absurd c1649 (by omega)) (fun c1649 => ?_)
      rcases w_renew hg1 hm1 (u := u9) (by omega) with ⟨k2, d28⟩ | ⟨k2, d28, d29⟩ | ⟨k2, d28, fr2, hg2, hm2, ⟨b8, b12, b21, b29⟩, f28, w10, fe2, hG2⟩
      · exact absurd d28 (by omega)
      · exact absurd d29 (by omega)
      have hG2 := hG2 G hG1
      generalize hT2 : a_renew T1 (u9 : Int) = T2 at *
      have f8 := b8.trans a8
      have f29 := b29.trans a29
      refine lv_aload_n hx hb dL_law_1652 rfl (lv_at hl 4 rfl) ?_
      refine lv_iload hx hb dL_law_1653 (lv_at hl 2 rfl) ?_
      refine va_calli (wl_runS F hTB hN hS (c_L_renewed l hlt D cy ad (T1) X (G) o A hj hA hg1 hxr (u9 : Int) ⟨by omega, by omega⟩ (T2) ((f_next T u9)) (Or.inl k2) (fun _ => ⟨hT2.symm, by rw [Int.toNat_natCast, fe]⟩) (fun z => absurd (k2.symm.trans z) (by decide)) (fun z => absurd (k2.symm.trans z) (by decide))) qw_519 qw_520 qw_30 qw_521 ⟨by decide, by decide, rfl⟩ ⟨by decide, by decide⟩ ⟨rfl, rfl⟩ hw rfl rfl (Nat.le_of_ble_eq_true rfl) hl.1 dL_law_1655 ⟨Nat.le_trans (show _ ≤ 300000 by omega) (Nat.le_of_ble_eq_true rfl), Nat.le_trans (show _ ≤ 2000000 by omega) (Nat.le_of_ble_eq_true rfl)⟩) hS (fun _ _ h => h) (fun _ h => h) (fun r u t9 H locs ht9 hvm9 hq9 hB9 hz9 hk9 hS => ?_)
      obtain ⟨ad, X⟩ := u
      obtain ⟨hr9, hxr, hj, he⟩ := hq9
      have hxr : xr (T2) X := hxr
      have hj : wa_wj A ad (wW cy ad T2 X G o) := hj
      have hw : wa_wd D ad (wW cy ad T2 X G o) H := by rw [← ht9]; exact hB9
      rw [hr9]
      dsimp only at he
      have hl : lv_has ls 21 [(19, .int (iI (f_next T u9))), (18, .int (iI (T 28 u9))), (17, .int (iI (u9 : Int))), (0, .ref b), (1, .ref (ad 0 0)), (2, .ref (ad 6 0)), (3, .ref (ad 6 1)), (4, .ref (ad 6 2)), (5, .int (iI (T 8 0))), (6, .int (iI (T 29 0))), (7, .int (iI 1)), (8, .int (iI tn)), (9, .int (iI (t : Int))), (10, .int (iI x)), (11, .int (iI y)), (12, .int (iI dd)), (13, .int (iI (im : Int))), (14, .int (iI (T 21 0))), (15, .int (iI (T 12 0))), (16, .int (iI (bk : Int)))] := by rw [he.1 0, he.2.2.2.2.1 0, he.2.2.2.2.1 1, he.2.2.2.2.1 2]; exact hl
      refine lv_iload hx hb dL_law_1658 (lv_at hl 0 rfl) ?_
      refine wa_ic_ne (tgt := 1667) F dL_law_1660 (by decide) (by have q0 := (show wa_r (f_next T u9) from ⟨by omega, by omega⟩); exact ⟨by omega, by omega⟩) (by have q0 := (show wa_r (f_next T u9) from ⟨by omega, by omega⟩); exact ⟨by omega, by omega⟩) (fun c1660 => absurd c1660 (by omega)) (fun c1660 => ?_)
      refine wa_const F dL_law_1663 ?_
      refine wa_goto (tgt := 1668) F dL_law_1664 (by decide) ?_
      refine lv_istore (lv' := [(7, .int (iI 1)), (19, .int (iI (f_next T u9))), (18, .int (iI (T 28 u9))), (17, .int (iI (u9 : Int))), (0, .ref b), (1, .ref (ad 0 0)), (2, .ref (ad 6 0)), (3, .ref (ad 6 1)), (4, .ref (ad 6 2)), (5, .int (iI (T 8 0))), (6, .int (iI (T 29 0))), (8, .int (iI tn)), (9, .int (iI (t : Int))), (10, .int (iI x)), (11, .int (iI y)), (12, .int (iI dd)), (13, .int (iI (im : Int))), (14, .int (iI (T 21 0))), (15, .int (iI (T 12 0))), (16, .int (iI (bk : Int)))]) hx hb dL_law_1668 hl (by decide) rfl (fun ls hl => ?_)
      refine wa_goto (tgt := 1799) F dL_law_1670 (by decide) ?_
      refine W.widen (k := 600 + 700 * t) (n := 5200 + 4200 * t) (by omega) (by omega) ?_
      exact hE ad X (T2) (G) _ _ ls (hg2.le (by omega)) hm2 hG2 ⟨fun z => by omega, fun z => by omega⟩ hxr hj hw hS (by rw [f8, f29]; exact lv_sub hl [4, 5, 6, 7, 8, 9, 10, 0, 11, 12] rfl)
  · skip
    rcases w_stop hg hm hu with ⟨k0, c28⟩ | ⟨k0, hg1, hm1, ⟨a8, a12, a21, a29⟩, e28, hG1⟩
    · skip
      have hg1 := hg.th (k := 1) (by decide)
      have hm1 := hm.th 1
      have hG1 := hG.th 1
      have a8 : wa_s T 0 0 1 8 0 = T 8 0 := rfl
      have a12 : wa_s T 0 0 1 12 0 = T 12 0 := rfl
      have a21 : wa_s T 0 0 1 21 0 = T 21 0 := rfl
      have a29 : wa_s T 0 0 1 29 0 = T 29 0 := rfl
      have e28 : wa_s T 0 0 1 28 u9 = -1 := c28
      generalize hT1 : wa_s T 0 0 1 = T1 at *
      refine lv_aload_n hx hb dL_law_1532 rfl (lv_at hl 3 rfl) ?_
      refine lv_iload hx hb dL_law_1533 (lv_at hl 1 rfl) ?_
      refine va_calli (wl_runS F hTB hN hS (c_L_stopped l hlt D cy ad (T) X (G) o A hj hA hg hxr (u9 : Int) ⟨by omega, by omega⟩ (T1) ((-1)) (Or.inr k0) (fun z => absurd (k0.symm.trans z) (by decide)) (fun _ => ⟨hT1.symm, rfl⟩)) qw_533 qw_534 qw_30 qw_535 ⟨by decide, by decide, rfl⟩ ⟨by decide, by decide⟩ ⟨rfl, rfl⟩ hw rfl rfl (Nat.le_of_ble_eq_true rfl) hl.1 dL_law_1535 ⟨Nat.le_trans (show _ ≤ 300000 by omega) (Nat.le_of_ble_eq_true rfl), Nat.le_trans (show _ ≤ 2000000 by omega) (Nat.le_of_ble_eq_true rfl)⟩) hS (fun _ _ h => h) (fun _ h => h) (fun r u t9 H locs ht9 hvm9 hq9 hB9 hz9 hk9 hS => ?_)
      obtain ⟨ad, X⟩ := u
      obtain ⟨hr9, hxr, hj, he⟩ := hq9
      have hxr : xr (T1) X := hxr
      have hj : wa_wj A ad (wW cy ad T1 X G o) := hj
      have hw : wa_wd D ad (wW cy ad T1 X G o) H := by rw [← ht9]; exact hB9
      rw [hr9]
      dsimp only at he
      have hl : lv_has ls 21 [(18, .int (iI (T 28 u9))), (17, .int (iI (u9 : Int))), (0, .ref b), (1, .ref (ad 0 0)), (2, .ref (ad 6 0)), (3, .ref (ad 6 1)), (4, .ref (ad 6 2)), (5, .int (iI (T 8 0))), (6, .int (iI (T 29 0))), (7, .int (iI 1)), (8, .int (iI tn)), (9, .int (iI (t : Int))), (10, .int (iI x)), (11, .int (iI y)), (12, .int (iI dd)), (13, .int (iI (im : Int))), (14, .int (iI (T 21 0))), (15, .int (iI (T 12 0))), (16, .int (iI (bk : Int)))] := by rw [he.1 0, he.2.2.2.2.1 0, he.2.2.2.2.1 1, he.2.2.2.2.1 2]; exact hl
      refine wa_goto (tgt := 1547) F dL_law_1538 (by decide) ?_
      refine lv_istore (lv' := [(19, .int (iI (-1))), (18, .int (iI (T 28 u9))), (17, .int (iI (u9 : Int))), (0, .ref b), (1, .ref (ad 0 0)), (2, .ref (ad 6 0)), (3, .ref (ad 6 1)), (4, .ref (ad 6 2)), (5, .int (iI (T 8 0))), (6, .int (iI (T 29 0))), (7, .int (iI 1)), (8, .int (iI tn)), (9, .int (iI (t : Int))), (10, .int (iI x)), (11, .int (iI y)), (12, .int (iI dd)), (13, .int (iI (im : Int))), (14, .int (iI (T 21 0))), (15, .int (iI (T 12 0))), (16, .int (iI (bk : Int)))]) hx hb dL_law_1547 hl (by decide) rfl (fun ls hl => ?_)
      refine lv_iload hx hb dL_law_1549 (lv_at hl 14 rfl) ?_
      refine wa_bi F dL_law_1551 (by decide +kernel) ?_
      refine wl_shr 6 64 F (by have q0 := (show wa_r y from ⟨by omega, by omega⟩); exact ⟨by omega, by omega⟩) (by decide +kernel) rfl dL_law_1553 ?_
      refine wa_const F dL_law_1554 ?_
      refine wl_and 2 4 F (by decide) (by decide +kernel) rfl (by decide) dL_law_1555 ?_
      refine wa_if_ne (tgt := 1584) F dL_law_1556 (by decide) (by have q0 := (show wa_r y from ⟨by omega, by omega⟩); exact ⟨by omega, by omega⟩) (fun c1556 => absurd c1556 (by omega)) (fun c1556 => ?_)
      refine lv_iload hx hb dL_law_1559 (lv_at hl 0 rfl) ?_
      refine lv_iload hx hb dL_law_1561 (lv_at hl 1 rfl) ?_
      refine wa_ic_ne (tgt := 1580) F dL_law_1563 (by decide) (by decide) (by have q0 := hB 28 u9; exact ⟨by omega, by omega⟩) (fun c1563 => absurd c1563 (by omega)) (fun c1563 => ?_)
      refine lv_aload_n hx hb dL_law_1566 rfl (lv_at hl 4 rfl) ?_
      refine lv_iload hx hb dL_law_1567 (lv_at hl 2 rfl) ?_
      refine ql_runsFrom (i := (u9 : Int)) hlt F hTB hA hg1.1 hxr hj hw hS (show (0 : Int) ≤ (u9 : Int) ∧ (u9 : Int) < T1 29 0 by omega) ⟨by decide, by decide⟩ (Nat.le_of_ble_eq_true rfl) hl.1 dL_law_1569 ⟨Nat.le_trans (show _ ≤ 300000 by omega) (Nat.le_of_ble_eq_true rfl), Nat.le_trans (show _ ≤ 2000000 by omega) (Nat.le_of_ble_eq_true rfl)⟩ (fun X H locs hxr hj hw hS => ?_)
      refine W.eq (g2 := F0 m 1572 ls [.int (iI (T1 28 u9))]) rfl ?_
      refine wa_const F dL_law_1572 ?_
      refine wa_ic_ne (tgt := 1580) F dL_law_1573 (by decide) (by have q0 := hg1.1.1 28 u9; exact ⟨by omega, by omega⟩) (by decide) (fun c1573 => absurd c1573 (by omega)) (fun c1573 => ?_)
      refine wa_const F dL_law_1576 ?_
      refine wa_goto (tgt := 1668) F dL_law_1577 (by decide) ?_
      refine lv_istore (lv' := [(7, .int (iI 1)), (19, .int (iI (-1))), (18, .int (iI (T 28 u9))), (17, .int (iI (u9 : Int))), (0, .ref b), (1, .ref (ad 0 0)), (2, .ref (ad 6 0)), (3, .ref (ad 6 1)), (4, .ref (ad 6 2)), (5, .int (iI (T 8 0))), (6, .int (iI (T 29 0))), (8, .int (iI tn)), (9, .int (iI (t : Int))), (10, .int (iI x)), (11, .int (iI y)), (12, .int (iI dd)), (13, .int (iI (im : Int))), (14, .int (iI (T 21 0))), (15, .int (iI (T 12 0))), (16, .int (iI (bk : Int)))]) hx hb dL_law_1668 hl (by decide) rfl (fun ls hl => ?_)
      refine wa_goto (tgt := 1799) F dL_law_1670 (by decide) ?_
      refine W.widen (k := 600 + 700 * t) (n := 5200 + 4200 * t) (by omega) (by omega) ?_
      exact hE ad X (T1) (G) _ _ ls (hg1.le (by omega)) hm1 hG1 ⟨fun z => by omega, fun z => by omega⟩ hxr hj hw hS (by rw [a8, a29]; exact lv_sub hl [4, 5, 6, 7, 8, 9, 10, 0, 11, 12] rfl)
    · skip
      have hG1 := hG1 G hG
      generalize hT1 : a_stop T (u9 : Int) = T1 at *
      refine lv_aload_n hx hb dL_law_1532 rfl (lv_at hl 3 rfl) ?_
      refine lv_iload hx hb dL_law_1533 (lv_at hl 1 rfl) ?_
      refine va_calli (wl_runS F hTB hN hS (c_L_stopped l hlt D cy ad (T) X (G) o A hj hA hg hxr (u9 : Int) ⟨by omega, by omega⟩ (T1) ((T 28 u9)) (Or.inl k0) (fun _ => ⟨hT1.symm, by rw [Int.toNat_natCast]⟩) (fun z => absurd (k0.symm.trans z) (by decide))) qw_533 qw_534 qw_30 qw_535 ⟨by decide, by decide, rfl⟩ ⟨by decide, by decide⟩ ⟨rfl, rfl⟩ hw rfl rfl (Nat.le_of_ble_eq_true rfl) hl.1 dL_law_1535 ⟨Nat.le_trans (show _ ≤ 300000 by omega) (Nat.le_of_ble_eq_true rfl), Nat.le_trans (show _ ≤ 2000000 by omega) (Nat.le_of_ble_eq_true rfl)⟩) hS (fun _ _ h => h) (fun _ h => h) (fun r u t9 H locs ht9 hvm9 hq9 hB9 hz9 hk9 hS => ?_)
      obtain ⟨ad, X⟩ := u
      obtain ⟨hr9, hxr, hj, he⟩ := hq9
      have hxr : xr (T1) X := hxr
      have hj : wa_wj A ad (wW cy ad T1 X G o) := hj
      have hw : wa_wd D ad (wW cy ad T1 X G o) H := by rw [← ht9]; exact hB9
      rw [hr9]
      dsimp only at he
      have hl : lv_has ls 21 [(18, .int (iI (T 28 u9))), (17, .int (iI (u9 : Int))), (0, .ref b), (1, .ref (ad 0 0)), (2, .ref (ad 6 0)), (3, .ref (ad 6 1)), (4, .ref (ad 6 2)), (5, .int (iI (T 8 0))), (6, .int (iI (T 29 0))), (7, .int (iI 1)), (8, .int (iI tn)), (9, .int (iI (t : Int))), (10, .int (iI x)), (11, .int (iI y)), (12, .int (iI dd)), (13, .int (iI (im : Int))), (14, .int (iI (T 21 0))), (15, .int (iI (T 12 0))), (16, .int (iI (bk : Int)))] := by rw [he.1 0, he.2.2.2.2.1 0, he.2.2.2.2.1 1, he.2.2.2.2.1 2]; exact hl
      refine wa_goto (tgt := 1547) F dL_law_1538 (by decide) ?_
      refine lv_istore (lv' := [(19, .int (iI (T 28 u9))), (18, .int (iI (T 28 u9))), (17, .int (iI (u9 : Int))), (0, .ref b), (1, .ref (ad 0 0)), (2, .ref (ad 6 0)), (3, .ref (ad 6 1)), (4, .ref (ad 6 2)), (5, .int (iI (T 8 0))), (6, .int (iI (T 29 0))), (7, .int (iI 1)), (8, .int (iI tn)), (9, .int (iI (t : Int))), (10, .int (iI x)), (11, .int (iI y)), (12, .int (iI dd)), (13, .int (iI (im : Int))), (14, .int (iI (T 21 0))), (15, .int (iI (T 12 0))), (16, .int (iI (bk : Int)))]) hx hb dL_law_1547 hl (by decide) rfl (fun ls hl => ?_)
      refine lv_iload hx hb dL_law_1549 (lv_at hl 14 rfl) ?_
      refine wa_bi F dL_law_1551 (by decide +kernel) ?_
      refine wl_shr 6 64 F (by have q0 := (show wa_r y from ⟨by omega, by omega⟩); exact ⟨by omega, by omega⟩) (by decide +kernel) rfl dL_law_1553 ?_
      refine wa_const F dL_law_1554 ?_
      refine wl_and 2 4 F (by decide) (by decide +kernel) rfl (by decide) dL_law_1555 ?_
      refine wa_if_ne (tgt := 1584) F dL_law_1556 (by decide) (by have q0 := (show wa_r y from ⟨by omega, by omega⟩); exact ⟨by omega, by omega⟩) (fun c1556 => absurd c1556 (by omega)) (fun c1556 => ?_)
      refine lv_iload hx hb dL_law_1559 (lv_at hl 0 rfl) ?_
      refine lv_iload hx hb dL_law_1561 (lv_at hl 1 rfl) ?_
      refine wa_ic_ne (tgt := 1580) F dL_law_1563 (by decide) (by have q0 := hB 28 u9; exact ⟨by omega, by omega⟩) (by have q0 := hB 28 u9; exact ⟨by omega, by omega⟩) (fun c1563 => absurd c1563 (by omega)) (fun c1563 => ?_)
      refine lv_aload_n hx hb dL_law_1566 rfl (lv_at hl 4 rfl) ?_
      refine lv_iload hx hb dL_law_1567 (lv_at hl 2 rfl) ?_
      refine ql_runsFrom (i := (u9 : Int)) hlt F hTB hA hg1.1 hxr hj hw hS (show (0 : Int) ≤ (u9 : Int) ∧ (u9 : Int) < T1 29 0 by omega) ⟨by decide, by decide⟩ (Nat.le_of_ble_eq_true rfl) hl.1 dL_law_1569 ⟨Nat.le_trans (show _ ≤ 300000 by omega) (Nat.le_of_ble_eq_true rfl), Nat.le_trans (show _ ≤ 2000000 by omega) (Nat.le_of_ble_eq_true rfl)⟩ (fun X H locs hxr hj hw hS => ?_)
      refine W.eq (g2 := F0 m 1572 ls [.int (iI (T1 28 u9))]) rfl ?_
      refine wa_const F dL_law_1572 ?_
      refine wa_ic_ne (tgt := 1580) F dL_law_1573 (by decide) (by have q0 := hg1.1.1 28 u9; exact ⟨by omega, by omega⟩) (by decide) (fun c1573 => absurd c1573 (by omega)) (fun c1573 => ?_)
      refine wa_const F dL_law_1576 ?_
      refine wa_goto (tgt := 1668) F dL_law_1577 (by decide) ?_
      refine lv_istore (lv' := [(7, .int (iI 1)), (19, .int (iI (T 28 u9))), (18, .int (iI (T 28 u9))), (17, .int (iI (u9 : Int))), (0, .ref b), (1, .ref (ad 0 0)), (2, .ref (ad 6 0)), (3, .ref (ad 6 1)), (4, .ref (ad 6 2)), (5, .int (iI (T 8 0))), (6, .int (iI (T 29 0))), (8, .int (iI tn)), (9, .int (iI (t : Int))), (10, .int (iI x)), (11, .int (iI y)), (12, .int (iI dd)), (13, .int (iI (im : Int))), (14, .int (iI (T 21 0))), (15, .int (iI (T 12 0))), (16, .int (iI (bk : Int)))]) hx hb dL_law_1668 hl (by decide) rfl (fun ls hl => ?_)
      refine wa_goto (tgt := 1799) F dL_law_1670 (by decide) ?_
      refine W.widen (k := 600 + 700 * t) (n := 5200 + 4200 * t) (by omega) (by omega) ?_
      exact hE ad X (T1) (G) _ _ ls (hg1.le (by omega)) hm1 hG1 ⟨fun z => by omega, fun z => by omega⟩ hxr hj hw hS (by rw [a8, a29]; exact lv_sub hl [4, 5, 6, 7, 8, 9, 10, 0, 11, 12] rfl)
set_option maxRecDepth 100000 in
set_option maxHeartbeats 4000000 in
theorem law_d_pass (hF : law_F p l s m meth c D cy A b L xs) (hE : law_E p l e s m below meth c D cy A b Q o tn t) (ht : t < 280) (htn : -100000 ≤ tn ∧ tn ≤ 100000) (hg : gi (2 * t) T) (hm : mg T) (hG : LG T G) (h3 : ic t T) (hxr : xr T X) (hj : wa_wj A ad (wW cy ad T X G o)) (hw : wa_wd D ad (wW cy ad T X G o) H) (hS : va_S A s.heap H locs) (hy : 0 ≤ y ∧ y < 268435456) (ht3 : 3 ≤ t) (hl : lv_has ls 21 [(0, .ref b), (1, .ref (ad 0 0)), (2, .ref (ad 6 0)), (3, .ref (ad 6 1)), (4, .ref (ad 6 2)), (5, .int (iI (T 8 0))), (6, .int (iI (T 29 0))), (7, .int (iI 1)), (8, .int (iI tn)), (9, .int (iI (t : Int))), (10, .int (iI x)), (11, .int (iI y)), (12, .int (iI dd)), (13, .int (iI (im : Int))), (14, .int (iI (T 21 0))), (15, .int (iI (T 12 0))), (16, .int (iI (bk : Int)))]) : W p l e room_1 s m #[Value.ref b] below meth c H locs (400 + 700 * t) (4000 + 4200 * t) (Q) (F0 m 1673 ls []) := by
  obtain ⟨F, hTB, hN, hA, hlt, hX, hbl, hbA, hL⟩ := id hF
  obtain ⟨hx, hb, hml, hown, hts⟩ := id F.1
  obtain ⟨hB, w8, w21, w12, w29, w4, w7, w6, w5, w13, w25, w26, w28, w14, w3, wf17⟩ := id hg.1
  have h3a := h3.1
  have h3b := h3.2
  refine wa_const F dL_law_1673 ?_
  refine lv_istore (lv' := [(17, .int (iI 0)), (0, .ref b), (1, .ref (ad 0 0)), (2, .ref (ad 6 0)), (3, .ref (ad 6 1)), (4, .ref (ad 6 2)), (5, .int (iI (T 8 0))), (6, .int (iI (T 29 0))), (7, .int (iI 1)), (8, .int (iI tn)), (9, .int (iI (t : Int))), (10, .int (iI x)), (11, .int (iI y)), (12, .int (iI dd)), (13, .int (iI (im : Int))), (14, .int (iI (T 21 0))), (15, .int (iI (T 12 0))), (16, .int (iI (bk : Int)))]) hx hb dL_law_1674 hl (by decide) rfl (fun ls hl => ?_)
  refine wa_const F dL_law_1676 ?_
  refine lv_istore (lv' := [(18, .int (iI 0)), (17, .int (iI 0)), (0, .ref b), (1, .ref (ad 0 0)), (2, .ref (ad 6 0)), (3, .ref (ad 6 1)), (4, .ref (ad 6 2)), (5, .int (iI (T 8 0))), (6, .int (iI (T 29 0))), (7, .int (iI 1)), (8, .int (iI tn)), (9, .int (iI (t : Int))), (10, .int (iI x)), (11, .int (iI y)), (12, .int (iI dd)), (13, .int (iI (im : Int))), (14, .int (iI (T 21 0))), (15, .int (iI (T 12 0))), (16, .int (iI (bk : Int)))]) hx hb dL_law_1677 hl (by decide) rfl (fun ls hl => ?_)
  have loop1679 : ∀ (k : Nat) (bx : Nat) (gv : Int) (X : wa_St) (H : Heap) (locs : List Loc), (bx + k = (T 21 0).toNat) → (gv = 0 - f_cnt (p_gone T) bx) → xr T X → wa_wj A ad (wW cy ad T X G o) → wa_wd D ad (wW cy ad T X G o) H → va_S A s.heap H locs → ∀ ls : Array Slot, lv_has ls 21 [(0, .ref b), (1, .ref (ad 0 0)), (2, .ref (ad 6 0)), (3, .ref (ad 6 1)), (4, .ref (ad 6 2)), (5, .int (iI (T 8 0))), (6, .int (iI (T 29 0))), (7, .int (iI 1)), (8, .int (iI tn)), (9, .int (iI (t : Int))), (10, .int (iI x)), (11, .int (iI y)), (12, .int (iI dd)), (13, .int (iI (im : Int))), (14, .int (iI (T 21 0))), (15, .int (iI (T 12 0))), (16, .int (iI (bk : Int))), (17, .int (iI gv)), (18, .int (iI (bx : Int)))] → W p l e room_1 s m #[Value.ref b] below meth c H locs (400 + 700 * t + bx) (4000 + 4200 * t + 6 * bx) (Q) (F0 m 1679 ls []) := by
    intro k
    induction k with
    | zero =>
      intro bx gv X H locs hk hgv hxr hj hw hS ls hl
      refine lv_iload hx hb dL_law_1679 (lv_at hl 18 rfl) ?_
      refine lv_iload hx hb dL_law_1681 (lv_at hl 14 rfl) ?_
      refine wa_ic_ge (tgt := 1713) F dL_law_1683 (by decide) (by exact ⟨by omega, by omega⟩) (by have q0 := hB 21 0; exact ⟨by omega, by omega⟩) (fun c1683 => ?_) (fun c1683 => absurd c1683 (by omega))
      have hcr := f_cnt_rng (p_gone T) (T 21 0).toNat
      have hgv2 : gv = 0 - f_cnt (p_gone T) (T 21 0).toNat := by rw [hgv, show bx = (T 21 0).toNat by omega]
      refine lv_aload_n hx hb dL_law_1713 rfl (lv_at hl 1 rfl) ?_
      refine lv_iload hx hb dL_law_1714 (lv_at hl 11 rfl) ?_
      refine wa_const F dL_law_1716 ?_
      refine wl_and 2 4 F (by decide) (by decide +kernel) rfl (by decide) dL_law_1717 ?_
      refine wa_if_le (tgt := 1725) F dL_law_1718 (by decide) (by have q0 := (show wa_r y from ⟨by omega, by omega⟩); exact ⟨by omega, by omega⟩) (fun c1718 => ?_) (fun c1718 => ?_)
      · skip
        refine wa_const F dL_law_1725 ?_
        refine lv_iload hx hb dL_law_1726 (lv_at hl 11 rfl) ?_
        refine wa_const F dL_law_1728 ?_
        refine wl_shr 2 4 F (by have q0 := (show wa_r y from ⟨by omega, by omega⟩); exact ⟨by omega, by omega⟩) (by decide +kernel) rfl dL_law_1729 ?_
        refine wa_bi F dL_law_1730 (by decide +kernel) ?_
        refine wl_rem F (by have q0 := (show wa_r y from ⟨by omega, by omega⟩); omega) (by decide) dL_law_1732 ?_
        refine wa_add F dL_law_1733 ?_
        obtain ⟨k0, hg1, hm1, ⟨a8, a12, a21, a29⟩, hwv, hG1⟩ := w_pass (d := ((1 + ((y / 4) % 12)))) hg (by omega) hm ⟨by omega, by omega⟩
        have hpk := pk_pass hg (by omega) ((1 + ((y / 4) % 12)))
        have hG1 := hG1 G hG
        have hday := hg.2.2.2.2.2.2.2.2.2.1
        refine wl_ci (vL_122 F hTB hS (c_X4_pass l hlt D cy ad T X (G) o A hj hA hg.1 hxr (wx_inj.of hj) ((1 + ((y / 4) % 12))) ⟨by omega, by omega⟩ (by omega)) ⟨by decide, by decide⟩ ⟨rfl, rfl⟩ hw hw rfl rfl rfl (Nat.le_of_ble_eq_true rfl) hl.1 dL_law_1734 ⟨Nat.le_trans (show _ ≤ 300000 by omega) (Nat.le_of_ble_eq_true rfl), Nat.le_trans (show _ ≤ 2000000 by omega) (Nat.le_of_ble_eq_true rfl)⟩) hS (fun E ce q9 u H1 locs1 hE9 hk0 _ _ _ _ _ _ => absurd k0 hk0) (fun u H locs hK hp9 hB9 hS => ?_)
        obtain ⟨ad, X⟩ := u
        have e1 : o_x (k_pass ((1 + ((y / 4) % 12)))) T (f_pin (T 21 0).toNat 0 (wa_s T 1 0 (T 1 0 + ((1 + ((y / 4) % 12))))) 0).1 = (f_pin (T 21 0).toNat 0 (wa_s T 1 0 (T 1 0 + ((1 + ((y / 4) % 12))))) 0).1 := if_pos k0
        have e2 : o_s T (k_pass ((1 + ((y / 4) % 12)))) (f_pout (Int.toNat ((1 + ((y / 4) % 12)))) (wa_s T 0 0 0) 0).1 = (f_pout (Int.toNat ((1 + ((y / 4) % 12)))) (wa_s T 0 0 0) 0).1 := if_pos k0
        rw [e1, e2] at hpk
        obtain ⟨⟨hxr, hj, he⟩, hw⟩ := wl_go hpk hp9 hB9
        rw [hwv]
        generalize hT1 : (f_pout (Int.toNat ((1 + ((y / 4) % 12)))) (wa_s T 0 0 0) 0).1 = T1 at *
        have hxr : xr T1 X := hxr
        have hj : wa_wj A ad (wW cy ad T1 X G o) := hj
        have hw : wa_wd D ad (wW cy ad T1 X G o) H := hw
        have hcr1 := f_cnt_rng (p_gone T1) (T 21 0).toNat
        dsimp only at he
        have hl : lv_has ls 21 [(0, .ref b), (1, .ref (ad 0 0)), (2, .ref (ad 6 0)), (3, .ref (ad 6 1)), (4, .ref (ad 6 2)), (5, .int (iI (T 8 0))), (6, .int (iI (T 29 0))), (7, .int (iI 1)), (8, .int (iI tn)), (9, .int (iI (t : Int))), (10, .int (iI x)), (11, .int (iI y)), (12, .int (iI dd)), (13, .int (iI (im : Int))), (14, .int (iI (T 21 0))), (15, .int (iI (T 12 0))), (16, .int (iI (bk : Int))), (17, .int (iI gv)), (18, .int (iI (bx : Int)))] := by rw [he.1 0, he.2.2.2.2.1 0, he.2.2.2.2.1 1, he.2.2.2.2.1 2]; exact hl
        refine lv_istore (lv' := [(18, .int (iI (f_cnt (p_gone T1) (T 21 0).toNat - f_cnt (p_gone T) (T 21 0).toNat))), (0, .ref b), (1, .ref (ad 0 0)), (2, .ref (ad 6 0)), (3, .ref (ad 6 1)), (4, .ref (ad 6 2)), (5, .int (iI (T 8 0))), (6, .int (iI (T 29 0))), (7, .int (iI 1)), (8, .int (iI tn)), (9, .int (iI (t : Int))), (10, .int (iI x)), (11, .int (iI y)), (12, .int (iI dd)), (13, .int (iI (im : Int))), (14, .int (iI (T 21 0))), (15, .int (iI (T 12 0))), (16, .int (iI (bk : Int))), (17, .int (iI gv))]) hx hb dL_law_1737 hl (by decide) rfl (fun ls hl => ?_)
        refine wa_const F dL_law_1739 ?_
        refine lv_istore (lv' := [(19, .int (iI 0)), (18, .int (iI (f_cnt (p_gone T1) (T 21 0).toNat - f_cnt (p_gone T) (T 21 0).toNat))), (0, .ref b), (1, .ref (ad 0 0)), (2, .ref (ad 6 0)), (3, .ref (ad 6 1)), (4, .ref (ad 6 2)), (5, .int (iI (T 8 0))), (6, .int (iI (T 29 0))), (7, .int (iI 1)), (8, .int (iI tn)), (9, .int (iI (t : Int))), (10, .int (iI x)), (11, .int (iI y)), (12, .int (iI dd)), (13, .int (iI (im : Int))), (14, .int (iI (T 21 0))), (15, .int (iI (T 12 0))), (16, .int (iI (bk : Int))), (17, .int (iI gv))]) hx hb dL_law_1740 hl (by decide) rfl (fun ls hl => ?_)
        have loop1742 : ∀ (k : Nat) (by9 : Nat) (gw : Int) (X : wa_St) (H : Heap) (locs : List Loc), (by9 + k = (T 21 0).toNat) → (gw = gv + f_cnt (p_gone T1) by9) → xr T1 X → wa_wj A ad (wW cy ad T1 X G o) → wa_wd D ad (wW cy ad T1 X G o) H → va_S A s.heap H locs → ∀ ls : Array Slot, lv_has ls 21 [(0, .ref b), (1, .ref (ad 0 0)), (2, .ref (ad 6 0)), (3, .ref (ad 6 1)), (4, .ref (ad 6 2)), (5, .int (iI (T 8 0))), (6, .int (iI (T 29 0))), (7, .int (iI 1)), (8, .int (iI tn)), (9, .int (iI (t : Int))), (10, .int (iI x)), (11, .int (iI y)), (12, .int (iI dd)), (13, .int (iI (im : Int))), (14, .int (iI (T 21 0))), (15, .int (iI (T 12 0))), (16, .int (iI (bk : Int))), (17, .int (iI gw)), (18, .int (iI (f_cnt (p_gone T1) (T 21 0).toNat - f_cnt (p_gone T) (T 21 0).toNat))), (19, .int (iI (by9 : Int)))] → W p l e room_1 s m #[Value.ref b] below meth c H locs (461 + 700 * t + by9) (4366 + 4200 * t + 6 * by9) (Q) (F0 m 1742 ls []) := by
          intro k
          induction k with
          | zero =>
            intro by9 gw X H locs hk2 hgw hxr hj hw hS ls hl
            refine lv_iload hx hb dL_law_1742 (lv_at hl 19 rfl) ?_
            refine lv_iload hx hb dL_law_1744 (lv_at hl 14 rfl) ?_
            refine wa_ic_ge (tgt := 1776) F dL_law_1746 (by decide) (by exact ⟨by omega, by omega⟩) (by have q0 := hB 21 0; exact ⟨by omega, by omega⟩) (fun c1746 => ?_) (fun c1746 => absurd c1746 (by omega))
            have hgw2 : gw = gv + f_cnt (p_gone T1) (T 21 0).toNat := by rw [hgw, show by9 = (T 21 0).toNat by omega]
            refine lv_iload hx hb dL_law_1776 (lv_at hl 18 rfl) ?_
            refine lv_iload hx hb dL_law_1778 (lv_at hl 17 rfl) ?_
            refine wa_ic_ne (tgt := 1796) F dL_law_1780 (by decide) (by have q0 := (show wa_r (f_cnt (p_gone T1) (T 21 0).toNat - f_cnt (p_gone T) (T 21 0).toNat) from ⟨by omega, by omega⟩); exact ⟨by omega, by omega⟩) (by have q0 := (show wa_r gw from ⟨by omega, by omega⟩); exact ⟨by omega, by omega⟩) (fun c1780 => absurd c1780 (by omega)) (fun c1780 => ?_)
            refine lv_aload_n hx hb dL_law_1783 rfl (lv_at hl 1 rfl) ?_
            refine ql_bakes F hg1.1 hxr hj hw ⟨by decide, by decide⟩ (Nat.le_of_ble_eq_true rfl) hl.1 dL_law_1784 ⟨Nat.le_trans (show _ ≤ 300000 by omega) (Nat.le_of_ble_eq_true rfl), Nat.le_trans (show _ ≤ 2000000 by omega) (Nat.le_of_ble_eq_true rfl)⟩ ?_
            refine lv_iload hx hb dL_law_1787 (lv_at hl 14 rfl) ?_
            refine wa_ic_ne (tgt := 1796) F dL_law_1789 (by decide) (by have q0 := hg1.1.1 21 0; exact ⟨by omega, by omega⟩) (by have q0 := hB 21 0; exact ⟨by omega, by omega⟩) (fun c1789 => absurd c1789 (by omega)) (fun c1789 => ?_)
            refine wa_const F dL_law_1792 ?_
            refine wa_goto (tgt := 1797) F dL_law_1793 (by decide) ?_
            refine lv_istore (lv' := [(7, .int (iI 1)), (0, .ref b), (1, .ref (ad 0 0)), (2, .ref (ad 6 0)), (3, .ref (ad 6 1)), (4, .ref (ad 6 2)), (5, .int (iI (T 8 0))), (6, .int (iI (T 29 0))), (8, .int (iI tn)), (9, .int (iI (t : Int))), (10, .int (iI x)), (11, .int (iI y)), (12, .int (iI dd)), (13, .int (iI (im : Int))), (14, .int (iI (T 21 0))), (15, .int (iI (T 12 0))), (16, .int (iI (bk : Int))), (17, .int (iI gw)), (18, .int (iI (f_cnt (p_gone T1) (T 21 0).toNat - f_cnt (p_gone T) (T 21 0).toNat))), (19, .int (iI (by9 : Int)))]) hx hb dL_law_1797 hl (by decide) rfl (fun ls hl => ?_)
            refine W.widen (k := 600 + 700 * t) (n := 5200 + 4200 * t) (by omega) (by omega) ?_
            exact hE ad X (T1) (G) _ _ ls (hg1.le (by omega)) hm1 hG1 ⟨fun z => by omega, fun z => by omega⟩ hxr hj hw hS (by rw [a8, a29]; exact lv_sub hl [1, 2, 3, 4, 5, 6, 7, 0, 8, 9] rfl)
          | succ k ih1742 =>
            intro by9 gw X H locs hk2 hgw hxr hj hw hS ls hl
            have vs1 := vs_t hg1 by9
            have hcr2 := f_cnt_rng (p_gone T1) by9
            refine lv_iload hx hb dL_law_1742 (lv_at hl 19 rfl) ?_
            refine lv_iload hx hb dL_law_1744 (lv_at hl 14 rfl) ?_
            refine wa_ic_ge (tgt := 1776) F dL_law_1746 (by decide) (by exact ⟨by omega, by omega⟩) (by have q0 := hB 21 0; exact ⟨by omega, by omega⟩) (fun c1746 => absurd c1746 (by omega)) (fun c1746 => ?_)
            refine lv_iload hx hb dL_law_1749 (lv_at hl 17 rfl) ?_
            refine lv_aload_n hx hb dL_law_1751 rfl (lv_at hl 1 rfl) ?_
            refine lv_iload hx hb dL_law_1752 (lv_at hl 19 rfl) ?_
            refine ql_state (i := (by9 : Int)) hlt F hTB hA hg1.1 hxr hj hw hS (show (0 : Int) ≤ (by9 : Int) ∧ (by9 : Int) < T1 21 0 by omega) ⟨by decide, by decide⟩ (Nat.le_of_ble_eq_true rfl) hl.1 dL_law_1754 ⟨Nat.le_trans (show _ ≤ 300000 by omega) (Nat.le_of_ble_eq_true rfl), Nat.le_trans (show _ ≤ 2000000 by omega) (Nat.le_of_ble_eq_true rfl)⟩ (fun X H locs hxr hj hw hS => ?_)
            refine W.eq (g2 := F0 m 1757 ls [.int (iI (v_state T1 by9)), .int (iI gw)]) rfl ?_
            refine wa_bi F dL_law_1757 (by decide +kernel) ?_
            refine wa_ic_lt (tgt := 1766) F dL_law_1759 (by decide) (by have q0 := (vs_t hg1 by9).1; exact ⟨by omega, by omega⟩) (by decide) (fun c1759 => ?_) (fun c1759 => ?_)
            · skip
              refine wa_const F dL_law_1766 ?_
              refine wa_add F dL_law_1767 ?_
              refine lv_istore (lv' := [(17, .int (iI (gw + 0))), (0, .ref b), (1, .ref (ad 0 0)), (2, .ref (ad 6 0)), (3, .ref (ad 6 1)), (4, .ref (ad 6 2)), (5, .int (iI (T 8 0))), (6, .int (iI (T 29 0))), (7, .int (iI 1)), (8, .int (iI tn)), (9, .int (iI (t : Int))), (10, .int (iI x)), (11, .int (iI y)), (12, .int (iI dd)), (13, .int (iI (im : Int))), (14, .int (iI (T 21 0))), (15, .int (iI (T 12 0))), (16, .int (iI (bk : Int))), (18, .int (iI (f_cnt (p_gone T1) (T 21 0).toNat - f_cnt (p_gone T) (T 21 0).toNat))), (19, .int (iI (by9 : Int)))]) hx hb dL_law_1768 hl (by decide) rfl (fun ls hl => ?_)
              refine wa_inc (k := 19) (b := ((by9 + 1) : Int)) (lv' := [(19, .int (iI ((by9 + 1) : Int))), (17, .int (iI (gw + 0))), (0, .ref b), (1, .ref (ad 0 0)), (2, .ref (ad 6 0)), (3, .ref (ad 6 1)), (4, .ref (ad 6 2)), (5, .int (iI (T 8 0))), (6, .int (iI (T 29 0))), (7, .int (iI 1)), (8, .int (iI tn)), (9, .int (iI (t : Int))), (10, .int (iI x)), (11, .int (iI y)), (12, .int (iI dd)), (13, .int (iI (im : Int))), (14, .int (iI (T 21 0))), (15, .int (iI (T 12 0))), (16, .int (iI (bk : Int))), (18, .int (iI (f_cnt (p_gone T1) (T 21 0).toNat - f_cnt (p_gone T) (T 21 0).toNat)))]) F dL_law_1770 hl rfl (by omega) (by decide) rfl (fun ls hl => ?_)
              refine wa_goto (tgt := 1742) F dL_law_1773 (by decide) ?_
              refine W.widen (k := 461 + 700 * t + (by9 + 1)) (n := 4366 + 4200 * t + 6 * (by9 + 1)) (by omega) (by omega) ?_
              exact ih1742 (by9 + 1) ((gw + 0)) X _ _ (by omega) (by simp only [f_cnt]; rw [bI_f (fun z => absurd (vs1.2.2.2.1.mpr (of_decide_eq_true z)) (by omega))]; omega) hxr hj hw hS ls (lv_sub hl [2, 3, 4, 5, 6, 7, 8, 9, 10, 11, 12, 13, 14, 15, 16, 17, 18, 1, 19, 0] rfl)
            · skip
              refine wa_const F dL_law_1762 ?_
              refine wa_goto (tgt := 1767) F dL_law_1763 (by decide) ?_
              refine wa_add F dL_law_1767 ?_
              refine lv_istore (lv' := [(17, .int (iI (gw + 1))), (0, .ref b), (1, .ref (ad 0 0)), (2, .ref (ad 6 0)), (3, .ref (ad 6 1)), (4, .ref (ad 6 2)), (5, .int (iI (T 8 0))), (6, .int (iI (T 29 0))), (7, .int (iI 1)), (8, .int (iI tn)), (9, .int (iI (t : Int))), (10, .int (iI x)), (11, .int (iI y)), (12, .int (iI dd)), (13, .int (iI (im : Int))), (14, .int (iI (T 21 0))), (15, .int (iI (T 12 0))), (16, .int (iI (bk : Int))), (18, .int (iI (f_cnt (p_gone T1) (T 21 0).toNat - f_cnt (p_gone T) (T 21 0).toNat))), (19, .int (iI (by9 : Int)))]) hx hb dL_law_1768 hl (by decide) rfl (fun ls hl => ?_)
              refine wa_inc (k := 19) (b := ((by9 + 1) : Int)) (lv' := [(19, .int (iI ((by9 + 1) : Int))), (17, .int (iI (gw + 1))), (0, .ref b), (1, .ref (ad 0 0)), (2, .ref (ad 6 0)), (3, .ref (ad 6 1)), (4, .ref (ad 6 2)), (5, .int (iI (T 8 0))), (6, .int (iI (T 29 0))), (7, .int (iI 1)), (8, .int (iI tn)), (9, .int (iI (t : Int))), (10, .int (iI x)), (11, .int (iI y)), (12, .int (iI dd)), (13, .int (iI (im : Int))), (14, .int (iI (T 21 0))), (15, .int (iI (T 12 0))), (16, .int (iI (bk : Int))), (18, .int (iI (f_cnt (p_gone T1) (T 21 0).toNat - f_cnt (p_gone T) (T 21 0).toNat)))]) F dL_law_1770 hl rfl (by omega) (by decide) rfl (fun ls hl => ?_)
              refine wa_goto (tgt := 1742) F dL_law_1773 (by decide) ?_
              refine W.widen (k := 461 + 700 * t + (by9 + 1)) (n := 4366 + 4200 * t + 6 * (by9 + 1)) (by omega) (by omega) ?_
              exact ih1742 (by9 + 1) ((gw + 1)) X _ _ (by omega) (by simp only [f_cnt]; rw [bI_t (show p_gone T1 by9 = true from decide_eq_true (vs1.2.2.2.1.mp (by omega)))]; omega) hxr hj hw hS ls (lv_sub hl [2, 3, 4, 5, 6, 7, 8, 9, 10, 11, 12, 13, 14, 15, 16, 17, 18, 1, 19, 0] rfl)
        refine W.widen (k := 461 + 700 * t + (0)) (n := 4366 + 4200 * t + 6 * (0)) (by omega) (by omega) ?_
        exact loop1742 ((T 21 0).toNat) 0 gv X _ _ (by omega) (by show gv = gv + 0; omega) hxr hj hw hS ls (lv_sub hl [2, 3, 4, 5, 6, 7, 8, 9, 10, 11, 12, 13, 14, 15, 16, 17, 18, 19, 1, 0] rfl)
      · skip
        refine wa_const F dL_law_1721 ?_
        refine wa_goto (tgt := 1734) F dL_law_1722 (by decide) ?_
        obtain ⟨k0, hg1, hm1, ⟨a8, a12, a21, a29⟩, hwv, hG1⟩ := w_pass (d := 1) hg (by omega) hm ⟨by omega, by omega⟩
        have hpk := pk_pass hg (by omega) 1
        have hG1 := hG1 G hG
        have hday := hg.2.2.2.2.2.2.2.2.2.1
        refine wl_ci (vL_122 F hTB hS (c_X4_pass l hlt D cy ad T X (G) o A hj hA hg.1 hxr (wx_inj.of hj) 1 ⟨by omega, by omega⟩ (by omega)) ⟨by decide, by decide⟩ ⟨rfl, rfl⟩ hw hw rfl rfl rfl (Nat.le_of_ble_eq_true rfl) hl.1 dL_law_1734 ⟨Nat.le_trans (show _ ≤ 300000 by omega) (Nat.le_of_ble_eq_true rfl), Nat.le_trans (show _ ≤ 2000000 by omega) (Nat.le_of_ble_eq_true rfl)⟩) hS (fun E ce q9 u H1 locs1 hE9 hk0 _ _ _ _ _ _ => absurd k0 hk0) (fun u H locs hK hp9 hB9 hS => ?_)
        obtain ⟨ad, X⟩ := u
        have e1 : o_x (k_pass 1) T (f_pin (T 21 0).toNat 0 (wa_s T 1 0 (T 1 0 + 1)) 0).1 = (f_pin (T 21 0).toNat 0 (wa_s T 1 0 (T 1 0 + 1)) 0).1 := if_pos k0
        have e2 : o_s T (k_pass 1) (f_pout (Int.toNat 1) (wa_s T 0 0 0) 0).1 = (f_pout (Int.toNat 1) (wa_s T 0 0 0) 0).1 := if_pos k0
        rw [e1, e2] at hpk
        obtain ⟨⟨hxr, hj, he⟩, hw⟩ := wl_go hpk hp9 hB9
        rw [hwv]
        generalize hT1 : (f_pout (Int.toNat 1) (wa_s T 0 0 0) 0).1 = T1 at *
        have hxr : xr T1 X := hxr
        have hj : wa_wj A ad (wW cy ad T1 X G o) := hj
        have hw : wa_wd D ad (wW cy ad T1 X G o) H := hw
        have hcr1 := f_cnt_rng (p_gone T1) (T 21 0).toNat
        dsimp only at he
        have hl : lv_has ls 21 [(0, .ref b), (1, .ref (ad 0 0)), (2, .ref (ad 6 0)), (3, .ref (ad 6 1)), (4, .ref (ad 6 2)), (5, .int (iI (T 8 0))), (6, .int (iI (T 29 0))), (7, .int (iI 1)), (8, .int (iI tn)), (9, .int (iI (t : Int))), (10, .int (iI x)), (11, .int (iI y)), (12, .int (iI dd)), (13, .int (iI (im : Int))), (14, .int (iI (T 21 0))), (15, .int (iI (T 12 0))), (16, .int (iI (bk : Int))), (17, .int (iI gv)), (18, .int (iI (bx : Int)))] := by rw [he.1 0, he.2.2.2.2.1 0, he.2.2.2.2.1 1, he.2.2.2.2.1 2]; exact hl
        refine lv_istore (lv' := [(18, .int (iI (f_cnt (p_gone T1) (T 21 0).toNat - f_cnt (p_gone T) (T 21 0).toNat))), (0, .ref b), (1, .ref (ad 0 0)), (2, .ref (ad 6 0)), (3, .ref (ad 6 1)), (4, .ref (ad 6 2)), (5, .int (iI (T 8 0))), (6, .int (iI (T 29 0))), (7, .int (iI 1)), (8, .int (iI tn)), (9, .int (iI (t : Int))), (10, .int (iI x)), (11, .int (iI y)), (12, .int (iI dd)), (13, .int (iI (im : Int))), (14, .int (iI (T 21 0))), (15, .int (iI (T 12 0))), (16, .int (iI (bk : Int))), (17, .int (iI gv))]) hx hb dL_law_1737 hl (by decide) rfl (fun ls hl => ?_)
        refine wa_const F dL_law_1739 ?_
        refine lv_istore (lv' := [(19, .int (iI 0)), (18, .int (iI (f_cnt (p_gone T1) (T 21 0).toNat - f_cnt (p_gone T) (T 21 0).toNat))), (0, .ref b), (1, .ref (ad 0 0)), (2, .ref (ad 6 0)), (3, .ref (ad 6 1)), (4, .ref (ad 6 2)), (5, .int (iI (T 8 0))), (6, .int (iI (T 29 0))), (7, .int (iI 1)), (8, .int (iI tn)), (9, .int (iI (t : Int))), (10, .int (iI x)), (11, .int (iI y)), (12, .int (iI dd)), (13, .int (iI (im : Int))), (14, .int (iI (T 21 0))), (15, .int (iI (T 12 0))), (16, .int (iI (bk : Int))), (17, .int (iI gv))]) hx hb dL_law_1740 hl (by decide) rfl (fun ls hl => ?_)
        have loop1742 : ∀ (k : Nat) (by9 : Nat) (gw : Int) (X : wa_St) (H : Heap) (locs : List Loc), (by9 + k = (T 21 0).toNat) → (gw = gv + f_cnt (p_gone T1) by9) → xr T1 X → wa_wj A ad (wW cy ad T1 X G o) → wa_wd D ad (wW cy ad T1 X G o) H → va_S A s.heap H locs → ∀ ls : Array Slot, lv_has ls 21 [(0, .ref b), (1, .ref (ad 0 0)), (2, .ref (ad 6 0)), (3, .ref (ad 6 1)), (4, .ref (ad 6 2)), (5, .int (iI (T 8 0))), (6, .int (iI (T 29 0))), (7, .int (iI 1)), (8, .int (iI tn)), (9, .int (iI (t : Int))), (10, .int (iI x)), (11, .int (iI y)), (12, .int (iI dd)), (13, .int (iI (im : Int))), (14, .int (iI (T 21 0))), (15, .int (iI (T 12 0))), (16, .int (iI (bk : Int))), (17, .int (iI gw)), (18, .int (iI (f_cnt (p_gone T1) (T 21 0).toNat - f_cnt (p_gone T) (T 21 0).toNat))), (19, .int (iI (by9 : Int)))] → W p l e room_1 s m #[Value.ref b] below meth c H locs (461 + 700 * t + by9) (4366 + 4200 * t + 6 * by9) (Q) (F0 m 1742 ls []) := by
          intro k
          induction k with
          | zero =>
            intro by9 gw X H locs hk2 hgw hxr hj hw hS ls hl
            refine lv_iload hx hb dL_law_1742 (lv_at hl 19 rfl) ?_
            refine lv_iload hx hb dL_law_1744 (lv_at hl 14 rfl) ?_
            refine wa_ic_ge (tgt := 1776) F dL_law_1746 (by decide) (by exact ⟨by omega, by omega⟩) (by have q0 := hB 21 0; exact ⟨by omega, by omega⟩) (fun c1746 => ?_) (fun c1746 => absurd c1746 (by omega))
            have hgw2 : gw = gv + f_cnt (p_gone T1) (T 21 0).toNat := by rw [hgw, show by9 = (T 21 0).toNat by omega]
            refine lv_iload hx hb dL_law_1776 (lv_at hl 18 rfl) ?_
            refine lv_iload hx hb dL_law_1778 (lv_at hl 17 rfl) ?_
            refine wa_ic_ne (tgt := 1796) F dL_law_1780 (by decide) (by have q0 := (show wa_r (f_cnt (p_gone T1) (T 21 0).toNat - f_cnt (p_gone T) (T 21 0).toNat) from ⟨by omega, by omega⟩); exact ⟨by omega, by omega⟩) (by have q0 := (show wa_r gw from ⟨by omega, by omega⟩); exact ⟨by omega, by omega⟩) (fun c1780 => absurd c1780 (by omega)) (fun c1780 => ?_)
            refine lv_aload_n hx hb dL_law_1783 rfl (lv_at hl 1 rfl) ?_
            refine ql_bakes F hg1.1 hxr hj hw ⟨by decide, by decide⟩ (Nat.le_of_ble_eq_true rfl) hl.1 dL_law_1784 ⟨Nat.le_trans (show _ ≤ 300000 by omega) (Nat.le_of_ble_eq_true rfl), Nat.le_trans (show _ ≤ 2000000 by omega) (Nat.le_of_ble_eq_true rfl)⟩ ?_
            refine lv_iload hx hb dL_law_1787 (lv_at hl 14 rfl) ?_
            refine wa_ic_ne (tgt := 1796) F dL_law_1789 (by decide) (by have q0 := hg1.1.1 21 0; exact ⟨by omega, by omega⟩) (by have q0 := hB 21 0; exact ⟨by omega, by omega⟩) (fun c1789 => absurd c1789 (by omega)) (fun c1789 => ?_)
            refine wa_const F dL_law_1792 ?_
            refine wa_goto (tgt := 1797) F dL_law_1793 (by decide) ?_
            refine lv_istore (lv' := [(7, .int (iI 1)), (0, .ref b), (1, .ref (ad 0 0)), (2, .ref (ad 6 0)), (3, .ref (ad 6 1)), (4, .ref (ad 6 2)), (5, .int (iI (T 8 0))), (6, .int (iI (T 29 0))), (8, .int (iI tn)), (9, .int (iI (t : Int))), (10, .int (iI x)), (11, .int (iI y)), (12, .int (iI dd)), (13, .int (iI (im : Int))), (14, .int (iI (T 21 0))), (15, .int (iI (T 12 0))), (16, .int (iI (bk : Int))), (17, .int (iI gw)), (18, .int (iI (f_cnt (p_gone T1) (T 21 0).toNat - f_cnt (p_gone T) (T 21 0).toNat))), (19, .int (iI (by9 : Int)))]) hx hb dL_law_1797 hl (by decide) rfl (fun ls hl => ?_)
            refine W.widen (k := 600 + 700 * t) (n := 5200 + 4200 * t) (by omega) (by omega) ?_
            exact hE ad X (T1) (G) _ _ ls (hg1.le (by omega)) hm1 hG1 ⟨fun z => by omega, fun z => by omega⟩ hxr hj hw hS (by rw [a8, a29]; exact lv_sub hl [1, 2, 3, 4, 5, 6, 7, 0, 8, 9] rfl)
          | succ k ih1742 =>
            intro by9 gw X H locs hk2 hgw hxr hj hw hS ls hl
            have vs1 := vs_t hg1 by9
            have hcr2 := f_cnt_rng (p_gone T1) by9
            refine lv_iload hx hb dL_law_1742 (lv_at hl 19 rfl) ?_
            refine lv_iload hx hb dL_law_1744 (lv_at hl 14 rfl) ?_
            refine wa_ic_ge (tgt := 1776) F dL_law_1746 (by decide) (by exact ⟨by omega, by omega⟩) (by have q0 := hB 21 0; exact ⟨by omega, by omega⟩) (fun c1746 => absurd c1746 (by omega)) (fun c1746 => ?_)
            refine lv_iload hx hb dL_law_1749 (lv_at hl 17 rfl) ?_
            refine lv_aload_n hx hb dL_law_1751 rfl (lv_at hl 1 rfl) ?_
            refine lv_iload hx hb dL_law_1752 (lv_at hl 19 rfl) ?_
            refine ql_state (i := (by9 : Int)) hlt F hTB hA hg1.1 hxr hj hw hS (show (0 : Int) ≤ (by9 : Int) ∧ (by9 : Int) < T1 21 0 by omega) ⟨by decide, by decide⟩ (Nat.le_of_ble_eq_true rfl) hl.1 dL_law_1754 ⟨Nat.le_trans (show _ ≤ 300000 by omega) (Nat.le_of_ble_eq_true rfl), Nat.le_trans (show _ ≤ 2000000 by omega) (Nat.le_of_ble_eq_true rfl)⟩ (fun X H locs hxr hj hw hS => ?_)
            refine W.eq (g2 := F0 m 1757 ls [.int (iI (v_state T1 by9)), .int (iI gw)]) rfl ?_
            refine wa_bi F dL_law_1757 (by decide +kernel) ?_
            refine wa_ic_lt (tgt := 1766) F dL_law_1759 (by decide) (by have q0 := (vs_t hg1 by9).1; exact ⟨by omega, by omega⟩) (by decide) (fun c1759 => ?_) (fun c1759 => ?_)
            · skip
              refine wa_const F dL_law_1766 ?_
              refine wa_add F dL_law_1767 ?_
              refine lv_istore (lv' := [(17, .int (iI (gw + 0))), (0, .ref b), (1, .ref (ad 0 0)), (2, .ref (ad 6 0)), (3, .ref (ad 6 1)), (4, .ref (ad 6 2)), (5, .int (iI (T 8 0))), (6, .int (iI (T 29 0))), (7, .int (iI 1)), (8, .int (iI tn)), (9, .int (iI (t : Int))), (10, .int (iI x)), (11, .int (iI y)), (12, .int (iI dd)), (13, .int (iI (im : Int))), (14, .int (iI (T 21 0))), (15, .int (iI (T 12 0))), (16, .int (iI (bk : Int))), (18, .int (iI (f_cnt (p_gone T1) (T 21 0).toNat - f_cnt (p_gone T) (T 21 0).toNat))), (19, .int (iI (by9 : Int)))]) hx hb dL_law_1768 hl (by decide) rfl (fun ls hl => ?_)
              refine wa_inc (k := 19) (b := ((by9 + 1) : Int)) (lv' := [(19, .int (iI ((by9 + 1) : Int))), (17, .int (iI (gw + 0))), (0, .ref b), (1, .ref (ad 0 0)), (2, .ref (ad 6 0)), (3, .ref (ad 6 1)), (4, .ref (ad 6 2)), (5, .int (iI (T 8 0))), (6, .int (iI (T 29 0))), (7, .int (iI 1)), (8, .int (iI tn)), (9, .int (iI (t : Int))), (10, .int (iI x)), (11, .int (iI y)), (12, .int (iI dd)), (13, .int (iI (im : Int))), (14, .int (iI (T 21 0))), (15, .int (iI (T 12 0))), (16, .int (iI (bk : Int))), (18, .int (iI (f_cnt (p_gone T1) (T 21 0).toNat - f_cnt (p_gone T) (T 21 0).toNat)))]) F dL_law_1770 hl rfl (by omega) (by decide) rfl (fun ls hl => ?_)
              refine wa_goto (tgt := 1742) F dL_law_1773 (by decide) ?_
              refine W.widen (k := 461 + 700 * t + (by9 + 1)) (n := 4366 + 4200 * t + 6 * (by9 + 1)) (by omega) (by omega) ?_
              exact ih1742 (by9 + 1) ((gw + 0)) X _ _ (by omega) (by simp only [f_cnt]; rw [bI_f (fun z => absurd (vs1.2.2.2.1.mpr (of_decide_eq_true z)) (by omega))]; omega) hxr hj hw hS ls (lv_sub hl [2, 3, 4, 5, 6, 7, 8, 9, 10, 11, 12, 13, 14, 15, 16, 17, 18, 1, 19, 0] rfl)
            · skip
              refine wa_const F dL_law_1762 ?_
              refine wa_goto (tgt := 1767) F dL_law_1763 (by decide) ?_
              refine wa_add F dL_law_1767 ?_
              refine lv_istore (lv' := [(17, .int (iI (gw + 1))), (0, .ref b), (1, .ref (ad 0 0)), (2, .ref (ad 6 0)), (3, .ref (ad 6 1)), (4, .ref (ad 6 2)), (5, .int (iI (T 8 0))), (6, .int (iI (T 29 0))), (7, .int (iI 1)), (8, .int (iI tn)), (9, .int (iI (t : Int))), (10, .int (iI x)), (11, .int (iI y)), (12, .int (iI dd)), (13, .int (iI (im : Int))), (14, .int (iI (T 21 0))), (15, .int (iI (T 12 0))), (16, .int (iI (bk : Int))), (18, .int (iI (f_cnt (p_gone T1) (T 21 0).toNat - f_cnt (p_gone T) (T 21 0).toNat))), (19, .int (iI (by9 : Int)))]) hx hb dL_law_1768 hl (by decide) rfl (fun ls hl => ?_)
              refine wa_inc (k := 19) (b := ((by9 + 1) : Int)) (lv' := [(19, .int (iI ((by9 + 1) : Int))), (17, .int (iI (gw + 1))), (0, .ref b), (1, .ref (ad 0 0)), (2, .ref (ad 6 0)), (3, .ref (ad 6 1)), (4, .ref (ad 6 2)), (5, .int (iI (T 8 0))), (6, .int (iI (T 29 0))), (7, .int (iI 1)), (8, .int (iI tn)), (9, .int (iI (t : Int))), (10, .int (iI x)), (11, .int (iI y)), (12, .int (iI dd)), (13, .int (iI (im : Int))), (14, .int (iI (T 21 0))), (15, .int (iI (T 12 0))), (16, .int (iI (bk : Int))), (18, .int (iI (f_cnt (p_gone T1) (T 21 0).toNat - f_cnt (p_gone T) (T 21 0).toNat)))]) F dL_law_1770 hl rfl (by omega) (by decide) rfl (fun ls hl => ?_)
              refine wa_goto (tgt := 1742) F dL_law_1773 (by decide) ?_
              refine W.widen (k := 461 + 700 * t + (by9 + 1)) (n := 4366 + 4200 * t + 6 * (by9 + 1)) (by omega) (by omega) ?_
              exact ih1742 (by9 + 1) ((gw + 1)) X _ _ (by omega) (by simp only [f_cnt]; rw [bI_t (show p_gone T1 by9 = true from decide_eq_true (vs1.2.2.2.1.mp (by omega)))]; omega) hxr hj hw hS ls (lv_sub hl [2, 3, 4, 5, 6, 7, 8, 9, 10, 11, 12, 13, 14, 15, 16, 17, 18, 1, 19, 0] rfl)
        refine W.widen (k := 461 + 700 * t + (0)) (n := 4366 + 4200 * t + 6 * (0)) (by omega) (by omega) ?_
        exact loop1742 ((T 21 0).toNat) 0 gv X _ _ (by omega) (by show gv = gv + 0; omega) hxr hj hw hS ls (lv_sub hl [2, 3, 4, 5, 6, 7, 8, 9, 10, 11, 12, 13, 14, 15, 16, 17, 18, 19, 1, 0] rfl)
    | succ k ih1679 =>
      intro bx gv X H locs hk hgv hxr hj hw hS ls hl
      have vs := vs_t hg bx
      have hcr := f_cnt_rng (p_gone T) bx
      refine lv_iload hx hb dL_law_1679 (lv_at hl 18 rfl) ?_
      refine lv_iload hx hb dL_law_1681 (lv_at hl 14 rfl) ?_
      refine wa_ic_ge (tgt := 1713) F dL_law_1683 (by decide) (by exact ⟨by omega, by omega⟩) (by have q0 := hB 21 0; exact ⟨by omega, by omega⟩) (fun c1683 => absurd c1683 (by omega)) (fun c1683 => ?_)
      refine lv_iload hx hb dL_law_1686 (lv_at hl 17 rfl) ?_
      refine lv_aload_n hx hb dL_law_1688 rfl (lv_at hl 1 rfl) ?_
      refine lv_iload hx hb dL_law_1689 (lv_at hl 18 rfl) ?_
      refine ql_state (i := (bx : Int)) hlt F hTB hA hg.1 hxr hj hw hS (show (0 : Int) ≤ (bx : Int) ∧ (bx : Int) < T 21 0 by omega) ⟨by decide, by decide⟩ (Nat.le_of_ble_eq_true rfl) hl.1 dL_law_1691 ⟨Nat.le_trans (show _ ≤ 300000 by omega) (Nat.le_of_ble_eq_true rfl), Nat.le_trans (show _ ≤ 2000000 by omega) (Nat.le_of_ble_eq_true rfl)⟩ (fun X H locs hxr hj hw hS => ?_)
      refine W.eq (g2 := F0 m 1694 ls [.int (iI (v_state T bx)), .int (iI gv)]) rfl ?_
      refine wa_bi F dL_law_1694 (by decide +kernel) ?_
      refine wa_ic_lt (tgt := 1703) F dL_law_1696 (by decide) (by have q0 := (vs_t hg bx).1; exact ⟨by omega, by omega⟩) (by decide) (fun c1696 => ?_) (fun c1696 => ?_)
      · skip
        refine wa_const F dL_law_1703 ?_
        refine wa_sub F dL_law_1704 ?_
        refine lv_istore (lv' := [(17, .int (iI (gv - 0))), (0, .ref b), (1, .ref (ad 0 0)), (2, .ref (ad 6 0)), (3, .ref (ad 6 1)), (4, .ref (ad 6 2)), (5, .int (iI (T 8 0))), (6, .int (iI (T 29 0))), (7, .int (iI 1)), (8, .int (iI tn)), (9, .int (iI (t : Int))), (10, .int (iI x)), (11, .int (iI y)), (12, .int (iI dd)), (13, .int (iI (im : Int))), (14, .int (iI (T 21 0))), (15, .int (iI (T 12 0))), (16, .int (iI (bk : Int))), (18, .int (iI (bx : Int)))]) hx hb dL_law_1705 hl (by decide) rfl (fun ls hl => ?_)
        refine wa_inc (k := 18) (b := ((bx + 1) : Int)) (lv' := [(18, .int (iI ((bx + 1) : Int))), (17, .int (iI (gv - 0))), (0, .ref b), (1, .ref (ad 0 0)), (2, .ref (ad 6 0)), (3, .ref (ad 6 1)), (4, .ref (ad 6 2)), (5, .int (iI (T 8 0))), (6, .int (iI (T 29 0))), (7, .int (iI 1)), (8, .int (iI tn)), (9, .int (iI (t : Int))), (10, .int (iI x)), (11, .int (iI y)), (12, .int (iI dd)), (13, .int (iI (im : Int))), (14, .int (iI (T 21 0))), (15, .int (iI (T 12 0))), (16, .int (iI (bk : Int)))]) F dL_law_1707 hl rfl (by omega) (by decide) rfl (fun ls hl => ?_)
        refine wa_goto (tgt := 1679) F dL_law_1710 (by decide) ?_
        refine W.widen (k := 400 + 700 * t + (bx + 1)) (n := 4000 + 4200 * t + 6 * (bx + 1)) (by omega) (by omega) ?_
        exact ih1679 (bx + 1) ((gv - 0)) X _ _ (by omega) (by simp only [f_cnt]; rw [bI_f (fun z => absurd (vs.2.2.2.1.mpr (of_decide_eq_true z)) (by omega))]; omega) hxr hj hw hS ls (lv_sub hl [2, 3, 4, 5, 6, 7, 8, 9, 10, 11, 12, 13, 14, 15, 16, 17, 18, 1, 0] rfl)
      · skip
        refine wa_const F dL_law_1699 ?_
        refine wa_goto (tgt := 1704) F dL_law_1700 (by decide) ?_
        refine wa_sub F dL_law_1704 ?_
        refine lv_istore (lv' := [(17, .int (iI (gv - 1))), (0, .ref b), (1, .ref (ad 0 0)), (2, .ref (ad 6 0)), (3, .ref (ad 6 1)), (4, .ref (ad 6 2)), (5, .int (iI (T 8 0))), (6, .int (iI (T 29 0))), (7, .int (iI 1)), (8, .int (iI tn)), (9, .int (iI (t : Int))), (10, .int (iI x)), (11, .int (iI y)), (12, .int (iI dd)), (13, .int (iI (im : Int))), (14, .int (iI (T 21 0))), (15, .int (iI (T 12 0))), (16, .int (iI (bk : Int))), (18, .int (iI (bx : Int)))]) hx hb dL_law_1705 hl (by decide) rfl (fun ls hl => ?_)
        refine wa_inc (k := 18) (b := ((bx + 1) : Int)) (lv' := [(18, .int (iI ((bx + 1) : Int))), (17, .int (iI (gv - 1))), (0, .ref b), (1, .ref (ad 0 0)), (2, .ref (ad 6 0)), (3, .ref (ad 6 1)), (4, .ref (ad 6 2)), (5, .int (iI (T 8 0))), (6, .int (iI (T 29 0))), (7, .int (iI 1)), (8, .int (iI tn)), (9, .int (iI (t : Int))), (10, .int (iI x)), (11, .int (iI y)), (12, .int (iI dd)), (13, .int (iI (im : Int))), (14, .int (iI (T 21 0))), (15, .int (iI (T 12 0))), (16, .int (iI (bk : Int)))]) F dL_law_1707 hl rfl (by omega) (by decide) rfl (fun ls hl => ?_)
        refine wa_goto (tgt := 1679) F dL_law_1710 (by decide) ?_
        refine W.widen (k := 400 + 700 * t + (bx + 1)) (n := 4000 + 4200 * t + 6 * (bx + 1)) (by omega) (by omega) ?_
        exact ih1679 (bx + 1) ((gv - 1)) X _ _ (by omega) (by simp only [f_cnt]; rw [bI_t (show p_gone T bx = true from decide_eq_true (vs.2.2.2.1.mp (by omega)))]; omega) hxr hj hw hS ls (lv_sub hl [2, 3, 4, 5, 6, 7, 8, 9, 10, 11, 12, 13, 14, 15, 16, 17, 18, 1, 0] rfl)
  refine W.widen (k := 400 + 700 * t + (0)) (n := 4000 + 4200 * t + 6 * (0)) (by omega) (by omega) ?_
  exact loop1679 ((T 21 0).toNat) 0 0 X _ _ (by omega) rfl hxr hj hw hS ls (lv_sub hl [2, 3, 4, 5, 6, 7, 8, 9, 10, 11, 12, 13, 14, 15, 16, 17, 18, 1, 0] rfl)
end WLD
