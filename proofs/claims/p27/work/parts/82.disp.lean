/-! the law: which deed it is (laid by program) -/
section WLD
variable {p : Program} {l : Launch} {e : Env} {s : State} {m : MethodId} {below : List Frame} {meth : Method} {c : Code} {Q : State → Prop}
variable {D : va_G} {A : Nat → Prop} {cy : Nat → ClassId} {b L : Nat} {xs : Nat → Int32} {o : Int64} {tn : Int} {t : Nat} {ad : Nat → Nat → Nat} {T X G : wa_St} {H : Heap} {locs : List Loc} {ls : Array Slot} {x y dd : Int} {im bk : Nat}
set_option maxRecDepth 100000 in
set_option maxHeartbeats 4000000 in
theorem law_201 (hF : law_F p l s m meth c D cy A b L xs) (hE : law_E p l e s m below meth c D cy A b Q o tn t) (ht : t < 280) (htn : -100000 ≤ tn ∧ tn ≤ 100000) (hg : gi (2 * t) T) (hm : mg T) (hG : LG T G) (h3 : ic t T) (hxr : xr T X) (hj : wa_wj A ad (wW cy ad T X G o)) (hw : wa_wd D ad (wW cy ad T X G o) H) (hS : va_S A s.heap H locs) (hy : 0 ≤ y ∧ y < 268435456) (hdd : 0 ≤ dd ∧ dd ≤ 15) (h0d : t < 3 → dd = 0) (him : 0 < T 8 0 → (im : Int) < T 8 0) (hbk : 0 < T 21 0 → (bk : Int) < T 21 0) (hl : lv_has ls 21 [(0, .ref b), (1, .ref (ad 0 0)), (2, .ref (ad 6 0)), (3, .ref (ad 6 1)), (4, .ref (ad 6 2)), (5, .int (iI (T 8 0))), (6, .int (iI (T 29 0))), (7, .int (iI 1)), (8, .int (iI tn)), (9, .int (iI (t : Int))), (10, .int (iI x)), (11, .int (iI y)), (12, .int (iI dd)), (13, .int (iI (im : Int))), (14, .int (iI (T 21 0))), (15, .int (iI (T 12 0))), (16, .int (iI (bk : Int)))]) : W p l e room_1 s m #[Value.ref b] below meth c H locs (400 + 700 * t) (4000 + 4200 * t) (Q) (F0 m 201 ls []) := by
  obtain ⟨F, hTB, hN, hA, hlt, hX, hbl, hbA, hL⟩ := id hF
  obtain ⟨hx, hb, hml, hown, hts⟩ := id F.1
  obtain ⟨hB, w8, w21, w12, w29, w4, w7, w6, w5, w13, w25, w26, w28, w14, w3, wf17⟩ := id hg.1
  have h3a := h3.1
  have h3b := h3.2
  have j1673 : 3 ≤ t → W p l e room_1 s m #[Value.ref b] below meth c H locs (400 + 700 * t) (4000 + 4200 * t) (Q) (F0 m 1673 ls []) := fun ht3 => law_d_pass hF hE ht htn hg hm hG h3 hxr hj hw hS hy ht3 hl
  have j1495 : 3 ≤ t → W p l e room_1 s m #[Value.ref b] below meth c H locs (400 + 700 * t) (4000 + 4200 * t) (Q) (F0 m 1495 ls []) := by
    intro ht3
    refine lv_iload hx hb dL_law_1495 (lv_at hl 12 rfl) ?_
    refine wa_bi F dL_law_1497 (by decide +kernel) ?_
    refine wa_ic_ne (tgt := 1673) F dL_law_1499 (by decide) (by exact ⟨by omega, by omega⟩) (by decide) (fun c1499 => ?_) (fun c1499 => ?_)
    · skip
      exact j1673 ht3
    · skip
      refine lv_iload hx hb dL_law_1502 (lv_at hl 6 rfl) ?_
      refine wa_if_le (tgt := 1673) F dL_law_1504 (by decide) (by have q0 := hB 29 0; exact ⟨by omega, by omega⟩) (fun c1504 => ?_) (fun c1504 => ?_)
      · skip
        exact j1673 ht3
      · skip
        exact law_d_machine hF hE ht htn hg hm hG h3 hxr hj hw hS hy ht3 (by omega) hl
  have j1368 : 3 ≤ t → W p l e room_1 s m #[Value.ref b] below meth c H locs (400 + 700 * t) (4000 + 4200 * t) (Q) (F0 m 1368 ls []) := by
    intro ht3
    refine lv_iload hx hb dL_law_1368 (lv_at hl 12 rfl) ?_
    refine wa_bi F dL_law_1370 (by decide +kernel) ?_
    refine wa_ic_ge (tgt := 1495) F dL_law_1372 (by decide) (by exact ⟨by omega, by omega⟩) (by decide) (fun c1372 => ?_) (fun c1372 => ?_)
    · skip
      exact j1495 ht3
    · skip
      refine lv_iload hx hb dL_law_1375 (lv_at hl 5 rfl) ?_
      refine wa_if_le (tgt := 1495) F dL_law_1377 (by decide) (by have q0 := hB 8 0; exact ⟨by omega, by omega⟩) (fun c1377 => ?_) (fun c1377 => ?_)
      · skip
        exact j1495 ht3
      · skip
        exact law_d_start hF hE ht htn hg hm hG h3 hxr hj hw hS hy ht3 (him (by omega)) hl
  have j1319 : 3 ≤ t → W p l e room_1 s m #[Value.ref b] below meth c H locs (400 + 700 * t) (4000 + 4200 * t) (Q) (F0 m 1319 ls []) := by
    intro ht3
    refine lv_iload hx hb dL_law_1319 (lv_at hl 12 rfl) ?_
    refine wa_bi F dL_law_1321 (by decide +kernel) ?_
    refine wa_ic_ne (tgt := 1368) F dL_law_1323 (by decide) (by exact ⟨by omega, by omega⟩) (by decide) (fun c1323 => ?_) (fun c1323 => ?_)
    · skip
      exact j1368 ht3
    · skip
      refine lv_iload hx hb dL_law_1326 (lv_at hl 11 rfl) ?_
      refine wa_const F dL_law_1328 ?_
      refine wl_and 2 4 F (by decide) (by decide +kernel) rfl (by decide) dL_law_1329 ?_
      refine wa_if_ne (tgt := 1368) F dL_law_1330 (by decide) (by have q0 := (show wa_r y from ⟨by omega, by omega⟩); exact ⟨by omega, by omega⟩) (fun c1330 => ?_) (fun c1330 => ?_)
      · skip
        exact j1368 ht3
      · skip
        exact law_d_rules hF hE ht htn hg hm hG h3 hxr hj hw hS hy ht3 hl
  have j1250 : 3 ≤ t → W p l e room_1 s m #[Value.ref b] below meth c H locs (400 + 700 * t) (4000 + 4200 * t) (Q) (F0 m 1250 ls []) := by
    intro ht3
    refine lv_iload hx hb dL_law_1250 (lv_at hl 12 rfl) ?_
    refine wa_bi F dL_law_1252 (by decide +kernel) ?_
    refine wa_ic_ge (tgt := 1319) F dL_law_1254 (by decide) (by exact ⟨by omega, by omega⟩) (by decide) (fun c1254 => ?_) (fun c1254 => ?_)
    · skip
      exact j1319 ht3
    · skip
      refine lv_iload hx hb dL_law_1257 (lv_at hl 14 rfl) ?_
      refine wa_if_le (tgt := 1319) F dL_law_1259 (by decide) (by have q0 := hB 21 0; exact ⟨by omega, by omega⟩) (fun c1259 => ?_) (fun c1259 => ?_)
      · skip
        exact j1319 ht3
      · skip
        exact law_d_copy hF hE ht htn hg hm hG h3 hxr hj hw hS hy ht3 (hbk (by omega)) hl
  have j1112 : 3 ≤ t → W p l e room_1 s m #[Value.ref b] below meth c H locs (400 + 700 * t) (4000 + 4200 * t) (Q) (F0 m 1112 ls []) := by
    intro ht3
    refine lv_iload hx hb dL_law_1112 (lv_at hl 12 rfl) ?_
    refine wa_bi F dL_law_1114 (by decide +kernel) ?_
    refine wa_ic_ne (tgt := 1250) F dL_law_1116 (by decide) (by exact ⟨by omega, by omega⟩) (by decide) (fun c1116 => ?_) (fun c1116 => ?_)
    · skip
      exact j1250 ht3
    · skip
      refine lv_iload hx hb dL_law_1119 (lv_at hl 14 rfl) ?_
      refine wa_if_le (tgt := 1250) F dL_law_1121 (by decide) (by have q0 := hB 21 0; exact ⟨by omega, by omega⟩) (fun c1121 => ?_) (fun c1121 => ?_)
      · skip
        exact j1250 ht3
      · skip
        refine lv_iload hx hb dL_law_1124 (lv_at hl 11 rfl) ?_
        refine wa_bi F dL_law_1126 (by decide +kernel) ?_
        refine wl_shr 9 512 F (by have q0 := (show wa_r y from ⟨by omega, by omega⟩); exact ⟨by omega, by omega⟩) (by decide +kernel) rfl dL_law_1128 ?_
        refine wa_const F dL_law_1129 ?_
        refine wl_and 2 4 F (by decide) (by decide +kernel) rfl (by decide) dL_law_1130 ?_
        refine wa_if_ne (tgt := 1250) F dL_law_1131 (by decide) (by have q0 := (show wa_r y from ⟨by omega, by omega⟩); exact ⟨by omega, by omega⟩) (fun c1131 => ?_) (fun c1131 => ?_)
        · skip
          exact j1250 ht3
        · skip
          exact law_d_hold hF hE ht htn hg hm hG h3 hxr hj hw hS hy ht3 (hbk (by omega)) hl
  have j1004 : 3 ≤ t → W p l e room_1 s m #[Value.ref b] below meth c H locs (400 + 700 * t) (4000 + 4200 * t) (Q) (F0 m 1004 ls []) := by
    intro ht3
    refine lv_iload hx hb dL_law_1004 (lv_at hl 12 rfl) ?_
    refine wa_bi F dL_law_1006 (by decide +kernel) ?_
    refine wa_ic_ne (tgt := 1112) F dL_law_1008 (by decide) (by exact ⟨by omega, by omega⟩) (by decide) (fun c1008 => ?_) (fun c1008 => ?_)
    · skip
      exact j1112 ht3
    · skip
      refine lv_iload hx hb dL_law_1011 (lv_at hl 14 rfl) ?_
      refine wa_if_le (tgt := 1112) F dL_law_1013 (by decide) (by have q0 := hB 21 0; exact ⟨by omega, by omega⟩) (fun c1013 => ?_) (fun c1013 => ?_)
      · skip
        exact j1112 ht3
      · skip
        exact law_d_raise hF hE ht htn hg hm hG h3 hxr hj hw hS hy ht3 (hbk (by omega)) hl
  have j872 : 3 ≤ t → W p l e room_1 s m #[Value.ref b] below meth c H locs (400 + 700 * t) (4000 + 4200 * t) (Q) (F0 m 872 ls []) := by
    intro ht3
    refine lv_iload hx hb dL_law_872 (lv_at hl 12 rfl) ?_
    refine wa_bi F dL_law_874 (by decide +kernel) ?_
    refine wa_ic_ge (tgt := 1004) F dL_law_876 (by decide) (by exact ⟨by omega, by omega⟩) (by decide) (fun c876 => ?_) (fun c876 => ?_)
    · skip
      exact j1004 ht3
    · skip
      refine lv_iload hx hb dL_law_879 (lv_at hl 14 rfl) ?_
      refine wa_if_le (tgt := 1004) F dL_law_881 (by decide) (by have q0 := hB 21 0; exact ⟨by omega, by omega⟩) (fun c881 => ?_) (fun c881 => ?_)
      · skip
        exact j1004 ht3
      · skip
        exact law_d_test hF hE ht htn hg hm hG h3 hxr hj hw hS hy ht3 (hbk (by omega)) hl
  have j750 : 3 ≤ t → W p l e room_1 s m #[Value.ref b] below meth c H locs (400 + 700 * t) (4000 + 4200 * t) (Q) (F0 m 750 ls []) := by
    intro ht3
    refine lv_iload hx hb dL_law_750 (lv_at hl 12 rfl) ?_
    refine wa_const F dL_law_752 ?_
    refine wa_ic_ne (tgt := 872) F dL_law_753 (by decide) (by exact ⟨by omega, by omega⟩) (by decide) (fun c753 => ?_) (fun c753 => ?_)
    · skip
      exact j872 ht3
    · skip
      exact law_d_bakeAll hF hE ht htn hg hm hG h3 hxr hj hw hS hy ht3 hl
  have j501 : 3 ≤ t → W p l e room_1 s m #[Value.ref b] below meth c H locs (400 + 700 * t) (4000 + 4200 * t) (Q) (F0 m 501 ls []) := by
    intro ht3
    refine lv_iload hx hb dL_law_501 (lv_at hl 12 rfl) ?_
    refine wa_const F dL_law_503 ?_
    refine wa_ic_ge (tgt := 750) F dL_law_504 (by decide) (by exact ⟨by omega, by omega⟩) (by decide) (fun c504 => ?_) (fun c504 => ?_)
    · skip
      exact j750 ht3
    · skip
      exact law_d_bake hF hE ht htn hg hm hG h3 hxr hj hw hS hy ht3 (him (by omega)) hl
  have j375 : 3 ≤ t → W p l e room_1 s m #[Value.ref b] below meth c H locs (400 + 700 * t) (4000 + 4200 * t) (Q) (F0 m 375 ls []) := by
    intro ht3
    refine lv_iload hx hb dL_law_375 (lv_at hl 12 rfl) ?_
    refine wa_const F dL_law_377 ?_
    refine wa_ic_ne (tgt := 501) F dL_law_378 (by decide) (by exact ⟨by omega, by omega⟩) (by decide) (fun c378 => ?_) (fun c378 => ?_)
    · skip
      exact j501 ht3
    · skip
      exact law_d_change hF hE ht htn hg hm hG h3 hxr hj hw hS hy ht3 hl
  have j286 : 3 ≤ t → W p l e room_1 s m #[Value.ref b] below meth c H locs (400 + 700 * t) (4000 + 4200 * t) (Q) (F0 m 286 ls []) := by
    intro ht3
    refine lv_iload hx hb dL_law_286 (lv_at hl 12 rfl) ?_
    refine wa_const F dL_law_288 ?_
    refine wa_ic_ge (tgt := 375) F dL_law_289 (by decide) (by exact ⟨by omega, by omega⟩) (by decide) (fun c289 => ?_) (fun c289 => ?_)
    · skip
      exact j375 ht3
    · skip
      exact law_d_step hF hE ht htn hg hm hG h3 hxr hj hw hS hy ht3 (him (by omega)) hl
  refine lv_iload hx hb dL_law_201 (lv_at hl 12 rfl) ?_
  refine wa_if_ne (tgt := 286) F dL_law_203 (by decide) (by exact ⟨by omega, by omega⟩) (fun c203 => ?_) (fun c203 => ?_)
  · skip
    exact j286 (by omega)
  · skip
    refine lv_iload hx hb dL_law_206 (lv_at hl 5 rfl) ?_
    refine wa_bi F dL_law_208 (by decide +kernel) ?_
    refine wa_ic_ge (tgt := 286) F dL_law_210 (by decide) (by have q0 := hB 8 0; exact ⟨by omega, by omega⟩) (by decide) (fun c210 => ?_) (fun c210 => ?_)
    · skip
      exact j286 (by omega)
    · skip
      refine lv_iload hx hb dL_law_213 (lv_at hl 9 rfl) ?_
      refine wa_const F dL_law_215 ?_
      refine wa_ic_lt (tgt := 226) F dL_law_216 (by decide) (by exact ⟨by omega, by omega⟩) (by decide) (fun c216 => ?_) (fun c216 => ?_)
      · skip
        exact law_d_add hF hE ht htn hg hm hG h3 hxr hj hw hS hy (by omega) hl
      · skip
        refine lv_iload hx hb dL_law_219 (lv_at hl 11 rfl) ?_
        refine wa_const F dL_law_221 ?_
        refine wl_and 2 4 F (by decide) (by decide +kernel) rfl (by decide) dL_law_222 ?_
        refine wa_if_ne (tgt := 286) F dL_law_223 (by decide) (by have q0 := (show wa_r y from ⟨by omega, by omega⟩); exact ⟨by omega, by omega⟩) (fun c223 => ?_) (fun c223 => ?_)
        · skip
          exact j286 (by omega)
        · skip
          exact law_d_add hF hE ht htn hg hm hG h3 hxr hj hw hS hy (by omega) hl
set_option maxRecDepth 100000 in
set_option maxHeartbeats 4000000 in
theorem law_116 (hF : law_F p l s m meth c D cy A b L xs) (hE : law_E p l e s m below meth c D cy A b Q o tn t) (ht : t < 280) (htn : -100000 ≤ tn ∧ tn ≤ 100000) (hg : gi (2 * t) T) (hm : mg T) (hG : LG T G) (h3 : ic t T) (hxr : xr T X) (hj : wa_wj A ad (wW cy ad T X G o)) (hw : wa_wd D ad (wW cy ad T X G o) H) (hS : va_S A s.heap H locs) (rx : wa_r x) (hl : lv_has ls 21 [(0, .ref b), (1, .ref (ad 0 0)), (2, .ref (ad 6 0)), (3, .ref (ad 6 1)), (4, .ref (ad 6 2)), (5, .int (iI (T 8 0))), (6, .int (iI (T 29 0))), (7, .int (iI 1)), (8, .int (iI tn)), (9, .int (iI (t : Int)))]) : W p l e room_1 s m #[Value.ref b] below meth c H locs (400 + 700 * t) (4000 + 4200 * t) (Q) (F0 m 116 ls [.int (iI x)]) := by
  obtain ⟨F, hTB, hN, hA, hlt, hX, hbl, hbA, hL⟩ := id hF
  obtain ⟨hx, hb, hml, hown, hts⟩ := id F.1
  obtain ⟨hB, w8, w21, w12, w29, w4, w7, w6, w5, w13, w25, w26, w28, w14, w3, wf17⟩ := id hg.1
  have h3a := h3.1
  have h3b := h3.2
  refine lv_istore (lv' := [(10, .int (iI x)), (0, .ref b), (1, .ref (ad 0 0)), (2, .ref (ad 6 0)), (3, .ref (ad 6 1)), (4, .ref (ad 6 2)), (5, .int (iI (T 8 0))), (6, .int (iI (T 29 0))), (7, .int (iI 1)), (8, .int (iI tn)), (9, .int (iI (t : Int)))]) hx hb dL_law_116 hl (by decide) rfl (fun ls hl => ?_)
  refine lv_iload hx hb dL_law_118 (lv_at hl 0 rfl) ?_
  refine wa_const F dL_law_120 ?_
  refine wl_shr 4 16 F (by have q0 := rx; exact ⟨by omega, by omega⟩) (by decide +kernel) rfl dL_law_121 ?_
  refine lv_ldc (own := "ImageBakerLaw") hx hb hown (hts _ qw_597) dL_law_122 ?_
  rw [show (268435455 : Int32) = iI 268435455 from by decide +kernel]
  refine wl_and 28 268435456 F (by decide) (by decide +kernel) rfl (by decide) dL_law_124 ?_
  obtain ⟨y, hy9⟩ : ∃ y : Int, y = x / 16 % 268435456 := ⟨_, rfl⟩
  rw [← hy9]
  have hy : 0 ≤ y ∧ y < 268435456 := by omega
  refine lv_istore (lv' := [(11, .int (iI y)), (10, .int (iI x)), (0, .ref b), (1, .ref (ad 0 0)), (2, .ref (ad 6 0)), (3, .ref (ad 6 1)), (4, .ref (ad 6 2)), (5, .int (iI (T 8 0))), (6, .int (iI (T 29 0))), (7, .int (iI 1)), (8, .int (iI tn)), (9, .int (iI (t : Int)))]) hx hb dL_law_125 hl (by decide) rfl (fun ls hl => ?_)
  refine lv_iload hx hb dL_law_127 (lv_at hl 11 rfl) ?_
  refine wa_const F dL_law_129 ?_
  refine wa_ic_ge (tgt := 137) F dL_law_130 (by decide) (by exact ⟨by omega, by omega⟩) (by decide) (fun c130 => ?_) (fun c130 => ?_)
  · skip
    refine lv_iload hx hb dL_law_137 (lv_at hl 11 rfl) ?_
    refine wa_bi F dL_law_139 (by decide +kernel) ?_
    refine wa_ic_ge (tgt := 148) F dL_law_141 (by decide) (by exact ⟨by omega, by omega⟩) (by decide) (fun c141 => ?_) (fun c141 => ?_)
    · skip
      refine lv_iload hx hb dL_law_148 (lv_at hl 1 rfl) ?_
      refine wa_bi F dL_law_150 (by decide +kernel) ?_
      refine wl_and 4 16 F (by decide) (by decide +kernel) rfl (by decide) dL_law_152 ?_
      refine lv_istore (lv' := [(12, .int (iI (x % 16))), (11, .int (iI y)), (10, .int (iI x)), (0, .ref b), (1, .ref (ad 0 0)), (2, .ref (ad 6 0)), (3, .ref (ad 6 1)), (4, .ref (ad 6 2)), (5, .int (iI (T 8 0))), (6, .int (iI (T 29 0))), (7, .int (iI 1)), (8, .int (iI tn)), (9, .int (iI (t : Int)))]) hx hb dL_law_153 hl (by decide) rfl (fun ls hl => ?_)
      refine lv_iload hx hb dL_law_155 (lv_at hl 8 rfl) ?_
      refine wa_if_ne (tgt := 164) F dL_law_157 (by decide) (by have q0 := hB 8 0; exact ⟨by omega, by omega⟩) (fun c157 => ?_) (fun c157 => ?_)
      · skip
        refine lv_iload hx hb dL_law_164 (lv_at hl 1 rfl) ?_
        refine lv_iload hx hb dL_law_166 (lv_at hl 8 rfl) ?_
        refine wl_rem F (by have q0 := (show wa_r y from ⟨by omega, by omega⟩); omega) (by have q0 := hB 8 0; omega) dL_law_168 ?_
        have him9 := md_r (a := y) (show (0 : Int) < T 8 0 by omega)
        obtain ⟨im, him8⟩ : ∃ im : Nat, y % T 8 0 = (im : Int) := ⟨(y % T 8 0).toNat, by omega⟩
        rw [him8]
        refine lv_istore (lv' := [(13, .int (iI (im : Int))), (12, .int (iI (x % 16))), (11, .int (iI y)), (10, .int (iI x)), (0, .ref b), (1, .ref (ad 0 0)), (2, .ref (ad 6 0)), (3, .ref (ad 6 1)), (4, .ref (ad 6 2)), (5, .int (iI (T 8 0))), (6, .int (iI (T 29 0))), (7, .int (iI 1)), (8, .int (iI tn)), (9, .int (iI (t : Int)))]) hx hb dL_law_169 hl (by decide) rfl (fun ls hl => ?_)
        refine lv_aload_n hx hb dL_law_171 rfl (lv_at hl 5 rfl) ?_
        refine ql_bakes F hg.1 hxr hj hw ⟨by decide, by decide⟩ (Nat.le_of_ble_eq_true rfl) hl.1 dL_law_172 ⟨Nat.le_trans (show _ ≤ 300000 by omega) (Nat.le_of_ble_eq_true rfl), Nat.le_trans (show _ ≤ 2000000 by omega) (Nat.le_of_ble_eq_true rfl)⟩ ?_
        refine lv_istore (lv' := [(14, .int (iI (T 21 0))), (13, .int (iI (im : Int))), (12, .int (iI (x % 16))), (11, .int (iI y)), (10, .int (iI x)), (0, .ref b), (1, .ref (ad 0 0)), (2, .ref (ad 6 0)), (3, .ref (ad 6 1)), (4, .ref (ad 6 2)), (5, .int (iI (T 8 0))), (6, .int (iI (T 29 0))), (7, .int (iI 1)), (8, .int (iI tn)), (9, .int (iI (t : Int)))]) hx hb dL_law_175 hl (by decide) rfl (fun ls hl => ?_)
        refine lv_aload_n hx hb dL_law_177 rfl (lv_at hl 6 rfl) ?_
        refine ql_layers F hg.1 hxr hj hw ⟨by decide, by decide⟩ (Nat.le_of_ble_eq_true rfl) hl.1 dL_law_178 ⟨Nat.le_trans (show _ ≤ 300000 by omega) (Nat.le_of_ble_eq_true rfl), Nat.le_trans (show _ ≤ 2000000 by omega) (Nat.le_of_ble_eq_true rfl)⟩ ?_
        refine lv_istore (lv' := [(15, .int (iI (T 12 0))), (14, .int (iI (T 21 0))), (13, .int (iI (im : Int))), (12, .int (iI (x % 16))), (11, .int (iI y)), (10, .int (iI x)), (0, .ref b), (1, .ref (ad 0 0)), (2, .ref (ad 6 0)), (3, .ref (ad 6 1)), (4, .ref (ad 6 2)), (5, .int (iI (T 8 0))), (6, .int (iI (T 29 0))), (7, .int (iI 1)), (8, .int (iI tn)), (9, .int (iI (t : Int)))]) hx hb dL_law_181 hl (by decide) rfl (fun ls hl => ?_)
        refine lv_iload hx hb dL_law_183 (lv_at hl 1 rfl) ?_
        refine wa_if_ne (tgt := 192) F dL_law_185 (by decide) (by have q0 := hB 21 0; exact ⟨by omega, by omega⟩) (fun c185 => ?_) (fun c185 => ?_)
        · skip
          refine lv_iload hx hb dL_law_192 (lv_at hl 4 rfl) ?_
          refine wa_const F dL_law_194 ?_
          refine wl_shr 2 4 F (by have q0 := (show wa_r y from ⟨by omega, by omega⟩); exact ⟨by omega, by omega⟩) (by decide +kernel) rfl dL_law_195 ?_
          refine lv_iload hx hb dL_law_196 (lv_at hl 1 rfl) ?_
          refine wl_rem F (by have q0 := (show wa_r y from ⟨by omega, by omega⟩); omega) (by have q0 := hB 21 0; omega) dL_law_198 ?_
          have hbk9 := md_r (a := y / 4) (show (0 : Int) < T 21 0 by omega)
          obtain ⟨bk, hbk8⟩ : ∃ bk : Nat, y / 4 % T 21 0 = (bk : Int) := ⟨(y / 4 % T 21 0).toNat, by omega⟩
          rw [hbk8]
          refine lv_istore (lv' := [(16, .int (iI (bk : Int))), (15, .int (iI (T 12 0))), (14, .int (iI (T 21 0))), (13, .int (iI (im : Int))), (12, .int (iI (x % 16))), (11, .int (iI y)), (10, .int (iI x)), (0, .ref b), (1, .ref (ad 0 0)), (2, .ref (ad 6 0)), (3, .ref (ad 6 1)), (4, .ref (ad 6 2)), (5, .int (iI (T 8 0))), (6, .int (iI (T 29 0))), (7, .int (iI 1)), (8, .int (iI tn)), (9, .int (iI (t : Int)))]) hx hb dL_law_199 hl (by decide) rfl (fun ls hl => ?_)
          exact law_201 (im := im) (bk := bk) (dd := (x % 16)) (y := y) (x := x) hF hE ht htn hg hm hG h3 hxr hj hw hS hy ⟨by omega, by omega⟩ (fun z => by omega) (fun z => by omega) (fun z => by omega) (show lv_has ls 21 [(0, .ref b), (1, .ref (ad 0 0)), (2, .ref (ad 6 0)), (3, .ref (ad 6 1)), (4, .ref (ad 6 2)), (5, .int (iI (T 8 0))), (6, .int (iI (T 29 0))), (7, .int (iI 1)), (8, .int (iI tn)), (9, .int (iI (t : Int))), (10, .int (iI x)), (11, .int (iI y)), (12, .int (iI (x % 16))), (13, .int (iI (im : Int))), (14, .int (iI (T 21 0))), (15, .int (iI (T 12 0))), (16, .int (iI (bk : Int)))] from lv_sub hl [7, 8, 9, 10, 11, 12, 13, 14, 15, 16, 6, 5, 4, 3, 2, 1, 0] rfl)
        · skip
          refine wa_const F dL_law_188 ?_
          refine wa_goto (tgt := 199) F dL_law_189 (by decide) ?_
          refine lv_istore (lv' := [(16, .int (iI 0)), (15, .int (iI (T 12 0))), (14, .int (iI (T 21 0))), (13, .int (iI (im : Int))), (12, .int (iI (x % 16))), (11, .int (iI y)), (10, .int (iI x)), (0, .ref b), (1, .ref (ad 0 0)), (2, .ref (ad 6 0)), (3, .ref (ad 6 1)), (4, .ref (ad 6 2)), (5, .int (iI (T 8 0))), (6, .int (iI (T 29 0))), (7, .int (iI 1)), (8, .int (iI tn)), (9, .int (iI (t : Int)))]) hx hb dL_law_199 hl (by decide) rfl (fun ls hl => ?_)
          exact law_201 (im := im) (bk := 0) (dd := (x % 16)) (y := y) (x := x) hF hE ht htn hg hm hG h3 hxr hj hw hS hy ⟨by omega, by omega⟩ (fun z => by omega) (fun z => by omega) (fun z => by omega) (show lv_has ls 21 [(0, .ref b), (1, .ref (ad 0 0)), (2, .ref (ad 6 0)), (3, .ref (ad 6 1)), (4, .ref (ad 6 2)), (5, .int (iI (T 8 0))), (6, .int (iI (T 29 0))), (7, .int (iI 1)), (8, .int (iI tn)), (9, .int (iI (t : Int))), (10, .int (iI x)), (11, .int (iI y)), (12, .int (iI (x % 16))), (13, .int (iI (im : Int))), (14, .int (iI (T 21 0))), (15, .int (iI (T 12 0))), (16, .int (iI ((0 : Nat) : Int)))] from lv_sub hl [7, 8, 9, 10, 11, 12, 13, 14, 15, 16, 6, 5, 4, 3, 2, 1, 0] rfl)
      · skip
        refine wa_const F dL_law_160 ?_
        refine wa_goto (tgt := 169) F dL_law_161 (by decide) ?_
        refine lv_istore (lv' := [(13, .int (iI 0)), (12, .int (iI (x % 16))), (11, .int (iI y)), (10, .int (iI x)), (0, .ref b), (1, .ref (ad 0 0)), (2, .ref (ad 6 0)), (3, .ref (ad 6 1)), (4, .ref (ad 6 2)), (5, .int (iI (T 8 0))), (6, .int (iI (T 29 0))), (7, .int (iI 1)), (8, .int (iI tn)), (9, .int (iI (t : Int)))]) hx hb dL_law_169 hl (by decide) rfl (fun ls hl => ?_)
        refine lv_aload_n hx hb dL_law_171 rfl (lv_at hl 5 rfl) ?_
        refine ql_bakes F hg.1 hxr hj hw ⟨by decide, by decide⟩ (Nat.le_of_ble_eq_true rfl) hl.1 dL_law_172 ⟨Nat.le_trans (show _ ≤ 300000 by omega) (Nat.le_of_ble_eq_true rfl), Nat.le_trans (show _ ≤ 2000000 by omega) (Nat.le_of_ble_eq_true rfl)⟩ ?_
        refine lv_istore (lv' := [(14, .int (iI (T 21 0))), (13, .int (iI 0)), (12, .int (iI (x % 16))), (11, .int (iI y)), (10, .int (iI x)), (0, .ref b), (1, .ref (ad 0 0)), (2, .ref (ad 6 0)), (3, .ref (ad 6 1)), (4, .ref (ad 6 2)), (5, .int (iI (T 8 0))), (6, .int (iI (T 29 0))), (7, .int (iI 1)), (8, .int (iI tn)), (9, .int (iI (t : Int)))]) hx hb dL_law_175 hl (by decide) rfl (fun ls hl => ?_)
        refine lv_aload_n hx hb dL_law_177 rfl (lv_at hl 6 rfl) ?_
        refine ql_layers F hg.1 hxr hj hw ⟨by decide, by decide⟩ (Nat.le_of_ble_eq_true rfl) hl.1 dL_law_178 ⟨Nat.le_trans (show _ ≤ 300000 by omega) (Nat.le_of_ble_eq_true rfl), Nat.le_trans (show _ ≤ 2000000 by omega) (Nat.le_of_ble_eq_true rfl)⟩ ?_
        refine lv_istore (lv' := [(15, .int (iI (T 12 0))), (14, .int (iI (T 21 0))), (13, .int (iI 0)), (12, .int (iI (x % 16))), (11, .int (iI y)), (10, .int (iI x)), (0, .ref b), (1, .ref (ad 0 0)), (2, .ref (ad 6 0)), (3, .ref (ad 6 1)), (4, .ref (ad 6 2)), (5, .int (iI (T 8 0))), (6, .int (iI (T 29 0))), (7, .int (iI 1)), (8, .int (iI tn)), (9, .int (iI (t : Int)))]) hx hb dL_law_181 hl (by decide) rfl (fun ls hl => ?_)
        refine lv_iload hx hb dL_law_183 (lv_at hl 1 rfl) ?_
        refine wa_if_ne (tgt := 192) F dL_law_185 (by decide) (by have q0 := hB 21 0; exact ⟨by omega, by omega⟩) (fun c185 => ?_) (fun c185 => ?_)
        · skip
          refine lv_iload hx hb dL_law_192 (lv_at hl 4 rfl) ?_
          refine wa_const F dL_law_194 ?_
          refine wl_shr 2 4 F (by have q0 := (show wa_r y from ⟨by omega, by omega⟩); exact ⟨by omega, by omega⟩) (by decide +kernel) rfl dL_law_195 ?_
          refine lv_iload hx hb dL_law_196 (lv_at hl 1 rfl) ?_
          refine wl_rem F (by have q0 := (show wa_r y from ⟨by omega, by omega⟩); omega) (by have q0 := hB 21 0; omega) dL_law_198 ?_
          have hbk9 := md_r (a := y / 4) (show (0 : Int) < T 21 0 by omega)
          obtain ⟨bk, hbk8⟩ : ∃ bk : Nat, y / 4 % T 21 0 = (bk : Int) := ⟨(y / 4 % T 21 0).toNat, by omega⟩
          rw [hbk8]
          refine lv_istore (lv' := [(16, .int (iI (bk : Int))), (15, .int (iI (T 12 0))), (14, .int (iI (T 21 0))), (13, .int (iI 0)), (12, .int (iI (x % 16))), (11, .int (iI y)), (10, .int (iI x)), (0, .ref b), (1, .ref (ad 0 0)), (2, .ref (ad 6 0)), (3, .ref (ad 6 1)), (4, .ref (ad 6 2)), (5, .int (iI (T 8 0))), (6, .int (iI (T 29 0))), (7, .int (iI 1)), (8, .int (iI tn)), (9, .int (iI (t : Int)))]) hx hb dL_law_199 hl (by decide) rfl (fun ls hl => ?_)
          exact law_201 (im := 0) (bk := bk) (dd := (x % 16)) (y := y) (x := x) hF hE ht htn hg hm hG h3 hxr hj hw hS hy ⟨by omega, by omega⟩ (fun z => by omega) (fun z => by omega) (fun z => by omega) (show lv_has ls 21 [(0, .ref b), (1, .ref (ad 0 0)), (2, .ref (ad 6 0)), (3, .ref (ad 6 1)), (4, .ref (ad 6 2)), (5, .int (iI (T 8 0))), (6, .int (iI (T 29 0))), (7, .int (iI 1)), (8, .int (iI tn)), (9, .int (iI (t : Int))), (10, .int (iI x)), (11, .int (iI y)), (12, .int (iI (x % 16))), (13, .int (iI ((0 : Nat) : Int))), (14, .int (iI (T 21 0))), (15, .int (iI (T 12 0))), (16, .int (iI (bk : Int)))] from lv_sub hl [7, 8, 9, 10, 11, 12, 13, 14, 15, 16, 6, 5, 4, 3, 2, 1, 0] rfl)
        · skip
          refine wa_const F dL_law_188 ?_
          refine wa_goto (tgt := 199) F dL_law_189 (by decide) ?_
          refine lv_istore (lv' := [(16, .int (iI 0)), (15, .int (iI (T 12 0))), (14, .int (iI (T 21 0))), (13, .int (iI 0)), (12, .int (iI (x % 16))), (11, .int (iI y)), (10, .int (iI x)), (0, .ref b), (1, .ref (ad 0 0)), (2, .ref (ad 6 0)), (3, .ref (ad 6 1)), (4, .ref (ad 6 2)), (5, .int (iI (T 8 0))), (6, .int (iI (T 29 0))), (7, .int (iI 1)), (8, .int (iI tn)), (9, .int (iI (t : Int)))]) hx hb dL_law_199 hl (by decide) rfl (fun ls hl => ?_)
          exact law_201 (im := 0) (bk := 0) (dd := (x % 16)) (y := y) (x := x) hF hE ht htn hg hm hG h3 hxr hj hw hS hy ⟨by omega, by omega⟩ (fun z => by omega) (fun z => by omega) (fun z => by omega) (show lv_has ls 21 [(0, .ref b), (1, .ref (ad 0 0)), (2, .ref (ad 6 0)), (3, .ref (ad 6 1)), (4, .ref (ad 6 2)), (5, .int (iI (T 8 0))), (6, .int (iI (T 29 0))), (7, .int (iI 1)), (8, .int (iI tn)), (9, .int (iI (t : Int))), (10, .int (iI x)), (11, .int (iI y)), (12, .int (iI (x % 16))), (13, .int (iI ((0 : Nat) : Int))), (14, .int (iI (T 21 0))), (15, .int (iI (T 12 0))), (16, .int (iI ((0 : Nat) : Int)))] from lv_sub hl [7, 8, 9, 10, 11, 12, 13, 14, 15, 16, 6, 5, 4, 3, 2, 1, 0] rfl)
    · skip
      refine wa_const F dL_law_144 ?_
      refine wa_goto (tgt := 153) F dL_law_145 (by decide) ?_
      refine lv_istore (lv' := [(12, .int (iI 1)), (11, .int (iI y)), (10, .int (iI x)), (0, .ref b), (1, .ref (ad 0 0)), (2, .ref (ad 6 0)), (3, .ref (ad 6 1)), (4, .ref (ad 6 2)), (5, .int (iI (T 8 0))), (6, .int (iI (T 29 0))), (7, .int (iI 1)), (8, .int (iI tn)), (9, .int (iI (t : Int)))]) hx hb dL_law_153 hl (by decide) rfl (fun ls hl => ?_)
      refine lv_iload hx hb dL_law_155 (lv_at hl 8 rfl) ?_
      refine wa_if_ne (tgt := 164) F dL_law_157 (by decide) (by have q0 := hB 8 0; exact ⟨by omega, by omega⟩) (fun c157 => ?_) (fun c157 => ?_)
      · skip
        refine lv_iload hx hb dL_law_164 (lv_at hl 1 rfl) ?_
        refine lv_iload hx hb dL_law_166 (lv_at hl 8 rfl) ?_
        refine wl_rem F (by have q0 := (show wa_r y from ⟨by omega, by omega⟩); omega) (by have q0 := hB 8 0; omega) dL_law_168 ?_
        have him9 := md_r (a := y) (show (0 : Int) < T 8 0 by omega)
        obtain ⟨im, him8⟩ : ∃ im : Nat, y % T 8 0 = (im : Int) := ⟨(y % T 8 0).toNat, by omega⟩
        rw [him8]
        refine lv_istore (lv' := [(13, .int (iI (im : Int))), (12, .int (iI 1)), (11, .int (iI y)), (10, .int (iI x)), (0, .ref b), (1, .ref (ad 0 0)), (2, .ref (ad 6 0)), (3, .ref (ad 6 1)), (4, .ref (ad 6 2)), (5, .int (iI (T 8 0))), (6, .int (iI (T 29 0))), (7, .int (iI 1)), (8, .int (iI tn)), (9, .int (iI (t : Int)))]) hx hb dL_law_169 hl (by decide) rfl (fun ls hl => ?_)
        refine lv_aload_n hx hb dL_law_171 rfl (lv_at hl 5 rfl) ?_
        refine ql_bakes F hg.1 hxr hj hw ⟨by decide, by decide⟩ (Nat.le_of_ble_eq_true rfl) hl.1 dL_law_172 ⟨Nat.le_trans (show _ ≤ 300000 by omega) (Nat.le_of_ble_eq_true rfl), Nat.le_trans (show _ ≤ 2000000 by omega) (Nat.le_of_ble_eq_true rfl)⟩ ?_
        refine lv_istore (lv' := [(14, .int (iI (T 21 0))), (13, .int (iI (im : Int))), (12, .int (iI 1)), (11, .int (iI y)), (10, .int (iI x)), (0, .ref b), (1, .ref (ad 0 0)), (2, .ref (ad 6 0)), (3, .ref (ad 6 1)), (4, .ref (ad 6 2)), (5, .int (iI (T 8 0))), (6, .int (iI (T 29 0))), (7, .int (iI 1)), (8, .int (iI tn)), (9, .int (iI (t : Int)))]) hx hb dL_law_175 hl (by decide) rfl (fun ls hl => ?_)
        refine lv_aload_n hx hb dL_law_177 rfl (lv_at hl 6 rfl) ?_
        refine ql_layers F hg.1 hxr hj hw ⟨by decide, by decide⟩ (Nat.le_of_ble_eq_true rfl) hl.1 dL_law_178 ⟨Nat.le_trans (show _ ≤ 300000 by omega) (Nat.le_of_ble_eq_true rfl), Nat.le_trans (show _ ≤ 2000000 by omega) (Nat.le_of_ble_eq_true rfl)⟩ ?_
        refine lv_istore (lv' := [(15, .int (iI (T 12 0))), (14, .int (iI (T 21 0))), (13, .int (iI (im : Int))), (12, .int (iI 1)), (11, .int (iI y)), (10, .int (iI x)), (0, .ref b), (1, .ref (ad 0 0)), (2, .ref (ad 6 0)), (3, .ref (ad 6 1)), (4, .ref (ad 6 2)), (5, .int (iI (T 8 0))), (6, .int (iI (T 29 0))), (7, .int (iI 1)), (8, .int (iI tn)), (9, .int (iI (t : Int)))]) hx hb dL_law_181 hl (by decide) rfl (fun ls hl => ?_)
        refine lv_iload hx hb dL_law_183 (lv_at hl 1 rfl) ?_
        refine wa_if_ne (tgt := 192) F dL_law_185 (by decide) (by have q0 := hB 21 0; exact ⟨by omega, by omega⟩) (fun c185 => ?_) (fun c185 => ?_)
        · skip
          refine lv_iload hx hb dL_law_192 (lv_at hl 4 rfl) ?_
          refine wa_const F dL_law_194 ?_
          refine wl_shr 2 4 F (by have q0 := (show wa_r y from ⟨by omega, by omega⟩); exact ⟨by omega, by omega⟩) (by decide +kernel) rfl dL_law_195 ?_
          refine lv_iload hx hb dL_law_196 (lv_at hl 1 rfl) ?_
          refine wl_rem F (by have q0 := (show wa_r y from ⟨by omega, by omega⟩); omega) (by have q0 := hB 21 0; omega) dL_law_198 ?_
          have hbk9 := md_r (a := y / 4) (show (0 : Int) < T 21 0 by omega)
          obtain ⟨bk, hbk8⟩ : ∃ bk : Nat, y / 4 % T 21 0 = (bk : Int) := ⟨(y / 4 % T 21 0).toNat, by omega⟩
          rw [hbk8]
          refine lv_istore (lv' := [(16, .int (iI (bk : Int))), (15, .int (iI (T 12 0))), (14, .int (iI (T 21 0))), (13, .int (iI (im : Int))), (12, .int (iI 1)), (11, .int (iI y)), (10, .int (iI x)), (0, .ref b), (1, .ref (ad 0 0)), (2, .ref (ad 6 0)), (3, .ref (ad 6 1)), (4, .ref (ad 6 2)), (5, .int (iI (T 8 0))), (6, .int (iI (T 29 0))), (7, .int (iI 1)), (8, .int (iI tn)), (9, .int (iI (t : Int)))]) hx hb dL_law_199 hl (by decide) rfl (fun ls hl => ?_)
          exact law_201 (im := im) (bk := bk) (dd := 1) (y := y) (x := x) hF hE ht htn hg hm hG h3 hxr hj hw hS hy ⟨by omega, by omega⟩ (fun z => by omega) (fun z => by omega) (fun z => by omega) (show lv_has ls 21 [(0, .ref b), (1, .ref (ad 0 0)), (2, .ref (ad 6 0)), (3, .ref (ad 6 1)), (4, .ref (ad 6 2)), (5, .int (iI (T 8 0))), (6, .int (iI (T 29 0))), (7, .int (iI 1)), (8, .int (iI tn)), (9, .int (iI (t : Int))), (10, .int (iI x)), (11, .int (iI y)), (12, .int (iI 1)), (13, .int (iI (im : Int))), (14, .int (iI (T 21 0))), (15, .int (iI (T 12 0))), (16, .int (iI (bk : Int)))] from lv_sub hl [7, 8, 9, 10, 11, 12, 13, 14, 15, 16, 6, 5, 4, 3, 2, 1, 0] rfl)
        · skip
          refine wa_const F dL_law_188 ?_
          refine wa_goto (tgt := 199) F dL_law_189 (by decide) ?_
          refine lv_istore (lv' := [(16, .int (iI 0)), (15, .int (iI (T 12 0))), (14, .int (iI (T 21 0))), (13, .int (iI (im : Int))), (12, .int (iI 1)), (11, .int (iI y)), (10, .int (iI x)), (0, .ref b), (1, .ref (ad 0 0)), (2, .ref (ad 6 0)), (3, .ref (ad 6 1)), (4, .ref (ad 6 2)), (5, .int (iI (T 8 0))), (6, .int (iI (T 29 0))), (7, .int (iI 1)), (8, .int (iI tn)), (9, .int (iI (t : Int)))]) hx hb dL_law_199 hl (by decide) rfl (fun ls hl => ?_)
          exact law_201 (im := im) (bk := 0) (dd := 1) (y := y) (x := x) hF hE ht htn hg hm hG h3 hxr hj hw hS hy ⟨by omega, by omega⟩ (fun z => by omega) (fun z => by omega) (fun z => by omega) (show lv_has ls 21 [(0, .ref b), (1, .ref (ad 0 0)), (2, .ref (ad 6 0)), (3, .ref (ad 6 1)), (4, .ref (ad 6 2)), (5, .int (iI (T 8 0))), (6, .int (iI (T 29 0))), (7, .int (iI 1)), (8, .int (iI tn)), (9, .int (iI (t : Int))), (10, .int (iI x)), (11, .int (iI y)), (12, .int (iI 1)), (13, .int (iI (im : Int))), (14, .int (iI (T 21 0))), (15, .int (iI (T 12 0))), (16, .int (iI ((0 : Nat) : Int)))] from lv_sub hl [7, 8, 9, 10, 11, 12, 13, 14, 15, 16, 6, 5, 4, 3, 2, 1, 0] rfl)
      · skip
        refine wa_const F dL_law_160 ?_
        refine wa_goto (tgt := 169) F dL_law_161 (by decide) ?_
        refine lv_istore (lv' := [(13, .int (iI 0)), (12, .int (iI 1)), (11, .int (iI y)), (10, .int (iI x)), (0, .ref b), (1, .ref (ad 0 0)), (2, .ref (ad 6 0)), (3, .ref (ad 6 1)), (4, .ref (ad 6 2)), (5, .int (iI (T 8 0))), (6, .int (iI (T 29 0))), (7, .int (iI 1)), (8, .int (iI tn)), (9, .int (iI (t : Int)))]) hx hb dL_law_169 hl (by decide) rfl (fun ls hl => ?_)
        refine lv_aload_n hx hb dL_law_171 rfl (lv_at hl 5 rfl) ?_
        refine ql_bakes F hg.1 hxr hj hw ⟨by decide, by decide⟩ (Nat.le_of_ble_eq_true rfl) hl.1 dL_law_172 ⟨Nat.le_trans (show _ ≤ 300000 by omega) (Nat.le_of_ble_eq_true rfl), Nat.le_trans (show _ ≤ 2000000 by omega) (Nat.le_of_ble_eq_true rfl)⟩ ?_
        refine lv_istore (lv' := [(14, .int (iI (T 21 0))), (13, .int (iI 0)), (12, .int (iI 1)), (11, .int (iI y)), (10, .int (iI x)), (0, .ref b), (1, .ref (ad 0 0)), (2, .ref (ad 6 0)), (3, .ref (ad 6 1)), (4, .ref (ad 6 2)), (5, .int (iI (T 8 0))), (6, .int (iI (T 29 0))), (7, .int (iI 1)), (8, .int (iI tn)), (9, .int (iI (t : Int)))]) hx hb dL_law_175 hl (by decide) rfl (fun ls hl => ?_)
        refine lv_aload_n hx hb dL_law_177 rfl (lv_at hl 6 rfl) ?_
        refine ql_layers F hg.1 hxr hj hw ⟨by decide, by decide⟩ (Nat.le_of_ble_eq_true rfl) hl.1 dL_law_178 ⟨Nat.le_trans (show _ ≤ 300000 by omega) (Nat.le_of_ble_eq_true rfl), Nat.le_trans (show _ ≤ 2000000 by omega) (Nat.le_of_ble_eq_true rfl)⟩ ?_
        refine lv_istore (lv' := [(15, .int (iI (T 12 0))), (14, .int (iI (T 21 0))), (13, .int (iI 0)), (12, .int (iI 1)), (11, .int (iI y)), (10, .int (iI x)), (0, .ref b), (1, .ref (ad 0 0)), (2, .ref (ad 6 0)), (3, .ref (ad 6 1)), (4, .ref (ad 6 2)), (5, .int (iI (T 8 0))), (6, .int (iI (T 29 0))), (7, .int (iI 1)), (8, .int (iI tn)), (9, .int (iI (t : Int)))]) hx hb dL_law_181 hl (by decide) rfl (fun ls hl => ?_)
        refine lv_iload hx hb dL_law_183 (lv_at hl 1 rfl) ?_
        refine wa_if_ne (tgt := 192) F dL_law_185 (by decide) (by have q0 := hB 21 0; exact ⟨by omega, by omega⟩) (fun c185 => ?_) (fun c185 => ?_)
        · skip
          refine lv_iload hx hb dL_law_192 (lv_at hl 4 rfl) ?_
          refine wa_const F dL_law_194 ?_
          refine wl_shr 2 4 F (by have q0 := (show wa_r y from ⟨by omega, by omega⟩); exact ⟨by omega, by omega⟩) (by decide +kernel) rfl dL_law_195 ?_
          refine lv_iload hx hb dL_law_196 (lv_at hl 1 rfl) ?_
          refine wl_rem F (by have q0 := (show wa_r y from ⟨by omega, by omega⟩); omega) (by have q0 := hB 21 0; omega) dL_law_198 ?_
          have hbk9 := md_r (a := y / 4) (show (0 : Int) < T 21 0 by omega)
          obtain ⟨bk, hbk8⟩ : ∃ bk : Nat, y / 4 % T 21 0 = (bk : Int) := ⟨(y / 4 % T 21 0).toNat, by omega⟩
          rw [hbk8]
          refine lv_istore (lv' := [(16, .int (iI (bk : Int))), (15, .int (iI (T 12 0))), (14, .int (iI (T 21 0))), (13, .int (iI 0)), (12, .int (iI 1)), (11, .int (iI y)), (10, .int (iI x)), (0, .ref b), (1, .ref (ad 0 0)), (2, .ref (ad 6 0)), (3, .ref (ad 6 1)), (4, .ref (ad 6 2)), (5, .int (iI (T 8 0))), (6, .int (iI (T 29 0))), (7, .int (iI 1)), (8, .int (iI tn)), (9, .int (iI (t : Int)))]) hx hb dL_law_199 hl (by decide) rfl (fun ls hl => ?_)
          exact law_201 (im := 0) (bk := bk) (dd := 1) (y := y) (x := x) hF hE ht htn hg hm hG h3 hxr hj hw hS hy ⟨by omega, by omega⟩ (fun z => by omega) (fun z => by omega) (fun z => by omega) (show lv_has ls 21 [(0, .ref b), (1, .ref (ad 0 0)), (2, .ref (ad 6 0)), (3, .ref (ad 6 1)), (4, .ref (ad 6 2)), (5, .int (iI (T 8 0))), (6, .int (iI (T 29 0))), (7, .int (iI 1)), (8, .int (iI tn)), (9, .int (iI (t : Int))), (10, .int (iI x)), (11, .int (iI y)), (12, .int (iI 1)), (13, .int (iI ((0 : Nat) : Int))), (14, .int (iI (T 21 0))), (15, .int (iI (T 12 0))), (16, .int (iI (bk : Int)))] from lv_sub hl [7, 8, 9, 10, 11, 12, 13, 14, 15, 16, 6, 5, 4, 3, 2, 1, 0] rfl)
        · skip
          refine wa_const F dL_law_188 ?_
          refine wa_goto (tgt := 199) F dL_law_189 (by decide) ?_
          refine lv_istore (lv' := [(16, .int (iI 0)), (15, .int (iI (T 12 0))), (14, .int (iI (T 21 0))), (13, .int (iI 0)), (12, .int (iI 1)), (11, .int (iI y)), (10, .int (iI x)), (0, .ref b), (1, .ref (ad 0 0)), (2, .ref (ad 6 0)), (3, .ref (ad 6 1)), (4, .ref (ad 6 2)), (5, .int (iI (T 8 0))), (6, .int (iI (T 29 0))), (7, .int (iI 1)), (8, .int (iI tn)), (9, .int (iI (t : Int)))]) hx hb dL_law_199 hl (by decide) rfl (fun ls hl => ?_)
          exact law_201 (im := 0) (bk := 0) (dd := 1) (y := y) (x := x) hF hE ht htn hg hm hG h3 hxr hj hw hS hy ⟨by omega, by omega⟩ (fun z => by omega) (fun z => by omega) (fun z => by omega) (show lv_has ls 21 [(0, .ref b), (1, .ref (ad 0 0)), (2, .ref (ad 6 0)), (3, .ref (ad 6 1)), (4, .ref (ad 6 2)), (5, .int (iI (T 8 0))), (6, .int (iI (T 29 0))), (7, .int (iI 1)), (8, .int (iI tn)), (9, .int (iI (t : Int))), (10, .int (iI x)), (11, .int (iI y)), (12, .int (iI 1)), (13, .int (iI ((0 : Nat) : Int))), (14, .int (iI (T 21 0))), (15, .int (iI (T 12 0))), (16, .int (iI ((0 : Nat) : Int)))] from lv_sub hl [7, 8, 9, 10, 11, 12, 13, 14, 15, 16, 6, 5, 4, 3, 2, 1, 0] rfl)
  · skip
    refine wa_const F dL_law_133 ?_
    refine wa_goto (tgt := 153) F dL_law_134 (by decide) ?_
    refine lv_istore (lv' := [(12, .int (iI 0)), (11, .int (iI y)), (10, .int (iI x)), (0, .ref b), (1, .ref (ad 0 0)), (2, .ref (ad 6 0)), (3, .ref (ad 6 1)), (4, .ref (ad 6 2)), (5, .int (iI (T 8 0))), (6, .int (iI (T 29 0))), (7, .int (iI 1)), (8, .int (iI tn)), (9, .int (iI (t : Int)))]) hx hb dL_law_153 hl (by decide) rfl (fun ls hl => ?_)
    refine lv_iload hx hb dL_law_155 (lv_at hl 8 rfl) ?_
    refine wa_if_ne (tgt := 164) F dL_law_157 (by decide) (by have q0 := hB 8 0; exact ⟨by omega, by omega⟩) (fun c157 => ?_) (fun c157 => ?_)
    · skip
      refine lv_iload hx hb dL_law_164 (lv_at hl 1 rfl) ?_
      refine lv_iload hx hb dL_law_166 (lv_at hl 8 rfl) ?_
      refine wl_rem F (by have q0 := (show wa_r y from ⟨by omega, by omega⟩); omega) (by have q0 := hB 8 0; omega) dL_law_168 ?_
      have him9 := md_r (a := y) (show (0 : Int) < T 8 0 by omega)
      obtain ⟨im, him8⟩ : ∃ im : Nat, y % T 8 0 = (im : Int) := ⟨(y % T 8 0).toNat, by omega⟩
      rw [him8]
      refine lv_istore (lv' := [(13, .int (iI (im : Int))), (12, .int (iI 0)), (11, .int (iI y)), (10, .int (iI x)), (0, .ref b), (1, .ref (ad 0 0)), (2, .ref (ad 6 0)), (3, .ref (ad 6 1)), (4, .ref (ad 6 2)), (5, .int (iI (T 8 0))), (6, .int (iI (T 29 0))), (7, .int (iI 1)), (8, .int (iI tn)), (9, .int (iI (t : Int)))]) hx hb dL_law_169 hl (by decide) rfl (fun ls hl => ?_)
      refine lv_aload_n hx hb dL_law_171 rfl (lv_at hl 5 rfl) ?_
      refine ql_bakes F hg.1 hxr hj hw ⟨by decide, by decide⟩ (Nat.le_of_ble_eq_true rfl) hl.1 dL_law_172 ⟨Nat.le_trans (show _ ≤ 300000 by omega) (Nat.le_of_ble_eq_true rfl), Nat.le_trans (show _ ≤ 2000000 by omega) (Nat.le_of_ble_eq_true rfl)⟩ ?_
      refine lv_istore (lv' := [(14, .int (iI (T 21 0))), (13, .int (iI (im : Int))), (12, .int (iI 0)), (11, .int (iI y)), (10, .int (iI x)), (0, .ref b), (1, .ref (ad 0 0)), (2, .ref (ad 6 0)), (3, .ref (ad 6 1)), (4, .ref (ad 6 2)), (5, .int (iI (T 8 0))), (6, .int (iI (T 29 0))), (7, .int (iI 1)), (8, .int (iI tn)), (9, .int (iI (t : Int)))]) hx hb dL_law_175 hl (by decide) rfl (fun ls hl => ?_)
      refine lv_aload_n hx hb dL_law_177 rfl (lv_at hl 6 rfl) ?_
      refine ql_layers F hg.1 hxr hj hw ⟨by decide, by decide⟩ (Nat.le_of_ble_eq_true rfl) hl.1 dL_law_178 ⟨Nat.le_trans (show _ ≤ 300000 by omega) (Nat.le_of_ble_eq_true rfl), Nat.le_trans (show _ ≤ 2000000 by omega) (Nat.le_of_ble_eq_true rfl)⟩ ?_
      refine lv_istore (lv' := [(15, .int (iI (T 12 0))), (14, .int (iI (T 21 0))), (13, .int (iI (im : Int))), (12, .int (iI 0)), (11, .int (iI y)), (10, .int (iI x)), (0, .ref b), (1, .ref (ad 0 0)), (2, .ref (ad 6 0)), (3, .ref (ad 6 1)), (4, .ref (ad 6 2)), (5, .int (iI (T 8 0))), (6, .int (iI (T 29 0))), (7, .int (iI 1)), (8, .int (iI tn)), (9, .int (iI (t : Int)))]) hx hb dL_law_181 hl (by decide) rfl (fun ls hl => ?_)
      refine lv_iload hx hb dL_law_183 (lv_at hl 1 rfl) ?_
      refine wa_if_ne (tgt := 192) F dL_law_185 (by decide) (by have q0 := hB 21 0; exact ⟨by omega, by omega⟩) (fun c185 => ?_) (fun c185 => ?_)
      · skip
        refine lv_iload hx hb dL_law_192 (lv_at hl 4 rfl) ?_
        refine wa_const F dL_law_194 ?_
        refine wl_shr 2 4 F (by have q0 := (show wa_r y from ⟨by omega, by omega⟩); exact ⟨by omega, by omega⟩) (by decide +kernel) rfl dL_law_195 ?_
        refine lv_iload hx hb dL_law_196 (lv_at hl 1 rfl) ?_
        refine wl_rem F (by have q0 := (show wa_r y from ⟨by omega, by omega⟩); omega) (by have q0 := hB 21 0; omega) dL_law_198 ?_
        have hbk9 := md_r (a := y / 4) (show (0 : Int) < T 21 0 by omega)
        obtain ⟨bk, hbk8⟩ : ∃ bk : Nat, y / 4 % T 21 0 = (bk : Int) := ⟨(y / 4 % T 21 0).toNat, by omega⟩
        rw [hbk8]
        refine lv_istore (lv' := [(16, .int (iI (bk : Int))), (15, .int (iI (T 12 0))), (14, .int (iI (T 21 0))), (13, .int (iI (im : Int))), (12, .int (iI 0)), (11, .int (iI y)), (10, .int (iI x)), (0, .ref b), (1, .ref (ad 0 0)), (2, .ref (ad 6 0)), (3, .ref (ad 6 1)), (4, .ref (ad 6 2)), (5, .int (iI (T 8 0))), (6, .int (iI (T 29 0))), (7, .int (iI 1)), (8, .int (iI tn)), (9, .int (iI (t : Int)))]) hx hb dL_law_199 hl (by decide) rfl (fun ls hl => ?_)
        exact law_201 (im := im) (bk := bk) (dd := 0) (y := y) (x := x) hF hE ht htn hg hm hG h3 hxr hj hw hS hy ⟨by omega, by omega⟩ (fun z => by omega) (fun z => by omega) (fun z => by omega) (show lv_has ls 21 [(0, .ref b), (1, .ref (ad 0 0)), (2, .ref (ad 6 0)), (3, .ref (ad 6 1)), (4, .ref (ad 6 2)), (5, .int (iI (T 8 0))), (6, .int (iI (T 29 0))), (7, .int (iI 1)), (8, .int (iI tn)), (9, .int (iI (t : Int))), (10, .int (iI x)), (11, .int (iI y)), (12, .int (iI 0)), (13, .int (iI (im : Int))), (14, .int (iI (T 21 0))), (15, .int (iI (T 12 0))), (16, .int (iI (bk : Int)))] from lv_sub hl [7, 8, 9, 10, 11, 12, 13, 14, 15, 16, 6, 5, 4, 3, 2, 1, 0] rfl)
      · skip
        refine wa_const F dL_law_188 ?_
        refine wa_goto (tgt := 199) F dL_law_189 (by decide) ?_
        refine lv_istore (lv' := [(16, .int (iI 0)), (15, .int (iI (T 12 0))), (14, .int (iI (T 21 0))), (13, .int (iI (im : Int))), (12, .int (iI 0)), (11, .int (iI y)), (10, .int (iI x)), (0, .ref b), (1, .ref (ad 0 0)), (2, .ref (ad 6 0)), (3, .ref (ad 6 1)), (4, .ref (ad 6 2)), (5, .int (iI (T 8 0))), (6, .int (iI (T 29 0))), (7, .int (iI 1)), (8, .int (iI tn)), (9, .int (iI (t : Int)))]) hx hb dL_law_199 hl (by decide) rfl (fun ls hl => ?_)
        exact law_201 (im := im) (bk := 0) (dd := 0) (y := y) (x := x) hF hE ht htn hg hm hG h3 hxr hj hw hS hy ⟨by omega, by omega⟩ (fun z => by omega) (fun z => by omega) (fun z => by omega) (show lv_has ls 21 [(0, .ref b), (1, .ref (ad 0 0)), (2, .ref (ad 6 0)), (3, .ref (ad 6 1)), (4, .ref (ad 6 2)), (5, .int (iI (T 8 0))), (6, .int (iI (T 29 0))), (7, .int (iI 1)), (8, .int (iI tn)), (9, .int (iI (t : Int))), (10, .int (iI x)), (11, .int (iI y)), (12, .int (iI 0)), (13, .int (iI (im : Int))), (14, .int (iI (T 21 0))), (15, .int (iI (T 12 0))), (16, .int (iI ((0 : Nat) : Int)))] from lv_sub hl [7, 8, 9, 10, 11, 12, 13, 14, 15, 16, 6, 5, 4, 3, 2, 1, 0] rfl)
    · skip
      refine wa_const F dL_law_160 ?_
      refine wa_goto (tgt := 169) F dL_law_161 (by decide) ?_
      refine lv_istore (lv' := [(13, .int (iI 0)), (12, .int (iI 0)), (11, .int (iI y)), (10, .int (iI x)), (0, .ref b), (1, .ref (ad 0 0)), (2, .ref (ad 6 0)), (3, .ref (ad 6 1)), (4, .ref (ad 6 2)), (5, .int (iI (T 8 0))), (6, .int (iI (T 29 0))), (7, .int (iI 1)), (8, .int (iI tn)), (9, .int (iI (t : Int)))]) hx hb dL_law_169 hl (by decide) rfl (fun ls hl => ?_)
      refine lv_aload_n hx hb dL_law_171 rfl (lv_at hl 5 rfl) ?_
      refine ql_bakes F hg.1 hxr hj hw ⟨by decide, by decide⟩ (Nat.le_of_ble_eq_true rfl) hl.1 dL_law_172 ⟨Nat.le_trans (show _ ≤ 300000 by omega) (Nat.le_of_ble_eq_true rfl), Nat.le_trans (show _ ≤ 2000000 by omega) (Nat.le_of_ble_eq_true rfl)⟩ ?_
      refine lv_istore (lv' := [(14, .int (iI (T 21 0))), (13, .int (iI 0)), (12, .int (iI 0)), (11, .int (iI y)), (10, .int (iI x)), (0, .ref b), (1, .ref (ad 0 0)), (2, .ref (ad 6 0)), (3, .ref (ad 6 1)), (4, .ref (ad 6 2)), (5, .int (iI (T 8 0))), (6, .int (iI (T 29 0))), (7, .int (iI 1)), (8, .int (iI tn)), (9, .int (iI (t : Int)))]) hx hb dL_law_175 hl (by decide) rfl (fun ls hl => ?_)
      refine lv_aload_n hx hb dL_law_177 rfl (lv_at hl 6 rfl) ?_
      refine ql_layers F hg.1 hxr hj hw ⟨by decide, by decide⟩ (Nat.le_of_ble_eq_true rfl) hl.1 dL_law_178 ⟨Nat.le_trans (show _ ≤ 300000 by omega) (Nat.le_of_ble_eq_true rfl), Nat.le_trans (show _ ≤ 2000000 by omega) (Nat.le_of_ble_eq_true rfl)⟩ ?_
      refine lv_istore (lv' := [(15, .int (iI (T 12 0))), (14, .int (iI (T 21 0))), (13, .int (iI 0)), (12, .int (iI 0)), (11, .int (iI y)), (10, .int (iI x)), (0, .ref b), (1, .ref (ad 0 0)), (2, .ref (ad 6 0)), (3, .ref (ad 6 1)), (4, .ref (ad 6 2)), (5, .int (iI (T 8 0))), (6, .int (iI (T 29 0))), (7, .int (iI 1)), (8, .int (iI tn)), (9, .int (iI (t : Int)))]) hx hb dL_law_181 hl (by decide) rfl (fun ls hl => ?_)
      refine lv_iload hx hb dL_law_183 (lv_at hl 1 rfl) ?_
      refine wa_if_ne (tgt := 192) F dL_law_185 (by decide) (by have q0 := hB 21 0; exact ⟨by omega, by omega⟩) (fun c185 => ?_) (fun c185 => ?_)
      · skip
        refine lv_iload hx hb dL_law_192 (lv_at hl 4 rfl) ?_
        refine wa_const F dL_law_194 ?_
        refine wl_shr 2 4 F (by have q0 := (show wa_r y from ⟨by omega, by omega⟩); exact ⟨by omega, by omega⟩) (by decide +kernel) rfl dL_law_195 ?_
        refine lv_iload hx hb dL_law_196 (lv_at hl 1 rfl) ?_
        refine wl_rem F (by have q0 := (show wa_r y from ⟨by omega, by omega⟩); omega) (by have q0 := hB 21 0; omega) dL_law_198 ?_
        have hbk9 := md_r (a := y / 4) (show (0 : Int) < T 21 0 by omega)
        obtain ⟨bk, hbk8⟩ : ∃ bk : Nat, y / 4 % T 21 0 = (bk : Int) := ⟨(y / 4 % T 21 0).toNat, by omega⟩
        rw [hbk8]
        refine lv_istore (lv' := [(16, .int (iI (bk : Int))), (15, .int (iI (T 12 0))), (14, .int (iI (T 21 0))), (13, .int (iI 0)), (12, .int (iI 0)), (11, .int (iI y)), (10, .int (iI x)), (0, .ref b), (1, .ref (ad 0 0)), (2, .ref (ad 6 0)), (3, .ref (ad 6 1)), (4, .ref (ad 6 2)), (5, .int (iI (T 8 0))), (6, .int (iI (T 29 0))), (7, .int (iI 1)), (8, .int (iI tn)), (9, .int (iI (t : Int)))]) hx hb dL_law_199 hl (by decide) rfl (fun ls hl => ?_)
        exact law_201 (im := 0) (bk := bk) (dd := 0) (y := y) (x := x) hF hE ht htn hg hm hG h3 hxr hj hw hS hy ⟨by omega, by omega⟩ (fun z => by omega) (fun z => by omega) (fun z => by omega) (show lv_has ls 21 [(0, .ref b), (1, .ref (ad 0 0)), (2, .ref (ad 6 0)), (3, .ref (ad 6 1)), (4, .ref (ad 6 2)), (5, .int (iI (T 8 0))), (6, .int (iI (T 29 0))), (7, .int (iI 1)), (8, .int (iI tn)), (9, .int (iI (t : Int))), (10, .int (iI x)), (11, .int (iI y)), (12, .int (iI 0)), (13, .int (iI ((0 : Nat) : Int))), (14, .int (iI (T 21 0))), (15, .int (iI (T 12 0))), (16, .int (iI (bk : Int)))] from lv_sub hl [7, 8, 9, 10, 11, 12, 13, 14, 15, 16, 6, 5, 4, 3, 2, 1, 0] rfl)
      · skip
        refine wa_const F dL_law_188 ?_
        refine wa_goto (tgt := 199) F dL_law_189 (by decide) ?_
        refine lv_istore (lv' := [(16, .int (iI 0)), (15, .int (iI (T 12 0))), (14, .int (iI (T 21 0))), (13, .int (iI 0)), (12, .int (iI 0)), (11, .int (iI y)), (10, .int (iI x)), (0, .ref b), (1, .ref (ad 0 0)), (2, .ref (ad 6 0)), (3, .ref (ad 6 1)), (4, .ref (ad 6 2)), (5, .int (iI (T 8 0))), (6, .int (iI (T 29 0))), (7, .int (iI 1)), (8, .int (iI tn)), (9, .int (iI (t : Int)))]) hx hb dL_law_199 hl (by decide) rfl (fun ls hl => ?_)
        exact law_201 (im := 0) (bk := 0) (dd := 0) (y := y) (x := x) hF hE ht htn hg hm hG h3 hxr hj hw hS hy ⟨by omega, by omega⟩ (fun z => by omega) (fun z => by omega) (fun z => by omega) (show lv_has ls 21 [(0, .ref b), (1, .ref (ad 0 0)), (2, .ref (ad 6 0)), (3, .ref (ad 6 1)), (4, .ref (ad 6 2)), (5, .int (iI (T 8 0))), (6, .int (iI (T 29 0))), (7, .int (iI 1)), (8, .int (iI tn)), (9, .int (iI (t : Int))), (10, .int (iI x)), (11, .int (iI y)), (12, .int (iI 0)), (13, .int (iI ((0 : Nat) : Int))), (14, .int (iI (T 21 0))), (15, .int (iI (T 12 0))), (16, .int (iI ((0 : Nat) : Int)))] from lv_sub hl [7, 8, 9, 10, 11, 12, 13, 14, 15, 16, 6, 5, 4, 3, 2, 1, 0] rfl)
end WLD
