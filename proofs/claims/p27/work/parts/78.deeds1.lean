/-! the law: its deeds on images (laid by program) -/
/-- what holds all along the law's body -/
def law_F (p : Program) (l : Launch) (s : State) (m : MethodId) (meth : Method) (c : Code) (D : va_G) (cy : Nat → ClassId) (A : Nat → Prop) (b L : Nat) (xs : Nat → Int32) : Prop := wa_fx p s m c meth #[Value.ref b] cL_law 21 RL meth.name ret D cy ∧ wx_TB A s s.heap ∧ wl_N s ∧ wa_Up A ∧ l.stackTraces = false ∧ va_X b L xs s s.heap ∧ b < s.heap.size ∧ ¬ A b ∧ L ≤ 260
/-- how many images there are at the head of turn t -/
def ic (t : Nat) (T : wa_St) : Prop := (t ≤ 3 → T 8 0 = (t : Int)) ∧ (3 ≤ t → 3 ≤ T 8 0)
theorem gi.le {n k : Nat} {T : wa_St} (h : gi n T) (hk : n ≤ k) : gi k T := by
  obtain ⟨g0, g1, g2, g3, g4, g5, g6, g7, g8, g9, g10⟩ := h
  exact ⟨g0, g1, g2, g3, g4, g5, g6, g7, g8, ⟨g9.1, by omega⟩, fun j => by have := g10 j; omega⟩
/-- behind a deed of turn t, at 1799 -/
def law_E (p : Program) (l : Launch) (e : Env) (s : State) (m : MethodId) (below : List Frame) (meth : Method) (c : Code) (D : va_G) (cy : Nat → ClassId) (A : Nat → Prop) (b : Nat) (Q : State → Prop) (o : Int64) (tn : Int) (t : Nat) : Prop := ∀ (ad : Nat → Nat → Nat) (X T G : wa_St) (H : Heap) (locs : List Loc) (ls : Array Slot), gi (2 * t + 2) T → mg T → LG T G → ic (t + 1) T → xr T X → wa_wj A ad (wW cy ad T X G o) → wa_wd D ad (wW cy ad T X G o) H → va_S A s.heap H locs → lv_has ls 21 [(0, .ref b), (1, .ref (ad 0 0)), (2, .ref (ad 6 0)), (3, .ref (ad 6 1)), (4, .ref (ad 6 2)), (5, .int (iI (T 8 0))), (6, .int (iI (T 29 0))), (7, .int (iI 1)), (8, .int (iI tn)), (9, .int (iI (t : Int)))] → W p l e room_1 s m #[Value.ref b] below meth c H locs (600 + 700 * t) (5200 + 4200 * t) Q (F0 m 1799 ls [])
section WLD
variable {p : Program} {l : Launch} {e : Env} {s : State} {m : MethodId} {below : List Frame} {meth : Method} {c : Code} {Q : State → Prop}
variable {D : va_G} {A : Nat → Prop} {cy : Nat → ClassId} {b L : Nat} {xs : Nat → Int32} {o : Int64} {tn : Int} {t : Nat} {ad : Nat → Nat → Nat} {T X G : wa_St} {H : Heap} {locs : List Loc} {ls : Array Slot} {x y dd : Int} {im bk : Nat}
set_option maxRecDepth 100000 in
set_option maxHeartbeats 4000000 in
theorem law_d_add (hF : law_F p l s m meth c D cy A b L xs) (hE : law_E p l e s m below meth c D cy A b Q o tn t) (ht : t < 280) (htn : -100000 ≤ tn ∧ tn ≤ 100000) (hg : gi (2 * t) T) (hm : mg T) (hG : LG T G) (h3 : ic t T) (hxr : xr T X) (hj : wa_wj A ad (wW cy ad T X G o)) (hw : wa_wd D ad (wW cy ad T X G o) H) (hS : va_S A s.heap H locs) (hy : 0 ≤ y ∧ y < 268435456) (h10 : T 8 0 < 10) (hl : lv_has ls 21 [(0, .ref b), (1, .ref (ad 0 0)), (2, .ref (ad 6 0)), (3, .ref (ad 6 1)), (4, .ref (ad 6 2)), (5, .int (iI (T 8 0))), (6, .int (iI (T 29 0))), (7, .int (iI 1)), (8, .int (iI tn)), (9, .int (iI (t : Int))), (10, .int (iI x)), (11, .int (iI y)), (12, .int (iI dd)), (13, .int (iI (im : Int))), (14, .int (iI (T 21 0))), (15, .int (iI (T 12 0))), (16, .int (iI (bk : Int)))]) : W p l e room_1 s m #[Value.ref b] below meth c H locs (400 + 700 * t) (4000 + 4200 * t) (Q) (F0 m 226 ls []) := by
  obtain ⟨F, hTB, hN, hA, hlt, hX, hbl, hbA, hL⟩ := id hF
  obtain ⟨hx, hb, hml, hown, hts⟩ := id F.1
  obtain ⟨hB, w8, w21, w12, w29, w4, w7, w6, w5, w13, w25, w26, w28, w14, w3, wf17⟩ := id hg.1
  have h3a := h3.1
  have h3b := h3.2
  obtain ⟨p9, hp⟩ : ∃ p9 : Int, p9 = y / 4 % (T 8 0 + 1) - 1 := ⟨_, rfl⟩
  have hpm := md_r (a := y / 4) (show (0 : Int) < T 8 0 + 1 by omega)
  have hpr : -1 ≤ p9 ∧ p9 < T 8 0 := by omega
  obtain ⟨k0, hg1, hm1, a8, a12, a21, a29, a7, hG1⟩ := w_add hg hm h10 hpr
  have hG1 := hG1 G hG
  have hGw := hG1.1
  refine lv_aload_n hx hb dL_law_226 rfl (lv_at hl 2 rfl) ?_
  refine lv_iload hx hb dL_law_227 (lv_at hl 5 rfl) ?_
  refine lv_iload hx hb dL_law_229 (lv_at hl 11 rfl) ?_
  refine wa_const F dL_law_231 ?_
  refine wl_shr 2 4 F (by have q0 := (show wa_r y from ⟨by omega, by omega⟩); exact ⟨by omega, by omega⟩) (by decide +kernel) rfl dL_law_232 ?_
  refine lv_iload hx hb dL_law_233 (lv_at hl 5 rfl) ?_
  refine wa_const F dL_law_235 ?_
  refine wa_add F dL_law_236 ?_
  refine wl_rem F (by have q0 := (show wa_r y from ⟨by omega, by omega⟩); omega) (by have q0 := hB 8 0; omega) dL_law_237 ?_
  refine wa_const F dL_law_238 ?_
  refine wa_sub F dL_law_239 ?_
  rw [← hp]
  refine wl_gst F hw hj hS 0 (by decide) (((T 8 0)).toNat) (by have q0 := hB 8 0; omega) (by omega) dL_law_240 (fun H locs hw hj hS => ?_)
  refine lv_aload_n hx hb dL_law_241 rfl (lv_at hl 1 rfl) ?_
  refine lv_aload_n hx hb dL_law_242 rfl (lv_at hl 2 rfl) ?_
  refine lv_iload hx hb dL_law_243 (lv_at hl 5 rfl) ?_
  refine wl_gld F hw 0 (by decide) (((T 8 0)).toNat) (by have q0 := hB 8 0; omega) (by omega) dL_law_245 ?_
  rw [wa_s_eq]
  refine wl_ci (vL_94 F hTB hS (c_X4_add l hlt D cy ad T X (wa_s G 0 (((T 8 0)).toNat) p9) o A hj hA hg.1 hxr (wx_inj.of hj) p9 ⟨by omega, by omega⟩ hg.2.2.2.2.1 hg.2.2.2.2.2.1) ⟨by decide, by decide⟩ ⟨rfl, rfl⟩ hw hw rfl rfl rfl (Nat.le_of_ble_eq_true rfl) hl.1 dL_law_246 ⟨Nat.le_trans (show _ ≤ 300000 by omega) (Nat.le_of_ble_eq_true rfl), Nat.le_trans (show _ ≤ 2000000 by omega) (Nat.le_of_ble_eq_true rfl)⟩) hS (fun E ce q9 u H1 locs1 hE9 hk0 _ _ _ _ _ _ => absurd k0 hk0) (fun u H locs hK hp9 hB9 hS => ?_)
  generalize hT1 : a_add T p9 = T1 at *
  obtain ⟨ad, X⟩ := u
  obtain ⟨hxr, hj, he⟩ := hp9
  have hxr : xr T1 X := hxr
  have hj : wa_wj A ad (wW cy ad T1 X (wa_s G 0 (((T 8 0)).toNat) p9) o) := hj
  have hw : wa_wd D ad (wW cy ad T1 X (wa_s G 0 (((T 8 0)).toNat) p9) o) H := hB9
  dsimp only at he
  have hl : lv_has ls 21 [(0, .ref b), (1, .ref (ad 0 0)), (2, .ref (ad 6 0)), (3, .ref (ad 6 1)), (4, .ref (ad 6 2)), (5, .int (iI (T 8 0))), (6, .int (iI (T 29 0))), (7, .int (iI 1)), (8, .int (iI tn)), (9, .int (iI (t : Int))), (10, .int (iI x)), (11, .int (iI y)), (12, .int (iI dd)), (13, .int (iI (im : Int))), (14, .int (iI (T 21 0))), (15, .int (iI (T 12 0))), (16, .int (iI (bk : Int)))] := by rw [he.1 0, he.2.2.2.2.1 0, he.2.2.2.2.1 1, he.2.2.2.2.1 2]; exact hl
  refine lv_iload hx hb dL_law_249 (lv_at hl 5 rfl) ?_
  refine wa_ic_ne (tgt := 277) F dL_law_251 (by decide) (by have q0 := hB 8 0; exact ⟨by omega, by omega⟩) (by have q0 := hB 8 0; exact ⟨by omega, by omega⟩) (fun c251 => absurd c251 (by omega)) (fun c251 => ?_)
  refine lv_aload_n hx hb dL_law_254 rfl (lv_at hl 1 rfl) ?_
  refine lv_iload hx hb dL_law_255 (lv_at hl 5 rfl) ?_
  refine ql_latest (i := (T 8 0)) hlt F hTB hA hg1.1 hxr hj hw hS (show 0 ≤ T 8 0 ∧ T 8 0 < T1 8 0 by omega) ⟨by decide, by decide⟩ (Nat.le_of_ble_eq_true rfl) hl.1 dL_law_257 ⟨Nat.le_trans (show _ ≤ 300000 by omega) (Nat.le_of_ble_eq_true rfl), Nat.le_trans (show _ ≤ 2000000 by omega) (Nat.le_of_ble_eq_true rfl)⟩ (fun X H locs hxr hj hw hS => ?_)
  refine W.eq (g2 := F0 m 260 ls [.int (iI (T1 7 ((T 8 0).toNat)))]) rfl ?_
  rw [a7]
  refine wa_const F dL_law_260 ?_
  refine wa_ic_ne (tgt := 277) F dL_law_261 (by decide) (by decide) (by decide) (fun c261 => absurd c261 (by decide)) (fun c261 => ?_)
  refine lv_aload_n hx hb dL_law_264 rfl (lv_at hl 1 rfl) ?_
  refine lv_iload hx hb dL_law_265 (lv_at hl 5 rfl) ?_
  refine ql_isFresh (i := (T 8 0)) hlt F hTB hA hg1.1 hxr hj hw hS (show 0 ≤ T 8 0 ∧ T 8 0 < T1 8 0 by omega) ⟨by decide, by decide⟩ (Nat.le_of_ble_eq_true rfl) hl.1 dL_law_267 ⟨Nat.le_trans (show _ ≤ 300000 by omega) (Nat.le_of_ble_eq_true rfl), Nat.le_trans (show _ ≤ 2000000 by omega) (Nat.le_of_ble_eq_true rfl)⟩ (fun X H locs hxr hj hw hS => ?_)
  rw [bI_f (fun z => by have q9 := frs_none (T := T1) (i := (T 8 0).toNat) (by omega); rw [show (((T 8 0).toNat : Nat) : Int) = T 8 0 by omega] at q9; rw [q9] at z; cases z)]
  refine wa_if_ne (tgt := 277) F dL_law_270 (by decide) (by decide) (fun c270 => absurd c270 (by decide)) (fun c270 => ?_)
  refine wa_const F dL_law_273 ?_
  refine wa_goto (tgt := 278) F dL_law_274 (by decide) ?_
  refine lv_istore (lv' := [(7, .int (iI 1)), (0, .ref b), (1, .ref (ad 0 0)), (2, .ref (ad 6 0)), (3, .ref (ad 6 1)), (4, .ref (ad 6 2)), (5, .int (iI (T 8 0))), (6, .int (iI (T 29 0))), (8, .int (iI tn)), (9, .int (iI (t : Int))), (10, .int (iI x)), (11, .int (iI y)), (12, .int (iI dd)), (13, .int (iI (im : Int))), (14, .int (iI (T 21 0))), (15, .int (iI (T 12 0))), (16, .int (iI (bk : Int)))]) hx hb dL_law_278 hl (by decide) rfl (fun ls hl => ?_)
  refine wa_inc (k := 6) (b := ((T 8 0) + 1)) (lv' := [(5, .int (iI ((T 8 0) + 1))), (7, .int (iI 1)), (0, .ref b), (1, .ref (ad 0 0)), (2, .ref (ad 6 0)), (3, .ref (ad 6 1)), (4, .ref (ad 6 2)), (6, .int (iI (T 29 0))), (8, .int (iI tn)), (9, .int (iI (t : Int))), (10, .int (iI x)), (11, .int (iI y)), (12, .int (iI dd)), (13, .int (iI (im : Int))), (14, .int (iI (T 21 0))), (15, .int (iI (T 12 0))), (16, .int (iI (bk : Int)))]) F dL_law_280 hl rfl rfl (by decide) rfl (fun ls hl => ?_)
  refine wa_goto (tgt := 1799) F dL_law_283 (by decide) ?_
  refine W.widen (k := 600 + 700 * t) (n := 5200 + 4200 * t) (by omega) (by omega) ?_
  exact hE ad X (T1) (wa_s G 0 (((T 8 0)).toNat) p9) _ _ ls (hg1.le (by omega)) hm1 hG1 ⟨fun z => by omega, fun z => by omega⟩ hxr hj hw hS (by rw [a8, a29]; exact lv_sub hl [2, 3, 4, 5, 6, 0, 7, 1, 8, 9] rfl)
set_option maxRecDepth 100000 in
set_option maxHeartbeats 4000000 in
theorem law_d_step (hF : law_F p l s m meth c D cy A b L xs) (hE : law_E p l e s m below meth c D cy A b Q o tn t) (ht : t < 280) (htn : -100000 ≤ tn ∧ tn ≤ 100000) (hg : gi (2 * t) T) (hm : mg T) (hG : LG T G) (h3 : ic t T) (hxr : xr T X) (hj : wa_wj A ad (wW cy ad T X G o)) (hw : wa_wd D ad (wW cy ad T X G o) H) (hS : va_S A s.heap H locs) (hy : 0 ≤ y ∧ y < 268435456) (ht3 : 3 ≤ t) (him : (im : Int) < T 8 0) (hl : lv_has ls 21 [(0, .ref b), (1, .ref (ad 0 0)), (2, .ref (ad 6 0)), (3, .ref (ad 6 1)), (4, .ref (ad 6 2)), (5, .int (iI (T 8 0))), (6, .int (iI (T 29 0))), (7, .int (iI 1)), (8, .int (iI tn)), (9, .int (iI (t : Int))), (10, .int (iI x)), (11, .int (iI y)), (12, .int (iI dd)), (13, .int (iI (im : Int))), (14, .int (iI (T 21 0))), (15, .int (iI (T 12 0))), (16, .int (iI (bk : Int)))]) : W p l e room_1 s m #[Value.ref b] below meth c H locs (400 + 700 * t) (4000 + 4200 * t) (Q) (F0 m 292 ls []) := by
  obtain ⟨F, hTB, hN, hA, hlt, hX, hbl, hbA, hL⟩ := id hF
  obtain ⟨hx, hb, hml, hown, hts⟩ := id F.1
  obtain ⟨hB, w8, w21, w12, w29, w4, w7, w6, w5, w13, w25, w26, w28, w14, w3, wf17⟩ := id hg.1
  have h3a := h3.1
  have h3b := h3.2
  have g1 := hG.2.2.1 im (by omega)
  have p6 := w6 im
  have hq9 : 0 ≤ y / 16 % 4 ∧ y / 16 % 4 ≤ 9 := by omega
  rcases w_step hg hm him hq9 with ⟨k0, c6, hg1, hm1, ⟨a8, a12, a21, a29⟩, hG1⟩ | ⟨k0, c6⟩
  · skip
    have hG1 := hG1 G hG
    generalize hT1 : a_step T (im : Int) (y / 16 % 4) = T1 at *
    refine lv_aload_n hx hb dL_law_292 rfl (lv_at hl 1 rfl) ?_
    refine lv_iload hx hb dL_law_293 (lv_at hl 13 rfl) ?_
    refine lv_iload hx hb dL_law_295 (lv_at hl 11 rfl) ?_
    refine wa_const F dL_law_297 ?_
    refine wl_shr 4 16 F (by have q0 := (show wa_r y from ⟨by omega, by omega⟩); exact ⟨by omega, by omega⟩) (by decide +kernel) rfl dL_law_298 ?_
    refine wa_const F dL_law_299 ?_
    refine wl_rem F (by have q0 := (show wa_r y from ⟨by omega, by omega⟩); omega) (by decide) dL_law_300 ?_
    refine va_calli (wl_runS F hTB hN hS (c_L_stepped l hlt D cy ad (T) X (G) o A hj hA hg hxr (im : Int) (y / 16 % 4) ⟨by omega, by omega⟩ ⟨by omega, by omega⟩ (T1) (((T 6 im) + 1)) (Or.inl k0) (fun _ => ⟨hT1.symm, by rw [Int.toNat_natCast]⟩) (fun z => absurd (k0.symm.trans z) (by decide))) qw_454 qw_455 qw_30 qw_456 ⟨by decide, by decide, rfl⟩ ⟨by decide, by decide⟩ ⟨rfl, rfl⟩ hw rfl rfl (Nat.le_of_ble_eq_true rfl) hl.1 dL_law_301 ⟨Nat.le_trans (show _ ≤ 300000 by omega) (Nat.le_of_ble_eq_true rfl), Nat.le_trans (show _ ≤ 2000000 by omega) (Nat.le_of_ble_eq_true rfl)⟩) hS (fun _ _ h => h) (fun _ h => h) (fun r u t9 H locs ht9 hvm9 hq9 hB9 hz9 hk9 hS => ?_)
    obtain ⟨ad, X⟩ := u
    obtain ⟨hr9, hxr, hj, he⟩ := hq9
    have hxr : xr (T1) X := hxr
    have hj : wa_wj A ad (wW cy ad T1 X G o) := hj
    have hw : wa_wd D ad (wW cy ad T1 X G o) H := by rw [← ht9]; exact hB9
    rw [hr9]
    dsimp only at he
    have hl : lv_has ls 21 [(0, .ref b), (1, .ref (ad 0 0)), (2, .ref (ad 6 0)), (3, .ref (ad 6 1)), (4, .ref (ad 6 2)), (5, .int (iI (T 8 0))), (6, .int (iI (T 29 0))), (7, .int (iI 1)), (8, .int (iI tn)), (9, .int (iI (t : Int))), (10, .int (iI x)), (11, .int (iI y)), (12, .int (iI dd)), (13, .int (iI (im : Int))), (14, .int (iI (T 21 0))), (15, .int (iI (T 12 0))), (16, .int (iI (bk : Int)))] := by rw [he.1 0, he.2.2.2.2.1 0, he.2.2.2.2.1 1, he.2.2.2.2.1 2]; exact hl
    refine lv_istore (lv' := [(17, .int (iI ((T 6 im) + 1))), (0, .ref b), (1, .ref (ad 0 0)), (2, .ref (ad 6 0)), (3, .ref (ad 6 1)), (4, .ref (ad 6 2)), (5, .int (iI (T 8 0))), (6, .int (iI (T 29 0))), (7, .int (iI 1)), (8, .int (iI tn)), (9, .int (iI (t : Int))), (10, .int (iI x)), (11, .int (iI y)), (12, .int (iI dd)), (13, .int (iI (im : Int))), (14, .int (iI (T 21 0))), (15, .int (iI (T 12 0))), (16, .int (iI (bk : Int)))]) hx hb dL_law_304 hl (by decide) rfl (fun ls hl => ?_)
    refine lv_iload hx hb dL_law_306 (lv_at hl 0 rfl) ?_
    refine lv_aload_n hx hb dL_law_308 rfl (lv_at hl 4 rfl) ?_
    refine lv_iload hx hb dL_law_309 (lv_at hl 14 rfl) ?_
    refine wl_gld F hw 1 (by decide) im rfl (by omega) dL_law_311 ?_
    refine wa_const F dL_law_312 ?_
    refine wa_ic_ge (tgt := 325) F dL_law_313 (by decide) (by have q0 := hG.1 1 im; exact ⟨by omega, by omega⟩) (by decide) (fun c313 => absurd c313 (by omega)) (fun c313 => ?_)
    refine lv_aload_n hx hb dL_law_316 rfl (lv_at hl 4 rfl) ?_
    refine lv_iload hx hb dL_law_317 (lv_at hl 14 rfl) ?_
    refine wl_gld F hw 1 (by decide) im rfl (by omega) dL_law_319 ?_
    refine wa_const F dL_law_320 ?_
    refine wa_add F dL_law_321 ?_
    refine wa_goto (tgt := 327) F dL_law_322 (by decide) ?_
    refine wa_ic_ne (tgt := 352) F dL_law_327 (by decide) (by have q0 := hB 6 im; exact ⟨by omega, by omega⟩) (by have q0 := hG.1 1 im; exact ⟨by omega, by omega⟩) (fun c327 => absurd c327 (by omega)) (fun c327 => ?_)
    refine lv_aload_n hx hb dL_law_330 rfl (lv_at hl 2 rfl) ?_
    refine ql_bakes F hg1.1 hxr hj hw ⟨by decide, by decide⟩ (Nat.le_of_ble_eq_true rfl) hl.1 dL_law_331 ⟨Nat.le_trans (show _ ≤ 300000 by omega) (Nat.le_of_ble_eq_true rfl), Nat.le_trans (show _ ≤ 2000000 by omega) (Nat.le_of_ble_eq_true rfl)⟩ ?_
    refine lv_iload hx hb dL_law_334 (lv_at hl 15 rfl) ?_
    refine wa_ic_ne (tgt := 352) F dL_law_336 (by decide) (by have q0 := hg1.1.1 21 0; exact ⟨by omega, by omega⟩) (by have q0 := hB 21 0; exact ⟨by omega, by omega⟩) (fun c336 => absurd c336 (by omega)) (fun c336 => ?_)
    refine lv_aload_n hx hb dL_law_339 rfl (lv_at hl 2 rfl) ?_
    refine ql_layers F hg1.1 hxr hj hw ⟨by decide, by decide⟩ (Nat.le_of_ble_eq_true rfl) hl.1 dL_law_340 ⟨Nat.le_trans (show _ ≤ 300000 by omega) (Nat.le_of_ble_eq_true rfl), Nat.le_trans (show _ ≤ 2000000 by omega) (Nat.le_of_ble_eq_true rfl)⟩ ?_
    refine lv_iload hx hb dL_law_343 (lv_at hl 16 rfl) ?_
    refine wa_ic_ne (tgt := 352) F dL_law_345 (by decide) (by have q0 := hg1.1.1 12 0; exact ⟨by omega, by omega⟩) (by have q0 := hB 12 0; exact ⟨by omega, by omega⟩) (fun c345 => absurd c345 (by omega)) (fun c345 => ?_)
    refine wa_const F dL_law_348 ?_
    refine wa_goto (tgt := 353) F dL_law_349 (by decide) ?_
    refine lv_istore (lv' := [(7, .int (iI 1)), (17, .int (iI ((T 6 im) + 1))), (0, .ref b), (1, .ref (ad 0 0)), (2, .ref (ad 6 0)), (3, .ref (ad 6 1)), (4, .ref (ad 6 2)), (5, .int (iI (T 8 0))), (6, .int (iI (T 29 0))), (8, .int (iI tn)), (9, .int (iI (t : Int))), (10, .int (iI x)), (11, .int (iI y)), (12, .int (iI dd)), (13, .int (iI (im : Int))), (14, .int (iI (T 21 0))), (15, .int (iI (T 12 0))), (16, .int (iI (bk : Int)))]) hx hb dL_law_353 hl (by decide) rfl (fun ls hl => ?_)
    refine lv_aload_n hx hb dL_law_355 rfl (lv_at hl 5 rfl) ?_
    refine lv_iload hx hb dL_law_356 (lv_at hl 14 rfl) ?_
    refine lv_dup2_11 hx hb dL_law_358 rfl rfl ?_
    refine wl_gld F hw 1 (by decide) im rfl (by omega) dL_law_359 ?_
    refine lv_iload hx hb dL_law_360 (lv_at hl 1 rfl) ?_
    refine wa_if_le (tgt := 369) F dL_law_362 (by decide) (by have q0 := hB 6 im; exact ⟨by omega, by omega⟩) (fun c362 => absurd c362 (by omega)) (fun c362 => ?_)
    refine wa_const F dL_law_365 ?_
    refine wa_goto (tgt := 370) F dL_law_366 (by decide) ?_
    refine wa_add F dL_law_370 ?_
    refine wl_gst F hw hj hS 1 (by decide) im rfl (by omega) dL_law_371 (fun H locs hw hj hS => ?_)
    refine wa_goto (tgt := 1799) F dL_law_372 (by decide) ?_
    refine W.widen (k := 600 + 700 * t) (n := 5200 + 4200 * t) (by omega) (by omega) ?_
    exact hE ad X (T1) (wa_s G 1 im ((G 1 im) + 1)) _ _ ls (hg1.le (by omega)) hm1 hG1 ⟨fun z => by omega, fun z => by omega⟩ hxr hj hw hS (by rw [a8, a29]; exact lv_sub hl [2, 3, 4, 5, 6, 7, 8, 0, 9, 10] rfl)
  · skip
    have hg1 := hg.th (k := 3) (by decide)
    have hm1 := hm.th 3
    have hG1 := LG.put0 (hG.th 3) (k := 1) (j := im) (v := G 1 im + 0) (by omega)
    have a8 : wa_s T 0 0 3 8 0 = T 8 0 := rfl
    have a12 : wa_s T 0 0 3 12 0 = T 12 0 := rfl
    have a21 : wa_s T 0 0 3 21 0 = T 21 0 := rfl
    have a29 : wa_s T 0 0 3 29 0 = T 29 0 := rfl
    generalize hT1 : wa_s T 0 0 3 = T1 at *
    refine lv_aload_n hx hb dL_law_292 rfl (lv_at hl 1 rfl) ?_
    refine lv_iload hx hb dL_law_293 (lv_at hl 13 rfl) ?_
    refine lv_iload hx hb dL_law_295 (lv_at hl 11 rfl) ?_
    refine wa_const F dL_law_297 ?_
    refine wl_shr 4 16 F (by have q0 := (show wa_r y from ⟨by omega, by omega⟩); exact ⟨by omega, by omega⟩) (by decide +kernel) rfl dL_law_298 ?_
    refine wa_const F dL_law_299 ?_
    refine wl_rem F (by have q0 := (show wa_r y from ⟨by omega, by omega⟩); omega) (by decide) dL_law_300 ?_
    refine va_calli (wl_runS F hTB hN hS (c_L_stepped l hlt D cy ad (T) X (G) o A hj hA hg hxr (im : Int) (y / 16 % 4) ⟨by omega, by omega⟩ ⟨by omega, by omega⟩ (T1) ((-3)) (Or.inr k0) (fun z => absurd (k0.symm.trans z) (by decide)) (fun _ => ⟨hT1.symm, rfl⟩)) qw_454 qw_455 qw_30 qw_456 ⟨by decide, by decide, rfl⟩ ⟨by decide, by decide⟩ ⟨rfl, rfl⟩ hw rfl rfl (Nat.le_of_ble_eq_true rfl) hl.1 dL_law_301 ⟨Nat.le_trans (show _ ≤ 300000 by omega) (Nat.le_of_ble_eq_true rfl), Nat.le_trans (show _ ≤ 2000000 by omega) (Nat.le_of_ble_eq_true rfl)⟩) hS (fun _ _ h => h) (fun _ h => h) (fun r u t9 H locs ht9 hvm9 hq9 hB9 hz9 hk9 hS => ?_)
    obtain ⟨ad, X⟩ := u
    obtain ⟨hr9, hxr, hj, he⟩ := hq9
    have hxr : xr (T1) X := hxr
    have hj : wa_wj A ad (wW cy ad T1 X G o) := hj
    have hw : wa_wd D ad (wW cy ad T1 X G o) H := by rw [← ht9]; exact hB9
    rw [hr9]
    dsimp only at he
    have hl : lv_has ls 21 [(0, .ref b), (1, .ref (ad 0 0)), (2, .ref (ad 6 0)), (3, .ref (ad 6 1)), (4, .ref (ad 6 2)), (5, .int (iI (T 8 0))), (6, .int (iI (T 29 0))), (7, .int (iI 1)), (8, .int (iI tn)), (9, .int (iI (t : Int))), (10, .int (iI x)), (11, .int (iI y)), (12, .int (iI dd)), (13, .int (iI (im : Int))), (14, .int (iI (T 21 0))), (15, .int (iI (T 12 0))), (16, .int (iI (bk : Int)))] := by rw [he.1 0, he.2.2.2.2.1 0, he.2.2.2.2.1 1, he.2.2.2.2.1 2]; exact hl
    refine lv_istore (lv' := [(17, .int (iI (-3))), (0, .ref b), (1, .ref (ad 0 0)), (2, .ref (ad 6 0)), (3, .ref (ad 6 1)), (4, .ref (ad 6 2)), (5, .int (iI (T 8 0))), (6, .int (iI (T 29 0))), (7, .int (iI 1)), (8, .int (iI tn)), (9, .int (iI (t : Int))), (10, .int (iI x)), (11, .int (iI y)), (12, .int (iI dd)), (13, .int (iI (im : Int))), (14, .int (iI (T 21 0))), (15, .int (iI (T 12 0))), (16, .int (iI (bk : Int)))]) hx hb dL_law_304 hl (by decide) rfl (fun ls hl => ?_)
    refine lv_iload hx hb dL_law_306 (lv_at hl 0 rfl) ?_
    refine lv_aload_n hx hb dL_law_308 rfl (lv_at hl 4 rfl) ?_
    refine lv_iload hx hb dL_law_309 (lv_at hl 14 rfl) ?_
    refine wl_gld F hw 1 (by decide) im rfl (by omega) dL_law_311 ?_
    refine wa_const F dL_law_312 ?_
    refine wa_ic_ge (tgt := 325) F dL_law_313 (by decide) (by have q0 := hG.1 1 im; exact ⟨by omega, by omega⟩) (by decide) (fun c313 => ?_) (fun c313 => absurd c313 (by omega))
    refine wa_bi F dL_law_325 (by decide +kernel) ?_
    refine wa_ic_ne (tgt := 352) F dL_law_327 (by decide) (by decide) (by decide) (fun c327 => absurd c327 (by decide)) (fun c327 => ?_)
    refine lv_aload_n hx hb dL_law_330 rfl (lv_at hl 2 rfl) ?_
    refine ql_bakes F hg1.1 hxr hj hw ⟨by decide, by decide⟩ (Nat.le_of_ble_eq_true rfl) hl.1 dL_law_331 ⟨Nat.le_trans (show _ ≤ 300000 by omega) (Nat.le_of_ble_eq_true rfl), Nat.le_trans (show _ ≤ 2000000 by omega) (Nat.le_of_ble_eq_true rfl)⟩ ?_
    refine lv_iload hx hb dL_law_334 (lv_at hl 15 rfl) ?_
    refine wa_ic_ne (tgt := 352) F dL_law_336 (by decide) (by have q0 := hg1.1.1 21 0; exact ⟨by omega, by omega⟩) (by have q0 := hB 21 0; exact ⟨by omega, by omega⟩) (fun c336 => absurd c336 (by omega)) (fun c336 => ?_)
    refine lv_aload_n hx hb dL_law_339 rfl (lv_at hl 2 rfl) ?_
    refine ql_layers F hg1.1 hxr hj hw ⟨by decide, by decide⟩ (Nat.le_of_ble_eq_true rfl) hl.1 dL_law_340 ⟨Nat.le_trans (show _ ≤ 300000 by omega) (Nat.le_of_ble_eq_true rfl), Nat.le_trans (show _ ≤ 2000000 by omega) (Nat.le_of_ble_eq_true rfl)⟩ ?_
    refine lv_iload hx hb dL_law_343 (lv_at hl 16 rfl) ?_
    refine wa_ic_ne (tgt := 352) F dL_law_345 (by decide) (by have q0 := hg1.1.1 12 0; exact ⟨by omega, by omega⟩) (by have q0 := hB 12 0; exact ⟨by omega, by omega⟩) (fun c345 => absurd c345 (by omega)) (fun c345 => ?_)
    refine wa_const F dL_law_348 ?_
    refine wa_goto (tgt := 353) F dL_law_349 (by decide) ?_
    refine lv_istore (lv' := [(7, .int (iI 1)), (17, .int (iI (-3))), (0, .ref b), (1, .ref (ad 0 0)), (2, .ref (ad 6 0)), (3, .ref (ad 6 1)), (4, .ref (ad 6 2)), (5, .int (iI (T 8 0))), (6, .int (iI (T 29 0))), (8, .int (iI tn)), (9, .int (iI (t : Int))), (10, .int (iI x)), (11, .int (iI y)), (12, .int (iI dd)), (13, .int (iI (im : Int))), (14, .int (iI (T 21 0))), (15, .int (iI (T 12 0))), (16, .int (iI (bk : Int)))]) hx hb dL_law_353 hl (by decide) rfl (fun ls hl => ?_)
    refine lv_aload_n hx hb dL_law_355 rfl (lv_at hl 5 rfl) ?_
    refine lv_iload hx hb dL_law_356 (lv_at hl 14 rfl) ?_
    refine lv_dup2_11 hx hb dL_law_358 rfl rfl ?_
    refine wl_gld F hw 1 (by decide) im rfl (by omega) dL_law_359 ?_
    refine lv_iload hx hb dL_law_360 (lv_at hl 1 rfl) ?_
    refine wa_if_le (tgt := 369) F dL_law_362 (by decide) (by decide) (fun c362 => ?_) (fun c362 => absurd c362 (by decide))
    refine wa_const F dL_law_369 ?_
    refine wa_add F dL_law_370 ?_
    refine wl_gst F hw hj hS 1 (by decide) im rfl (by omega) dL_law_371 (fun H locs hw hj hS => ?_)
    refine wa_goto (tgt := 1799) F dL_law_372 (by decide) ?_
    refine W.widen (k := 600 + 700 * t) (n := 5200 + 4200 * t) (by omega) (by omega) ?_
    exact hE ad X (T1) (wa_s G 1 im ((G 1 im) + 0)) _ _ ls (hg1.le (by omega)) hm1 hG1 ⟨fun z => by omega, fun z => by omega⟩ hxr hj hw hS (by rw [a8, a29]; exact lv_sub hl [2, 3, 4, 5, 6, 7, 8, 0, 9, 10] rfl)
set_option maxRecDepth 100000 in
set_option maxHeartbeats 4000000 in
theorem law_d_change (hF : law_F p l s m meth c D cy A b L xs) (hE : law_E p l e s m below meth c D cy A b Q o tn t) (ht : t < 280) (htn : -100000 ≤ tn ∧ tn ≤ 100000) (hg : gi (2 * t) T) (hm : mg T) (hG : LG T G) (h3 : ic t T) (hxr : xr T X) (hj : wa_wj A ad (wW cy ad T X G o)) (hw : wa_wd D ad (wW cy ad T X G o) H) (hS : va_S A s.heap H locs) (hy : 0 ≤ y ∧ y < 268435456) (ht3 : 3 ≤ t) (hl : lv_has ls 21 [(0, .ref b), (1, .ref (ad 0 0)), (2, .ref (ad 6 0)), (3, .ref (ad 6 1)), (4, .ref (ad 6 2)), (5, .int (iI (T 8 0))), (6, .int (iI (T 29 0))), (7, .int (iI 1)), (8, .int (iI tn)), (9, .int (iI (t : Int))), (10, .int (iI x)), (11, .int (iI y)), (12, .int (iI dd)), (13, .int (iI (im : Int))), (14, .int (iI (T 21 0))), (15, .int (iI (T 12 0))), (16, .int (iI (bk : Int)))]) : W p l e room_1 s m #[Value.ref b] below meth c H locs (400 + 700 * t) (4000 + 4200 * t) (Q) (F0 m 381 ls []) := by
  obtain ⟨F, hTB, hN, hA, hlt, hX, hbl, hbA, hL⟩ := id hF
  obtain ⟨hx, hb, hml, hown, hts⟩ := id F.1
  obtain ⟨hB, w8, w21, w12, w29, w4, w7, w6, w5, w13, w25, w26, w28, w14, w3, wf17⟩ := id hg.1
  have h3a := h3.1
  have h3b := h3.2
  obtain ⟨q, hq⟩ : ∃ q : Nat, y / 16 % 4 = (q : Int) := ⟨(y / 16 % 4).toNat, by omega⟩
  have hq4 : q < 10 := by omega
  have g2 := hG.2.2.2 q hq4
  have p3 := w3 q
  have p10 := hg.2.2.2.2.2.2.2.2.2.2 q
  refine lv_iload hx hb dL_law_381 (lv_at hl 11 rfl) ?_
  refine wa_const F dL_law_383 ?_
  refine wl_shr 4 16 F (by have q0 := (show wa_r y from ⟨by omega, by omega⟩); exact ⟨by omega, by omega⟩) (by decide +kernel) rfl dL_law_384 ?_
  refine wa_const F dL_law_385 ?_
  refine wl_rem F (by have q0 := (show wa_r y from ⟨by omega, by omega⟩); omega) (by decide) dL_law_386 ?_
  rw [hq]
  refine lv_istore (lv' := [(17, .int (iI (q : Int))), (0, .ref b), (1, .ref (ad 0 0)), (2, .ref (ad 6 0)), (3, .ref (ad 6 1)), (4, .ref (ad 6 2)), (5, .int (iI (T 8 0))), (6, .int (iI (T 29 0))), (7, .int (iI 1)), (8, .int (iI tn)), (9, .int (iI (t : Int))), (10, .int (iI x)), (11, .int (iI y)), (12, .int (iI dd)), (13, .int (iI (im : Int))), (14, .int (iI (T 21 0))), (15, .int (iI (T 12 0))), (16, .int (iI (bk : Int)))]) hx hb dL_law_387 hl (by decide) rfl (fun ls hl => ?_)
  refine lv_iload hx hb dL_law_389 (lv_at hl 12 rfl) ?_
  refine wa_const F dL_law_391 ?_
  refine wl_and 1 2 F (by decide) (by decide +kernel) rfl (by decide) dL_law_392 ?_
  refine wa_if_ne (tgt := 400) F dL_law_393 (by decide) (by have q0 := (show wa_r y from ⟨by omega, by omega⟩); exact ⟨by omega, by omega⟩) (fun c393 => ?_) (fun c393 => ?_)
  · skip
    refine lv_iload hx hb dL_law_400 (lv_at hl 12 rfl) ?_
    refine wa_bi F dL_law_402 (by decide +kernel) ?_
    refine wl_shr 6 64 F (by have q0 := (show wa_r y from ⟨by omega, by omega⟩); exact ⟨by omega, by omega⟩) (by decide +kernel) rfl dL_law_404 ?_
    refine lv_aload hx hb dL_law_405 (lv_at hl 5 rfl) ?_
    refine lv_iload hx hb dL_law_407 (lv_at hl 0 rfl) ?_
    refine wl_gld F hw 2 (by decide) q rfl (by omega) dL_law_409 ?_
    refine wa_const F dL_law_410 ?_
    refine wa_add F dL_law_411 ?_
    refine wl_rem F (by have q0 := (show wa_r y from ⟨by omega, by omega⟩); omega) (by have q0 := hG.1 2 q; omega) dL_law_412 ?_
    obtain ⟨v9, hv9⟩ : ∃ v9 : Int, v9 = y / 64 % (G 2 q + 1) := ⟨_, rfl⟩
    rw [← hv9]
    have hvm := md_r (a := y / 64) (show (0 : Int) < G 2 q + 1 by omega)
    have hvr : 0 ≤ v9 ∧ v9 ≤ T 3 q := by omega
    refine lv_istore (lv' := [(18, .int (iI v9)), (17, .int (iI (q : Int))), (0, .ref b), (1, .ref (ad 0 0)), (2, .ref (ad 6 0)), (3, .ref (ad 6 1)), (4, .ref (ad 6 2)), (5, .int (iI (T 8 0))), (6, .int (iI (T 29 0))), (7, .int (iI 1)), (8, .int (iI tn)), (9, .int (iI (t : Int))), (10, .int (iI x)), (11, .int (iI y)), (12, .int (iI dd)), (13, .int (iI (im : Int))), (14, .int (iI (T 21 0))), (15, .int (iI (T 12 0))), (16, .int (iI (bk : Int)))]) hx hb dL_law_413 hl (by decide) rfl (fun ls hl => ?_)
    rcases w_change (q := q) (v := v9) hg (by omega) hm hq4 (Or.inr hvr) with ⟨k0, c6, vc, hg1, hm1, ⟨a8, a12, a21, a29⟩, hG1⟩ | ⟨k0, k1, k2⟩
    · skip
      have hG1 := hG1 G hG
      rw [if_neg (show ¬ v9 = -1 by omega)] at hG1 vc
      generalize hT1 : a_change T (q : Int) v9 = T1 at *
      refine lv_aload_n hx hb dL_law_415 rfl (lv_at hl 3 rfl) ?_
      refine lv_iload hx hb dL_law_416 (lv_at hl 1 rfl) ?_
      refine lv_iload hx hb dL_law_418 (lv_at hl 0 rfl) ?_
      refine va_calli (wl_runS F hTB hN hS (c_L_changed l hlt D cy ad (T) X (G) o A hj hA hg hxr (q : Int) v9 ⟨by omega, by omega⟩ ⟨by omega, by omega⟩ (by omega) (T1) (v9) (Or.inl k0) (fun _ => ⟨hT1.symm, by rw [Int.toNat_natCast, hT1]; exact vc.symm⟩) (fun z => absurd (k0.symm.trans z) (by decide))) qw_467 qw_468 qw_30 qw_469 ⟨by decide, by decide, rfl⟩ ⟨by decide, by decide⟩ ⟨rfl, rfl⟩ hw rfl rfl (Nat.le_of_ble_eq_true rfl) hl.1 dL_law_420 ⟨Nat.le_trans (show _ ≤ 300000 by omega) (Nat.le_of_ble_eq_true rfl), Nat.le_trans (show _ ≤ 2000000 by omega) (Nat.le_of_ble_eq_true rfl)⟩) hS (fun _ _ h => h) (fun _ h => h) (fun r u t9 H locs ht9 hvm9 hq9 hB9 hz9 hk9 hS => ?_)
      obtain ⟨ad, X⟩ := u
      obtain ⟨hr9, hxr, hj, he⟩ := hq9
      have hxr : xr (T1) X := hxr
      have hj : wa_wj A ad (wW cy ad T1 X G o) := hj
      have hw : wa_wd D ad (wW cy ad T1 X G o) H := by rw [← ht9]; exact hB9
      rw [hr9]
      dsimp only at he
      have hl : lv_has ls 21 [(18, .int (iI v9)), (17, .int (iI (q : Int))), (0, .ref b), (1, .ref (ad 0 0)), (2, .ref (ad 6 0)), (3, .ref (ad 6 1)), (4, .ref (ad 6 2)), (5, .int (iI (T 8 0))), (6, .int (iI (T 29 0))), (7, .int (iI 1)), (8, .int (iI tn)), (9, .int (iI (t : Int))), (10, .int (iI x)), (11, .int (iI y)), (12, .int (iI dd)), (13, .int (iI (im : Int))), (14, .int (iI (T 21 0))), (15, .int (iI (T 12 0))), (16, .int (iI (bk : Int)))] := by rw [he.1 0, he.2.2.2.2.1 0, he.2.2.2.2.1 1, he.2.2.2.2.1 2]; exact hl
      refine lv_istore (lv' := [(19, .int (iI v9)), (18, .int (iI v9)), (17, .int (iI (q : Int))), (0, .ref b), (1, .ref (ad 0 0)), (2, .ref (ad 6 0)), (3, .ref (ad 6 1)), (4, .ref (ad 6 2)), (5, .int (iI (T 8 0))), (6, .int (iI (T 29 0))), (7, .int (iI 1)), (8, .int (iI tn)), (9, .int (iI (t : Int))), (10, .int (iI x)), (11, .int (iI y)), (12, .int (iI dd)), (13, .int (iI (im : Int))), (14, .int (iI (T 21 0))), (15, .int (iI (T 12 0))), (16, .int (iI (bk : Int)))]) hx hb dL_law_423 hl (by decide) rfl (fun ls hl => ?_)
      refine lv_iload hx hb dL_law_425 (lv_at hl 0 rfl) ?_
      refine lv_iload hx hb dL_law_427 (lv_at hl 1 rfl) ?_
      refine wa_const F dL_law_429 ?_
      refine wa_ic_ne (tgt := 443) F dL_law_430 (by decide) (by have q0 := (show wa_r v9 from ⟨by omega, by omega⟩); exact ⟨by omega, by omega⟩) (by decide) (fun c430 => ?_) (fun c430 => absurd c430 (by omega))
      refine lv_iload hx hb dL_law_443 (lv_at hl 1 rfl) ?_
      refine lv_aload hx hb dL_law_445 (lv_at hl 7 rfl) ?_
      refine lv_iload hx hb dL_law_447 (lv_at hl 2 rfl) ?_
      refine wl_gld F hw 2 (by decide) q rfl (by omega) dL_law_449 ?_
      refine wa_ic_ge (tgt := 458) F dL_law_450 (by decide) (by have q0 := (show wa_r v9 from ⟨by omega, by omega⟩); exact ⟨by omega, by omega⟩) (by have q0 := hG.1 2 q; exact ⟨by omega, by omega⟩) (fun c450 => absurd c450 (by omega)) (fun c450 => ?_)
      refine lv_iload hx hb dL_law_453 (lv_at hl 1 rfl) ?_
      refine wa_goto (tgt := 460) F dL_law_455 (by decide) ?_
      refine wa_ic_ne (tgt := 476) F dL_law_460 (by decide) (by have q0 := (show wa_r v9 from ⟨by omega, by omega⟩); exact ⟨by omega, by omega⟩) (by have q0 := (show wa_r v9 from ⟨by omega, by omega⟩); exact ⟨by omega, by omega⟩) (fun c460 => absurd c460 (by omega)) (fun c460 => ?_)
      refine lv_aload_n hx hb dL_law_463 rfl (lv_at hl 4 rfl) ?_
      refine ql_layers F hg1.1 hxr hj hw ⟨by decide, by decide⟩ (Nat.le_of_ble_eq_true rfl) hl.1 dL_law_464 ⟨Nat.le_trans (show _ ≤ 300000 by omega) (Nat.le_of_ble_eq_true rfl), Nat.le_trans (show _ ≤ 2000000 by omega) (Nat.le_of_ble_eq_true rfl)⟩ ?_
      refine lv_iload hx hb dL_law_467 (lv_at hl 18 rfl) ?_
      refine wa_ic_ne (tgt := 476) F dL_law_469 (by decide) (by have q0 := hg1.1.1 12 0; exact ⟨by omega, by omega⟩) (by have q0 := hB 12 0; exact ⟨by omega, by omega⟩) (fun c469 => absurd c469 (by omega)) (fun c469 => ?_)
      refine wa_const F dL_law_472 ?_
      refine wa_goto (tgt := 477) F dL_law_473 (by decide) ?_
      refine lv_istore (lv' := [(7, .int (iI 1)), (19, .int (iI v9)), (18, .int (iI v9)), (17, .int (iI (q : Int))), (0, .ref b), (1, .ref (ad 0 0)), (2, .ref (ad 6 0)), (3, .ref (ad 6 1)), (4, .ref (ad 6 2)), (5, .int (iI (T 8 0))), (6, .int (iI (T 29 0))), (8, .int (iI tn)), (9, .int (iI (t : Int))), (10, .int (iI x)), (11, .int (iI y)), (12, .int (iI dd)), (13, .int (iI (im : Int))), (14, .int (iI (T 21 0))), (15, .int (iI (T 12 0))), (16, .int (iI (bk : Int)))]) hx hb dL_law_477 hl (by decide) rfl (fun ls hl => ?_)
      refine lv_aload hx hb dL_law_479 (lv_at hl 8 rfl) ?_
      refine lv_iload hx hb dL_law_481 (lv_at hl 3 rfl) ?_
      refine lv_dup2_11 hx hb dL_law_483 rfl rfl ?_
      refine wl_gld F hw 2 (by decide) q rfl (by omega) dL_law_484 ?_
      refine lv_iload hx hb dL_law_485 (lv_at hl 2 rfl) ?_
      refine wa_const F dL_law_487 ?_
      refine wa_ic_ne (tgt := 495) F dL_law_488 (by decide) (by have q0 := (show wa_r v9 from ⟨by omega, by omega⟩); exact ⟨by omega, by omega⟩) (by decide) (fun c488 => ?_) (fun c488 => absurd c488 (by omega))
      refine wa_const F dL_law_495 ?_
      refine wa_add F dL_law_496 ?_
      refine wl_gst F hw hj hS 2 (by decide) q rfl (by omega) dL_law_497 (fun H locs hw hj hS => ?_)
      refine wa_goto (tgt := 1799) F dL_law_498 (by decide) ?_
      refine W.widen (k := 600 + 700 * t) (n := 5200 + 4200 * t) (by omega) (by omega) ?_
      exact hE ad X (T1) (wa_s G 2 q ((G 2 q) + 0)) _ _ ls (hg1.le (by omega)) hm1 hG1 ⟨fun z => by omega, fun z => by omega⟩ hxr hj hw hS (by rw [a8, a29]; exact lv_sub hl [4, 5, 6, 7, 8, 9, 10, 0, 11, 12] rfl)
    · skip
      have hg1 := hg.th (k := 1) (by decide)
      have hm1 := hm.th 1
      have hG1 := LG.put0 (hG.th 1) (k := 2) (j := q) (v := G 2 q + 0) (by omega)
      have a8 : wa_s T 0 0 1 8 0 = T 8 0 := rfl
      have a12 : wa_s T 0 0 1 12 0 = T 12 0 := rfl
      have a21 : wa_s T 0 0 1 21 0 = T 21 0 := rfl
      have a29 : wa_s T 0 0 1 29 0 = T 29 0 := rfl
      generalize hT1 : wa_s T 0 0 1 = T1 at *
      refine lv_aload_n hx hb dL_law_415 rfl (lv_at hl 3 rfl) ?_
      refine lv_iload hx hb dL_law_416 (lv_at hl 1 rfl) ?_
      refine lv_iload hx hb dL_law_418 (lv_at hl 0 rfl) ?_
      refine va_calli (wl_runS F hTB hN hS (c_L_changed l hlt D cy ad (T) X (G) o A hj hA hg hxr (q : Int) v9 ⟨by omega, by omega⟩ ⟨by omega, by omega⟩ (by omega) (T1) ((-2)) (Or.inr k0) (fun z => absurd (k0.symm.trans z) (by decide)) (fun _ => ⟨hT1.symm, rfl⟩)) qw_467 qw_468 qw_30 qw_469 ⟨by decide, by decide, rfl⟩ ⟨by decide, by decide⟩ ⟨rfl, rfl⟩ hw rfl rfl (Nat.le_of_ble_eq_true rfl) hl.1 dL_law_420 ⟨Nat.le_trans (show _ ≤ 300000 by omega) (Nat.le_of_ble_eq_true rfl), Nat.le_trans (show _ ≤ 2000000 by omega) (Nat.le_of_ble_eq_true rfl)⟩) hS (fun _ _ h => h) (fun _ h => h) (fun r u t9 H locs ht9 hvm9 hq9 hB9 hz9 hk9 hS => ?_)
      obtain ⟨ad, X⟩ := u
      obtain ⟨hr9, hxr, hj, he⟩ := hq9
      have hxr : xr (T1) X := hxr
      have hj : wa_wj A ad (wW cy ad T1 X G o) := hj
      have hw : wa_wd D ad (wW cy ad T1 X G o) H := by rw [← ht9]; exact hB9
      rw [hr9]
      dsimp only at he
      have hl : lv_has ls 21 [(18, .int (iI v9)), (17, .int (iI (q : Int))), (0, .ref b), (1, .ref (ad 0 0)), (2, .ref (ad 6 0)), (3, .ref (ad 6 1)), (4, .ref (ad 6 2)), (5, .int (iI (T 8 0))), (6, .int (iI (T 29 0))), (7, .int (iI 1)), (8, .int (iI tn)), (9, .int (iI (t : Int))), (10, .int (iI x)), (11, .int (iI y)), (12, .int (iI dd)), (13, .int (iI (im : Int))), (14, .int (iI (T 21 0))), (15, .int (iI (T 12 0))), (16, .int (iI (bk : Int)))] := by rw [he.1 0, he.2.2.2.2.1 0, he.2.2.2.2.1 1, he.2.2.2.2.1 2]; exact hl
      refine lv_istore (lv' := [(19, .int (iI (-2))), (18, .int (iI v9)), (17, .int (iI (q : Int))), (0, .ref b), (1, .ref (ad 0 0)), (2, .ref (ad 6 0)), (3, .ref (ad 6 1)), (4, .ref (ad 6 2)), (5, .int (iI (T 8 0))), (6, .int (iI (T 29 0))), (7, .int (iI 1)), (8, .int (iI tn)), (9, .int (iI (t : Int))), (10, .int (iI x)), (11, .int (iI y)), (12, .int (iI dd)), (13, .int (iI (im : Int))), (14, .int (iI (T 21 0))), (15, .int (iI (T 12 0))), (16, .int (iI (bk : Int)))]) hx hb dL_law_423 hl (by decide) rfl (fun ls hl => ?_)
      refine lv_iload hx hb dL_law_425 (lv_at hl 0 rfl) ?_
      refine lv_iload hx hb dL_law_427 (lv_at hl 1 rfl) ?_
      refine wa_const F dL_law_429 ?_
      refine wa_ic_ne (tgt := 443) F dL_law_430 (by decide) (by have q0 := (show wa_r v9 from ⟨by omega, by omega⟩); exact ⟨by omega, by omega⟩) (by decide) (fun c430 => ?_) (fun c430 => absurd c430 (by omega))
      refine lv_iload hx hb dL_law_443 (lv_at hl 1 rfl) ?_
      refine lv_aload hx hb dL_law_445 (lv_at hl 7 rfl) ?_
      refine lv_iload hx hb dL_law_447 (lv_at hl 2 rfl) ?_
      refine wl_gld F hw 2 (by decide) q rfl (by omega) dL_law_449 ?_
      refine wa_ic_ge (tgt := 458) F dL_law_450 (by decide) (by have q0 := (show wa_r v9 from ⟨by omega, by omega⟩); exact ⟨by omega, by omega⟩) (by have q0 := hG.1 2 q; exact ⟨by omega, by omega⟩) (fun c450 => ?_) (fun c450 => absurd c450 (by omega))
      refine wa_bi F dL_law_458 (by decide +kernel) ?_
      refine wa_ic_ne (tgt := 476) F dL_law_460 (by decide) (by decide) (by decide) (fun c460 => absurd c460 (by decide)) (fun c460 => ?_)
      refine lv_aload_n hx hb dL_law_463 rfl (lv_at hl 4 rfl) ?_
      refine ql_layers F hg1.1 hxr hj hw ⟨by decide, by decide⟩ (Nat.le_of_ble_eq_true rfl) hl.1 dL_law_464 ⟨Nat.le_trans (show _ ≤ 300000 by omega) (Nat.le_of_ble_eq_true rfl), Nat.le_trans (show _ ≤ 2000000 by omega) (Nat.le_of_ble_eq_true rfl)⟩ ?_
      refine lv_iload hx hb dL_law_467 (lv_at hl 18 rfl) ?_
      refine wa_ic_ne (tgt := 476) F dL_law_469 (by decide) (by have q0 := hg1.1.1 12 0; exact ⟨by omega, by omega⟩) (by have q0 := hB 12 0; exact ⟨by omega, by omega⟩) (fun c469 => absurd c469 (by omega)) (fun c469 => ?_)
      refine wa_const F dL_law_472 ?_
      refine wa_goto (tgt := 477) F dL_law_473 (by decide) ?_
      refine lv_istore (lv' := [(7, .int (iI 1)), (19, .int (iI (-2))), (18, .int (iI v9)), (17, .int (iI (q : Int))), (0, .ref b), (1, .ref (ad 0 0)), (2, .ref (ad 6 0)), (3, .ref (ad 6 1)), (4, .ref (ad 6 2)), (5, .int (iI (T 8 0))), (6, .int (iI (T 29 0))), (8, .int (iI tn)), (9, .int (iI (t : Int))), (10, .int (iI x)), (11, .int (iI y)), (12, .int (iI dd)), (13, .int (iI (im : Int))), (14, .int (iI (T 21 0))), (15, .int (iI (T 12 0))), (16, .int (iI (bk : Int)))]) hx hb dL_law_477 hl (by decide) rfl (fun ls hl => ?_)
      refine lv_aload hx hb dL_law_479 (lv_at hl 8 rfl) ?_
      refine lv_iload hx hb dL_law_481 (lv_at hl 3 rfl) ?_
      refine lv_dup2_11 hx hb dL_law_483 rfl rfl ?_
      refine wl_gld F hw 2 (by decide) q rfl (by omega) dL_law_484 ?_
      refine lv_iload hx hb dL_law_485 (lv_at hl 2 rfl) ?_
      refine wa_const F dL_law_487 ?_
      refine wa_ic_ne (tgt := 495) F dL_law_488 (by decide) (by have q0 := (show wa_r v9 from ⟨by omega, by omega⟩); exact ⟨by omega, by omega⟩) (by decide) (fun c488 => ?_) (fun c488 => absurd c488 (by omega))
      refine wa_const F dL_law_495 ?_
      refine wa_add F dL_law_496 ?_
      refine wl_gst F hw hj hS 2 (by decide) q rfl (by omega) dL_law_497 (fun H locs hw hj hS => ?_)
      refine wa_goto (tgt := 1799) F dL_law_498 (by decide) ?_
      refine W.widen (k := 600 + 700 * t) (n := 5200 + 4200 * t) (by omega) (by omega) ?_
      exact hE ad X (T1) (wa_s G 2 q ((G 2 q) + 0)) _ _ ls (hg1.le (by omega)) hm1 hG1 ⟨fun z => by omega, fun z => by omega⟩ hxr hj hw hS (by rw [a8, a29]; exact lv_sub hl [4, 5, 6, 7, 8, 9, 10, 0, 11, 12] rfl)
  · skip
    refine wa_const F dL_law_396 ?_
    refine wa_goto (tgt := 413) F dL_law_397 (by decide) ?_
    refine lv_istore (lv' := [(18, .int (iI (-1))), (17, .int (iI (q : Int))), (0, .ref b), (1, .ref (ad 0 0)), (2, .ref (ad 6 0)), (3, .ref (ad 6 1)), (4, .ref (ad 6 2)), (5, .int (iI (T 8 0))), (6, .int (iI (T 29 0))), (7, .int (iI 1)), (8, .int (iI tn)), (9, .int (iI (t : Int))), (10, .int (iI x)), (11, .int (iI y)), (12, .int (iI dd)), (13, .int (iI (im : Int))), (14, .int (iI (T 21 0))), (15, .int (iI (T 12 0))), (16, .int (iI (bk : Int)))]) hx hb dL_law_413 hl (by decide) rfl (fun ls hl => ?_)
    rcases w_change (q := q) (v := (-1)) hg (by omega) hm hq4 (Or.inl rfl) with ⟨k0, c6, vc, hg1, hm1, ⟨a8, a12, a21, a29⟩, hG1⟩ | ⟨k0, k1, k2⟩
    · skip
      have hG1 := hG1 G hG
      rw [if_pos rfl] at hG1 vc
      generalize hT1 : a_change T (q : Int) ((-1)) = T1 at *
      refine lv_aload_n hx hb dL_law_415 rfl (lv_at hl 3 rfl) ?_
      refine lv_iload hx hb dL_law_416 (lv_at hl 1 rfl) ?_
      refine lv_iload hx hb dL_law_418 (lv_at hl 0 rfl) ?_
      refine va_calli (wl_runS F hTB hN hS (c_L_changed l hlt D cy ad (T) X (G) o A hj hA hg hxr (q : Int) ((-1)) ⟨by omega, by omega⟩ ⟨by omega, by omega⟩ (by omega) (T1) (((T 3 q) + 1)) (Or.inl k0) (fun _ => ⟨hT1.symm, by rw [Int.toNat_natCast, hT1]; exact vc.symm⟩) (fun z => absurd (k0.symm.trans z) (by decide))) qw_467 qw_468 qw_30 qw_469 ⟨by decide, by decide, rfl⟩ ⟨by decide, by decide⟩ ⟨rfl, rfl⟩ hw rfl rfl (Nat.le_of_ble_eq_true rfl) hl.1 dL_law_420 ⟨Nat.le_trans (show _ ≤ 300000 by omega) (Nat.le_of_ble_eq_true rfl), Nat.le_trans (show _ ≤ 2000000 by omega) (Nat.le_of_ble_eq_true rfl)⟩) hS (fun _ _ h => h) (fun _ h => h) (fun r u t9 H locs ht9 hvm9 hq9 hB9 hz9 hk9 hS => ?_)
      obtain ⟨ad, X⟩ := u
      obtain ⟨hr9, hxr, hj, he⟩ := hq9
      have hxr : xr (T1) X := hxr
      have hj : wa_wj A ad (wW cy ad T1 X G o) := hj
      have hw : wa_wd D ad (wW cy ad T1 X G o) H := by rw [← ht9]; exact hB9
      rw [hr9]
      dsimp only at he
      have hl : lv_has ls 21 [(18, .int (iI (-1))), (17, .int (iI (q : Int))), (0, .ref b), (1, .ref (ad 0 0)), (2, .ref (ad 6 0)), (3, .ref (ad 6 1)), (4, .ref (ad 6 2)), (5, .int (iI (T 8 0))), (6, .int (iI (T 29 0))), (7, .int (iI 1)), (8, .int (iI tn)), (9, .int (iI (t : Int))), (10, .int (iI x)), (11, .int (iI y)), (12, .int (iI dd)), (13, .int (iI (im : Int))), (14, .int (iI (T 21 0))), (15, .int (iI (T 12 0))), (16, .int (iI (bk : Int)))] := by rw [he.1 0, he.2.2.2.2.1 0, he.2.2.2.2.1 1, he.2.2.2.2.1 2]; exact hl
      refine lv_istore (lv' := [(19, .int (iI ((T 3 q) + 1))), (18, .int (iI (-1))), (17, .int (iI (q : Int))), (0, .ref b), (1, .ref (ad 0 0)), (2, .ref (ad 6 0)), (3, .ref (ad 6 1)), (4, .ref (ad 6 2)), (5, .int (iI (T 8 0))), (6, .int (iI (T 29 0))), (7, .int (iI 1)), (8, .int (iI tn)), (9, .int (iI (t : Int))), (10, .int (iI x)), (11, .int (iI y)), (12, .int (iI dd)), (13, .int (iI (im : Int))), (14, .int (iI (T 21 0))), (15, .int (iI (T 12 0))), (16, .int (iI (bk : Int)))]) hx hb dL_law_423 hl (by decide) rfl (fun ls hl => ?_)
      refine lv_iload hx hb dL_law_425 (lv_at hl 0 rfl) ?_
      refine lv_iload hx hb dL_law_427 (lv_at hl 1 rfl) ?_
      refine wa_const F dL_law_429 ?_
      refine wa_ic_ne (tgt := 443) F dL_law_430 (by decide) (by decide) (by decide) (fun c430 => absurd c430 (by decide)) (fun c430 => ?_)
      refine lv_aload hx hb dL_law_433 (lv_at hl 7 rfl) ?_
      refine lv_iload hx hb dL_law_435 (lv_at hl 2 rfl) ?_
      refine wl_gld F hw 2 (by decide) q rfl (by omega) dL_law_437 ?_
      refine wa_const F dL_law_438 ?_
      refine wa_add F dL_law_439 ?_
      refine wa_goto (tgt := 460) F dL_law_440 (by decide) ?_
      refine wa_ic_ne (tgt := 476) F dL_law_460 (by decide) (by have q0 := hB 3 q; exact ⟨by omega, by omega⟩) (by have q0 := hG.1 2 q; exact ⟨by omega, by omega⟩) (fun c460 => absurd c460 (by omega)) (fun c460 => ?_)
      refine lv_aload_n hx hb dL_law_463 rfl (lv_at hl 4 rfl) ?_
      refine ql_layers F hg1.1 hxr hj hw ⟨by decide, by decide⟩ (Nat.le_of_ble_eq_true rfl) hl.1 dL_law_464 ⟨Nat.le_trans (show _ ≤ 300000 by omega) (Nat.le_of_ble_eq_true rfl), Nat.le_trans (show _ ≤ 2000000 by omega) (Nat.le_of_ble_eq_true rfl)⟩ ?_
      refine lv_iload hx hb dL_law_467 (lv_at hl 18 rfl) ?_
      refine wa_ic_ne (tgt := 476) F dL_law_469 (by decide) (by have q0 := hg1.1.1 12 0; exact ⟨by omega, by omega⟩) (by have q0 := hB 12 0; exact ⟨by omega, by omega⟩) (fun c469 => absurd c469 (by omega)) (fun c469 => ?_)
      refine wa_const F dL_law_472 ?_
      refine wa_goto (tgt := 477) F dL_law_473 (by decide) ?_
      refine lv_istore (lv' := [(7, .int (iI 1)), (19, .int (iI ((T 3 q) + 1))), (18, .int (iI (-1))), (17, .int (iI (q : Int))), (0, .ref b), (1, .ref (ad 0 0)), (2, .ref (ad 6 0)), (3, .ref (ad 6 1)), (4, .ref (ad 6 2)), (5, .int (iI (T 8 0))), (6, .int (iI (T 29 0))), (8, .int (iI tn)), (9, .int (iI (t : Int))), (10, .int (iI x)), (11, .int (iI y)), (12, .int (iI dd)), (13, .int (iI (im : Int))), (14, .int (iI (T 21 0))), (15, .int (iI (T 12 0))), (16, .int (iI (bk : Int)))]) hx hb dL_law_477 hl (by decide) rfl (fun ls hl => ?_)
      refine lv_aload hx hb dL_law_479 (lv_at hl 8 rfl) ?_
      refine lv_iload hx hb dL_law_481 (lv_at hl 3 rfl) ?_
      refine lv_dup2_11 hx hb dL_law_483 rfl rfl ?_
      refine wl_gld F hw 2 (by decide) q rfl (by omega) dL_law_484 ?_
      refine lv_iload hx hb dL_law_485 (lv_at hl 2 rfl) ?_
      refine wa_const F dL_law_487 ?_
      refine wa_ic_ne (tgt := 495) F dL_law_488 (by decide) (by decide) (by decide) (fun c488 => absurd c488 (by decide)) (fun c488 => ?_)
      refine wa_const F dL_law_491 ?_
      refine wa_goto (tgt := 496) F dL_law_492 (by decide) ?_
      refine wa_add F dL_law_496 ?_
      refine wl_gst F hw hj hS 2 (by decide) q rfl (by omega) dL_law_497 (fun H locs hw hj hS => ?_)
      refine wa_goto (tgt := 1799) F dL_law_498 (by decide) ?_
      refine W.widen (k := 600 + 700 * t) (n := 5200 + 4200 * t) (by omega) (by omega) ?_
      exact hE ad X (T1) (wa_s G 2 q ((G 2 q) + 1)) _ _ ls (hg1.le (by omega)) hm1 hG1 ⟨fun z => by omega, fun z => by omega⟩ hxr hj hw hS (by rw [a8, a29]; exact lv_sub hl [4, 5, 6, 7, 8, 9, 10, 0, 11, 12] rfl)
    · skip
      exact absurd rfl k2
end WLD
