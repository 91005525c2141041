/-! the law: its calls, one by one (laid by program) -/
theorem qw_195 : Cond.methodLink "ImageBakerLaw" 89 ⟨"ImageBakerLaw", "add", "(LImageBaker;I[J)I"⟩ ∈ wa_ALL := wa_in 195 (by decide +kernel) rfl
theorem qw_320 : Cond.methodLink "ImageBakerLaw" 98 ⟨"ImageBakerLaw", "step", "(LImageBaker;II[J)I"⟩ ∈ wa_ALL := wa_in 320 (by decide +kernel) rfl
theorem qw_349 : Cond.methodLink "ImageBakerLaw" 102 ⟨"ImageBakerLaw", "change", "(LImageBaker;II[J)I"⟩ ∈ wa_ALL := wa_in 349 (by decide +kernel) rfl
theorem qw_357 : Cond.methodLink "ImageBakerLaw" 105 ⟨"ImageBakerLaw", "bake", "(LImageBaker;I[J)I"⟩ ∈ wa_ALL := wa_in 357 (by decide +kernel) rfl
theorem qw_439 : Cond.methodLink "ImageBakerLaw" 108 ⟨"ImageBakerLaw", "bakeAll", "(LImageBaker;[J)I"⟩ ∈ wa_ALL := wa_in 439 (by decide +kernel) rfl
theorem qw_459 : Cond.methodLink "ImageBakerLaw" 112 ⟨"ImageBakerLaw", "isFresh", "(LImageBaker;I[J)I"⟩ ∈ wa_ALL := wa_in 459 (by decide +kernel) rfl
theorem qw_466 : Cond.methodLink "ImageBakerLaw" 115 ⟨"ImageBakerLaw", "isFreshAnew", "(LImageBaker;I[J)I"⟩ ∈ wa_ALL := wa_in 466 (by decide +kernel) rfl
theorem qw_490 : Cond.methodLink "ImageBakerLaw" 126 ⟨"ImageBakerLaw", "latest", "(LImageBaker;I[J)I"⟩ ∈ wa_ALL := wa_in 490 (by decide +kernel) rfl
theorem qw_497 : Cond.methodLink "ImageBakerLaw" 129 ⟨"ImageBakerLaw", "top", "(LImageBaker;I[J)I"⟩ ∈ wa_ALL := wa_in 497 (by decide +kernel) rfl
theorem qw_509 : Cond.methodLink "ImageBakerLaw" 132 ⟨"ImageBakerLaw", "test", "(LImageBaker;IZ[J)I"⟩ ∈ wa_ALL := wa_in 509 (by decide +kernel) rfl
theorem qw_517 : Cond.methodLink "ImageBakerLaw" 136 ⟨"ImageBakerLaw", "hold", "(LImageBaker;I[J)I"⟩ ∈ wa_ALL := wa_in 517 (by decide +kernel) rfl
theorem qw_529 : Cond.methodLink "ImageBakerLaw" 139 ⟨"ImageBakerLaw", "raise", "(LImageBaker;I[J)I"⟩ ∈ wa_ALL := wa_in 529 (by decide +kernel) rfl
theorem qw_537 : Cond.methodLink "ImageBakerLaw" 142 ⟨"ImageBakerLaw", "copy", "(LImageBaker;II[J)I"⟩ ∈ wa_ALL := wa_in 537 (by decide +kernel) rfl
theorem qw_550 : Cond.methodLink "ImageBakerLaw" 145 ⟨"ImageBakerLaw", "setRules", "(LImageBaker;IIII)I"⟩ ∈ wa_ALL := wa_in 550 (by decide +kernel) rfl
theorem qw_559 : Cond.methodLink "ImageBakerLaw" 149 ⟨"ImageBakerLaw", "pass", "(LImageBaker;I[J)I"⟩ ∈ wa_ALL := wa_in 559 (by decide +kernel) rfl
theorem qw_571 : Cond.methodLink "ImageBakerLaw" 152 ⟨"ImageBakerLaw", "state", "(LImageBaker;I[J)I"⟩ ∈ wa_ALL := wa_in 571 (by decide +kernel) rfl
theorem qw_578 : Cond.methodLink "ImageBakerLaw" 155 ⟨"ImageBakerLaw", "start", "(LImageBaker;III[J)I"⟩ ∈ wa_ALL := wa_in 578 (by decide +kernel) rfl
theorem qw_613 : Cond.methodLink "ImageBakerLaw" 159 ⟨"ImageBakerLaw", "renew", "(LImageBaker;I[J)I"⟩ ∈ wa_ALL := wa_in 613 (by decide +kernel) rfl
theorem qw_631 : Cond.methodLink "ImageBakerLaw" 162 ⟨"ImageBakerLaw", "stop", "(LImageBaker;I[J)I"⟩ ∈ wa_ALL := wa_in 631 (by decide +kernel) rfl
theorem qw_638 : Cond.methodLink "ImageBakerLaw" 165 ⟨"ImageBakerLaw", "runsFrom", "(LImageBaker;I[J)I"⟩ ∈ wa_ALL := wa_in 638 (by decide +kernel) rfl
theorem qw_645 : Cond.methodLink "ImageBakerLaw" 172 ⟨"ImageBakerLaw", "oldAt", "(LImageBaker;I[J)I"⟩ ∈ wa_ALL := wa_in 645 (by decide +kernel) rfl
section WLC
variable {p : Program} {l : Launch} {e : Env} {s : State} {m : MethodId} {below : List Frame} {meth : Method} {c : Code} {Q : State → Prop}
variable {D : va_G} {A : Nat → Prop} {cy : Nat → ClassId} {b L : Nat} {xs : Nat → Int32}
set_option maxRecDepth 100000 in
set_option maxHeartbeats 4000000 in
/-- add -/
theorem law_c_add (hF : law_F p l s m meth c D cy A b L xs) {n : Nat} (hn : n ≤ 511) (hnL : 5 * n + 5 ≤ L) (hK : law_K p l e s m below meth c D cy A b Q (n + 1) n 1476) : law_K p l e s m below meth c D cy A b Q n n 148 := by
  intro ad X T o H locs ls hg hxr hj hw hS hl
  obtain ⟨F, hTB, hN, hA, hlt, hX, hbl, hbA, hL⟩ := id hF
  have hx := F.1.1
  have hb := F.1.2.1
  have hwf := hg.1
  have hin9 := wx_inj.of hj
  obtain ⟨z1, hz1⟩ : ∃ z : Int, z = (xs (5 * n + 1)).toInt := ⟨_, rfl⟩
  have r1 : wa_r z1 := by rw [hz1]; exact iI_rng _
  have hk : k_add T z1 = 0 ∨ k_add T z1 = 1 ∨ k_add T z1 = 2 := by unfold k_add; (repeat' split); all_goals omega
  have hpk := pk_add hg z1
  refine lv_aload_n hx hb dL_law_148 rfl (lv_at hl 1 rfl) ?_
  refine lv_aload_n hx hb dL_law_149 rfl (lv_at hl 0 rfl) ?_
  refine lv_iload hx hb dL_law_150 (lv_at hl 4 rfl) ?_
  refine wa_const F dL_law_152 ?_
  refine wa_add F dL_law_153 ?_
  refine wl_sld (j := 5 * n + 1) hF hS hz1 (by omega) (by omega) dL_law_154 ?_
  refine lv_aload_n hx hb dL_law_155 rfl (lv_at hl 3 rfl) ?_
  refine va_calli (wl_runS F hTB hN hS (c_L_add l hlt D cy ad T X T o A hj hA hwf hxr hin9 z1 r1 hg.2.2.2.2.1 hg.2.2.2.2.2.1 (o_x (k_add T z1) T (a_add T z1)) (fun q => if_pos q) (fun q => if_neg q) hk) qw_195 qw_196 qw_48 qw_197 ⟨by decide, by decide, rfl⟩ ⟨by decide, by decide⟩ ⟨rfl, rfl⟩ hw rfl rfl (Nat.le_of_ble_eq_true rfl) hl.1 dL_law_156 ⟨Nat.le_trans (show _ ≤ 100000 by omega) (Nat.le_of_ble_eq_true rfl), Nat.le_trans (show _ ≤ 1000000 by omega) (Nat.le_of_ble_eq_true rfl)⟩) hS (fun _ _ h => h) (fun _ h => h) (fun r u t H1 locs1 ht hvm hq hB hz9 hk9 hS => ?_)
  obtain ⟨⟨ad1, X1⟩, o1⟩ := u
  obtain ⟨hr, ⟨hx1, hj1, he1⟩, ho⟩ := hq
  have he1 : x_ext T ad ad1 := he1
  have hx1 : xr (o_x (k_add T z1) T (a_add T z1)) X1 := hx1
  have hj1 : wa_wj A ad1 (wW cy ad1 (o_x (k_add T z1) T (a_add T z1)) X1 T o1) := hj1
  have hw : wa_wd D ad1 (wW cy ad1 (o_x (k_add T z1) T (a_add T z1)) X1 T o1) H1 := by rw [← ht]; exact hB
  rw [hr]
  have hl : lv_has ls 7 [(0, .ref b), (1, .ref (ad1 0 0)), (2, .ref (ad1 6 0)), (3, .ref (ad1 7 0)), (4, .int (iI ((5 * n : Nat) : Int)))] := by rw [he1.1 0, he1.2.2.2.2.1 0, he1.2.2.2.2.2 0]; exact hl
  refine lv_istore (lv' := [(5, .int (iI (k_add T z1))), (0, .ref b), (1, .ref (ad1 0 0)), (2, .ref (ad1 6 0)), (3, .ref (ad1 7 0)), (4, .int (iI ((5 * n : Nat) : Int)))]) hx hb dL_law_159 hl (by decide) rfl (fun ls hl => ?_)
  refine lv_aload_n hx hb dL_law_161 rfl (lv_at hl 3 rfl) ?_
  refine lv_aload_n hx hb dL_law_162 rfl (lv_at hl 1 rfl) ?_
  refine lv_iload hx hb dL_law_163 (lv_at hl 5 rfl) ?_
  refine wa_const F dL_law_165 ?_
  refine wa_add F dL_law_166 ?_
  refine wl_sld (j := 5 * n + 1) hF hS hz1 (by omega) (by omega) dL_law_167 ?_
  refine wa_ci (kL_94 F (c_X5_add l D cy ad1 (o_x (k_add T z1) T (a_add T z1)) X1 T o1 A hj1 hwf z1 r1) ⟨by decide, by decide⟩ ⟨rfl, rfl⟩ hw hw rfl rfl rfl (Nat.le_of_ble_eq_true rfl) hl.1 dL_law_168 ⟨Nat.le_trans (show _ ≤ 100000 by omega) (Nat.le_of_ble_eq_true rfl), Nat.le_trans (show _ ≤ 1000000 by omega) (Nat.le_of_ble_eq_true rfl)⟩) hS (fun H2 locs2 hw hS => ?_)
  have hj2 : wa_wj A ad1 (wW cy ad1 (o_x (k_add T z1) T (a_add T z1)) X1 (o_s T (k_add T z1) (a_add T z1)) o1) := wl_wj hj1 rfl rfl rfl
  refine lv_istore (lv' := [(6, .int (iI (o_v (k_add T z1) (T 8 0 + 1 - 1)))), (5, .int (iI (k_add T z1))), (0, .ref b), (1, .ref (ad1 0 0)), (2, .ref (ad1 6 0)), (3, .ref (ad1 7 0)), (4, .int (iI ((5 * n : Nat) : Int)))]) hx hb dL_law_171 hl (by decide) rfl (fun ls hl => ?_)
  refine lv_aload_n hx hb dL_law_173 rfl (lv_at hl 4 rfl) ?_
  refine wa_cp (kL_95 F (c_X5_thrown l D cy ad1 (o_x (k_add T z1) T (a_add T z1)) X1 (o_s T (k_add T z1) (a_add T z1)) o1) ⟨by decide, by decide⟩ ⟨rfl, rfl⟩ hw hw rfl rfl rfl (Nat.le_of_ble_eq_true rfl) hl.1 dL_law_174 ⟨Nat.le_trans (show _ ≤ 100000 by omega) (Nat.le_of_ble_eq_true rfl), Nat.le_trans (show _ ≤ 1000000 by omega) (Nat.le_of_ble_eq_true rfl)⟩) ?_
  refine lv_iload hx hb dL_law_177 (lv_at hl 1 rfl) ?_
  have e0 := hpk.1
  refine wa_ic_eq (tgt := 184) F dL_law_179 (by decide) ⟨by omega, by omega⟩ ⟨by omega, by omega⟩ (fun c1 => ?_) (fun c1 => absurd (by omega) c1)
  refine lv_iload hx hb dL_law_184 (lv_at hl 1 rfl) ?_
  refine wa_if_ne (tgt := 201) F dL_law_186 (by decide) ⟨by omega, by omega⟩ (fun c2 => ?_) (fun k0 => ?_)
  · skip
    refine wa_goto (tgt := 1476) F dL_law_201 (by decide) ?_
    exact law_fin hK hpk hx1 hj1 hw hS (by omega) (by omega) (lv_sub hl [2, 3, 4, 5, 6] rfl)
  · have hv : (T 8 0) = (o_v (k_add T z1) (T 8 0 + 1 - 1)) := by unfold o_v; rw [if_pos k0]; omega
    have ho1 : o1 = lO (T 8 0) := ho k0
    refine lv_aload_n hx hb dL_law_189 rfl (lv_at hl 5 rfl) ?_
    refine wa_const F dL_law_190 ?_
    refine wa_lald F hw rfl 0 rfl (by decide) (by decide) dL_law_191 ?_
    refine lv_iload hx hb dL_law_192 (lv_at hl 0 rfl) ?_
    refine lv_i2l (v := lO (o_v (k_add T z1) (T 8 0 + 1 - 1))) hx hb dL_law_194 rfl ?_
    refine W.lcmp hx hb dL_law_195 ?_
    rw [show lg_cmp o1 (lO (o_v (k_add T z1) (T 8 0 + 1 - 1))) = iI 0 from by rw [ho1.trans (congrArg lO hv)]; exact lg_cmp_self _]
    refine wa_if_eq (tgt := 201) F dL_law_196 (by decide) (by decide) (fun _ => ?_) (fun c9 => absurd rfl c9)
    refine wa_goto (tgt := 1476) F dL_law_201 (by decide) ?_
    exact law_fin hK hpk hx1 hj1 hw hS (by omega) (by omega) (lv_sub hl [2, 3, 4, 5, 6] rfl)
set_option maxRecDepth 100000 in
set_option maxHeartbeats 4000000 in
/-- step -/
theorem law_c_step (hF : law_F p l s m meth c D cy A b L xs) {n : Nat} (hn : n ≤ 511) (hnL : 5 * n + 5 ≤ L) (hK : law_K p l e s m below meth c D cy A b Q (n + 1) n 1476) : law_K p l e s m below meth c D cy A b Q n n 204 := by
  intro ad X T o H locs ls hg hxr hj hw hS hl
  obtain ⟨F, hTB, hN, hA, hlt, hX, hbl, hbA, hL⟩ := id hF
  have hx := F.1.1
  have hb := F.1.2.1
  have hwf := hg.1
  have hin9 := wx_inj.of hj
  obtain ⟨z1, hz1⟩ : ∃ z : Int, z = (xs (5 * n + 1)).toInt := ⟨_, rfl⟩
  have r1 : wa_r z1 := by rw [hz1]; exact iI_rng _
  obtain ⟨z2, hz2⟩ : ∃ z : Int, z = (xs (5 * n + 2)).toInt := ⟨_, rfl⟩
  have r2 : wa_r z2 := by rw [hz2]; exact iI_rng _
  have hk : k_step T z1 z2 = 0 ∨ k_step T z1 z2 = 1 ∨ k_step T z1 z2 = 2 ∨ k_step T z1 z2 = 3 := by unfold k_step; (repeat' split); all_goals omega
  have hpk := pk_step hg z1 z2
  refine lv_aload_n hx hb dL_law_204 rfl (lv_at hl 1 rfl) ?_
  refine lv_aload_n hx hb dL_law_205 rfl (lv_at hl 0 rfl) ?_
  refine lv_iload hx hb dL_law_206 (lv_at hl 4 rfl) ?_
  refine wa_const F dL_law_208 ?_
  refine wa_add F dL_law_209 ?_
  refine wl_sld (j := 5 * n + 1) hF hS hz1 (by omega) (by omega) dL_law_210 ?_
  refine lv_aload_n hx hb dL_law_211 rfl (lv_at hl 0 rfl) ?_
  refine lv_iload hx hb dL_law_212 (lv_at hl 4 rfl) ?_
  refine wa_const F dL_law_214 ?_
  refine wa_add F dL_law_215 ?_
  refine wl_sld (j := 5 * n + 2) hF hS hz2 (by omega) (by omega) dL_law_216 ?_
  refine lv_aload_n hx hb dL_law_217 rfl (lv_at hl 3 rfl) ?_
  refine va_calli (wl_runS F hTB hN hS (c_L_step l hlt D cy ad T X T o A hj hA hwf hxr hin9 z1 r1 z2 r2 (o_x (k_step T z1 z2) T (a_step T z1 z2)) (fun q => if_pos q) (fun q => if_neg q) hk) qw_320 qw_321 qw_48 qw_322 ⟨by decide, by decide, rfl⟩ ⟨by decide, by decide⟩ ⟨rfl, rfl⟩ hw rfl rfl (Nat.le_of_ble_eq_true rfl) hl.1 dL_law_218 ⟨Nat.le_trans (show _ ≤ 100000 by omega) (Nat.le_of_ble_eq_true rfl), Nat.le_trans (show _ ≤ 1000000 by omega) (Nat.le_of_ble_eq_true rfl)⟩) hS (fun _ _ h => h) (fun _ h => h) (fun r u t H1 locs1 ht hvm hq hB hz9 hk9 hS => ?_)
  obtain ⟨⟨ad1, X1⟩, o1⟩ := u
  obtain ⟨hr, ⟨hx1, hj1, he1⟩, ho⟩ := hq
  have he1 : x_ext T ad ad1 := he1
  have hx1 : xr (o_x (k_step T z1 z2) T (a_step T z1 z2)) X1 := hx1
  have hj1 : wa_wj A ad1 (wW cy ad1 (o_x (k_step T z1 z2) T (a_step T z1 z2)) X1 T o1) := hj1
  have hw : wa_wd D ad1 (wW cy ad1 (o_x (k_step T z1 z2) T (a_step T z1 z2)) X1 T o1) H1 := by rw [← ht]; exact hB
  rw [hr]
  have hl : lv_has ls 7 [(0, .ref b), (1, .ref (ad1 0 0)), (2, .ref (ad1 6 0)), (3, .ref (ad1 7 0)), (4, .int (iI ((5 * n : Nat) : Int)))] := by rw [he1.1 0, he1.2.2.2.2.1 0, he1.2.2.2.2.2 0]; exact hl
  refine lv_istore (lv' := [(5, .int (iI (k_step T z1 z2))), (0, .ref b), (1, .ref (ad1 0 0)), (2, .ref (ad1 6 0)), (3, .ref (ad1 7 0)), (4, .int (iI ((5 * n : Nat) : Int)))]) hx hb dL_law_221 hl (by decide) rfl (fun ls hl => ?_)
  refine lv_aload_n hx hb dL_law_223 rfl (lv_at hl 3 rfl) ?_
  refine lv_aload_n hx hb dL_law_224 rfl (lv_at hl 1 rfl) ?_
  refine lv_iload hx hb dL_law_225 (lv_at hl 5 rfl) ?_
  refine wa_const F dL_law_227 ?_
  refine wa_add F dL_law_228 ?_
  refine wl_sld (j := 5 * n + 1) hF hS hz1 (by omega) (by omega) dL_law_229 ?_
  refine lv_aload_n hx hb dL_law_230 rfl (lv_at hl 1 rfl) ?_
  refine lv_iload hx hb dL_law_231 (lv_at hl 5 rfl) ?_
  refine wa_const F dL_law_233 ?_
  refine wa_add F dL_law_234 ?_
  refine wl_sld (j := 5 * n + 2) hF hS hz2 (by omega) (by omega) dL_law_235 ?_
  refine wa_ci (kL_101 F (c_X5_step l D cy ad1 (o_x (k_step T z1 z2) T (a_step T z1 z2)) X1 T o1 A hj1 hwf z1 z2 r1 r2) ⟨by decide, by decide⟩ ⟨rfl, rfl⟩ hw hw rfl rfl rfl (Nat.le_of_ble_eq_true rfl) hl.1 dL_law_236 ⟨Nat.le_trans (show _ ≤ 100000 by omega) (Nat.le_of_ble_eq_true rfl), Nat.le_trans (show _ ≤ 1000000 by omega) (Nat.le_of_ble_eq_true rfl)⟩) hS (fun H2 locs2 hw hS => ?_)
  have hj2 : wa_wj A ad1 (wW cy ad1 (o_x (k_step T z1 z2) T (a_step T z1 z2)) X1 (o_s T (k_step T z1 z2) (a_step T z1 z2)) o1) := wl_wj hj1 rfl rfl rfl
  refine lv_istore (lv' := [(6, .int (iI (o_v (k_step T z1 z2) (T 6 z1.toNat + 1)))), (5, .int (iI (k_step T z1 z2))), (0, .ref b), (1, .ref (ad1 0 0)), (2, .ref (ad1 6 0)), (3, .ref (ad1 7 0)), (4, .int (iI ((5 * n : Nat) : Int)))]) hx hb dL_law_239 hl (by decide) rfl (fun ls hl => ?_)
  refine lv_aload_n hx hb dL_law_241 rfl (lv_at hl 4 rfl) ?_
  refine wa_cp (kL_95 F (c_X5_thrown l D cy ad1 (o_x (k_step T z1 z2) T (a_step T z1 z2)) X1 (o_s T (k_step T z1 z2) (a_step T z1 z2)) o1) ⟨by decide, by decide⟩ ⟨rfl, rfl⟩ hw hw rfl rfl rfl (Nat.le_of_ble_eq_true rfl) hl.1 dL_law_242 ⟨Nat.le_trans (show _ ≤ 100000 by omega) (Nat.le_of_ble_eq_true rfl), Nat.le_trans (show _ ≤ 1000000 by omega) (Nat.le_of_ble_eq_true rfl)⟩) ?_
  refine lv_iload hx hb dL_law_245 (lv_at hl 1 rfl) ?_
  have e0 := hpk.1
  refine wa_ic_eq (tgt := 252) F dL_law_247 (by decide) ⟨by omega, by omega⟩ ⟨by omega, by omega⟩ (fun c1 => ?_) (fun c1 => absurd (by omega) c1)
  refine lv_iload hx hb dL_law_252 (lv_at hl 1 rfl) ?_
  refine wa_if_ne (tgt := 269) F dL_law_254 (by decide) ⟨by omega, by omega⟩ (fun c2 => ?_) (fun k0 => ?_)
  · skip
    refine wa_goto (tgt := 1476) F dL_law_269 (by decide) ?_
    exact law_fin hK hpk hx1 hj1 hw hS (by omega) (by omega) (lv_sub hl [2, 3, 4, 5, 6] rfl)
  · have hv : (T 6 z1.toNat + 1) = (o_v (k_step T z1 z2) (T 6 z1.toNat + 1)) := (if_pos k0).symm
    have ho1 : o1 = lO (T 6 z1.toNat + 1) := ho k0
    refine lv_aload_n hx hb dL_law_257 rfl (lv_at hl 5 rfl) ?_
    refine wa_const F dL_law_258 ?_
    refine wa_lald F hw rfl 0 rfl (by decide) (by decide) dL_law_259 ?_
    refine lv_iload hx hb dL_law_260 (lv_at hl 0 rfl) ?_
    refine lv_i2l (v := lO (o_v (k_step T z1 z2) (T 6 z1.toNat + 1))) hx hb dL_law_262 rfl ?_
    refine W.lcmp hx hb dL_law_263 ?_
    rw [show lg_cmp o1 (lO (o_v (k_step T z1 z2) (T 6 z1.toNat + 1))) = iI 0 from by rw [ho1.trans (congrArg lO hv)]; exact lg_cmp_self _]
    refine wa_if_eq (tgt := 269) F dL_law_264 (by decide) (by decide) (fun _ => ?_) (fun c9 => absurd rfl c9)
    refine wa_goto (tgt := 1476) F dL_law_269 (by decide) ?_
    exact law_fin hK hpk hx1 hj1 hw hS (by omega) (by omega) (lv_sub hl [2, 3, 4, 5, 6] rfl)
set_option maxRecDepth 100000 in
set_option maxHeartbeats 4000000 in
/-- change -/
theorem law_c_change (hF : law_F p l s m meth c D cy A b L xs) {n : Nat} (hn : n ≤ 511) (hnL : 5 * n + 5 ≤ L) (hK : law_K p l e s m below meth c D cy A b Q (n + 1) n 1476) : law_K p l e s m below meth c D cy A b Q n n 272 := by
  intro ad X T o H locs ls hg hxr hj hw hS hl
  obtain ⟨F, hTB, hN, hA, hlt, hX, hbl, hbA, hL⟩ := id hF
  have hx := F.1.1
  have hb := F.1.2.1
  have hwf := hg.1
  have hin9 := wx_inj.of hj
  obtain ⟨z1, hz1⟩ : ∃ z : Int, z = (xs (5 * n + 1)).toInt := ⟨_, rfl⟩
  have r1 : wa_r z1 := by rw [hz1]; exact iI_rng _
  obtain ⟨z2, hz2⟩ : ∃ z : Int, z = (xs (5 * n + 2)).toInt := ⟨_, rfl⟩
  have r2 : wa_r z2 := by rw [hz2]; exact iI_rng _
  have hk : k_change T z1 z2 = 0 ∨ k_change T z1 z2 = 1 := by unfold k_change; split <;> omega
  have hpk := pk_change hg (by omega) z1 z2
  refine lv_aload_n hx hb dL_law_272 rfl (lv_at hl 1 rfl) ?_
  refine lv_aload_n hx hb dL_law_273 rfl (lv_at hl 0 rfl) ?_
  refine lv_iload hx hb dL_law_274 (lv_at hl 4 rfl) ?_
  refine wa_const F dL_law_276 ?_
  refine wa_add F dL_law_277 ?_
  refine wl_sld (j := 5 * n + 1) hF hS hz1 (by omega) (by omega) dL_law_278 ?_
  refine lv_aload_n hx hb dL_law_279 rfl (lv_at hl 0 rfl) ?_
  refine lv_iload hx hb dL_law_280 (lv_at hl 4 rfl) ?_
  refine wa_const F dL_law_282 ?_
  refine wa_add F dL_law_283 ?_
  refine wl_sld (j := 5 * n + 2) hF hS hz2 (by omega) (by omega) dL_law_284 ?_
  refine lv_aload_n hx hb dL_law_285 rfl (lv_at hl 3 rfl) ?_
  refine va_calli (wl_runS F hTB hN hS (c_L_change l hlt D cy ad T X T o A hj hA hwf hxr hin9 z1 z2 r1 r2 (o_x (k_change T z1 z2) T (a_change T z1 z2)) (fun q => if_pos q) (fun q => if_neg q) hk) qw_349 qw_350 qw_48 qw_351 ⟨by decide, by decide, rfl⟩ ⟨by decide, by decide⟩ ⟨rfl, rfl⟩ hw rfl rfl (Nat.le_of_ble_eq_true rfl) hl.1 dL_law_286 ⟨Nat.le_trans (show _ ≤ 100000 by omega) (Nat.le_of_ble_eq_true rfl), Nat.le_trans (show _ ≤ 1000000 by omega) (Nat.le_of_ble_eq_true rfl)⟩) hS (fun _ _ h => h) (fun _ h => h) (fun r u t H1 locs1 ht hvm hq hB hz9 hk9 hS => ?_)
  obtain ⟨⟨ad1, X1⟩, o1⟩ := u
  obtain ⟨hr, ⟨hx1, hj1, he1⟩, ho⟩ := hq
  have he1 : x_ext T ad ad1 := he1
  have hx1 : xr (o_x (k_change T z1 z2) T (a_change T z1 z2)) X1 := hx1
  have hj1 : wa_wj A ad1 (wW cy ad1 (o_x (k_change T z1 z2) T (a_change T z1 z2)) X1 T o1) := hj1
  have hw : wa_wd D ad1 (wW cy ad1 (o_x (k_change T z1 z2) T (a_change T z1 z2)) X1 T o1) H1 := by rw [← ht]; exact hB
  rw [hr]
  have hl : lv_has ls 7 [(0, .ref b), (1, .ref (ad1 0 0)), (2, .ref (ad1 6 0)), (3, .ref (ad1 7 0)), (4, .int (iI ((5 * n : Nat) : Int)))] := by rw [he1.1 0, he1.2.2.2.2.1 0, he1.2.2.2.2.2 0]; exact hl
  refine lv_istore (lv' := [(5, .int (iI (k_change T z1 z2))), (0, .ref b), (1, .ref (ad1 0 0)), (2, .ref (ad1 6 0)), (3, .ref (ad1 7 0)), (4, .int (iI ((5 * n : Nat) : Int)))]) hx hb dL_law_289 hl (by decide) rfl (fun ls hl => ?_)
  refine lv_aload_n hx hb dL_law_291 rfl (lv_at hl 3 rfl) ?_
  refine lv_aload_n hx hb dL_law_292 rfl (lv_at hl 1 rfl) ?_
  refine lv_iload hx hb dL_law_293 (lv_at hl 5 rfl) ?_
  refine wa_const F dL_law_295 ?_
  refine wa_add F dL_law_296 ?_
  refine wl_sld (j := 5 * n + 1) hF hS hz1 (by omega) (by omega) dL_law_297 ?_
  refine lv_aload_n hx hb dL_law_298 rfl (lv_at hl 1 rfl) ?_
  refine lv_iload hx hb dL_law_299 (lv_at hl 5 rfl) ?_
  refine wa_const F dL_law_301 ?_
  refine wa_add F dL_law_302 ?_
  refine wl_sld (j := 5 * n + 2) hF hS hz2 (by omega) (by omega) dL_law_303 ?_
  refine wa_ci (kL_104 F (c_X5_change l D cy ad1 (o_x (k_change T z1 z2) T (a_change T z1 z2)) X1 T o1 A hj1 hwf z1 z2 r1 r2) ⟨by decide, by decide⟩ ⟨rfl, rfl⟩ hw hw rfl rfl rfl (Nat.le_of_ble_eq_true rfl) hl.1 dL_law_304 ⟨Nat.le_trans (show _ ≤ 100000 by omega) (Nat.le_of_ble_eq_true rfl), Nat.le_trans (show _ ≤ 1000000 by omega) (Nat.le_of_ble_eq_true rfl)⟩) hS (fun H2 locs2 hw hS => ?_)
  have hj2 : wa_wj A ad1 (wW cy ad1 (o_x (k_change T z1 z2) T (a_change T z1 z2)) X1 (o_s T (k_change T z1 z2) (a_change T z1 z2)) o1) := wl_wj hj1 rfl rfl rfl
  refine lv_istore (lv' := [(6, .int (iI (o_v (k_change T z1 z2) (if z2 = -1 then T 3 z1.toNat + 1 else z2)))), (5, .int (iI (k_change T z1 z2))), (0, .ref b), (1, .ref (ad1 0 0)), (2, .ref (ad1 6 0)), (3, .ref (ad1 7 0)), (4, .int (iI ((5 * n : Nat) : Int)))]) hx hb dL_law_307 hl (by decide) rfl (fun ls hl => ?_)
  refine lv_aload_n hx hb dL_law_309 rfl (lv_at hl 4 rfl) ?_
  refine wa_cp (kL_95 F (c_X5_thrown l D cy ad1 (o_x (k_change T z1 z2) T (a_change T z1 z2)) X1 (o_s T (k_change T z1 z2) (a_change T z1 z2)) o1) ⟨by decide, by decide⟩ ⟨rfl, rfl⟩ hw hw rfl rfl rfl (Nat.le_of_ble_eq_true rfl) hl.1 dL_law_310 ⟨Nat.le_trans (show _ ≤ 100000 by omega) (Nat.le_of_ble_eq_true rfl), Nat.le_trans (show _ ≤ 1000000 by omega) (Nat.le_of_ble_eq_true rfl)⟩) ?_
  refine lv_iload hx hb dL_law_313 (lv_at hl 1 rfl) ?_
  have e0 := hpk.1
  refine wa_ic_eq (tgt := 320) F dL_law_315 (by decide) ⟨by omega, by omega⟩ ⟨by omega, by omega⟩ (fun c1 => ?_) (fun c1 => absurd (by omega) c1)
  refine lv_iload hx hb dL_law_320 (lv_at hl 1 rfl) ?_
  refine wa_if_ne (tgt := 337) F dL_law_322 (by decide) ⟨by omega, by omega⟩ (fun c2 => ?_) (fun k0 => ?_)
  · skip
    refine wa_goto (tgt := 1476) F dL_law_337 (by decide) ?_
    exact law_fin hK hpk hx1 hj1 hw hS (by omega) (by omega) (lv_sub hl [2, 3, 4, 5, 6] rfl)
  · have hv : ((a_change T z1 z2) 2 z1.toNat) = (o_v (k_change T z1 z2) (if z2 = -1 then T 3 z1.toNat + 1 else z2)) := by unfold o_v; rw [if_pos k0]; exact v_change z1 z2
    have ho1 : o1 = lO ((a_change T z1 z2) 2 z1.toNat) := ho k0
    refine lv_aload_n hx hb dL_law_325 rfl (lv_at hl 5 rfl) ?_
    refine wa_const F dL_law_326 ?_
    refine wa_lald F hw rfl 0 rfl (by decide) (by decide) dL_law_327 ?_
    refine lv_iload hx hb dL_law_328 (lv_at hl 0 rfl) ?_
    refine lv_i2l (v := lO (o_v (k_change T z1 z2) (if z2 = -1 then T 3 z1.toNat + 1 else z2))) hx hb dL_law_330 rfl ?_
    refine W.lcmp hx hb dL_law_331 ?_
    rw [show lg_cmp o1 (lO (o_v (k_change T z1 z2) (if z2 = -1 then T 3 z1.toNat + 1 else z2))) = iI 0 from by rw [ho1.trans (congrArg lO hv)]; exact lg_cmp_self _]
    refine wa_if_eq (tgt := 337) F dL_law_332 (by decide) (by decide) (fun _ => ?_) (fun c9 => absurd rfl c9)
    refine wa_goto (tgt := 1476) F dL_law_337 (by decide) ?_
    exact law_fin hK hpk hx1 hj1 hw hS (by omega) (by omega) (lv_sub hl [2, 3, 4, 5, 6] rfl)
set_option maxRecDepth 100000 in
set_option maxHeartbeats 4000000 in
/-- bake -/
theorem law_c_bake (hF : law_F p l s m meth c D cy A b L xs) {n : Nat} (hn : n ≤ 511) (hnL : 5 * n + 5 ≤ L) (hK : law_K p l e s m below meth c D cy A b Q (n + 1) n 1476) : law_K p l e s m below meth c D cy A b Q n n 340 := by
  intro ad X T o H locs ls hg hxr hj hw hS hl
  obtain ⟨F, hTB, hN, hA, hlt, hX, hbl, hbA, hL⟩ := id hF
  have hx := F.1.1
  have hb := F.1.2.1
  have hwf := hg.1
  have hin9 := wx_inj.of hj
  obtain ⟨z1, hz1⟩ : ∃ z : Int, z = (xs (5 * n + 1)).toInt := ⟨_, rfl⟩
  have r1 : wa_r z1 := by rw [hz1]; exact iI_rng _
  have hk : j_bake T z1 = 0 ∨ j_bake T z1 = 1 ∨ j_bake T z1 = 2 := by unfold j_bake; (repeat' split); all_goals omega
  have hpk := pk_bake hg z1
  refine lv_aload_n hx hb dL_law_340 rfl (lv_at hl 1 rfl) ?_
  refine lv_aload_n hx hb dL_law_341 rfl (lv_at hl 0 rfl) ?_
  refine lv_iload hx hb dL_law_342 (lv_at hl 4 rfl) ?_
  refine wa_const F dL_law_344 ?_
  refine wa_add F dL_law_345 ?_
  refine wl_sld (j := 5 * n + 1) hF hS hz1 (by omega) (by omega) dL_law_346 ?_
  refine lv_aload_n hx hb dL_law_347 rfl (lv_at hl 3 rfl) ?_
  refine va_calli (wl_runS F hTB hN hS (c_L_bake l hlt D cy ad T X T o A hj hA hwf hxr hin9 z1 r1 (fun h => by have := hg.2.2.1; omega) (o_x (j_bake T z1) T (x_bn T z1)) (fun q => if_pos q) (fun q => if_neg q) hk) qw_357 qw_358 qw_48 qw_359 ⟨by decide, by decide, rfl⟩ ⟨by decide, by decide⟩ ⟨rfl, rfl⟩ hw rfl rfl (Nat.le_of_ble_eq_true rfl) hl.1 dL_law_348 ⟨Nat.le_trans (show _ ≤ 100000 by omega) (Nat.le_of_ble_eq_true rfl), Nat.le_trans (show _ ≤ 1000000 by omega) (Nat.le_of_ble_eq_true rfl)⟩) hS (fun _ _ h => h) (fun _ h => h) (fun r u t H1 locs1 ht hvm hq hB hz9 hk9 hS => ?_)
  obtain ⟨⟨ad1, X1⟩, o1⟩ := u
  obtain ⟨hr, ⟨hx1, hj1, he1⟩, ho⟩ := hq
  have he1 : x_ext T ad ad1 := he1
  have hx1 : xr (o_x (j_bake T z1) T (x_bn T z1)) X1 := hx1
  have hj1 : wa_wj A ad1 (wW cy ad1 (o_x (j_bake T z1) T (x_bn T z1)) X1 T o1) := hj1
  have hw : wa_wd D ad1 (wW cy ad1 (o_x (j_bake T z1) T (x_bn T z1)) X1 T o1) H1 := by rw [← ht]; exact hB
  rw [hr]
  have hl : lv_has ls 7 [(0, .ref b), (1, .ref (ad1 0 0)), (2, .ref (ad1 6 0)), (3, .ref (ad1 7 0)), (4, .int (iI ((5 * n : Nat) : Int)))] := by rw [he1.1 0, he1.2.2.2.2.1 0, he1.2.2.2.2.2 0]; exact hl
  refine lv_istore (lv' := [(5, .int (iI (j_bake T z1))), (0, .ref b), (1, .ref (ad1 0 0)), (2, .ref (ad1 6 0)), (3, .ref (ad1 7 0)), (4, .int (iI ((5 * n : Nat) : Int)))]) hx hb dL_law_351 hl (by decide) rfl (fun ls hl => ?_)
  refine lv_aload_n hx hb dL_law_353 rfl (lv_at hl 3 rfl) ?_
  refine lv_aload_n hx hb dL_law_354 rfl (lv_at hl 1 rfl) ?_
  refine lv_iload hx hb dL_law_355 (lv_at hl 5 rfl) ?_
  refine wa_const F dL_law_357 ?_
  refine wa_add F dL_law_358 ?_
  refine wl_sld (j := 5 * n + 1) hF hS hz1 (by omega) (by omega) dL_law_359 ?_
  refine wa_ci (kL_107 F (c_X5_bake l D cy ad1 (o_x (j_bake T z1) T (x_bn T z1)) X1 T o1 A hj1 hwf z1 r1 hg.2.2.1) ⟨by decide, by decide⟩ ⟨rfl, rfl⟩ hw hw rfl rfl rfl (Nat.le_of_ble_eq_true rfl) hl.1 dL_law_360 ⟨Nat.le_trans (show _ ≤ 100000 by omega) (Nat.le_of_ble_eq_true rfl), Nat.le_trans (show _ ≤ 1000000 by omega) (Nat.le_of_ble_eq_true rfl)⟩) hS (fun H2 locs2 hw hS => ?_)
  have hj2 : wa_wj A ad1 (wW cy ad1 (o_x (j_bake T z1) T (x_bn T z1)) X1 (o_s T (k_bake T z1) (a_bake T z1)) o1) := wl_wj hj1 rfl rfl rfl
  refine lv_istore (lv' := [(6, .int (iI (o_v (k_bake T z1) ((a_bake T z1) 7 z1.toNat)))), (5, .int (iI (j_bake T z1))), (0, .ref b), (1, .ref (ad1 0 0)), (2, .ref (ad1 6 0)), (3, .ref (ad1 7 0)), (4, .int (iI ((5 * n : Nat) : Int)))]) hx hb dL_law_363 hl (by decide) rfl (fun ls hl => ?_)
  refine lv_aload_n hx hb dL_law_365 rfl (lv_at hl 4 rfl) ?_
  refine wa_cp (kL_95 F (c_X5_thrown l D cy ad1 (o_x (j_bake T z1) T (x_bn T z1)) X1 (o_s T (k_bake T z1) (a_bake T z1)) o1) ⟨by decide, by decide⟩ ⟨rfl, rfl⟩ hw hw rfl rfl rfl (Nat.le_of_ble_eq_true rfl) hl.1 dL_law_366 ⟨Nat.le_trans (show _ ≤ 100000 by omega) (Nat.le_of_ble_eq_true rfl), Nat.le_trans (show _ ≤ 1000000 by omega) (Nat.le_of_ble_eq_true rfl)⟩) ?_
  refine lv_iload hx hb dL_law_369 (lv_at hl 1 rfl) ?_
  have e0 := hpk.1
  have ekk := j_bake_eq hg.1 z1
  refine wa_ic_eq (tgt := 376) F dL_law_371 (by decide) ⟨by omega, by omega⟩ ⟨by omega, by omega⟩ (fun c1 => ?_) (fun c1 => absurd (by omega) c1)
  refine lv_iload hx hb dL_law_376 (lv_at hl 1 rfl) ?_
  refine wa_if_ne (tgt := 393) F dL_law_378 (by decide) ⟨by omega, by omega⟩ (fun c2 => ?_) (fun k0 => ?_)
  · skip
    refine wa_goto (tgt := 1476) F dL_law_393 (by decide) ?_
    exact law_fin hK hpk hx1 hj1 hw hS (by omega) (by omega) (lv_sub hl [2, 3, 4, 5, 6] rfl)
  · have hv : ((x_bn T z1) 7 z1.toNat) = (o_v (k_bake T z1) ((a_bake T z1) 7 z1.toNat)) := by have k1 : k_bake T z1 = 0 := (j_bake_eq hg.1 z1).symm.trans k0; unfold o_v; rw [if_pos k1]; exact (bn_eq hg k1).2.1 7 _ (by decide) (by decide) (by decide)
    have ho1 : o1 = lO ((x_bn T z1) 7 z1.toNat) := ho k0
    refine lv_aload_n hx hb dL_law_381 rfl (lv_at hl 5 rfl) ?_
    refine wa_const F dL_law_382 ?_
    refine wa_lald F hw rfl 0 rfl (by decide) (by decide) dL_law_383 ?_
    refine lv_iload hx hb dL_law_384 (lv_at hl 0 rfl) ?_
    refine lv_i2l (v := lO (o_v (k_bake T z1) ((a_bake T z1) 7 z1.toNat))) hx hb dL_law_386 rfl ?_
    refine W.lcmp hx hb dL_law_387 ?_
    rw [show lg_cmp o1 (lO (o_v (k_bake T z1) ((a_bake T z1) 7 z1.toNat))) = iI 0 from by rw [ho1.trans (congrArg lO hv)]; exact lg_cmp_self _]
    refine wa_if_eq (tgt := 393) F dL_law_388 (by decide) (by decide) (fun _ => ?_) (fun c9 => absurd rfl c9)
    refine wa_goto (tgt := 1476) F dL_law_393 (by decide) ?_
    exact law_fin hK hpk hx1 hj1 hw hS (by omega) (by omega) (lv_sub hl [2, 3, 4, 5, 6] rfl)
set_option maxRecDepth 100000 in
set_option maxHeartbeats 4000000 in
/-- bakeAll -/
theorem law_c_bakeAll (hF : law_F p l s m meth c D cy A b L xs) {n : Nat} (hn : n ≤ 511) (hnL : 5 * n + 5 ≤ L) (hK : law_K p l e s m below meth c D cy A b Q (n + 1) n 1476) : law_K p l e s m below meth c D cy A b Q n n 396 := by
  intro ad X T o H locs ls hg hxr hj hw hS hl
  obtain ⟨F, hTB, hN, hA, hlt, hX, hbl, hbA, hL⟩ := id hF
  have hx := F.1.1
  have hb := F.1.2.1
  have hwf := hg.1
  have hin9 := wx_inj.of hj
  have hk : j_all T = 0 ∨ j_all T = 1 := by unfold j_all; split <;> omega
  have hpk := (pk_all hg hxr).1
  refine lv_aload_n hx hb dL_law_396 rfl (lv_at hl 1 rfl) ?_
  refine lv_aload_n hx hb dL_law_397 rfl (lv_at hl 3 rfl) ?_
  refine va_calli (wl_runS F hTB hN hS (c_L_bakeAll l hlt D cy ad T X T o A hj hA hwf hxr hin9 hg.2.2.1 (o_x (j_all T) T (x_ba (x_L T X) 10 0 T)) (fun q => if_pos q) (fun q => if_neg q) hk) qw_439 qw_440 qw_48 qw_441 ⟨by decide, by decide, rfl⟩ ⟨by decide, by decide⟩ ⟨rfl, rfl⟩ hw rfl rfl (Nat.le_of_ble_eq_true rfl) hl.1 dL_law_398 ⟨Nat.le_trans (show _ ≤ 100000 by omega) (Nat.le_of_ble_eq_true rfl), Nat.le_trans (show _ ≤ 1000000 by omega) (Nat.le_of_ble_eq_true rfl)⟩) hS (fun _ _ h => h) (fun _ h => h) (fun r u t H1 locs1 ht hvm hq hB hz9 hk9 hS => ?_)
  obtain ⟨⟨ad1, X1⟩, o1⟩ := u
  obtain ⟨hr, ⟨hx1, hj1, he1⟩, ho⟩ := hq
  have he1 : x_ext T ad ad1 := he1
  have hx1 : xr (o_x (j_all T) T (x_ba (x_L T X) 10 0 T)) X1 := hx1
  have hj1 : wa_wj A ad1 (wW cy ad1 (o_x (j_all T) T (x_ba (x_L T X) 10 0 T)) X1 T o1) := hj1
  have hw : wa_wd D ad1 (wW cy ad1 (o_x (j_all T) T (x_ba (x_L T X) 10 0 T)) X1 T o1) H1 := by rw [← ht]; exact hB
  rw [hr]
  have hl : lv_has ls 7 [(0, .ref b), (1, .ref (ad1 0 0)), (2, .ref (ad1 6 0)), (3, .ref (ad1 7 0)), (4, .int (iI ((5 * n : Nat) : Int)))] := by rw [he1.1 0, he1.2.2.2.2.1 0, he1.2.2.2.2.2 0]; exact hl
  refine lv_istore (lv' := [(5, .int (iI (j_all T))), (0, .ref b), (1, .ref (ad1 0 0)), (2, .ref (ad1 6 0)), (3, .ref (ad1 7 0)), (4, .int (iI ((5 * n : Nat) : Int)))]) hx hb dL_law_401 hl (by decide) rfl (fun ls hl => ?_)
  refine lv_aload_n hx hb dL_law_403 rfl (lv_at hl 3 rfl) ?_
  refine wa_ci (kL_111 F (c_X5_bakeAll l D cy ad1 (o_x (j_all T) T (x_ba (x_L T X) 10 0 T)) X1 T o1 A hj1 hwf hg.2.2.1) ⟨by decide, by decide⟩ ⟨rfl, rfl⟩ hw hw rfl rfl rfl (Nat.le_of_ble_eq_true rfl) hl.1 dL_law_404 ⟨Nat.le_trans (show _ ≤ 100000 by omega) (Nat.le_of_ble_eq_true rfl), Nat.le_trans (show _ ≤ 1000000 by omega) (Nat.le_of_ble_eq_true rfl)⟩) hS (fun H2 locs2 hw hS => ?_)
  have hj2 : wa_wj A ad1 (wW cy ad1 (o_x (j_all T) T (x_ba (x_L T X) 10 0 T)) X1 (s_all T) o1) := wl_wj hj1 rfl rfl rfl
  refine lv_istore (lv' := [(6, .int (iI (v_all T))), (5, .int (iI (j_all T))), (0, .ref b), (1, .ref (ad1 0 0)), (2, .ref (ad1 6 0)), (3, .ref (ad1 7 0)), (4, .int (iI ((5 * n : Nat) : Int)))]) hx hb dL_law_407 hl (by decide) rfl (fun ls hl => ?_)
  refine lv_aload_n hx hb dL_law_409 rfl (lv_at hl 4 rfl) ?_
  refine wa_cp (kL_95 F (c_X5_thrown l D cy ad1 (o_x (j_all T) T (x_ba (x_L T X) 10 0 T)) X1 (s_all T) o1) ⟨by decide, by decide⟩ ⟨rfl, rfl⟩ hw hw rfl rfl rfl (Nat.le_of_ble_eq_true rfl) hl.1 dL_law_410 ⟨Nat.le_trans (show _ ≤ 100000 by omega) (Nat.le_of_ble_eq_true rfl), Nat.le_trans (show _ ≤ 1000000 by omega) (Nat.le_of_ble_eq_true rfl)⟩) ?_
  refine lv_iload hx hb dL_law_413 (lv_at hl 1 rfl) ?_
  have e0 := hpk.1
  have ekk := j_all_eq hg hxr
  refine wa_ic_eq (tgt := 420) F dL_law_415 (by decide) ⟨by omega, by omega⟩ ⟨by omega, by omega⟩ (fun c1 => ?_) (fun c1 => absurd (by omega) c1)
  refine lv_iload hx hb dL_law_420 (lv_at hl 1 rfl) ?_
  refine wa_if_ne (tgt := 437) F dL_law_422 (by decide) ⟨by omega, by omega⟩ (fun c2 => ?_) (fun k0 => ?_)
  · skip
    refine wa_goto (tgt := 1476) F dL_law_437 (by decide) ?_
    exact law_fin hK hpk hx1 hj1 hw hS (by omega) (by omega) (lv_sub hl [2, 3, 4, 5, 6] rfl)
  · have hv : (x_ba (x_L T X) 10 0 T 21 0 - T 21 0) = (v_all T) := (pk_all hg hxr).2 ((j_all_eq hg hxr).symm.trans k0)
    have ho1 : o1 = lO (x_ba (x_L T X) 10 0 T 21 0 - T 21 0) := ho k0
    refine lv_aload_n hx hb dL_law_425 rfl (lv_at hl 5 rfl) ?_
    refine wa_const F dL_law_426 ?_
    refine wa_lald F hw rfl 0 rfl (by decide) (by decide) dL_law_427 ?_
    refine lv_iload hx hb dL_law_428 (lv_at hl 0 rfl) ?_
    refine lv_i2l (v := lO (v_all T)) hx hb dL_law_430 rfl ?_
    refine W.lcmp hx hb dL_law_431 ?_
    rw [show lg_cmp o1 (lO (v_all T)) = iI 0 from by rw [ho1.trans (congrArg lO hv)]; exact lg_cmp_self _]
    refine wa_if_eq (tgt := 437) F dL_law_432 (by decide) (by decide) (fun _ => ?_) (fun c9 => absurd rfl c9)
    refine wa_goto (tgt := 1476) F dL_law_437 (by decide) ?_
    exact law_fin hK hpk hx1 hj1 hw hS (by omega) (by omega) (lv_sub hl [2, 3, 4, 5, 6] rfl)
set_option maxRecDepth 100000 in
set_option maxHeartbeats 4000000 in
/-- isFresh -/
theorem law_c_isFresh (hF : law_F p l s m meth c D cy A b L xs) {n : Nat} (hn : n ≤ 511) (hnL : 5 * n + 5 ≤ L) (hK : law_K p l e s m below meth c D cy A b Q (n + 1) n 1476) : law_K p l e s m below meth c D cy A b Q n n 440 := by
  intro ad X T o H locs ls hg hxr hj hw hS hl
  obtain ⟨F, hTB, hN, hA, hlt, hX, hbl, hbA, hL⟩ := id hF
  have hx := F.1.1
  have hb := F.1.2.1
  have hwf := hg.1
  have hin9 := wx_inj.of hj
  obtain ⟨z1, hz1⟩ : ∃ z : Int, z = (xs (5 * n + 1)).toInt := ⟨_, rfl⟩
  have r1 : wa_r z1 := by rw [hz1]; exact iI_rng _
  have hk : k_img T z1 = 0 ∨ k_img T z1 = 1 := by unfold k_img; split <;> omega
  have hpk := pk.q hg (k_img_r T z1)
  refine lv_aload_n hx hb dL_law_440 rfl (lv_at hl 1 rfl) ?_
  refine lv_aload_n hx hb dL_law_441 rfl (lv_at hl 0 rfl) ?_
  refine lv_iload hx hb dL_law_442 (lv_at hl 4 rfl) ?_
  refine wa_const F dL_law_444 ?_
  refine wa_add F dL_law_445 ?_
  refine wl_sld (j := 5 * n + 1) hF hS hz1 (by omega) (by omega) dL_law_446 ?_
  refine lv_aload_n hx hb dL_law_447 rfl (lv_at hl 3 rfl) ?_
  refine va_calli (wl_runS F hTB hN hS (c_L_isFresh l hlt D cy ad T X T o A hj hA hwf hxr hin9 z1 r1 (T) (fun _ => rfl) (fun _ => rfl) hk) qw_459 qw_460 qw_48 qw_461 ⟨by decide, by decide, rfl⟩ ⟨by decide, by decide⟩ ⟨rfl, rfl⟩ hw rfl rfl (Nat.le_of_ble_eq_true rfl) hl.1 dL_law_448 ⟨Nat.le_trans (show _ ≤ 100000 by omega) (Nat.le_of_ble_eq_true rfl), Nat.le_trans (show _ ≤ 1000000 by omega) (Nat.le_of_ble_eq_true rfl)⟩) hS (fun _ _ h => h) (fun _ h => h) (fun r u t H1 locs1 ht hvm hq hB hz9 hk9 hS => ?_)
  obtain ⟨⟨ad1, X1⟩, o1⟩ := u
  obtain ⟨hr, ⟨hx1, hj1, he1⟩, ho⟩ := hq
  have he1 : x_ext T ad ad1 := he1
  have hx1 : xr (T) X1 := hx1
  have hj1 : wa_wj A ad1 (wW cy ad1 (T) X1 T o1) := hj1
  have hw : wa_wd D ad1 (wW cy ad1 (T) X1 T o1) H1 := by rw [← ht]; exact hB
  rw [hr]
  have hl : lv_has ls 7 [(0, .ref b), (1, .ref (ad1 0 0)), (2, .ref (ad1 6 0)), (3, .ref (ad1 7 0)), (4, .int (iI ((5 * n : Nat) : Int)))] := by rw [he1.1 0, he1.2.2.2.2.1 0, he1.2.2.2.2.2 0]; exact hl
  refine lv_istore (lv' := [(5, .int (iI (k_img T z1))), (0, .ref b), (1, .ref (ad1 0 0)), (2, .ref (ad1 6 0)), (3, .ref (ad1 7 0)), (4, .int (iI ((5 * n : Nat) : Int)))]) hx hb dL_law_451 hl (by decide) rfl (fun ls hl => ?_)
  refine lv_aload_n hx hb dL_law_453 rfl (lv_at hl 3 rfl) ?_
  refine lv_aload_n hx hb dL_law_454 rfl (lv_at hl 1 rfl) ?_
  refine lv_iload hx hb dL_law_455 (lv_at hl 5 rfl) ?_
  refine wa_const F dL_law_457 ?_
  refine wa_add F dL_law_458 ?_
  refine wl_sld (j := 5 * n + 1) hF hS hz1 (by omega) (by omega) dL_law_459 ?_
  refine wa_ci (kL_114 F (c_X5_isFresh l D cy ad1 (T) X1 T o1 A hj1 hwf z1 r1) ⟨by decide, by decide⟩ ⟨rfl, rfl⟩ hw hw rfl rfl rfl (Nat.le_of_ble_eq_true rfl) hl.1 dL_law_460 ⟨Nat.le_trans (show _ ≤ 100000 by omega) (Nat.le_of_ble_eq_true rfl), Nat.le_trans (show _ ≤ 1000000 by omega) (Nat.le_of_ble_eq_true rfl)⟩) hS (fun H2 locs2 hw hS => ?_)
  have hj2 : wa_wj A ad1 (wW cy ad1 (T) X1 (wa_s T 0 0 (k_img T z1)) o1) := wl_wj hj1 rfl rfl rfl
  refine lv_istore (lv' := [(6, .int (iI (bI (k_img T z1 = 0 ∧ f_fresh (wa_s T 0 0 0) z1.toNat = true)))), (5, .int (iI (k_img T z1))), (0, .ref b), (1, .ref (ad1 0 0)), (2, .ref (ad1 6 0)), (3, .ref (ad1 7 0)), (4, .int (iI ((5 * n : Nat) : Int)))]) hx hb dL_law_463 hl (by decide) rfl (fun ls hl => ?_)
  refine lv_aload_n hx hb dL_law_465 rfl (lv_at hl 4 rfl) ?_
  refine wa_cp (kL_95 F (c_X5_thrown l D cy ad1 (T) X1 (wa_s T 0 0 (k_img T z1)) o1) ⟨by decide, by decide⟩ ⟨rfl, rfl⟩ hw hw rfl rfl rfl (Nat.le_of_ble_eq_true rfl) hl.1 dL_law_466 ⟨Nat.le_trans (show _ ≤ 100000 by omega) (Nat.le_of_ble_eq_true rfl), Nat.le_trans (show _ ≤ 1000000 by omega) (Nat.le_of_ble_eq_true rfl)⟩) ?_
  refine lv_iload hx hb dL_law_469 (lv_at hl 1 rfl) ?_
  have e0 := hpk.1
  refine wa_ic_eq (tgt := 476) F dL_law_471 (by decide) ⟨by omega, by omega⟩ ⟨by omega, by omega⟩ (fun c1 => ?_) (fun c1 => absurd (by omega) c1)
  refine lv_iload hx hb dL_law_476 (lv_at hl 1 rfl) ?_
  refine wa_if_ne (tgt := 500) F dL_law_478 (by decide) ⟨by omega, by omega⟩ (fun c2 => ?_) (fun k0 => ?_)
  · skip
    refine wa_goto (tgt := 1476) F dL_law_500 (by decide) ?_
    exact law_fin hK hpk hx1 hj1 hw hS (by omega) (by omega) (lv_sub hl [2, 3, 4, 5, 6] rfl)
  · have hv : (bI (x_frs T 10 z1 = true)) = (bI (k_img T z1 = 0 ∧ f_fresh (wa_s T 0 0 0) z1.toNat = true)) := v_frs hg k0
    have ho1 : o1 = lO (bI (x_frs T 10 z1 = true)) := ho k0
    refine lv_aload_n hx hb dL_law_481 rfl (lv_at hl 5 rfl) ?_
    refine wa_const F dL_law_482 ?_
    refine wa_lald F hw rfl 0 rfl (by decide) (by decide) dL_law_483 ?_
    refine lv_iload hx hb dL_law_484 (lv_at hl 0 rfl) ?_
    have hv01 := bI_01 (k_img T z1 = 0 ∧ f_fresh (wa_s T 0 0 0) z1.toNat = true)
    refine wa_if_eq (tgt := 493) F dL_law_486 (by decide) (by rcases hv01 with q | q <;> rw [q] <;> decide) (fun cz => ?_) (fun cz => ?_)
    · have ev : bI (k_img T z1 = 0 ∧ f_fresh (wa_s T 0 0 0) z1.toNat = true) = 0 := cz
      refine lv_lconst (v := lO (bI (k_img T z1 = 0 ∧ f_fresh (wa_s T 0 0 0) z1.toNat = true))) hx hb dL_law_493 (by rw [ev]; decide +kernel) ?_
      refine W.lcmp hx hb dL_law_494 ?_
      rw [show lg_cmp o1 (lO (bI (k_img T z1 = 0 ∧ f_fresh (wa_s T 0 0 0) z1.toNat = true))) = iI 0 from by rw [ho1.trans (congrArg lO hv)]; exact lg_cmp_self _]
      refine wa_if_eq (tgt := 500) F dL_law_495 (by decide) (by decide) (fun _ => ?_) (fun c9 => absurd rfl c9)
      refine wa_goto (tgt := 1476) F dL_law_500 (by decide) ?_
      exact law_fin hK hpk hx1 hj1 hw hS (by omega) (by omega) (lv_sub hl [2, 3, 4, 5, 6] rfl)
    · have ev : bI (k_img T z1 = 0 ∧ f_fresh (wa_s T 0 0 0) z1.toNat = true) = 1 := by omega
      refine lv_lconst (v := lO (bI (k_img T z1 = 0 ∧ f_fresh (wa_s T 0 0 0) z1.toNat = true))) hx hb dL_law_489 (by rw [ev]; decide +kernel) ?_
      refine wa_goto (tgt := 494) F dL_law_490 (by decide) ?_
      refine W.lcmp hx hb dL_law_494 ?_
      rw [show lg_cmp o1 (lO (bI (k_img T z1 = 0 ∧ f_fresh (wa_s T 0 0 0) z1.toNat = true))) = iI 0 from by rw [ho1.trans (congrArg lO hv)]; exact lg_cmp_self _]
      refine wa_if_eq (tgt := 500) F dL_law_495 (by decide) (by decide) (fun _ => ?_) (fun c9 => absurd rfl c9)
      refine wa_goto (tgt := 1476) F dL_law_500 (by decide) ?_
      exact law_fin hK hpk hx1 hj1 hw hS (by omega) (by omega) (lv_sub hl [2, 3, 4, 5, 6] rfl)
set_option maxRecDepth 100000 in
set_option maxHeartbeats 4000000 in
/-- isFreshAnew -/
theorem law_c_isFreshAnew (hF : law_F p l s m meth c D cy A b L xs) {n : Nat} (hn : n ≤ 511) (hnL : 5 * n + 5 ≤ L) (hK : law_K p l e s m below meth c D cy A b Q (n + 1) n 1476) : law_K p l e s m below meth c D cy A b Q n n 503 := by
  intro ad X T o H locs ls hg hxr hj hw hS hl
  obtain ⟨F, hTB, hN, hA, hlt, hX, hbl, hbA, hL⟩ := id hF
  have hx := F.1.1
  have hb := F.1.2.1
  have hwf := hg.1
  have hin9 := wx_inj.of hj
  obtain ⟨z1, hz1⟩ : ∃ z : Int, z = (xs (5 * n + 1)).toInt := ⟨_, rfl⟩
  have r1 : wa_r z1 := by rw [hz1]; exact iI_rng _
  have hk : k_img T z1 = 0 ∨ k_img T z1 = 1 := by unfold k_img; split <;> omega
  have hpk := pk.q hg (k_img_r T z1)
  refine lv_aload_n hx hb dL_law_503 rfl (lv_at hl 1 rfl) ?_
  refine lv_aload_n hx hb dL_law_504 rfl (lv_at hl 0 rfl) ?_
  refine lv_iload hx hb dL_law_505 (lv_at hl 4 rfl) ?_
  refine wa_const F dL_law_507 ?_
  refine wa_add F dL_law_508 ?_
  refine wl_sld (j := 5 * n + 1) hF hS hz1 (by omega) (by omega) dL_law_509 ?_
  refine lv_aload_n hx hb dL_law_510 rfl (lv_at hl 3 rfl) ?_
  refine va_calli (wl_runS F hTB hN hS (c_L_isFreshAnew l hlt D cy ad T X T o A hj hA hwf hxr hin9 z1 r1 (T) (fun _ => rfl) (fun _ => rfl) hk) qw_466 qw_467 qw_48 qw_468 ⟨by decide, by decide, rfl⟩ ⟨by decide, by decide⟩ ⟨rfl, rfl⟩ hw rfl rfl (Nat.le_of_ble_eq_true rfl) hl.1 dL_law_511 ⟨Nat.le_trans (show _ ≤ 100000 by omega) (Nat.le_of_ble_eq_true rfl), Nat.le_trans (show _ ≤ 1000000 by omega) (Nat.le_of_ble_eq_true rfl)⟩) hS (fun _ _ h => h) (fun _ h => h) (fun r u t H1 locs1 ht hvm hq hB hz9 hk9 hS => ?_)
  obtain ⟨⟨ad1, X1⟩, o1⟩ := u
  obtain ⟨hr, ⟨hx1, hj1, he1⟩, ho⟩ := hq
  have he1 : x_ext T ad ad1 := he1
  have hx1 : xr (T) X1 := hx1
  have hj1 : wa_wj A ad1 (wW cy ad1 (T) X1 T o1) := hj1
  have hw : wa_wd D ad1 (wW cy ad1 (T) X1 T o1) H1 := by rw [← ht]; exact hB
  rw [hr]
  have hl : lv_has ls 7 [(0, .ref b), (1, .ref (ad1 0 0)), (2, .ref (ad1 6 0)), (3, .ref (ad1 7 0)), (4, .int (iI ((5 * n : Nat) : Int)))] := by rw [he1.1 0, he1.2.2.2.2.1 0, he1.2.2.2.2.2 0]; exact hl
  refine lv_istore (lv' := [(5, .int (iI (k_img T z1))), (0, .ref b), (1, .ref (ad1 0 0)), (2, .ref (ad1 6 0)), (3, .ref (ad1 7 0)), (4, .int (iI ((5 * n : Nat) : Int)))]) hx hb dL_law_514 hl (by decide) rfl (fun ls hl => ?_)
  refine lv_aload_n hx hb dL_law_516 rfl (lv_at hl 3 rfl) ?_
  refine lv_aload_n hx hb dL_law_517 rfl (lv_at hl 1 rfl) ?_
  refine lv_iload hx hb dL_law_518 (lv_at hl 5 rfl) ?_
  refine wa_const F dL_law_520 ?_
  refine wa_add F dL_law_521 ?_
  refine wl_sld (j := 5 * n + 1) hF hS hz1 (by omega) (by omega) dL_law_522 ?_
  refine wa_ci (kL_117 F (c_X5_isFreshAnew l D cy ad1 (T) X1 T o1 A hj1 hwf z1 r1) ⟨by decide, by decide⟩ ⟨rfl, rfl⟩ hw hw rfl rfl rfl (Nat.le_of_ble_eq_true rfl) hl.1 dL_law_523 ⟨Nat.le_trans (show _ ≤ 100000 by omega) (Nat.le_of_ble_eq_true rfl), Nat.le_trans (show _ ≤ 1000000 by omega) (Nat.le_of_ble_eq_true rfl)⟩) hS (fun H2 locs2 hw hS => ?_)
  have hj2 : wa_wj A ad1 (wW cy ad1 (T) X1 (wa_s T 0 0 (k_img T z1)) o1) := wl_wj hj1 rfl rfl rfl
  refine lv_istore (lv' := [(6, .int (iI (bI (k_img T z1 = 0 ∧ f_fresh (wa_s T 0 0 0) z1.toNat = true)))), (5, .int (iI (k_img T z1))), (0, .ref b), (1, .ref (ad1 0 0)), (2, .ref (ad1 6 0)), (3, .ref (ad1 7 0)), (4, .int (iI ((5 * n : Nat) : Int)))]) hx hb dL_law_526 hl (by decide) rfl (fun ls hl => ?_)
  refine lv_aload_n hx hb dL_law_528 rfl (lv_at hl 4 rfl) ?_
  refine wa_cp (kL_95 F (c_X5_thrown l D cy ad1 (T) X1 (wa_s T 0 0 (k_img T z1)) o1) ⟨by decide, by decide⟩ ⟨rfl, rfl⟩ hw hw rfl rfl rfl (Nat.le_of_ble_eq_true rfl) hl.1 dL_law_529 ⟨Nat.le_trans (show _ ≤ 100000 by omega) (Nat.le_of_ble_eq_true rfl), Nat.le_trans (show _ ≤ 1000000 by omega) (Nat.le_of_ble_eq_true rfl)⟩) ?_
  refine lv_iload hx hb dL_law_532 (lv_at hl 1 rfl) ?_
  have e0 := hpk.1
  refine wa_ic_eq (tgt := 539) F dL_law_534 (by decide) ⟨by omega, by omega⟩ ⟨by omega, by omega⟩ (fun c1 => ?_) (fun c1 => absurd (by omega) c1)
  refine lv_iload hx hb dL_law_539 (lv_at hl 1 rfl) ?_
  refine wa_if_ne (tgt := 563) F dL_law_541 (by decide) ⟨by omega, by omega⟩ (fun c2 => ?_) (fun k0 => ?_)
  · skip
    refine wa_goto (tgt := 1476) F dL_law_563 (by decide) ?_
    exact law_fin hK hpk hx1 hj1 hw hS (by omega) (by omega) (lv_sub hl [2, 3, 4, 5, 6] rfl)
  · have hv : (bI (x_mds T 10 z1 = true)) = (bI (k_img T z1 = 0 ∧ f_fresh (wa_s T 0 0 0) z1.toNat = true)) := v_mds hg k0
    have ho1 : o1 = lO (bI (x_mds T 10 z1 = true)) := ho k0
    refine lv_aload_n hx hb dL_law_544 rfl (lv_at hl 5 rfl) ?_
    refine wa_const F dL_law_545 ?_
    refine wa_lald F hw rfl 0 rfl (by decide) (by decide) dL_law_546 ?_
    refine lv_iload hx hb dL_law_547 (lv_at hl 0 rfl) ?_
    have hv01 := bI_01 (k_img T z1 = 0 ∧ f_fresh (wa_s T 0 0 0) z1.toNat = true)
    refine wa_if_eq (tgt := 556) F dL_law_549 (by decide) (by rcases hv01 with q | q <;> rw [q] <;> decide) (fun cz => ?_) (fun cz => ?_)
    · have ev : bI (k_img T z1 = 0 ∧ f_fresh (wa_s T 0 0 0) z1.toNat = true) = 0 := cz
      refine lv_lconst (v := lO (bI (k_img T z1 = 0 ∧ f_fresh (wa_s T 0 0 0) z1.toNat = true))) hx hb dL_law_556 (by rw [ev]; decide +kernel) ?_
      refine W.lcmp hx hb dL_law_557 ?_
      rw [show lg_cmp o1 (lO (bI (k_img T z1 = 0 ∧ f_fresh (wa_s T 0 0 0) z1.toNat = true))) = iI 0 from by rw [ho1.trans (congrArg lO hv)]; exact lg_cmp_self _]
      refine wa_if_eq (tgt := 563) F dL_law_558 (by decide) (by decide) (fun _ => ?_) (fun c9 => absurd rfl c9)
      refine wa_goto (tgt := 1476) F dL_law_563 (by decide) ?_
      exact law_fin hK hpk hx1 hj1 hw hS (by omega) (by omega) (lv_sub hl [2, 3, 4, 5, 6] rfl)
    · have ev : bI (k_img T z1 = 0 ∧ f_fresh (wa_s T 0 0 0) z1.toNat = true) = 1 := by omega
      refine lv_lconst (v := lO (bI (k_img T z1 = 0 ∧ f_fresh (wa_s T 0 0 0) z1.toNat = true))) hx hb dL_law_552 (by rw [ev]; decide +kernel) ?_
      refine wa_goto (tgt := 557) F dL_law_553 (by decide) ?_
      refine W.lcmp hx hb dL_law_557 ?_
      rw [show lg_cmp o1 (lO (bI (k_img T z1 = 0 ∧ f_fresh (wa_s T 0 0 0) z1.toNat = true))) = iI 0 from by rw [ho1.trans (congrArg lO hv)]; exact lg_cmp_self _]
      refine wa_if_eq (tgt := 563) F dL_law_558 (by decide) (by decide) (fun _ => ?_) (fun c9 => absurd rfl c9)
      refine wa_goto (tgt := 1476) F dL_law_563 (by decide) ?_
      exact law_fin hK hpk hx1 hj1 hw hS (by omega) (by omega) (lv_sub hl [2, 3, 4, 5, 6] rfl)
set_option maxRecDepth 100000 in
set_option maxHeartbeats 4000000 in
/-- latest -/
theorem law_c_latest (hF : law_F p l s m meth c D cy A b L xs) {n : Nat} (hn : n ≤ 511) (hnL : 5 * n + 5 ≤ L) (hK : law_K p l e s m below meth c D cy A b Q (n + 1) n 1476) : law_K p l e s m below meth c D cy A b Q n n 592 := by
  intro ad X T o H locs ls hg hxr hj hw hS hl
  obtain ⟨F, hTB, hN, hA, hlt, hX, hbl, hbA, hL⟩ := id hF
  have hx := F.1.1
  have hb := F.1.2.1
  have hwf := hg.1
  have hin9 := wx_inj.of hj
  obtain ⟨z1, hz1⟩ : ∃ z : Int, z = (xs (5 * n + 1)).toInt := ⟨_, rfl⟩
  have r1 : wa_r z1 := by rw [hz1]; exact iI_rng _
  have hk : k_img T z1 = 0 ∨ k_img T z1 = 1 := by unfold k_img; split <;> omega
  have hpk := pk.q hg (k_img_r T z1)
  refine lv_aload_n hx hb dL_law_592 rfl (lv_at hl 1 rfl) ?_
  refine lv_aload_n hx hb dL_law_593 rfl (lv_at hl 0 rfl) ?_
  refine lv_iload hx hb dL_law_594 (lv_at hl 4 rfl) ?_
  refine wa_const F dL_law_596 ?_
  refine wa_add F dL_law_597 ?_
  refine wl_sld (j := 5 * n + 1) hF hS hz1 (by omega) (by omega) dL_law_598 ?_
  refine lv_aload_n hx hb dL_law_599 rfl (lv_at hl 3 rfl) ?_
  refine va_calli (wl_runS F hTB hN hS (c_L_latest l hlt D cy ad T X T o A hj hA hwf hxr hin9 z1 r1 (T) (fun _ => rfl) (fun _ => rfl) hk) qw_490 qw_491 qw_48 qw_492 ⟨by decide, by decide, rfl⟩ ⟨by decide, by decide⟩ ⟨rfl, rfl⟩ hw rfl rfl (Nat.le_of_ble_eq_true rfl) hl.1 dL_law_600 ⟨Nat.le_trans (show _ ≤ 100000 by omega) (Nat.le_of_ble_eq_true rfl), Nat.le_trans (show _ ≤ 1000000 by omega) (Nat.le_of_ble_eq_true rfl)⟩) hS (fun _ _ h => h) (fun _ h => h) (fun r u t H1 locs1 ht hvm hq hB hz9 hk9 hS => ?_)
  obtain ⟨⟨ad1, X1⟩, o1⟩ := u
  obtain ⟨hr, ⟨hx1, hj1, he1⟩, ho⟩ := hq
  have he1 : x_ext T ad ad1 := he1
  have hx1 : xr (T) X1 := hx1
  have hj1 : wa_wj A ad1 (wW cy ad1 (T) X1 T o1) := hj1
  have hw : wa_wd D ad1 (wW cy ad1 (T) X1 T o1) H1 := by rw [← ht]; exact hB
  rw [hr]
  have hl : lv_has ls 7 [(0, .ref b), (1, .ref (ad1 0 0)), (2, .ref (ad1 6 0)), (3, .ref (ad1 7 0)), (4, .int (iI ((5 * n : Nat) : Int)))] := by rw [he1.1 0, he1.2.2.2.2.1 0, he1.2.2.2.2.2 0]; exact hl
  refine lv_istore (lv' := [(5, .int (iI (k_img T z1))), (0, .ref b), (1, .ref (ad1 0 0)), (2, .ref (ad1 6 0)), (3, .ref (ad1 7 0)), (4, .int (iI ((5 * n : Nat) : Int)))]) hx hb dL_law_603 hl (by decide) rfl (fun ls hl => ?_)
  refine lv_aload_n hx hb dL_law_605 rfl (lv_at hl 3 rfl) ?_
  refine lv_aload_n hx hb dL_law_606 rfl (lv_at hl 1 rfl) ?_
  refine lv_iload hx hb dL_law_607 (lv_at hl 5 rfl) ?_
  refine wa_const F dL_law_609 ?_
  refine wa_add F dL_law_610 ?_
  refine wl_sld (j := 5 * n + 1) hF hS hz1 (by omega) (by omega) dL_law_611 ?_
  refine wa_ci (kL_128 F (c_X5_latest l D cy ad1 (T) X1 T o1 A hj1 hwf z1 r1) ⟨by decide, by decide⟩ ⟨rfl, rfl⟩ hw hw rfl rfl rfl (Nat.le_of_ble_eq_true rfl) hl.1 dL_law_612 ⟨Nat.le_trans (show _ ≤ 100000 by omega) (Nat.le_of_ble_eq_true rfl), Nat.le_trans (show _ ≤ 1000000 by omega) (Nat.le_of_ble_eq_true rfl)⟩) hS (fun H2 locs2 hw hS => ?_)
  have hj2 : wa_wj A ad1 (wW cy ad1 (T) X1 (wa_s T 0 0 (k_img T z1)) o1) := wl_wj hj1 rfl rfl rfl
  refine lv_istore (lv' := [(6, .int (iI (o_v (k_img T z1) (T 7 z1.toNat)))), (5, .int (iI (k_img T z1))), (0, .ref b), (1, .ref (ad1 0 0)), (2, .ref (ad1 6 0)), (3, .ref (ad1 7 0)), (4, .int (iI ((5 * n : Nat) : Int)))]) hx hb dL_law_615 hl (by decide) rfl (fun ls hl => ?_)
  refine lv_aload_n hx hb dL_law_617 rfl (lv_at hl 4 rfl) ?_
  refine wa_cp (kL_95 F (c_X5_thrown l D cy ad1 (T) X1 (wa_s T 0 0 (k_img T z1)) o1) ⟨by decide, by decide⟩ ⟨rfl, rfl⟩ hw hw rfl rfl rfl (Nat.le_of_ble_eq_true rfl) hl.1 dL_law_618 ⟨Nat.le_trans (show _ ≤ 100000 by omega) (Nat.le_of_ble_eq_true rfl), Nat.le_trans (show _ ≤ 1000000 by omega) (Nat.le_of_ble_eq_true rfl)⟩) ?_
  refine lv_iload hx hb dL_law_621 (lv_at hl 1 rfl) ?_
  have e0 := hpk.1
  refine wa_ic_eq (tgt := 628) F dL_law_623 (by decide) ⟨by omega, by omega⟩ ⟨by omega, by omega⟩ (fun c1 => ?_) (fun c1 => absurd (by omega) c1)
  refine lv_iload hx hb dL_law_628 (lv_at hl 1 rfl) ?_
  refine wa_if_ne (tgt := 645) F dL_law_630 (by decide) ⟨by omega, by omega⟩ (fun c2 => ?_) (fun k0 => ?_)
  · skip
    refine wa_goto (tgt := 1476) F dL_law_645 (by decide) ?_
    exact law_fin hK hpk hx1 hj1 hw hS (by omega) (by omega) (lv_sub hl [2, 3, 4, 5, 6] rfl)
  · have hv : (T 7 z1.toNat) = (o_v (k_img T z1) (T 7 z1.toNat)) := (if_pos k0).symm
    have ho1 : o1 = lO (T 7 z1.toNat) := ho k0
    refine lv_aload_n hx hb dL_law_633 rfl (lv_at hl 5 rfl) ?_
    refine wa_const F dL_law_634 ?_
    refine wa_lald F hw rfl 0 rfl (by decide) (by decide) dL_law_635 ?_
    refine lv_iload hx hb dL_law_636 (lv_at hl 0 rfl) ?_
    refine lv_i2l (v := lO (o_v (k_img T z1) (T 7 z1.toNat))) hx hb dL_law_638 rfl ?_
    refine W.lcmp hx hb dL_law_639 ?_
    rw [show lg_cmp o1 (lO (o_v (k_img T z1) (T 7 z1.toNat))) = iI 0 from by rw [ho1.trans (congrArg lO hv)]; exact lg_cmp_self _]
    refine wa_if_eq (tgt := 645) F dL_law_640 (by decide) (by decide) (fun _ => ?_) (fun c9 => absurd rfl c9)
    refine wa_goto (tgt := 1476) F dL_law_645 (by decide) ?_
    exact law_fin hK hpk hx1 hj1 hw hS (by omega) (by omega) (lv_sub hl [2, 3, 4, 5, 6] rfl)
set_option maxRecDepth 100000 in
set_option maxHeartbeats 4000000 in
/-- top -/
theorem law_c_top (hF : law_F p l s m meth c D cy A b L xs) {n : Nat} (hn : n ≤ 511) (hnL : 5 * n + 5 ≤ L) (hK : law_K p l e s m below meth c D cy A b Q (n + 1) n 1476) : law_K p l e s m below meth c D cy A b Q n n 648 := by
  intro ad X T o H locs ls hg hxr hj hw hS hl
  obtain ⟨F, hTB, hN, hA, hlt, hX, hbl, hbA, hL⟩ := id hF
  have hx := F.1.1
  have hb := F.1.2.1
  have hwf := hg.1
  have hin9 := wx_inj.of hj
  obtain ⟨z1, hz1⟩ : ∃ z : Int, z = (xs (5 * n + 1)).toInt := ⟨_, rfl⟩
  have r1 : wa_r z1 := by rw [hz1]; exact iI_rng _
  have hk : k_bk T z1 = 0 ∨ k_bk T z1 = 1 := by unfold k_bk; split <;> omega
  have hpk := pk.q hg (k_bk_r T z1)
  refine lv_aload_n hx hb dL_law_648 rfl (lv_at hl 1 rfl) ?_
  refine lv_aload_n hx hb dL_law_649 rfl (lv_at hl 0 rfl) ?_
  refine lv_iload hx hb dL_law_650 (lv_at hl 4 rfl) ?_
  refine wa_const F dL_law_652 ?_
  refine wa_add F dL_law_653 ?_
  refine wl_sld (j := 5 * n + 1) hF hS hz1 (by omega) (by omega) dL_law_654 ?_
  refine lv_aload_n hx hb dL_law_655 rfl (lv_at hl 3 rfl) ?_
  refine va_calli (wl_runS F hTB hN hS (c_L_top l hlt D cy ad T X T o A hj hA hwf hxr hin9 z1 r1 (T) (fun _ => rfl) (fun _ => rfl) hk) qw_497 qw_498 qw_48 qw_499 ⟨by decide, by decide, rfl⟩ ⟨by decide, by decide⟩ ⟨rfl, rfl⟩ hw rfl rfl (Nat.le_of_ble_eq_true rfl) hl.1 dL_law_656 ⟨Nat.le_trans (show _ ≤ 100000 by omega) (Nat.le_of_ble_eq_true rfl), Nat.le_trans (show _ ≤ 1000000 by omega) (Nat.le_of_ble_eq_true rfl)⟩) hS (fun _ _ h => h) (fun _ h => h) (fun r u t H1 locs1 ht hvm hq hB hz9 hk9 hS => ?_)
  obtain ⟨⟨ad1, X1⟩, o1⟩ := u
  obtain ⟨hr, ⟨hx1, hj1, he1⟩, ho⟩ := hq
  have he1 : x_ext T ad ad1 := he1
  have hx1 : xr (T) X1 := hx1
  have hj1 : wa_wj A ad1 (wW cy ad1 (T) X1 T o1) := hj1
  have hw : wa_wd D ad1 (wW cy ad1 (T) X1 T o1) H1 := by rw [← ht]; exact hB
  rw [hr]
  have hl : lv_has ls 7 [(0, .ref b), (1, .ref (ad1 0 0)), (2, .ref (ad1 6 0)), (3, .ref (ad1 7 0)), (4, .int (iI ((5 * n : Nat) : Int)))] := by rw [he1.1 0, he1.2.2.2.2.1 0, he1.2.2.2.2.2 0]; exact hl
  refine lv_istore (lv' := [(5, .int (iI (k_bk T z1))), (0, .ref b), (1, .ref (ad1 0 0)), (2, .ref (ad1 6 0)), (3, .ref (ad1 7 0)), (4, .int (iI ((5 * n : Nat) : Int)))]) hx hb dL_law_659 hl (by decide) rfl (fun ls hl => ?_)
  refine lv_aload_n hx hb dL_law_661 rfl (lv_at hl 3 rfl) ?_
  refine lv_aload_n hx hb dL_law_662 rfl (lv_at hl 1 rfl) ?_
  refine lv_iload hx hb dL_law_663 (lv_at hl 5 rfl) ?_
  refine wa_const F dL_law_665 ?_
  refine wa_add F dL_law_666 ?_
  refine wl_sld (j := 5 * n + 1) hF hS hz1 (by omega) (by omega) dL_law_667 ?_
  refine wa_ci (kL_131 F (c_X5_top l D cy ad1 (T) X1 T o1 A hj1 hwf z1 r1) ⟨by decide, by decide⟩ ⟨rfl, rfl⟩ hw hw rfl rfl rfl (Nat.le_of_ble_eq_true rfl) hl.1 dL_law_668 ⟨Nat.le_trans (show _ ≤ 100000 by omega) (Nat.le_of_ble_eq_true rfl), Nat.le_trans (show _ ≤ 1000000 by omega) (Nat.le_of_ble_eq_true rfl)⟩) hS (fun H2 locs2 hw hS => ?_)
  have hj2 : wa_wj A ad1 (wW cy ad1 (T) X1 (wa_s T 0 0 (k_bk T z1)) o1) := wl_wj hj1 rfl rfl rfl
  refine lv_istore (lv' := [(6, .int (iI (o_v (k_bk T z1) (T 14 z1.toNat)))), (5, .int (iI (k_bk T z1))), (0, .ref b), (1, .ref (ad1 0 0)), (2, .ref (ad1 6 0)), (3, .ref (ad1 7 0)), (4, .int (iI ((5 * n : Nat) : Int)))]) hx hb dL_law_671 hl (by decide) rfl (fun ls hl => ?_)
  refine lv_aload_n hx hb dL_law_673 rfl (lv_at hl 4 rfl) ?_
  refine wa_cp (kL_95 F (c_X5_thrown l D cy ad1 (T) X1 (wa_s T 0 0 (k_bk T z1)) o1) ⟨by decide, by decide⟩ ⟨rfl, rfl⟩ hw hw rfl rfl rfl (Nat.le_of_ble_eq_true rfl) hl.1 dL_law_674 ⟨Nat.le_trans (show _ ≤ 100000 by omega) (Nat.le_of_ble_eq_true rfl), Nat.le_trans (show _ ≤ 1000000 by omega) (Nat.le_of_ble_eq_true rfl)⟩) ?_
  refine lv_iload hx hb dL_law_677 (lv_at hl 1 rfl) ?_
  have e0 := hpk.1
  refine wa_ic_eq (tgt := 684) F dL_law_679 (by decide) ⟨by omega, by omega⟩ ⟨by omega, by omega⟩ (fun c1 => ?_) (fun c1 => absurd (by omega) c1)
  refine lv_iload hx hb dL_law_684 (lv_at hl 1 rfl) ?_
  refine wa_if_ne (tgt := 701) F dL_law_686 (by decide) ⟨by omega, by omega⟩ (fun c2 => ?_) (fun k0 => ?_)
  · skip
    refine wa_goto (tgt := 1476) F dL_law_701 (by decide) ?_
    exact law_fin hK hpk hx1 hj1 hw hS (by omega) (by omega) (lv_sub hl [2, 3, 4, 5, 6] rfl)
  · have hv : (T 14 z1.toNat) = (o_v (k_bk T z1) (T 14 z1.toNat)) := (if_pos k0).symm
    have ho1 : o1 = lO (T 14 z1.toNat) := ho k0
    refine lv_aload_n hx hb dL_law_689 rfl (lv_at hl 5 rfl) ?_
    refine wa_const F dL_law_690 ?_
    refine wa_lald F hw rfl 0 rfl (by decide) (by decide) dL_law_691 ?_
    refine lv_iload hx hb dL_law_692 (lv_at hl 0 rfl) ?_
    refine lv_i2l (v := lO (o_v (k_bk T z1) (T 14 z1.toNat))) hx hb dL_law_694 rfl ?_
    refine W.lcmp hx hb dL_law_695 ?_
    rw [show lg_cmp o1 (lO (o_v (k_bk T z1) (T 14 z1.toNat))) = iI 0 from by rw [ho1.trans (congrArg lO hv)]; exact lg_cmp_self _]
    refine wa_if_eq (tgt := 701) F dL_law_696 (by decide) (by decide) (fun _ => ?_) (fun c9 => absurd rfl c9)
    refine wa_goto (tgt := 1476) F dL_law_701 (by decide) ?_
    exact law_fin hK hpk hx1 hj1 hw hS (by omega) (by omega) (lv_sub hl [2, 3, 4, 5, 6] rfl)
set_option maxRecDepth 100000 in
set_option maxHeartbeats 4000000 in
/-- test -/
theorem law_c_test (hF : law_F p l s m meth c D cy A b L xs) {n : Nat} (hn : n ≤ 511) (hnL : 5 * n + 5 ≤ L) (hK : law_K p l e s m below meth c D cy A b Q (n + 1) n 1476) : law_K p l e s m below meth c D cy A b Q n n 704 := by
  intro ad X T o H locs ls hg hxr hj hw hS hl
  obtain ⟨F, hTB, hN, hA, hlt, hX, hbl, hbA, hL⟩ := id hF
  have hx := F.1.1
  have hb := F.1.2.1
  have hwf := hg.1
  have hin9 := wx_inj.of hj
  obtain ⟨z1, hz1⟩ : ∃ z : Int, z = (xs (5 * n + 1)).toInt := ⟨_, rfl⟩
  have r1 : wa_r z1 := by rw [hz1]; exact iI_rng _
  obtain ⟨z2, hz2⟩ : ∃ z : Int, z = (xs (5 * n + 2)).toInt := ⟨_, rfl⟩
  have r2 : wa_r z2 := by rw [hz2]; exact iI_rng _
  refine lv_aload_n hx hb dL_law_704 rfl (lv_at hl 1 rfl) ?_
  refine lv_aload_n hx hb dL_law_705 rfl (lv_at hl 0 rfl) ?_
  refine lv_iload hx hb dL_law_706 (lv_at hl 4 rfl) ?_
  refine wa_const F dL_law_708 ?_
  refine wa_add F dL_law_709 ?_
  refine wl_sld (j := 5 * n + 1) hF hS hz1 (by omega) (by omega) dL_law_710 ?_
  refine lv_aload_n hx hb dL_law_711 rfl (lv_at hl 0 rfl) ?_
  refine lv_iload hx hb dL_law_712 (lv_at hl 4 rfl) ?_
  refine wa_const F dL_law_714 ?_
  refine wa_add F dL_law_715 ?_
  refine wl_sld (j := 5 * n + 2) hF hS hz2 (by omega) (by omega) dL_law_716 ?_
  have key : ∀ q9 : Int, (q9 = 0 ∨ q9 = 1) → (q9 = 0 ↔ z2 = 0) → W p l e room_1 s m #[Value.ref b] below meth c H locs (60 + 20 * n) (4000 + 120 * n) Q (F0 m 725 ls [.int (iI q9), .int (iI z1), .ref (ad 0 0)]) := by
    intro q9 hq9 hqz
    have hk : k_test T z1 = 0 ∨ k_test T z1 = 1 ∨ k_test T z1 = 2 := by unfold k_test; (repeat' split); all_goals omega
    have hpk := pk_test hg z1 q9
    refine lv_aload_n hx hb dL_law_725 rfl (lv_at hl 3 rfl) ?_
    refine va_calli (wl_runS F hTB hN hS (c_L_test l hlt D cy ad T X T o A hj hA hwf hxr hin9 z1 r1 q9 (by omega) (o_x (k_test T z1) T (a_test T z1 q9)) (fun q => if_pos q) (fun q => if_neg q) hk) qw_509 qw_510 qw_48 qw_511 ⟨by decide, by decide, rfl⟩ ⟨by decide, by decide⟩ ⟨rfl, rfl⟩ hw rfl rfl (Nat.le_of_ble_eq_true rfl) hl.1 dL_law_726 ⟨Nat.le_trans (show _ ≤ 100000 by omega) (Nat.le_of_ble_eq_true rfl), Nat.le_trans (show _ ≤ 1000000 by omega) (Nat.le_of_ble_eq_true rfl)⟩) hS (fun _ _ h => h) (fun _ h => h) (fun r u t H1 locs1 ht hvm hq hB hz9 hk9 hS => ?_)
    obtain ⟨⟨ad1, X1⟩, o1⟩ := u
    obtain ⟨hr, ⟨hx1, hj1, he1⟩, ho⟩ := hq
    have he1 : x_ext T ad ad1 := he1
    have hx1 : xr (o_x (k_test T z1) T (a_test T z1 q9)) X1 := hx1
    have hj1 : wa_wj A ad1 (wW cy ad1 (o_x (k_test T z1) T (a_test T z1 q9)) X1 T o1) := hj1
    have hw : wa_wd D ad1 (wW cy ad1 (o_x (k_test T z1) T (a_test T z1 q9)) X1 T o1) H1 := by rw [← ht]; exact hB
    rw [hr]
    have hl : lv_has ls 7 [(0, .ref b), (1, .ref (ad1 0 0)), (2, .ref (ad1 6 0)), (3, .ref (ad1 7 0)), (4, .int (iI ((5 * n : Nat) : Int)))] := by rw [he1.1 0, he1.2.2.2.2.1 0, he1.2.2.2.2.2 0]; exact hl
    refine lv_istore (lv' := [(5, .int (iI (k_test T z1))), (0, .ref b), (1, .ref (ad1 0 0)), (2, .ref (ad1 6 0)), (3, .ref (ad1 7 0)), (4, .int (iI ((5 * n : Nat) : Int)))]) hx hb dL_law_729 hl (by decide) rfl (fun ls hl => ?_)
    refine lv_aload_n hx hb dL_law_731 rfl (lv_at hl 3 rfl) ?_
    refine lv_aload_n hx hb dL_law_732 rfl (lv_at hl 1 rfl) ?_
    refine lv_iload hx hb dL_law_733 (lv_at hl 5 rfl) ?_
    refine wa_const F dL_law_735 ?_
    refine wa_add F dL_law_736 ?_
    refine wl_sld (j := 5 * n + 1) hF hS hz1 (by omega) (by omega) dL_law_737 ?_
    refine lv_aload_n hx hb dL_law_738 rfl (lv_at hl 1 rfl) ?_
    refine lv_iload hx hb dL_law_739 (lv_at hl 5 rfl) ?_
    refine wa_const F dL_law_741 ?_
    refine wa_add F dL_law_742 ?_
    refine wl_sld (j := 5 * n + 2) hF hS hz2 (by omega) (by omega) dL_law_743 ?_
    have key2 : W p l e room_1 s m #[Value.ref b] below meth c H1 locs1 (60 + 20 * n + 2) (4000 + 120 * n + 12) Q (F0 m 752 ls [.int (iI q9), .int (iI z1), .ref (ad1 6 0)]) := by
      refine wa_ci (kL_135 F (c_X5_test l D cy ad1 (o_x (k_test T z1) T (a_test T z1 q9)) X1 T o1 A hj1 hwf z1 q9 r1 hq9) ⟨by decide, by decide⟩ ⟨rfl, rfl⟩ hw hw rfl rfl rfl (Nat.le_of_ble_eq_true rfl) hl.1 dL_law_752 ⟨Nat.le_trans (show _ ≤ 100000 by omega) (Nat.le_of_ble_eq_true rfl), Nat.le_trans (show _ ≤ 1000000 by omega) (Nat.le_of_ble_eq_true rfl)⟩) hS (fun H2 locs2 hw hS => ?_)
      have hj2 : wa_wj A ad1 (wW cy ad1 (o_x (k_test T z1) T (a_test T z1 q9)) X1 (o_s T (k_test T z1) (a_test T z1 q9)) o1) := wl_wj hj1 rfl rfl rfl
      refine lv_istore (lv' := [(6, .int (iI (bI (k_test T z1 = 0 ∧ (T 17 z1.toNat ≠ 0 ∨ q9 = 0))))), (5, .int (iI (k_test T z1))), (0, .ref b), (1, .ref (ad1 0 0)), (2, .ref (ad1 6 0)), (3, .ref (ad1 7 0)), (4, .int (iI ((5 * n : Nat) : Int)))]) hx hb dL_law_755 hl (by decide) rfl (fun ls hl => ?_)
      refine lv_aload_n hx hb dL_law_757 rfl (lv_at hl 4 rfl) ?_
      refine wa_cp (kL_95 F (c_X5_thrown l D cy ad1 (o_x (k_test T z1) T (a_test T z1 q9)) X1 (o_s T (k_test T z1) (a_test T z1 q9)) o1) ⟨by decide, by decide⟩ ⟨rfl, rfl⟩ hw hw rfl rfl rfl (Nat.le_of_ble_eq_true rfl) hl.1 dL_law_758 ⟨Nat.le_trans (show _ ≤ 100000 by omega) (Nat.le_of_ble_eq_true rfl), Nat.le_trans (show _ ≤ 1000000 by omega) (Nat.le_of_ble_eq_true rfl)⟩) ?_
      refine lv_iload hx hb dL_law_761 (lv_at hl 1 rfl) ?_
      have e0 := hpk.1
      refine wa_ic_eq (tgt := 768) F dL_law_763 (by decide) ⟨by omega, by omega⟩ ⟨by omega, by omega⟩ (fun c1 => ?_) (fun c1 => absurd (by omega) c1)
      refine lv_iload hx hb dL_law_768 (lv_at hl 1 rfl) ?_
      refine wa_if_ne (tgt := 792) F dL_law_770 (by decide) ⟨by omega, by omega⟩ (fun c2 => ?_) (fun k0 => ?_)
      · skip
        refine wa_goto (tgt := 1476) F dL_law_792 (by decide) ?_
        exact law_fin hK hpk hx1 hj1 hw hS (by omega) (by omega) (lv_sub hl [2, 3, 4, 5, 6] rfl)
      · have hv : (bI (T 17 z1.toNat ≠ 0 ∨ q9 = 0)) = (bI (k_test T z1 = 0 ∧ (T 17 z1.toNat ≠ 0 ∨ q9 = 0))) := by by_cases g : T 17 z1.toNat ≠ 0 ∨ q9 = 0; (rw [bI_t g, bI_t ⟨k0, g⟩]); (rw [bI_f g, bI_f (fun z => g z.2)])
        have ho1 : o1 = lO (bI (T 17 z1.toNat ≠ 0 ∨ q9 = 0)) := ho k0
        refine lv_aload_n hx hb dL_law_773 rfl (lv_at hl 5 rfl) ?_
        refine wa_const F dL_law_774 ?_
        refine wa_lald F hw rfl 0 rfl (by decide) (by decide) dL_law_775 ?_
        refine lv_iload hx hb dL_law_776 (lv_at hl 0 rfl) ?_
        have hv01 := bI_01 (k_test T z1 = 0 ∧ (T 17 z1.toNat ≠ 0 ∨ q9 = 0))
        refine wa_if_eq (tgt := 785) F dL_law_778 (by decide) (by rcases hv01 with q | q <;> rw [q] <;> decide) (fun cz => ?_) (fun cz => ?_)
        · have ev : bI (k_test T z1 = 0 ∧ (T 17 z1.toNat ≠ 0 ∨ q9 = 0)) = 0 := cz
          refine lv_lconst (v := lO (bI (k_test T z1 = 0 ∧ (T 17 z1.toNat ≠ 0 ∨ q9 = 0)))) hx hb dL_law_785 (by rw [ev]; decide +kernel) ?_
          refine W.lcmp hx hb dL_law_786 ?_
          rw [show lg_cmp o1 (lO (bI (k_test T z1 = 0 ∧ (T 17 z1.toNat ≠ 0 ∨ q9 = 0)))) = iI 0 from by rw [ho1.trans (congrArg lO hv)]; exact lg_cmp_self _]
          refine wa_if_eq (tgt := 792) F dL_law_787 (by decide) (by decide) (fun _ => ?_) (fun c9 => absurd rfl c9)
          refine wa_goto (tgt := 1476) F dL_law_792 (by decide) ?_
          exact law_fin hK hpk hx1 hj1 hw hS (by omega) (by omega) (lv_sub hl [2, 3, 4, 5, 6] rfl)
        · have ev : bI (k_test T z1 = 0 ∧ (T 17 z1.toNat ≠ 0 ∨ q9 = 0)) = 1 := by omega
          refine lv_lconst (v := lO (bI (k_test T z1 = 0 ∧ (T 17 z1.toNat ≠ 0 ∨ q9 = 0)))) hx hb dL_law_781 (by rw [ev]; decide +kernel) ?_
          refine wa_goto (tgt := 786) F dL_law_782 (by decide) ?_
          refine W.lcmp hx hb dL_law_786 ?_
          rw [show lg_cmp o1 (lO (bI (k_test T z1 = 0 ∧ (T 17 z1.toNat ≠ 0 ∨ q9 = 0)))) = iI 0 from by rw [ho1.trans (congrArg lO hv)]; exact lg_cmp_self _]
          refine wa_if_eq (tgt := 792) F dL_law_787 (by decide) (by decide) (fun _ => ?_) (fun c9 => absurd rfl c9)
          refine wa_goto (tgt := 1476) F dL_law_792 (by decide) ?_
          exact law_fin hK hpk hx1 hj1 hw hS (by omega) (by omega) (lv_sub hl [2, 3, 4, 5, 6] rfl)
    refine wa_if_eq (tgt := 751) F dL_law_744 (by decide) r2 (fun cz => ?_) (fun cz => ?_)
    · refine wa_const F dL_law_751 ?_
      have eq9 : q9 = 0 := hqz.mpr cz
      rw [eq9] at key2
      exact key2
    · refine wa_const F dL_law_747 ?_
      refine wa_goto (tgt := 752) F dL_law_748 (by decide) ?_
      have eq9 : q9 = 1 := hq9.resolve_left (fun h => cz (hqz.mp h))
      rw [eq9] at key2
      exact key2
  refine wa_if_eq (tgt := 724) F dL_law_717 (by decide) r2 (fun cz => ?_) (fun cz => ?_)
  · refine wa_const F dL_law_724 ?_
    exact key 0 (Or.inl rfl) ⟨fun _ => cz, fun _ => rfl⟩
  · refine wa_const F dL_law_720 ?_
    refine wa_goto (tgt := 725) F dL_law_721 (by decide) ?_
    exact key 1 (Or.inr rfl) ⟨fun h => absurd h (by decide), fun h => absurd h cz⟩
set_option maxRecDepth 100000 in
set_option maxHeartbeats 4000000 in
/-- hold -/
theorem law_c_hold (hF : law_F p l s m meth c D cy A b L xs) {n : Nat} (hn : n ≤ 511) (hnL : 5 * n + 5 ≤ L) (hK : law_K p l e s m below meth c D cy A b Q (n + 1) n 1476) : law_K p l e s m below meth c D cy A b Q n n 795 := by
  intro ad X T o H locs ls hg hxr hj hw hS hl
  obtain ⟨F, hTB, hN, hA, hlt, hX, hbl, hbA, hL⟩ := id hF
  have hx := F.1.1
  have hb := F.1.2.1
  have hwf := hg.1
  have hin9 := wx_inj.of hj
  obtain ⟨z1, hz1⟩ : ∃ z : Int, z = (xs (5 * n + 1)).toInt := ⟨_, rfl⟩
  have r1 : wa_r z1 := by rw [hz1]; exact iI_rng _
  have hk : k_hold T z1 = 0 ∨ k_hold T z1 = 1 ∨ k_hold T z1 = 2 := by unfold k_hold; (repeat' split); all_goals omega
  have hpk := pk_hold hg z1
  refine lv_aload_n hx hb dL_law_795 rfl (lv_at hl 1 rfl) ?_
  refine lv_aload_n hx hb dL_law_796 rfl (lv_at hl 0 rfl) ?_
  refine lv_iload hx hb dL_law_797 (lv_at hl 4 rfl) ?_
  refine wa_const F dL_law_799 ?_
  refine wa_add F dL_law_800 ?_
  refine wl_sld (j := 5 * n + 1) hF hS hz1 (by omega) (by omega) dL_law_801 ?_
  refine lv_aload_n hx hb dL_law_802 rfl (lv_at hl 3 rfl) ?_
  refine va_calli (wl_runS F hTB hN hS (c_L_hold l hlt D cy ad T X T o A hj hA hwf hxr hin9 z1 r1 (o_x (k_hold T z1) T (a_hold T z1)) (fun q => if_pos q) (fun q => if_neg q) hk) qw_517 qw_518 qw_48 qw_519 ⟨by decide, by decide, rfl⟩ ⟨by decide, by decide⟩ ⟨rfl, rfl⟩ hw rfl rfl (Nat.le_of_ble_eq_true rfl) hl.1 dL_law_803 ⟨Nat.le_trans (show _ ≤ 100000 by omega) (Nat.le_of_ble_eq_true rfl), Nat.le_trans (show _ ≤ 1000000 by omega) (Nat.le_of_ble_eq_true rfl)⟩) hS (fun _ _ h => h) (fun _ h => h) (fun r u t H1 locs1 ht hvm hq hB hz9 hk9 hS => ?_)
  obtain ⟨⟨ad1, X1⟩, o1⟩ := u
  obtain ⟨hr, ⟨hx1, hj1, he1⟩, ho⟩ := hq
  have he1 : x_ext T ad ad1 := he1
  have hx1 : xr (o_x (k_hold T z1) T (a_hold T z1)) X1 := hx1
  have hj1 : wa_wj A ad1 (wW cy ad1 (o_x (k_hold T z1) T (a_hold T z1)) X1 T o1) := hj1
  have hw : wa_wd D ad1 (wW cy ad1 (o_x (k_hold T z1) T (a_hold T z1)) X1 T o1) H1 := by rw [← ht]; exact hB
  rw [hr]
  have hl : lv_has ls 7 [(0, .ref b), (1, .ref (ad1 0 0)), (2, .ref (ad1 6 0)), (3, .ref (ad1 7 0)), (4, .int (iI ((5 * n : Nat) : Int)))] := by rw [he1.1 0, he1.2.2.2.2.1 0, he1.2.2.2.2.2 0]; exact hl
  refine lv_istore (lv' := [(5, .int (iI (k_hold T z1))), (0, .ref b), (1, .ref (ad1 0 0)), (2, .ref (ad1 6 0)), (3, .ref (ad1 7 0)), (4, .int (iI ((5 * n : Nat) : Int)))]) hx hb dL_law_806 hl (by decide) rfl (fun ls hl => ?_)
  refine lv_aload_n hx hb dL_law_808 rfl (lv_at hl 3 rfl) ?_
  refine lv_aload_n hx hb dL_law_809 rfl (lv_at hl 1 rfl) ?_
  refine lv_iload hx hb dL_law_810 (lv_at hl 5 rfl) ?_
  refine wa_const F dL_law_812 ?_
  refine wa_add F dL_law_813 ?_
  refine wl_sld (j := 5 * n + 1) hF hS hz1 (by omega) (by omega) dL_law_814 ?_
  refine wa_ci (kL_138 F (c_X5_hold l D cy ad1 (o_x (k_hold T z1) T (a_hold T z1)) X1 T o1 A hj1 hwf z1 r1) ⟨by decide, by decide⟩ ⟨rfl, rfl⟩ hw hw rfl rfl rfl (Nat.le_of_ble_eq_true rfl) hl.1 dL_law_815 ⟨Nat.le_trans (show _ ≤ 100000 by omega) (Nat.le_of_ble_eq_true rfl), Nat.le_trans (show _ ≤ 1000000 by omega) (Nat.le_of_ble_eq_true rfl)⟩) hS (fun H2 locs2 hw hS => ?_)
  have hj2 : wa_wj A ad1 (wW cy ad1 (o_x (k_hold T z1) T (a_hold T z1)) X1 (o_s T (k_hold T z1) (a_hold T z1)) o1) := wl_wj hj1 rfl rfl rfl
  refine lv_istore (lv' := [(6, .int (iI (o_v (k_hold T z1) (f_run (a_hold T z1) z1)))), (5, .int (iI (k_hold T z1))), (0, .ref b), (1, .ref (ad1 0 0)), (2, .ref (ad1 6 0)), (3, .ref (ad1 7 0)), (4, .int (iI ((5 * n : Nat) : Int)))]) hx hb dL_law_818 hl (by decide) rfl (fun ls hl => ?_)
  refine lv_aload_n hx hb dL_law_820 rfl (lv_at hl 4 rfl) ?_
  refine wa_cp (kL_95 F (c_X5_thrown l D cy ad1 (o_x (k_hold T z1) T (a_hold T z1)) X1 (o_s T (k_hold T z1) (a_hold T z1)) o1) ⟨by decide, by decide⟩ ⟨rfl, rfl⟩ hw hw rfl rfl rfl (Nat.le_of_ble_eq_true rfl) hl.1 dL_law_821 ⟨Nat.le_trans (show _ ≤ 100000 by omega) (Nat.le_of_ble_eq_true rfl), Nat.le_trans (show _ ≤ 1000000 by omega) (Nat.le_of_ble_eq_true rfl)⟩) ?_
  refine lv_iload hx hb dL_law_824 (lv_at hl 1 rfl) ?_
  have e0 := hpk.1
  refine wa_ic_eq (tgt := 831) F dL_law_826 (by decide) ⟨by omega, by omega⟩ ⟨by omega, by omega⟩ (fun c1 => ?_) (fun c1 => absurd (by omega) c1)
  refine lv_iload hx hb dL_law_831 (lv_at hl 1 rfl) ?_
  refine wa_if_ne (tgt := 848) F dL_law_833 (by decide) ⟨by omega, by omega⟩ (fun c2 => ?_) (fun k0 => ?_)
  · skip
    refine wa_goto (tgt := 1476) F dL_law_848 (by decide) ?_
    exact law_fin hK hpk hx1 hj1 hw hS (by omega) (by omega) (lv_sub hl [2, 3, 4, 5, 6] rfl)
  · have hv : (f_run T z1) = (o_v (k_hold T z1) (f_run (a_hold T z1) z1)) := (if_pos k0).symm
    have ho1 : o1 = lO (f_run T z1) := ho k0
    refine lv_aload_n hx hb dL_law_836 rfl (lv_at hl 5 rfl) ?_
    refine wa_const F dL_law_837 ?_
    refine wa_lald F hw rfl 0 rfl (by decide) (by decide) dL_law_838 ?_
    refine lv_iload hx hb dL_law_839 (lv_at hl 0 rfl) ?_
    refine lv_i2l (v := lO (o_v (k_hold T z1) (f_run (a_hold T z1) z1))) hx hb dL_law_841 rfl ?_
    refine W.lcmp hx hb dL_law_842 ?_
    rw [show lg_cmp o1 (lO (o_v (k_hold T z1) (f_run (a_hold T z1) z1))) = iI 0 from by rw [ho1.trans (congrArg lO hv)]; exact lg_cmp_self _]
    refine wa_if_eq (tgt := 848) F dL_law_843 (by decide) (by decide) (fun _ => ?_) (fun c9 => absurd rfl c9)
    refine wa_goto (tgt := 1476) F dL_law_848 (by decide) ?_
    exact law_fin hK hpk hx1 hj1 hw hS (by omega) (by omega) (lv_sub hl [2, 3, 4, 5, 6] rfl)
set_option maxRecDepth 100000 in
set_option maxHeartbeats 4000000 in
/-- raise -/
theorem law_c_raise (hF : law_F p l s m meth c D cy A b L xs) {n : Nat} (hn : n ≤ 511) (hnL : 5 * n + 5 ≤ L) (hK : law_K p l e s m below meth c D cy A b Q (n + 1) n 1476) : law_K p l e s m below meth c D cy A b Q n n 851 := by
  intro ad X T o H locs ls hg hxr hj hw hS hl
  obtain ⟨F, hTB, hN, hA, hlt, hX, hbl, hbA, hL⟩ := id hF
  have hx := F.1.1
  have hb := F.1.2.1
  have hwf := hg.1
  have hin9 := wx_inj.of hj
  obtain ⟨z1, hz1⟩ : ∃ z : Int, z = (xs (5 * n + 1)).toInt := ⟨_, rfl⟩
  have r1 : wa_r z1 := by rw [hz1]; exact iI_rng _
  have hk : k_raise T z1 = 0 ∨ k_raise T z1 = 1 ∨ k_raise T z1 = 2 := by unfold k_raise; (repeat' split); all_goals omega
  have hpk := pk_raise hg z1
  refine lv_aload_n hx hb dL_law_851 rfl (lv_at hl 1 rfl) ?_
  refine lv_aload_n hx hb dL_law_852 rfl (lv_at hl 0 rfl) ?_
  refine lv_iload hx hb dL_law_853 (lv_at hl 4 rfl) ?_
  refine wa_const F dL_law_855 ?_
  refine wa_add F dL_law_856 ?_
  refine wl_sld (j := 5 * n + 1) hF hS hz1 (by omega) (by omega) dL_law_857 ?_
  refine lv_aload_n hx hb dL_law_858 rfl (lv_at hl 3 rfl) ?_
  refine va_calli (wl_runS F hTB hN hS (c_L_raise l hlt D cy ad T X T o A hj hA hwf hxr hin9 z1 r1 hg.2.2.2.2.2.2.1 (o_x (k_raise T z1) T (a_raise T z1)) (fun q => if_pos q) (fun q => if_neg q) hk) qw_529 qw_530 qw_48 qw_531 ⟨by decide, by decide, rfl⟩ ⟨by decide, by decide⟩ ⟨rfl, rfl⟩ hw rfl rfl (Nat.le_of_ble_eq_true rfl) hl.1 dL_law_859 ⟨Nat.le_trans (show _ ≤ 100000 by omega) (Nat.le_of_ble_eq_true rfl), Nat.le_trans (show _ ≤ 1000000 by omega) (Nat.le_of_ble_eq_true rfl)⟩) hS (fun _ _ h => h) (fun _ h => h) (fun r u t H1 locs1 ht hvm hq hB hz9 hk9 hS => ?_)
  obtain ⟨⟨ad1, X1⟩, o1⟩ := u
  obtain ⟨hr, ⟨hx1, hj1, he1⟩, ho⟩ := hq
  have he1 : x_ext T ad ad1 := he1
  have hx1 : xr (o_x (k_raise T z1) T (a_raise T z1)) X1 := hx1
  have hj1 : wa_wj A ad1 (wW cy ad1 (o_x (k_raise T z1) T (a_raise T z1)) X1 T o1) := hj1
  have hw : wa_wd D ad1 (wW cy ad1 (o_x (k_raise T z1) T (a_raise T z1)) X1 T o1) H1 := by rw [← ht]; exact hB
  rw [hr]
  have hl : lv_has ls 7 [(0, .ref b), (1, .ref (ad1 0 0)), (2, .ref (ad1 6 0)), (3, .ref (ad1 7 0)), (4, .int (iI ((5 * n : Nat) : Int)))] := by rw [he1.1 0, he1.2.2.2.2.1 0, he1.2.2.2.2.2 0]; exact hl
  refine lv_istore (lv' := [(5, .int (iI (k_raise T z1))), (0, .ref b), (1, .ref (ad1 0 0)), (2, .ref (ad1 6 0)), (3, .ref (ad1 7 0)), (4, .int (iI ((5 * n : Nat) : Int)))]) hx hb dL_law_862 hl (by decide) rfl (fun ls hl => ?_)
  refine lv_aload_n hx hb dL_law_864 rfl (lv_at hl 3 rfl) ?_
  refine lv_aload_n hx hb dL_law_865 rfl (lv_at hl 1 rfl) ?_
  refine lv_iload hx hb dL_law_866 (lv_at hl 5 rfl) ?_
  refine wa_const F dL_law_868 ?_
  refine wa_add F dL_law_869 ?_
  refine wl_sld (j := 5 * n + 1) hF hS hz1 (by omega) (by omega) dL_law_870 ?_
  refine wa_ci (kL_141 F (c_X5_raise l D cy ad1 (o_x (k_raise T z1) T (a_raise T z1)) X1 T o1 A hj1 hwf z1 r1) ⟨by decide, by decide⟩ ⟨rfl, rfl⟩ hw hw rfl rfl rfl (Nat.le_of_ble_eq_true rfl) hl.1 dL_law_871 ⟨Nat.le_trans (show _ ≤ 100000 by omega) (Nat.le_of_ble_eq_true rfl), Nat.le_trans (show _ ≤ 1000000 by omega) (Nat.le_of_ble_eq_true rfl)⟩) hS (fun H2 locs2 hw hS => ?_)
  have hj2 : wa_wj A ad1 (wW cy ad1 (o_x (k_raise T z1) T (a_raise T z1)) X1 (o_s T (k_raise T z1) (a_raise T z1)) o1) := wl_wj hj1 rfl rfl rfl
  refine lv_istore (lv' := [(6, .int (iI (o_v (k_raise T z1) (T 16 z1.toNat + 1)))), (5, .int (iI (k_raise T z1))), (0, .ref b), (1, .ref (ad1 0 0)), (2, .ref (ad1 6 0)), (3, .ref (ad1 7 0)), (4, .int (iI ((5 * n : Nat) : Int)))]) hx hb dL_law_874 hl (by decide) rfl (fun ls hl => ?_)
  refine lv_aload_n hx hb dL_law_876 rfl (lv_at hl 4 rfl) ?_
  refine wa_cp (kL_95 F (c_X5_thrown l D cy ad1 (o_x (k_raise T z1) T (a_raise T z1)) X1 (o_s T (k_raise T z1) (a_raise T z1)) o1) ⟨by decide, by decide⟩ ⟨rfl, rfl⟩ hw hw rfl rfl rfl (Nat.le_of_ble_eq_true rfl) hl.1 dL_law_877 ⟨Nat.le_trans (show _ ≤ 100000 by omega) (Nat.le_of_ble_eq_true rfl), Nat.le_trans (show _ ≤ 1000000 by omega) (Nat.le_of_ble_eq_true rfl)⟩) ?_
  refine lv_iload hx hb dL_law_880 (lv_at hl 1 rfl) ?_
  have e0 := hpk.1
  refine wa_ic_eq (tgt := 887) F dL_law_882 (by decide) ⟨by omega, by omega⟩ ⟨by omega, by omega⟩ (fun c1 => ?_) (fun c1 => absurd (by omega) c1)
  refine lv_iload hx hb dL_law_887 (lv_at hl 1 rfl) ?_
  refine wa_if_ne (tgt := 904) F dL_law_889 (by decide) ⟨by omega, by omega⟩ (fun c2 => ?_) (fun k0 => ?_)
  · skip
    refine wa_goto (tgt := 1476) F dL_law_904 (by decide) ?_
    exact law_fin hK hpk hx1 hj1 hw hS (by omega) (by omega) (lv_sub hl [2, 3, 4, 5, 6] rfl)
  · have hv : (T 16 z1.toNat + 1) = (o_v (k_raise T z1) (T 16 z1.toNat + 1)) := (if_pos k0).symm
    have ho1 : o1 = lO (T 16 z1.toNat + 1) := ho k0
    refine lv_aload_n hx hb dL_law_892 rfl (lv_at hl 5 rfl) ?_
    refine wa_const F dL_law_893 ?_
    refine wa_lald F hw rfl 0 rfl (by decide) (by decide) dL_law_894 ?_
    refine lv_iload hx hb dL_law_895 (lv_at hl 0 rfl) ?_
    refine lv_i2l (v := lO (o_v (k_raise T z1) (T 16 z1.toNat + 1))) hx hb dL_law_897 rfl ?_
    refine W.lcmp hx hb dL_law_898 ?_
    rw [show lg_cmp o1 (lO (o_v (k_raise T z1) (T 16 z1.toNat + 1))) = iI 0 from by rw [ho1.trans (congrArg lO hv)]; exact lg_cmp_self _]
    refine wa_if_eq (tgt := 904) F dL_law_899 (by decide) (by decide) (fun _ => ?_) (fun c9 => absurd rfl c9)
    refine wa_goto (tgt := 1476) F dL_law_904 (by decide) ?_
    exact law_fin hK hpk hx1 hj1 hw hS (by omega) (by omega) (lv_sub hl [2, 3, 4, 5, 6] rfl)
set_option maxRecDepth 100000 in
set_option maxHeartbeats 4000000 in
/-- copy -/
theorem law_c_copy (hF : law_F p l s m meth c D cy A b L xs) {n : Nat} (hn : n ≤ 511) (hnL : 5 * n + 5 ≤ L) (hK : law_K p l e s m below meth c D cy A b Q (n + 1) n 1476) : law_K p l e s m below meth c D cy A b Q n n 907 := by
  intro ad X T o H locs ls hg hxr hj hw hS hl
  obtain ⟨F, hTB, hN, hA, hlt, hX, hbl, hbA, hL⟩ := id hF
  have hx := F.1.1
  have hb := F.1.2.1
  have hwf := hg.1
  have hin9 := wx_inj.of hj
  obtain ⟨z1, hz1⟩ : ∃ z : Int, z = (xs (5 * n + 1)).toInt := ⟨_, rfl⟩
  have r1 : wa_r z1 := by rw [hz1]; exact iI_rng _
  obtain ⟨z2, hz2⟩ : ∃ z : Int, z = (xs (5 * n + 2)).toInt := ⟨_, rfl⟩
  have r2 : wa_r z2 := by rw [hz2]; exact iI_rng _
  have hk : k_copy T z1 z2 = 0 ∨ k_copy T z1 z2 = 1 ∨ k_copy T z1 z2 = 2 ∨ k_copy T z1 z2 = 3 := by unfold k_copy; (repeat' split); all_goals omega
  have hpk := pk_copy hg (by omega) z1 z2
  refine lv_aload_n hx hb dL_law_907 rfl (lv_at hl 1 rfl) ?_
  refine lv_aload_n hx hb dL_law_908 rfl (lv_at hl 0 rfl) ?_
  refine lv_iload hx hb dL_law_909 (lv_at hl 4 rfl) ?_
  refine wa_const F dL_law_911 ?_
  refine wa_add F dL_law_912 ?_
  refine wl_sld (j := 5 * n + 1) hF hS hz1 (by omega) (by omega) dL_law_913 ?_
  refine lv_aload_n hx hb dL_law_914 rfl (lv_at hl 0 rfl) ?_
  refine lv_iload hx hb dL_law_915 (lv_at hl 4 rfl) ?_
  refine wa_const F dL_law_917 ?_
  refine wa_add F dL_law_918 ?_
  refine wl_sld (j := 5 * n + 2) hF hS hz2 (by omega) (by omega) dL_law_919 ?_
  refine lv_aload_n hx hb dL_law_920 rfl (lv_at hl 3 rfl) ?_
  refine va_calli (wl_runS F hTB hN hS (c_L_copy l hlt D cy ad T X T o A hj hA hwf hxr hin9 z1 r1 z2 r2 (fun j => by have g1 := hg.2.2.2.2.2.2.2.2.1 j; have g2 := hg.2.2.2.2.2.2.2.2.2.1; omega) (o_x (k_copy T z1 z2) T (a_copy T z1 z2)) (fun q => if_pos q) (fun q => if_neg q) hk) qw_537 qw_538 qw_48 qw_539 ⟨by decide, by decide, rfl⟩ ⟨by decide, by decide⟩ ⟨rfl, rfl⟩ hw rfl rfl (Nat.le_of_ble_eq_true rfl) hl.1 dL_law_921 ⟨Nat.le_trans (show _ ≤ 100000 by omega) (Nat.le_of_ble_eq_true rfl), Nat.le_trans (show _ ≤ 1000000 by omega) (Nat.le_of_ble_eq_true rfl)⟩) hS (fun _ _ h => h) (fun _ h => h) (fun r u t H1 locs1 ht hvm hq hB hz9 hk9 hS => ?_)
  obtain ⟨⟨ad1, X1⟩, o1⟩ := u
  obtain ⟨hr, ⟨hx1, hj1, he1⟩, ho⟩ := hq
  have he1 : x_ext T ad ad1 := he1
  have hx1 : xr (o_x (k_copy T z1 z2) T (a_copy T z1 z2)) X1 := hx1
  have hj1 : wa_wj A ad1 (wW cy ad1 (o_x (k_copy T z1 z2) T (a_copy T z1 z2)) X1 T o1) := hj1
  have hw : wa_wd D ad1 (wW cy ad1 (o_x (k_copy T z1 z2) T (a_copy T z1 z2)) X1 T o1) H1 := by rw [← ht]; exact hB
  rw [hr]
  have hl : lv_has ls 7 [(0, .ref b), (1, .ref (ad1 0 0)), (2, .ref (ad1 6 0)), (3, .ref (ad1 7 0)), (4, .int (iI ((5 * n : Nat) : Int)))] := by rw [he1.1 0, he1.2.2.2.2.1 0, he1.2.2.2.2.2 0]; exact hl
  refine lv_istore (lv' := [(5, .int (iI (k_copy T z1 z2))), (0, .ref b), (1, .ref (ad1 0 0)), (2, .ref (ad1 6 0)), (3, .ref (ad1 7 0)), (4, .int (iI ((5 * n : Nat) : Int)))]) hx hb dL_law_924 hl (by decide) rfl (fun ls hl => ?_)
  refine lv_aload_n hx hb dL_law_926 rfl (lv_at hl 3 rfl) ?_
  refine lv_aload_n hx hb dL_law_927 rfl (lv_at hl 1 rfl) ?_
  refine lv_iload hx hb dL_law_928 (lv_at hl 5 rfl) ?_
  refine wa_const F dL_law_930 ?_
  refine wa_add F dL_law_931 ?_
  refine wl_sld (j := 5 * n + 1) hF hS hz1 (by omega) (by omega) dL_law_932 ?_
  refine lv_aload_n hx hb dL_law_933 rfl (lv_at hl 1 rfl) ?_
  refine lv_iload hx hb dL_law_934 (lv_at hl 5 rfl) ?_
  refine wa_const F dL_law_936 ?_
  refine wa_add F dL_law_937 ?_
  refine wl_sld (j := 5 * n + 2) hF hS hz2 (by omega) (by omega) dL_law_938 ?_
  refine wa_ci (kL_144 F (c_X5_copy l D cy ad1 (o_x (k_copy T z1 z2) T (a_copy T z1 z2)) X1 T o1 A hj1 hwf z1 z2 r1 r2) ⟨by decide, by decide⟩ ⟨rfl, rfl⟩ hw hw rfl rfl rfl (Nat.le_of_ble_eq_true rfl) hl.1 dL_law_939 ⟨Nat.le_trans (show _ ≤ 100000 by omega) (Nat.le_of_ble_eq_true rfl), Nat.le_trans (show _ ≤ 1000000 by omega) (Nat.le_of_ble_eq_true rfl)⟩) hS (fun H2 locs2 hw hS => ?_)
  have hj2 : wa_wj A ad1 (wW cy ad1 (o_x (k_copy T z1 z2) T (a_copy T z1 z2)) X1 (o_s T (k_copy T z1 z2) (a_copy T z1 z2)) o1) := wl_wj hj1 rfl rfl rfl
  refine lv_istore (lv' := [(6, .int (iI (o_v (k_copy T z1 z2) (T 1 0 + T 22 z2.toNat)))), (5, .int (iI (k_copy T z1 z2))), (0, .ref b), (1, .ref (ad1 0 0)), (2, .ref (ad1 6 0)), (3, .ref (ad1 7 0)), (4, .int (iI ((5 * n : Nat) : Int)))]) hx hb dL_law_942 hl (by decide) rfl (fun ls hl => ?_)
  refine lv_aload_n hx hb dL_law_944 rfl (lv_at hl 4 rfl) ?_
  refine wa_cp (kL_95 F (c_X5_thrown l D cy ad1 (o_x (k_copy T z1 z2) T (a_copy T z1 z2)) X1 (o_s T (k_copy T z1 z2) (a_copy T z1 z2)) o1) ⟨by decide, by decide⟩ ⟨rfl, rfl⟩ hw hw rfl rfl rfl (Nat.le_of_ble_eq_true rfl) hl.1 dL_law_945 ⟨Nat.le_trans (show _ ≤ 100000 by omega) (Nat.le_of_ble_eq_true rfl), Nat.le_trans (show _ ≤ 1000000 by omega) (Nat.le_of_ble_eq_true rfl)⟩) ?_
  refine lv_iload hx hb dL_law_948 (lv_at hl 1 rfl) ?_
  have e0 := hpk.1
  refine wa_ic_eq (tgt := 955) F dL_law_950 (by decide) ⟨by omega, by omega⟩ ⟨by omega, by omega⟩ (fun c1 => ?_) (fun c1 => absurd (by omega) c1)
  refine lv_iload hx hb dL_law_955 (lv_at hl 1 rfl) ?_
  refine wa_if_ne (tgt := 972) F dL_law_957 (by decide) ⟨by omega, by omega⟩ (fun c2 => ?_) (fun k0 => ?_)
  · skip
    refine wa_goto (tgt := 1476) F dL_law_972 (by decide) ?_
    exact law_fin hK hpk hx1 hj1 hw hS (by omega) (by omega) (lv_sub hl [2, 3, 4, 5, 6] rfl)
  · have hv : (T 1 0 + T 22 z2.toNat) = (o_v (k_copy T z1 z2) (T 1 0 + T 22 z2.toNat)) := (if_pos k0).symm
    have ho1 : o1 = lO (T 1 0 + T 22 z2.toNat) := ho k0
    refine lv_aload_n hx hb dL_law_960 rfl (lv_at hl 5 rfl) ?_
    refine wa_const F dL_law_961 ?_
    refine wa_lald F hw rfl 0 rfl (by decide) (by decide) dL_law_962 ?_
    refine lv_iload hx hb dL_law_963 (lv_at hl 0 rfl) ?_
    refine lv_i2l (v := lO (o_v (k_copy T z1 z2) (T 1 0 + T 22 z2.toNat))) hx hb dL_law_965 rfl ?_
    refine W.lcmp hx hb dL_law_966 ?_
    rw [show lg_cmp o1 (lO (o_v (k_copy T z1 z2) (T 1 0 + T 22 z2.toNat))) = iI 0 from by rw [ho1.trans (congrArg lO hv)]; exact lg_cmp_self _]
    refine wa_if_eq (tgt := 972) F dL_law_967 (by decide) (by decide) (fun _ => ?_) (fun c9 => absurd rfl c9)
    refine wa_goto (tgt := 1476) F dL_law_972 (by decide) ?_
    exact law_fin hK hpk hx1 hj1 hw hS (by omega) (by omega) (lv_sub hl [2, 3, 4, 5, 6] rfl)
set_option maxRecDepth 100000 in
set_option maxHeartbeats 4000000 in
/-- setRules -/
theorem law_c_setRules (hF : law_F p l s m meth c D cy A b L xs) {n : Nat} (hn : n ≤ 511) (hnL : 5 * n + 5 ≤ L) (hK : law_K p l e s m below meth c D cy A b Q (n + 1) n 1476) : law_K p l e s m below meth c D cy A b Q n n 975 := by
  intro ad X T o H locs ls hg hxr hj hw hS hl
  obtain ⟨F, hTB, hN, hA, hlt, hX, hbl, hbA, hL⟩ := id hF
  have hx := F.1.1
  have hb := F.1.2.1
  have hwf := hg.1
  have hin9 := wx_inj.of hj
  obtain ⟨z1, hz1⟩ : ∃ z : Int, z = (xs (5 * n + 1)).toInt := ⟨_, rfl⟩
  have r1 : wa_r z1 := by rw [hz1]; exact iI_rng _
  obtain ⟨z2, hz2⟩ : ∃ z : Int, z = (xs (5 * n + 2)).toInt := ⟨_, rfl⟩
  have r2 : wa_r z2 := by rw [hz2]; exact iI_rng _
  obtain ⟨z3, hz3⟩ : ∃ z : Int, z = (xs (5 * n + 3)).toInt := ⟨_, rfl⟩
  have r3 : wa_r z3 := by rw [hz3]; exact iI_rng _
  obtain ⟨z4, hz4⟩ : ∃ z : Int, z = (xs (5 * n + 4)).toInt := ⟨_, rfl⟩
  have r4 : wa_r z4 := by rw [hz4]; exact iI_rng _
  have hk : k_rules z1 z2 z3 z4 = 0 ∨ k_rules z1 z2 z3 z4 = 1 := by unfold k_rules; split <;> omega
  have hpk := pk_rules hg z1 z2 z3 z4
  refine lv_aload_n hx hb dL_law_975 rfl (lv_at hl 1 rfl) ?_
  refine lv_aload_n hx hb dL_law_976 rfl (lv_at hl 0 rfl) ?_
  refine lv_iload hx hb dL_law_977 (lv_at hl 4 rfl) ?_
  refine wa_const F dL_law_979 ?_
  refine wa_add F dL_law_980 ?_
  refine wl_sld (j := 5 * n + 1) hF hS hz1 (by omega) (by omega) dL_law_981 ?_
  refine lv_aload_n hx hb dL_law_982 rfl (lv_at hl 0 rfl) ?_
  refine lv_iload hx hb dL_law_983 (lv_at hl 4 rfl) ?_
  refine wa_const F dL_law_985 ?_
  refine wa_add F dL_law_986 ?_
  refine wl_sld (j := 5 * n + 2) hF hS hz2 (by omega) (by omega) dL_law_987 ?_
  refine lv_aload_n hx hb dL_law_988 rfl (lv_at hl 0 rfl) ?_
  refine lv_iload hx hb dL_law_989 (lv_at hl 4 rfl) ?_
  refine wa_const F dL_law_991 ?_
  refine wa_add F dL_law_992 ?_
  refine wl_sld (j := 5 * n + 3) hF hS hz3 (by omega) (by omega) dL_law_993 ?_
  refine lv_aload_n hx hb dL_law_994 rfl (lv_at hl 0 rfl) ?_
  refine lv_iload hx hb dL_law_995 (lv_at hl 4 rfl) ?_
  refine wa_const F dL_law_997 ?_
  refine wa_add F dL_law_998 ?_
  refine wl_sld (j := 5 * n + 4) hF hS hz4 (by omega) (by omega) dL_law_999 ?_
  refine va_calli (wl_runS F hTB hN hS (c_L_setRules l hlt D cy ad T X T o A hj hA hwf hxr hin9 z1 z2 z3 z4 r1 r2 r3 r4 (o_x (k_rules z1 z2 z3 z4) T (a_rules T z1 z2 z3 z4)) (fun q => if_pos q) (fun q => if_neg q) hk) qw_550 qw_551 qw_48 qw_552 ⟨by decide, by decide, rfl⟩ ⟨by decide, by decide⟩ ⟨rfl, rfl⟩ hw rfl rfl (Nat.le_of_ble_eq_true rfl) hl.1 dL_law_1000 ⟨Nat.le_trans (show _ ≤ 100000 by omega) (Nat.le_of_ble_eq_true rfl), Nat.le_trans (show _ ≤ 1000000 by omega) (Nat.le_of_ble_eq_true rfl)⟩) hS (fun _ _ h => h) (fun _ h => h) (fun r u t H1 locs1 ht hvm hq hB hz9 hk9 hS => ?_)
  obtain ⟨⟨ad1, X1⟩, o1⟩ := u
  obtain ⟨hr, hx1, hj1, he1⟩ := hq
  have he1 : x_ext T ad ad1 := he1
  have hx1 : xr (o_x (k_rules z1 z2 z3 z4) T (a_rules T z1 z2 z3 z4)) X1 := hx1
  have hj1 : wa_wj A ad1 (wW cy ad1 (o_x (k_rules z1 z2 z3 z4) T (a_rules T z1 z2 z3 z4)) X1 T o1) := hj1
  have hw : wa_wd D ad1 (wW cy ad1 (o_x (k_rules z1 z2 z3 z4) T (a_rules T z1 z2 z3 z4)) X1 T o1) H1 := by rw [← ht]; exact hB
  rw [hr]
  have hl : lv_has ls 7 [(0, .ref b), (1, .ref (ad1 0 0)), (2, .ref (ad1 6 0)), (3, .ref (ad1 7 0)), (4, .int (iI ((5 * n : Nat) : Int)))] := by rw [he1.1 0, he1.2.2.2.2.1 0, he1.2.2.2.2.2 0]; exact hl
  refine lv_istore (lv' := [(5, .int (iI (k_rules z1 z2 z3 z4))), (0, .ref b), (1, .ref (ad1 0 0)), (2, .ref (ad1 6 0)), (3, .ref (ad1 7 0)), (4, .int (iI ((5 * n : Nat) : Int)))]) hx hb dL_law_1003 hl (by decide) rfl (fun ls hl => ?_)
  refine lv_aload_n hx hb dL_law_1005 rfl (lv_at hl 3 rfl) ?_
  refine lv_aload_n hx hb dL_law_1006 rfl (lv_at hl 1 rfl) ?_
  refine lv_iload hx hb dL_law_1007 (lv_at hl 5 rfl) ?_
  refine wa_const F dL_law_1009 ?_
  refine wa_add F dL_law_1010 ?_
  refine wl_sld (j := 5 * n + 1) hF hS hz1 (by omega) (by omega) dL_law_1011 ?_
  refine lv_aload_n hx hb dL_law_1012 rfl (lv_at hl 1 rfl) ?_
  refine lv_iload hx hb dL_law_1013 (lv_at hl 5 rfl) ?_
  refine wa_const F dL_law_1015 ?_
  refine wa_add F dL_law_1016 ?_
  refine wl_sld (j := 5 * n + 2) hF hS hz2 (by omega) (by omega) dL_law_1017 ?_
  refine lv_aload_n hx hb dL_law_1018 rfl (lv_at hl 1 rfl) ?_
  refine lv_iload hx hb dL_law_1019 (lv_at hl 5 rfl) ?_
  refine wa_const F dL_law_1021 ?_
  refine wa_add F dL_law_1022 ?_
  refine wl_sld (j := 5 * n + 3) hF hS hz3 (by omega) (by omega) dL_law_1023 ?_
  refine lv_aload_n hx hb dL_law_1024 rfl (lv_at hl 1 rfl) ?_
  refine lv_iload hx hb dL_law_1025 (lv_at hl 5 rfl) ?_
  refine wa_const F dL_law_1027 ?_
  refine wa_add F dL_law_1028 ?_
  refine wl_sld (j := 5 * n + 4) hF hS hz4 (by omega) (by omega) dL_law_1029 ?_
  refine wa_cv (kL_148 F (c_X5_setRules l D cy ad1 (o_x (k_rules z1 z2 z3 z4) T (a_rules T z1 z2 z3 z4)) X1 T o1 A hj1 hwf z1 z2 z3 z4 r1 r2 r3 r4) ⟨by decide, by decide⟩ ⟨rfl, rfl⟩ hw hw rfl rfl rfl (Nat.le_of_ble_eq_true rfl) hl.1 dL_law_1030 ⟨Nat.le_trans (show _ ≤ 100000 by omega) (Nat.le_of_ble_eq_true rfl), Nat.le_trans (show _ ≤ 1000000 by omega) (Nat.le_of_ble_eq_true rfl)⟩) hS (fun H2 locs2 hw hS => ?_)
  have hj2 : wa_wj A ad1 (wW cy ad1 (o_x (k_rules z1 z2 z3 z4) T (a_rules T z1 z2 z3 z4)) X1 (o_s T (k_rules z1 z2 z3 z4) (a_rules T z1 z2 z3 z4)) o1) := wl_wj hj1 rfl rfl rfl
  refine lv_aload_n hx hb dL_law_1033 rfl (lv_at hl 3 rfl) ?_
  refine wa_cp (kL_95 F (c_X5_thrown l D cy ad1 (o_x (k_rules z1 z2 z3 z4) T (a_rules T z1 z2 z3 z4)) X1 (o_s T (k_rules z1 z2 z3 z4) (a_rules T z1 z2 z3 z4)) o1) ⟨by decide, by decide⟩ ⟨rfl, rfl⟩ hw hw rfl rfl rfl (Nat.le_of_ble_eq_true rfl) hl.1 dL_law_1034 ⟨Nat.le_trans (show _ ≤ 100000 by omega) (Nat.le_of_ble_eq_true rfl), Nat.le_trans (show _ ≤ 1000000 by omega) (Nat.le_of_ble_eq_true rfl)⟩) ?_
  refine lv_iload hx hb dL_law_1037 (lv_at hl 0 rfl) ?_
  have e0 := hpk.1
  refine wa_ic_eq (tgt := 1044) F dL_law_1039 (by decide) ⟨by omega, by omega⟩ ⟨by omega, by omega⟩ (fun c1 => ?_) (fun c1 => absurd (by omega) c1)
  refine wa_goto (tgt := 1476) F dL_law_1044 (by decide) ?_
  exact law_fin hK hpk hx1 hj1 hw hS (by omega) (by omega) (lv_sub hl [1, 2, 3, 4, 5] rfl)
set_option maxRecDepth 100000 in
set_option maxHeartbeats 4000000 in
/-- pass -/
theorem law_c_pass (hF : law_F p l s m meth c D cy A b L xs) {n : Nat} (hn : n ≤ 511) (hnL : 5 * n + 5 ≤ L) (hK : law_K p l e s m below meth c D cy A b Q (n + 1) n 1476) : law_K p l e s m below meth c D cy A b Q n n 1047 := by
  intro ad X T o H locs ls hg hxr hj hw hS hl
  obtain ⟨F, hTB, hN, hA, hlt, hX, hbl, hbA, hL⟩ := id hF
  have hx := F.1.1
  have hb := F.1.2.1
  have hwf := hg.1
  have hin9 := wx_inj.of hj
  obtain ⟨z1, hz1⟩ : ∃ z : Int, z = (xs (5 * n + 1)).toInt := ⟨_, rfl⟩
  have r1 : wa_r z1 := by rw [hz1]; exact iI_rng _
  have hk : k_pass z1 = 0 ∨ k_pass z1 = 1 := by unfold k_pass; split <;> omega
  have hpk := pk_pass hg (by omega) z1
  refine lv_aload_n hx hb dL_law_1047 rfl (lv_at hl 1 rfl) ?_
  refine lv_aload_n hx hb dL_law_1048 rfl (lv_at hl 0 rfl) ?_
  refine lv_iload hx hb dL_law_1049 (lv_at hl 4 rfl) ?_
  refine wa_const F dL_law_1051 ?_
  refine wa_add F dL_law_1052 ?_
  refine wl_sld (j := 5 * n + 1) hF hS hz1 (by omega) (by omega) dL_law_1053 ?_
  refine lv_aload_n hx hb dL_law_1054 rfl (lv_at hl 3 rfl) ?_
  refine va_calli (wl_runS F hTB hN hS (c_L_pass l hlt D cy ad T X T o A hj hA hwf hxr hin9 z1 r1 (by have g2 := hg.2.2.2.2.2.2.2.2.2.1; omega) (o_x (k_pass z1) T ((f_pin (T 21 0).toNat 0 (wa_s T 1 0 (T 1 0 + z1)) 0).1)) (fun q => if_pos q) (fun q => if_neg q) hk) qw_559 qw_560 qw_48 qw_561 ⟨by decide, by decide, rfl⟩ ⟨by decide, by decide⟩ ⟨rfl, rfl⟩ hw rfl rfl (Nat.le_of_ble_eq_true rfl) hl.1 dL_law_1055 ⟨Nat.le_trans (show _ ≤ 100000 by omega) (Nat.le_of_ble_eq_true rfl), Nat.le_trans (show _ ≤ 1000000 by omega) (Nat.le_of_ble_eq_true rfl)⟩) hS (fun _ _ h => h) (fun _ h => h) (fun r u t H1 locs1 ht hvm hq hB hz9 hk9 hS => ?_)
  obtain ⟨⟨ad1, X1⟩, o1⟩ := u
  obtain ⟨hr, ⟨hx1, hj1, he1⟩, ho⟩ := hq
  have he1 : x_ext T ad ad1 := he1
  have hx1 : xr (o_x (k_pass z1) T ((f_pin (T 21 0).toNat 0 (wa_s T 1 0 (T 1 0 + z1)) 0).1)) X1 := hx1
  have hj1 : wa_wj A ad1 (wW cy ad1 (o_x (k_pass z1) T ((f_pin (T 21 0).toNat 0 (wa_s T 1 0 (T 1 0 + z1)) 0).1)) X1 T o1) := hj1
  have hw : wa_wd D ad1 (wW cy ad1 (o_x (k_pass z1) T ((f_pin (T 21 0).toNat 0 (wa_s T 1 0 (T 1 0 + z1)) 0).1)) X1 T o1) H1 := by rw [← ht]; exact hB
  rw [hr]
  have hl : lv_has ls 7 [(0, .ref b), (1, .ref (ad1 0 0)), (2, .ref (ad1 6 0)), (3, .ref (ad1 7 0)), (4, .int (iI ((5 * n : Nat) : Int)))] := by rw [he1.1 0, he1.2.2.2.2.1 0, he1.2.2.2.2.2 0]; exact hl
  refine lv_istore (lv' := [(5, .int (iI (k_pass z1))), (0, .ref b), (1, .ref (ad1 0 0)), (2, .ref (ad1 6 0)), (3, .ref (ad1 7 0)), (4, .int (iI ((5 * n : Nat) : Int)))]) hx hb dL_law_1058 hl (by decide) rfl (fun ls hl => ?_)
  refine lv_aload_n hx hb dL_law_1060 rfl (lv_at hl 3 rfl) ?_
  refine lv_aload_n hx hb dL_law_1061 rfl (lv_at hl 1 rfl) ?_
  refine lv_iload hx hb dL_law_1062 (lv_at hl 5 rfl) ?_
  refine wa_const F dL_law_1064 ?_
  refine wa_add F dL_law_1065 ?_
  refine wl_sld (j := 5 * n + 1) hF hS hz1 (by omega) (by omega) dL_law_1066 ?_
  refine wa_ci (kL_151 F (c_X5_pass l D cy ad1 (o_x (k_pass z1) T ((f_pin (T 21 0).toNat 0 (wa_s T 1 0 (T 1 0 + z1)) 0).1)) X1 T o1 A hj1 hwf z1 r1 (by have g2 := hg.2.2.2.2.2.2.2.2.2.1; omega)) ⟨by decide, by decide⟩ ⟨rfl, rfl⟩ hw hw rfl rfl rfl (Nat.le_of_ble_eq_true rfl) hl.1 dL_law_1067 ⟨Nat.le_trans (show _ ≤ 100000 by omega) (Nat.le_of_ble_eq_true rfl), Nat.le_trans (show _ ≤ 1000000 by omega) (Nat.le_of_ble_eq_true rfl)⟩) hS (fun H2 locs2 hw hS => ?_)
  have hj2 : wa_wj A ad1 (wW cy ad1 (o_x (k_pass z1) T ((f_pin (T 21 0).toNat 0 (wa_s T 1 0 (T 1 0 + z1)) 0).1)) X1 (o_s T (k_pass z1) (f_pout z1.toNat (wa_s T 0 0 0) 0).1) o1) := wl_wj hj1 rfl rfl rfl
  refine lv_istore (lv' := [(6, .int (iI (o_v (k_pass z1) (f_pout z1.toNat (wa_s T 0 0 0) 0).2))), (5, .int (iI (k_pass z1))), (0, .ref b), (1, .ref (ad1 0 0)), (2, .ref (ad1 6 0)), (3, .ref (ad1 7 0)), (4, .int (iI ((5 * n : Nat) : Int)))]) hx hb dL_law_1070 hl (by decide) rfl (fun ls hl => ?_)
  refine lv_aload_n hx hb dL_law_1072 rfl (lv_at hl 4 rfl) ?_
  refine wa_cp (kL_95 F (c_X5_thrown l D cy ad1 (o_x (k_pass z1) T ((f_pin (T 21 0).toNat 0 (wa_s T 1 0 (T 1 0 + z1)) 0).1)) X1 (o_s T (k_pass z1) (f_pout z1.toNat (wa_s T 0 0 0) 0).1) o1) ⟨by decide, by decide⟩ ⟨rfl, rfl⟩ hw hw rfl rfl rfl (Nat.le_of_ble_eq_true rfl) hl.1 dL_law_1073 ⟨Nat.le_trans (show _ ≤ 100000 by omega) (Nat.le_of_ble_eq_true rfl), Nat.le_trans (show _ ≤ 1000000 by omega) (Nat.le_of_ble_eq_true rfl)⟩) ?_
  refine lv_iload hx hb dL_law_1076 (lv_at hl 1 rfl) ?_
  have e0 := hpk.1
  refine wa_ic_eq (tgt := 1083) F dL_law_1078 (by decide) ⟨by omega, by omega⟩ ⟨by omega, by omega⟩ (fun c1 => ?_) (fun c1 => absurd (by omega) c1)
  refine lv_iload hx hb dL_law_1083 (lv_at hl 1 rfl) ?_
  refine wa_if_ne (tgt := 1100) F dL_law_1085 (by decide) ⟨by omega, by omega⟩ (fun c2 => ?_) (fun k0 => ?_)
  · skip
    refine wa_goto (tgt := 1476) F dL_law_1100 (by decide) ?_
    exact law_fin hK hpk hx1 hj1 hw hS (by omega) (by omega) (lv_sub hl [2, 3, 4, 5, 6] rfl)
  · have hv : ((f_pin (T 21 0).toNat 0 (wa_s T 1 0 (T 1 0 + z1)) 0).2) = (o_v (k_pass z1) (f_pout z1.toNat (wa_s T 0 0 0) 0).2) := by have c9 : 1 ≤ z1 := Decidable.byContradiction (fun h => absurd k0 (by unfold k_pass; rw [if_neg (fun z => h z.1)]; decide)); unfold o_v; rw [if_pos k0]; exact (pass_eq c9).2
    have ho1 : o1 = lO ((f_pin (T 21 0).toNat 0 (wa_s T 1 0 (T 1 0 + z1)) 0).2) := ho k0
    refine lv_aload_n hx hb dL_law_1088 rfl (lv_at hl 5 rfl) ?_
    refine wa_const F dL_law_1089 ?_
    refine wa_lald F hw rfl 0 rfl (by decide) (by decide) dL_law_1090 ?_
    refine lv_iload hx hb dL_law_1091 (lv_at hl 0 rfl) ?_
    refine lv_i2l (v := lO (o_v (k_pass z1) (f_pout z1.toNat (wa_s T 0 0 0) 0).2)) hx hb dL_law_1093 rfl ?_
    refine W.lcmp hx hb dL_law_1094 ?_
    rw [show lg_cmp o1 (lO (o_v (k_pass z1) (f_pout z1.toNat (wa_s T 0 0 0) 0).2)) = iI 0 from by rw [ho1.trans (congrArg lO hv)]; exact lg_cmp_self _]
    refine wa_if_eq (tgt := 1100) F dL_law_1095 (by decide) (by decide) (fun _ => ?_) (fun c9 => absurd rfl c9)
    refine wa_goto (tgt := 1476) F dL_law_1100 (by decide) ?_
    exact law_fin hK hpk hx1 hj1 hw hS (by omega) (by omega) (lv_sub hl [2, 3, 4, 5, 6] rfl)
set_option maxRecDepth 100000 in
set_option maxHeartbeats 4000000 in
/-- state -/
theorem law_c_state (hF : law_F p l s m meth c D cy A b L xs) {n : Nat} (hn : n ≤ 511) (hnL : 5 * n + 5 ≤ L) (hK : law_K p l e s m below meth c D cy A b Q (n + 1) n 1476) : law_K p l e s m below meth c D cy A b Q n n 1103 := by
  intro ad X T o H locs ls hg hxr hj hw hS hl
  obtain ⟨F, hTB, hN, hA, hlt, hX, hbl, hbA, hL⟩ := id hF
  have hx := F.1.1
  have hb := F.1.2.1
  have hwf := hg.1
  have hin9 := wx_inj.of hj
  obtain ⟨z1, hz1⟩ : ∃ z : Int, z = (xs (5 * n + 1)).toInt := ⟨_, rfl⟩
  have r1 : wa_r z1 := by rw [hz1]; exact iI_rng _
  have hk : k_bk T z1 = 0 ∨ k_bk T z1 = 1 := by unfold k_bk; split <;> omega
  have hpk := pk.q hg (k_bk_r T z1)
  refine lv_aload_n hx hb dL_law_1103 rfl (lv_at hl 1 rfl) ?_
  refine lv_aload_n hx hb dL_law_1104 rfl (lv_at hl 0 rfl) ?_
  refine lv_iload hx hb dL_law_1105 (lv_at hl 4 rfl) ?_
  refine wa_const F dL_law_1107 ?_
  refine wa_add F dL_law_1108 ?_
  refine wl_sld (j := 5 * n + 1) hF hS hz1 (by omega) (by omega) dL_law_1109 ?_
  refine lv_aload_n hx hb dL_law_1110 rfl (lv_at hl 3 rfl) ?_
  refine va_calli (wl_runS F hTB hN hS (c_L_state l hlt D cy ad T X T o A hj hA hwf hxr hin9 z1 r1 (T) (fun _ => rfl) (fun _ => rfl) hk) qw_571 qw_572 qw_48 qw_573 ⟨by decide, by decide, rfl⟩ ⟨by decide, by decide⟩ ⟨rfl, rfl⟩ hw rfl rfl (Nat.le_of_ble_eq_true rfl) hl.1 dL_law_1111 ⟨Nat.le_trans (show _ ≤ 100000 by omega) (Nat.le_of_ble_eq_true rfl), Nat.le_trans (show _ ≤ 1000000 by omega) (Nat.le_of_ble_eq_true rfl)⟩) hS (fun _ _ h => h) (fun _ h => h) (fun r u t H1 locs1 ht hvm hq hB hz9 hk9 hS => ?_)
  obtain ⟨⟨ad1, X1⟩, o1⟩ := u
  obtain ⟨hr, ⟨hx1, hj1, he1⟩, ho⟩ := hq
  have he1 : x_ext T ad ad1 := he1
  have hx1 : xr (T) X1 := hx1
  have hj1 : wa_wj A ad1 (wW cy ad1 (T) X1 T o1) := hj1
  have hw : wa_wd D ad1 (wW cy ad1 (T) X1 T o1) H1 := by rw [← ht]; exact hB
  rw [hr]
  have hl : lv_has ls 7 [(0, .ref b), (1, .ref (ad1 0 0)), (2, .ref (ad1 6 0)), (3, .ref (ad1 7 0)), (4, .int (iI ((5 * n : Nat) : Int)))] := by rw [he1.1 0, he1.2.2.2.2.1 0, he1.2.2.2.2.2 0]; exact hl
  refine lv_istore (lv' := [(5, .int (iI (k_bk T z1))), (0, .ref b), (1, .ref (ad1 0 0)), (2, .ref (ad1 6 0)), (3, .ref (ad1 7 0)), (4, .int (iI ((5 * n : Nat) : Int)))]) hx hb dL_law_1114 hl (by decide) rfl (fun ls hl => ?_)
  refine lv_aload_n hx hb dL_law_1116 rfl (lv_at hl 3 rfl) ?_
  refine lv_aload_n hx hb dL_law_1117 rfl (lv_at hl 1 rfl) ?_
  refine lv_iload hx hb dL_law_1118 (lv_at hl 5 rfl) ?_
  refine wa_const F dL_law_1120 ?_
  refine wa_add F dL_law_1121 ?_
  refine wl_sld (j := 5 * n + 1) hF hS hz1 (by omega) (by omega) dL_law_1122 ?_
  refine wa_ci (kL_154 F (c_X5_state l D cy ad1 (T) X1 T o1 A hj1 hwf z1 r1) ⟨by decide, by decide⟩ ⟨rfl, rfl⟩ hw hw rfl rfl rfl (Nat.le_of_ble_eq_true rfl) hl.1 dL_law_1123 ⟨Nat.le_trans (show _ ≤ 100000 by omega) (Nat.le_of_ble_eq_true rfl), Nat.le_trans (show _ ≤ 1000000 by omega) (Nat.le_of_ble_eq_true rfl)⟩) hS (fun H2 locs2 hw hS => ?_)
  have hj2 : wa_wj A ad1 (wW cy ad1 (T) X1 (wa_s T 0 0 (k_bk T z1)) o1) := wl_wj hj1 rfl rfl rfl
  refine lv_istore (lv' := [(6, .int (iI (o_v (k_bk T z1) (v_state T z1.toNat)))), (5, .int (iI (k_bk T z1))), (0, .ref b), (1, .ref (ad1 0 0)), (2, .ref (ad1 6 0)), (3, .ref (ad1 7 0)), (4, .int (iI ((5 * n : Nat) : Int)))]) hx hb dL_law_1126 hl (by decide) rfl (fun ls hl => ?_)
  refine lv_aload_n hx hb dL_law_1128 rfl (lv_at hl 4 rfl) ?_
  refine wa_cp (kL_95 F (c_X5_thrown l D cy ad1 (T) X1 (wa_s T 0 0 (k_bk T z1)) o1) ⟨by decide, by decide⟩ ⟨rfl, rfl⟩ hw hw rfl rfl rfl (Nat.le_of_ble_eq_true rfl) hl.1 dL_law_1129 ⟨Nat.le_trans (show _ ≤ 100000 by omega) (Nat.le_of_ble_eq_true rfl), Nat.le_trans (show _ ≤ 1000000 by omega) (Nat.le_of_ble_eq_true rfl)⟩) ?_
  refine lv_iload hx hb dL_law_1132 (lv_at hl 1 rfl) ?_
  have e0 := hpk.1
  refine wa_ic_eq (tgt := 1139) F dL_law_1134 (by decide) ⟨by omega, by omega⟩ ⟨by omega, by omega⟩ (fun c1 => ?_) (fun c1 => absurd (by omega) c1)
  refine lv_iload hx hb dL_law_1139 (lv_at hl 1 rfl) ?_
  refine wa_if_ne (tgt := 1156) F dL_law_1141 (by decide) ⟨by omega, by omega⟩ (fun c2 => ?_) (fun k0 => ?_)
  · skip
    refine wa_goto (tgt := 1476) F dL_law_1156 (by decide) ?_
    exact law_fin hK hpk hx1 hj1 hw hS (by omega) (by omega) (lv_sub hl [2, 3, 4, 5, 6] rfl)
  · have hv : (v_state T z1.toNat) = (o_v (k_bk T z1) (v_state T z1.toNat)) := (if_pos k0).symm
    have ho1 : o1 = lO (v_state T z1.toNat) := ho k0
    refine lv_aload_n hx hb dL_law_1144 rfl (lv_at hl 5 rfl) ?_
    refine wa_const F dL_law_1145 ?_
    refine wa_lald F hw rfl 0 rfl (by decide) (by decide) dL_law_1146 ?_
    refine lv_iload hx hb dL_law_1147 (lv_at hl 0 rfl) ?_
    refine lv_i2l (v := lO (o_v (k_bk T z1) (v_state T z1.toNat))) hx hb dL_law_1149 rfl ?_
    refine W.lcmp hx hb dL_law_1150 ?_
    rw [show lg_cmp o1 (lO (o_v (k_bk T z1) (v_state T z1.toNat))) = iI 0 from by rw [ho1.trans (congrArg lO hv)]; exact lg_cmp_self _]
    refine wa_if_eq (tgt := 1156) F dL_law_1151 (by decide) (by decide) (fun _ => ?_) (fun c9 => absurd rfl c9)
    refine wa_goto (tgt := 1476) F dL_law_1156 (by decide) ?_
    exact law_fin hK hpk hx1 hj1 hw hS (by omega) (by omega) (lv_sub hl [2, 3, 4, 5, 6] rfl)
set_option maxRecDepth 100000 in
set_option maxHeartbeats 4000000 in
/-- start -/
theorem law_c_start (hF : law_F p l s m meth c D cy A b L xs) {n : Nat} (hn : n ≤ 511) (hnL : 5 * n + 5 ≤ L) (hK : law_K p l e s m below meth c D cy A b Q (n + 1) n 1476) : law_K p l e s m below meth c D cy A b Q n n 1159 := by
  intro ad X T o H locs ls hg hxr hj hw hS hl
  obtain ⟨F, hTB, hN, hA, hlt, hX, hbl, hbA, hL⟩ := id hF
  have hx := F.1.1
  have hb := F.1.2.1
  have hwf := hg.1
  have hin9 := wx_inj.of hj
  obtain ⟨z1, hz1⟩ : ∃ z : Int, z = (xs (5 * n + 1)).toInt := ⟨_, rfl⟩
  have r1 : wa_r z1 := by rw [hz1]; exact iI_rng _
  obtain ⟨z2, hz2⟩ : ∃ z : Int, z = (xs (5 * n + 2)).toInt := ⟨_, rfl⟩
  have r2 : wa_r z2 := by rw [hz2]; exact iI_rng _
  obtain ⟨z3, hz3⟩ : ∃ z : Int, z = (xs (5 * n + 3)).toInt := ⟨_, rfl⟩
  have r3 : wa_r z3 := by rw [hz3]; exact iI_rng _
  have hk : k_start T z1 z2 z3 = 0 ∨ k_start T z1 z2 z3 = 1 ∨ k_start T z1 z2 z3 = 2 ∨ k_start T z1 z2 z3 = 3 := by unfold k_start; (repeat' split); all_goals omega
  have hpk := pk_start hg z1 z2 z3
  refine lv_aload_n hx hb dL_law_1159 rfl (lv_at hl 1 rfl) ?_
  refine lv_aload_n hx hb dL_law_1160 rfl (lv_at hl 0 rfl) ?_
  refine lv_iload hx hb dL_law_1161 (lv_at hl 4 rfl) ?_
  refine wa_const F dL_law_1163 ?_
  refine wa_add F dL_law_1164 ?_
  refine wl_sld (j := 5 * n + 1) hF hS hz1 (by omega) (by omega) dL_law_1165 ?_
  refine lv_aload_n hx hb dL_law_1166 rfl (lv_at hl 0 rfl) ?_
  refine lv_iload hx hb dL_law_1167 (lv_at hl 4 rfl) ?_
  refine wa_const F dL_law_1169 ?_
  refine wa_add F dL_law_1170 ?_
  refine wl_sld (j := 5 * n + 2) hF hS hz2 (by omega) (by omega) dL_law_1171 ?_
  refine lv_aload_n hx hb dL_law_1172 rfl (lv_at hl 0 rfl) ?_
  refine lv_iload hx hb dL_law_1173 (lv_at hl 4 rfl) ?_
  refine wa_const F dL_law_1175 ?_
  refine wa_add F dL_law_1176 ?_
  refine wl_sld (j := 5 * n + 3) hF hS hz3 (by omega) (by omega) dL_law_1177 ?_
  refine lv_aload_n hx hb dL_law_1178 rfl (lv_at hl 3 rfl) ?_
  refine va_calli (wl_runS F hTB hN hS (c_L_start l hlt D cy ad T X T o A hj hA hwf hxr hin9 z1 z2 z3 r1 r2 r3 (o_x (k_start T z1 z2 z3) T (a_start T z1 z2 z3)) (fun q => if_pos q) (fun q => if_neg q) hk) qw_578 qw_579 qw_48 qw_580 ⟨by decide, by decide, rfl⟩ ⟨by decide, by decide⟩ ⟨rfl, rfl⟩ hw rfl rfl (Nat.le_of_ble_eq_true rfl) hl.1 dL_law_1179 ⟨Nat.le_trans (show _ ≤ 100000 by omega) (Nat.le_of_ble_eq_true rfl), Nat.le_trans (show _ ≤ 1000000 by omega) (Nat.le_of_ble_eq_true rfl)⟩) hS (fun _ _ h => h) (fun _ h => h) (fun r u t H1 locs1 ht hvm hq hB hz9 hk9 hS => ?_)
  obtain ⟨⟨ad1, X1⟩, o1⟩ := u
  obtain ⟨hr, ⟨hx1, hj1, he1⟩, ho⟩ := hq
  have he1 : x_ext T ad ad1 := he1
  have hx1 : xr (o_x (k_start T z1 z2 z3) T (a_start T z1 z2 z3)) X1 := hx1
  have hj1 : wa_wj A ad1 (wW cy ad1 (o_x (k_start T z1 z2 z3) T (a_start T z1 z2 z3)) X1 T o1) := hj1
  have hw : wa_wd D ad1 (wW cy ad1 (o_x (k_start T z1 z2 z3) T (a_start T z1 z2 z3)) X1 T o1) H1 := by rw [← ht]; exact hB
  rw [hr]
  have hl : lv_has ls 7 [(0, .ref b), (1, .ref (ad1 0 0)), (2, .ref (ad1 6 0)), (3, .ref (ad1 7 0)), (4, .int (iI ((5 * n : Nat) : Int)))] := by rw [he1.1 0, he1.2.2.2.2.1 0, he1.2.2.2.2.2 0]; exact hl
  refine lv_istore (lv' := [(5, .int (iI (k_start T z1 z2 z3))), (0, .ref b), (1, .ref (ad1 0 0)), (2, .ref (ad1 6 0)), (3, .ref (ad1 7 0)), (4, .int (iI ((5 * n : Nat) : Int)))]) hx hb dL_law_1182 hl (by decide) rfl (fun ls hl => ?_)
  refine lv_aload_n hx hb dL_law_1184 rfl (lv_at hl 3 rfl) ?_
  refine lv_aload_n hx hb dL_law_1185 rfl (lv_at hl 1 rfl) ?_
  refine lv_iload hx hb dL_law_1186 (lv_at hl 5 rfl) ?_
  refine wa_const F dL_law_1188 ?_
  refine wa_add F dL_law_1189 ?_
  refine wl_sld (j := 5 * n + 1) hF hS hz1 (by omega) (by omega) dL_law_1190 ?_
  refine lv_aload_n hx hb dL_law_1191 rfl (lv_at hl 1 rfl) ?_
  refine lv_iload hx hb dL_law_1192 (lv_at hl 5 rfl) ?_
  refine wa_const F dL_law_1194 ?_
  refine wa_add F dL_law_1195 ?_
  refine wl_sld (j := 5 * n + 2) hF hS hz2 (by omega) (by omega) dL_law_1196 ?_
  refine lv_aload_n hx hb dL_law_1197 rfl (lv_at hl 1 rfl) ?_
  refine lv_iload hx hb dL_law_1198 (lv_at hl 5 rfl) ?_
  refine wa_const F dL_law_1200 ?_
  refine wa_add F dL_law_1201 ?_
  refine wl_sld (j := 5 * n + 3) hF hS hz3 (by omega) (by omega) dL_law_1202 ?_
  refine wa_ci (kL_158 F (c_X5_start l D cy ad1 (o_x (k_start T z1 z2 z3) T (a_start T z1 z2 z3)) X1 T o1 A hj1 hwf z1 z2 z3 r1 r2 r3) ⟨by decide, by decide⟩ ⟨rfl, rfl⟩ hw hw rfl rfl rfl (Nat.le_of_ble_eq_true rfl) hl.1 dL_law_1203 ⟨Nat.le_trans (show _ ≤ 100000 by omega) (Nat.le_of_ble_eq_true rfl), Nat.le_trans (show _ ≤ 1000000 by omega) (Nat.le_of_ble_eq_true rfl)⟩) hS (fun H2 locs2 hw hS => ?_)
  have hj2 : wa_wj A ad1 (wW cy ad1 (o_x (k_start T z1 z2 z3) T (a_start T z1 z2 z3)) X1 (o_s T (k_start T z1 z2 z3) (a_start T z1 z2 z3)) o1) := wl_wj hj1 rfl rfl rfl
  refine lv_istore (lv' := [(6, .int (iI (o_v (k_start T z1 z2 z3) (T 29 0 + 1 - 1)))), (5, .int (iI (k_start T z1 z2 z3))), (0, .ref b), (1, .ref (ad1 0 0)), (2, .ref (ad1 6 0)), (3, .ref (ad1 7 0)), (4, .int (iI ((5 * n : Nat) : Int)))]) hx hb dL_law_1206 hl (by decide) rfl (fun ls hl => ?_)
  refine lv_aload_n hx hb dL_law_1208 rfl (lv_at hl 4 rfl) ?_
  refine wa_cp (kL_95 F (c_X5_thrown l D cy ad1 (o_x (k_start T z1 z2 z3) T (a_start T z1 z2 z3)) X1 (o_s T (k_start T z1 z2 z3) (a_start T z1 z2 z3)) o1) ⟨by decide, by decide⟩ ⟨rfl, rfl⟩ hw hw rfl rfl rfl (Nat.le_of_ble_eq_true rfl) hl.1 dL_law_1209 ⟨Nat.le_trans (show _ ≤ 100000 by omega) (Nat.le_of_ble_eq_true rfl), Nat.le_trans (show _ ≤ 1000000 by omega) (Nat.le_of_ble_eq_true rfl)⟩) ?_
  refine lv_iload hx hb dL_law_1212 (lv_at hl 1 rfl) ?_
  have e0 := hpk.1
  refine wa_ic_eq (tgt := 1219) F dL_law_1214 (by decide) ⟨by omega, by omega⟩ ⟨by omega, by omega⟩ (fun c1 => ?_) (fun c1 => absurd (by omega) c1)
  refine lv_iload hx hb dL_law_1219 (lv_at hl 1 rfl) ?_
  refine wa_if_ne (tgt := 1236) F dL_law_1221 (by decide) ⟨by omega, by omega⟩ (fun c2 => ?_) (fun k0 => ?_)
  · skip
    refine wa_goto (tgt := 1476) F dL_law_1236 (by decide) ?_
    exact law_fin hK hpk hx1 hj1 hw hS (by omega) (by omega) (lv_sub hl [2, 3, 4, 5, 6] rfl)
  · have hv : (T 29 0) = (o_v (k_start T z1 z2 z3) (T 29 0 + 1 - 1)) := by unfold o_v; rw [if_pos k0]; omega
    have ho1 : o1 = lO (T 29 0) := ho k0
    refine lv_aload_n hx hb dL_law_1224 rfl (lv_at hl 5 rfl) ?_
    refine wa_const F dL_law_1225 ?_
    refine wa_lald F hw rfl 0 rfl (by decide) (by decide) dL_law_1226 ?_
    refine lv_iload hx hb dL_law_1227 (lv_at hl 0 rfl) ?_
    refine lv_i2l (v := lO (o_v (k_start T z1 z2 z3) (T 29 0 + 1 - 1))) hx hb dL_law_1229 rfl ?_
    refine W.lcmp hx hb dL_law_1230 ?_
    rw [show lg_cmp o1 (lO (o_v (k_start T z1 z2 z3) (T 29 0 + 1 - 1))) = iI 0 from by rw [ho1.trans (congrArg lO hv)]; exact lg_cmp_self _]
    refine wa_if_eq (tgt := 1236) F dL_law_1231 (by decide) (by decide) (fun _ => ?_) (fun c9 => absurd rfl c9)
    refine wa_goto (tgt := 1476) F dL_law_1236 (by decide) ?_
    exact law_fin hK hpk hx1 hj1 hw hS (by omega) (by omega) (lv_sub hl [2, 3, 4, 5, 6] rfl)
set_option maxRecDepth 100000 in
set_option maxHeartbeats 4000000 in
/-- renew -/
theorem law_c_renew (hF : law_F p l s m meth c D cy A b L xs) {n : Nat} (hn : n ≤ 511) (hnL : 5 * n + 5 ≤ L) (hK : law_K p l e s m below meth c D cy A b Q (n + 1) n 1476) : law_K p l e s m below meth c D cy A b Q n n 1239 := by
  intro ad X T o H locs ls hg hxr hj hw hS hl
  obtain ⟨F, hTB, hN, hA, hlt, hX, hbl, hbA, hL⟩ := id hF
  have hx := F.1.1
  have hb := F.1.2.1
  have hwf := hg.1
  have hin9 := wx_inj.of hj
  obtain ⟨z1, hz1⟩ : ∃ z : Int, z = (xs (5 * n + 1)).toInt := ⟨_, rfl⟩
  have r1 : wa_r z1 := by rw [hz1]; exact iI_rng _
  have hk : k_renew T z1 = 0 ∨ k_renew T z1 = 1 ∨ k_renew T z1 = 2 := by unfold k_renew; (repeat' split); all_goals omega
  have hpk := pk_renew hg z1
  refine lv_aload_n hx hb dL_law_1239 rfl (lv_at hl 1 rfl) ?_
  refine lv_aload_n hx hb dL_law_1240 rfl (lv_at hl 0 rfl) ?_
  refine lv_iload hx hb dL_law_1241 (lv_at hl 4 rfl) ?_
  refine wa_const F dL_law_1243 ?_
  refine wa_add F dL_law_1244 ?_
  refine wl_sld (j := 5 * n + 1) hF hS hz1 (by omega) (by omega) dL_law_1245 ?_
  refine lv_aload_n hx hb dL_law_1246 rfl (lv_at hl 3 rfl) ?_
  refine va_calli (wl_runS F hTB hN hS (c_L_renew l hlt D cy ad T X T o A hj hA hwf hxr hin9 z1 r1 (fun u _ => by have g2 := hg.2.2.2.2.2.2.2.1 u; omega) (o_x (k_renew T z1) T (a_renew T z1)) (fun q => if_pos q) (fun q => if_neg q) hk) qw_613 qw_614 qw_48 qw_615 ⟨by decide, by decide, rfl⟩ ⟨by decide, by decide⟩ ⟨rfl, rfl⟩ hw rfl rfl (Nat.le_of_ble_eq_true rfl) hl.1 dL_law_1247 ⟨Nat.le_trans (show _ ≤ 100000 by omega) (Nat.le_of_ble_eq_true rfl), Nat.le_trans (show _ ≤ 1000000 by omega) (Nat.le_of_ble_eq_true rfl)⟩) hS (fun _ _ h => h) (fun _ h => h) (fun r u t H1 locs1 ht hvm hq hB hz9 hk9 hS => ?_)
  obtain ⟨⟨ad1, X1⟩, o1⟩ := u
  obtain ⟨hr, ⟨hx1, hj1, he1⟩, ho⟩ := hq
  have he1 : x_ext T ad ad1 := he1
  have hx1 : xr (o_x (k_renew T z1) T (a_renew T z1)) X1 := hx1
  have hj1 : wa_wj A ad1 (wW cy ad1 (o_x (k_renew T z1) T (a_renew T z1)) X1 T o1) := hj1
  have hw : wa_wd D ad1 (wW cy ad1 (o_x (k_renew T z1) T (a_renew T z1)) X1 T o1) H1 := by rw [← ht]; exact hB
  rw [hr]
  have hl : lv_has ls 7 [(0, .ref b), (1, .ref (ad1 0 0)), (2, .ref (ad1 6 0)), (3, .ref (ad1 7 0)), (4, .int (iI ((5 * n : Nat) : Int)))] := by rw [he1.1 0, he1.2.2.2.2.1 0, he1.2.2.2.2.2 0]; exact hl
  refine lv_istore (lv' := [(5, .int (iI (k_renew T z1))), (0, .ref b), (1, .ref (ad1 0 0)), (2, .ref (ad1 6 0)), (3, .ref (ad1 7 0)), (4, .int (iI ((5 * n : Nat) : Int)))]) hx hb dL_law_1250 hl (by decide) rfl (fun ls hl => ?_)
  refine lv_aload_n hx hb dL_law_1252 rfl (lv_at hl 3 rfl) ?_
  refine lv_aload_n hx hb dL_law_1253 rfl (lv_at hl 1 rfl) ?_
  refine lv_iload hx hb dL_law_1254 (lv_at hl 5 rfl) ?_
  refine wa_const F dL_law_1256 ?_
  refine wa_add F dL_law_1257 ?_
  refine wl_sld (j := 5 * n + 1) hF hS hz1 (by omega) (by omega) dL_law_1258 ?_
  refine wa_ci (kL_161 F (c_X5_renew l D cy ad1 (o_x (k_renew T z1) T (a_renew T z1)) X1 T o1 A hj1 hwf z1 r1) ⟨by decide, by decide⟩ ⟨rfl, rfl⟩ hw hw rfl rfl rfl (Nat.le_of_ble_eq_true rfl) hl.1 dL_law_1259 ⟨Nat.le_trans (show _ ≤ 100000 by omega) (Nat.le_of_ble_eq_true rfl), Nat.le_trans (show _ ≤ 1000000 by omega) (Nat.le_of_ble_eq_true rfl)⟩) hS (fun H2 locs2 hw hS => ?_)
  have hj2 : wa_wj A ad1 (wW cy ad1 (o_x (k_renew T z1) T (a_renew T z1)) X1 (o_s T (k_renew T z1) (a_renew T z1)) o1) := wl_wj hj1 rfl rfl rfl
  refine lv_istore (lv' := [(6, .int (iI (o_v (k_renew T z1) (f_next (wa_s T 0 0 0) z1.toNat)))), (5, .int (iI (k_renew T z1))), (0, .ref b), (1, .ref (ad1 0 0)), (2, .ref (ad1 6 0)), (3, .ref (ad1 7 0)), (4, .int (iI ((5 * n : Nat) : Int)))]) hx hb dL_law_1262 hl (by decide) rfl (fun ls hl => ?_)
  refine lv_aload_n hx hb dL_law_1264 rfl (lv_at hl 4 rfl) ?_
  refine wa_cp (kL_95 F (c_X5_thrown l D cy ad1 (o_x (k_renew T z1) T (a_renew T z1)) X1 (o_s T (k_renew T z1) (a_renew T z1)) o1) ⟨by decide, by decide⟩ ⟨rfl, rfl⟩ hw hw rfl rfl rfl (Nat.le_of_ble_eq_true rfl) hl.1 dL_law_1265 ⟨Nat.le_trans (show _ ≤ 100000 by omega) (Nat.le_of_ble_eq_true rfl), Nat.le_trans (show _ ≤ 1000000 by omega) (Nat.le_of_ble_eq_true rfl)⟩) ?_
  refine lv_iload hx hb dL_law_1268 (lv_at hl 1 rfl) ?_
  have e0 := hpk.1
  refine wa_ic_eq (tgt := 1275) F dL_law_1270 (by decide) ⟨by omega, by omega⟩ ⟨by omega, by omega⟩ (fun c1 => ?_) (fun c1 => absurd (by omega) c1)
  refine lv_iload hx hb dL_law_1275 (lv_at hl 1 rfl) ?_
  refine wa_if_ne (tgt := 1292) F dL_law_1277 (by decide) ⟨by omega, by omega⟩ (fun c2 => ?_) (fun k0 => ?_)
  · skip
    refine wa_goto (tgt := 1476) F dL_law_1292 (by decide) ?_
    exact law_fin hK hpk hx1 hj1 hw hS (by omega) (by omega) (lv_sub hl [2, 3, 4, 5, 6] rfl)
  · have hv : (f_next T z1.toNat) = (o_v (k_renew T z1) (f_next (wa_s T 0 0 0) z1.toNat)) := (if_pos k0).symm
    have ho1 : o1 = lO (f_next T z1.toNat) := ho k0
    refine lv_aload_n hx hb dL_law_1280 rfl (lv_at hl 5 rfl) ?_
    refine wa_const F dL_law_1281 ?_
    refine wa_lald F hw rfl 0 rfl (by decide) (by decide) dL_law_1282 ?_
    refine lv_iload hx hb dL_law_1283 (lv_at hl 0 rfl) ?_
    refine lv_i2l (v := lO (o_v (k_renew T z1) (f_next (wa_s T 0 0 0) z1.toNat))) hx hb dL_law_1285 rfl ?_
    refine W.lcmp hx hb dL_law_1286 ?_
    rw [show lg_cmp o1 (lO (o_v (k_renew T z1) (f_next (wa_s T 0 0 0) z1.toNat))) = iI 0 from by rw [ho1.trans (congrArg lO hv)]; exact lg_cmp_self _]
    refine wa_if_eq (tgt := 1292) F dL_law_1287 (by decide) (by decide) (fun _ => ?_) (fun c9 => absurd rfl c9)
    refine wa_goto (tgt := 1476) F dL_law_1292 (by decide) ?_
    exact law_fin hK hpk hx1 hj1 hw hS (by omega) (by omega) (lv_sub hl [2, 3, 4, 5, 6] rfl)
set_option maxRecDepth 100000 in
set_option maxHeartbeats 4000000 in
/-- stop -/
theorem law_c_stop (hF : law_F p l s m meth c D cy A b L xs) {n : Nat} (hn : n ≤ 511) (hnL : 5 * n + 5 ≤ L) (hK : law_K p l e s m below meth c D cy A b Q (n + 1) n 1476) : law_K p l e s m below meth c D cy A b Q n n 1295 := by
  intro ad X T o H locs ls hg hxr hj hw hS hl
  obtain ⟨F, hTB, hN, hA, hlt, hX, hbl, hbA, hL⟩ := id hF
  have hx := F.1.1
  have hb := F.1.2.1
  have hwf := hg.1
  have hin9 := wx_inj.of hj
  obtain ⟨z1, hz1⟩ : ∃ z : Int, z = (xs (5 * n + 1)).toInt := ⟨_, rfl⟩
  have r1 : wa_r z1 := by rw [hz1]; exact iI_rng _
  have hk : k_stop T z1 = 0 ∨ k_stop T z1 = 1 := by unfold k_stop; split <;> omega
  have hpk := pk_stop hg z1
  refine lv_aload_n hx hb dL_law_1295 rfl (lv_at hl 1 rfl) ?_
  refine lv_aload_n hx hb dL_law_1296 rfl (lv_at hl 0 rfl) ?_
  refine lv_iload hx hb dL_law_1297 (lv_at hl 4 rfl) ?_
  refine wa_const F dL_law_1299 ?_
  refine wa_add F dL_law_1300 ?_
  refine wl_sld (j := 5 * n + 1) hF hS hz1 (by omega) (by omega) dL_law_1301 ?_
  refine lv_aload_n hx hb dL_law_1302 rfl (lv_at hl 3 rfl) ?_
  refine va_calli (wl_runS F hTB hN hS (c_L_stop l hlt D cy ad T X T o A hj hA hwf hxr hin9 z1 r1 (o_x (k_stop T z1) T (a_stop T z1)) (fun q => if_pos q) (fun q => if_neg q) hk) qw_631 qw_632 qw_48 qw_633 ⟨by decide, by decide, rfl⟩ ⟨by decide, by decide⟩ ⟨rfl, rfl⟩ hw rfl rfl (Nat.le_of_ble_eq_true rfl) hl.1 dL_law_1303 ⟨Nat.le_trans (show _ ≤ 100000 by omega) (Nat.le_of_ble_eq_true rfl), Nat.le_trans (show _ ≤ 1000000 by omega) (Nat.le_of_ble_eq_true rfl)⟩) hS (fun _ _ h => h) (fun _ h => h) (fun r u t H1 locs1 ht hvm hq hB hz9 hk9 hS => ?_)
  obtain ⟨⟨ad1, X1⟩, o1⟩ := u
  obtain ⟨hr, ⟨hx1, hj1, he1⟩, ho⟩ := hq
  have he1 : x_ext T ad ad1 := he1
  have hx1 : xr (o_x (k_stop T z1) T (a_stop T z1)) X1 := hx1
  have hj1 : wa_wj A ad1 (wW cy ad1 (o_x (k_stop T z1) T (a_stop T z1)) X1 T o1) := hj1
  have hw : wa_wd D ad1 (wW cy ad1 (o_x (k_stop T z1) T (a_stop T z1)) X1 T o1) H1 := by rw [← ht]; exact hB
  rw [hr]
  have hl : lv_has ls 7 [(0, .ref b), (1, .ref (ad1 0 0)), (2, .ref (ad1 6 0)), (3, .ref (ad1 7 0)), (4, .int (iI ((5 * n : Nat) : Int)))] := by rw [he1.1 0, he1.2.2.2.2.1 0, he1.2.2.2.2.2 0]; exact hl
  refine lv_istore (lv' := [(5, .int (iI (k_stop T z1))), (0, .ref b), (1, .ref (ad1 0 0)), (2, .ref (ad1 6 0)), (3, .ref (ad1 7 0)), (4, .int (iI ((5 * n : Nat) : Int)))]) hx hb dL_law_1306 hl (by decide) rfl (fun ls hl => ?_)
  refine lv_aload_n hx hb dL_law_1308 rfl (lv_at hl 3 rfl) ?_
  refine lv_aload_n hx hb dL_law_1309 rfl (lv_at hl 1 rfl) ?_
  refine lv_iload hx hb dL_law_1310 (lv_at hl 5 rfl) ?_
  refine wa_const F dL_law_1312 ?_
  refine wa_add F dL_law_1313 ?_
  refine wl_sld (j := 5 * n + 1) hF hS hz1 (by omega) (by omega) dL_law_1314 ?_
  refine wa_ci (kL_164 F (c_X5_stop l D cy ad1 (o_x (k_stop T z1) T (a_stop T z1)) X1 T o1 A hj1 hwf z1 r1) ⟨by decide, by decide⟩ ⟨rfl, rfl⟩ hw hw rfl rfl rfl (Nat.le_of_ble_eq_true rfl) hl.1 dL_law_1315 ⟨Nat.le_trans (show _ ≤ 100000 by omega) (Nat.le_of_ble_eq_true rfl), Nat.le_trans (show _ ≤ 1000000 by omega) (Nat.le_of_ble_eq_true rfl)⟩) hS (fun H2 locs2 hw hS => ?_)
  have hj2 : wa_wj A ad1 (wW cy ad1 (o_x (k_stop T z1) T (a_stop T z1)) X1 (o_s T (k_stop T z1) (a_stop T z1)) o1) := wl_wj hj1 rfl rfl rfl
  refine lv_istore (lv' := [(6, .int (iI (o_v (k_stop T z1) (T 28 z1.toNat)))), (5, .int (iI (k_stop T z1))), (0, .ref b), (1, .ref (ad1 0 0)), (2, .ref (ad1 6 0)), (3, .ref (ad1 7 0)), (4, .int (iI ((5 * n : Nat) : Int)))]) hx hb dL_law_1318 hl (by decide) rfl (fun ls hl => ?_)
  refine lv_aload_n hx hb dL_law_1320 rfl (lv_at hl 4 rfl) ?_
  refine wa_cp (kL_95 F (c_X5_thrown l D cy ad1 (o_x (k_stop T z1) T (a_stop T z1)) X1 (o_s T (k_stop T z1) (a_stop T z1)) o1) ⟨by decide, by decide⟩ ⟨rfl, rfl⟩ hw hw rfl rfl rfl (Nat.le_of_ble_eq_true rfl) hl.1 dL_law_1321 ⟨Nat.le_trans (show _ ≤ 100000 by omega) (Nat.le_of_ble_eq_true rfl), Nat.le_trans (show _ ≤ 1000000 by omega) (Nat.le_of_ble_eq_true rfl)⟩) ?_
  refine lv_iload hx hb dL_law_1324 (lv_at hl 1 rfl) ?_
  have e0 := hpk.1
  refine wa_ic_eq (tgt := 1331) F dL_law_1326 (by decide) ⟨by omega, by omega⟩ ⟨by omega, by omega⟩ (fun c1 => ?_) (fun c1 => absurd (by omega) c1)
  refine lv_iload hx hb dL_law_1331 (lv_at hl 1 rfl) ?_
  refine wa_if_ne (tgt := 1348) F dL_law_1333 (by decide) ⟨by omega, by omega⟩ (fun c2 => ?_) (fun k0 => ?_)
  · skip
    refine wa_goto (tgt := 1476) F dL_law_1348 (by decide) ?_
    exact law_fin hK hpk hx1 hj1 hw hS (by omega) (by omega) (lv_sub hl [2, 3, 4, 5, 6] rfl)
  · have hv : (T 28 z1.toNat) = (o_v (k_stop T z1) (T 28 z1.toNat)) := (if_pos k0).symm
    have ho1 : o1 = lO (T 28 z1.toNat) := ho k0
    refine lv_aload_n hx hb dL_law_1336 rfl (lv_at hl 5 rfl) ?_
    refine wa_const F dL_law_1337 ?_
    refine wa_lald F hw rfl 0 rfl (by decide) (by decide) dL_law_1338 ?_
    refine lv_iload hx hb dL_law_1339 (lv_at hl 0 rfl) ?_
    refine lv_i2l (v := lO (o_v (k_stop T z1) (T 28 z1.toNat))) hx hb dL_law_1341 rfl ?_
    refine W.lcmp hx hb dL_law_1342 ?_
    rw [show lg_cmp o1 (lO (o_v (k_stop T z1) (T 28 z1.toNat))) = iI 0 from by rw [ho1.trans (congrArg lO hv)]; exact lg_cmp_self _]
    refine wa_if_eq (tgt := 1348) F dL_law_1343 (by decide) (by decide) (fun _ => ?_) (fun c9 => absurd rfl c9)
    refine wa_goto (tgt := 1476) F dL_law_1348 (by decide) ?_
    exact law_fin hK hpk hx1 hj1 hw hS (by omega) (by omega) (lv_sub hl [2, 3, 4, 5, 6] rfl)
set_option maxRecDepth 100000 in
set_option maxHeartbeats 4000000 in
/-- runsFrom -/
theorem law_c_runsFrom (hF : law_F p l s m meth c D cy A b L xs) {n : Nat} (hn : n ≤ 511) (hnL : 5 * n + 5 ≤ L) (hK : law_K p l e s m below meth c D cy A b Q (n + 1) n 1476) : law_K p l e s m below meth c D cy A b Q n n 1351 := by
  intro ad X T o H locs ls hg hxr hj hw hS hl
  obtain ⟨F, hTB, hN, hA, hlt, hX, hbl, hbA, hL⟩ := id hF
  have hx := F.1.1
  have hb := F.1.2.1
  have hwf := hg.1
  have hin9 := wx_inj.of hj
  obtain ⟨z1, hz1⟩ : ∃ z : Int, z = (xs (5 * n + 1)).toInt := ⟨_, rfl⟩
  have r1 : wa_r z1 := by rw [hz1]; exact iI_rng _
  have hk : k_from T z1 = 0 ∨ k_from T z1 = 1 := by unfold k_from; split <;> omega
  have hpk := pk.q hg (k_from_r T z1)
  refine lv_aload_n hx hb dL_law_1351 rfl (lv_at hl 1 rfl) ?_
  refine lv_aload_n hx hb dL_law_1352 rfl (lv_at hl 0 rfl) ?_
  refine lv_iload hx hb dL_law_1353 (lv_at hl 4 rfl) ?_
  refine wa_const F dL_law_1355 ?_
  refine wa_add F dL_law_1356 ?_
  refine wl_sld (j := 5 * n + 1) hF hS hz1 (by omega) (by omega) dL_law_1357 ?_
  refine lv_aload_n hx hb dL_law_1358 rfl (lv_at hl 3 rfl) ?_
  refine va_calli (wl_runS F hTB hN hS (c_L_runsFrom l hlt D cy ad T X T o A hj hA hwf hxr hin9 z1 r1 (T) (fun _ => rfl) (fun _ => rfl) hk) qw_638 qw_639 qw_48 qw_640 ⟨by decide, by decide, rfl⟩ ⟨by decide, by decide⟩ ⟨rfl, rfl⟩ hw rfl rfl (Nat.le_of_ble_eq_true rfl) hl.1 dL_law_1359 ⟨Nat.le_trans (show _ ≤ 100000 by omega) (Nat.le_of_ble_eq_true rfl), Nat.le_trans (show _ ≤ 1000000 by omega) (Nat.le_of_ble_eq_true rfl)⟩) hS (fun _ _ h => h) (fun _ h => h) (fun r u t H1 locs1 ht hvm hq hB hz9 hk9 hS => ?_)
  obtain ⟨⟨ad1, X1⟩, o1⟩ := u
  obtain ⟨hr, ⟨hx1, hj1, he1⟩, ho⟩ := hq
  have he1 : x_ext T ad ad1 := he1
  have hx1 : xr (T) X1 := hx1
  have hj1 : wa_wj A ad1 (wW cy ad1 (T) X1 T o1) := hj1
  have hw : wa_wd D ad1 (wW cy ad1 (T) X1 T o1) H1 := by rw [← ht]; exact hB
  rw [hr]
  have hl : lv_has ls 7 [(0, .ref b), (1, .ref (ad1 0 0)), (2, .ref (ad1 6 0)), (3, .ref (ad1 7 0)), (4, .int (iI ((5 * n : Nat) : Int)))] := by rw [he1.1 0, he1.2.2.2.2.1 0, he1.2.2.2.2.2 0]; exact hl
  refine lv_istore (lv' := [(5, .int (iI (k_from T z1))), (0, .ref b), (1, .ref (ad1 0 0)), (2, .ref (ad1 6 0)), (3, .ref (ad1 7 0)), (4, .int (iI ((5 * n : Nat) : Int)))]) hx hb dL_law_1362 hl (by decide) rfl (fun ls hl => ?_)
  refine lv_aload_n hx hb dL_law_1364 rfl (lv_at hl 3 rfl) ?_
  refine lv_aload_n hx hb dL_law_1365 rfl (lv_at hl 1 rfl) ?_
  refine lv_iload hx hb dL_law_1366 (lv_at hl 5 rfl) ?_
  refine wa_const F dL_law_1368 ?_
  refine wa_add F dL_law_1369 ?_
  refine wl_sld (j := 5 * n + 1) hF hS hz1 (by omega) (by omega) dL_law_1370 ?_
  refine wa_ci (kL_167 F (c_X5_runsFrom l D cy ad1 (T) X1 T o1 A hj1 hwf z1 r1) ⟨by decide, by decide⟩ ⟨rfl, rfl⟩ hw hw rfl rfl rfl (Nat.le_of_ble_eq_true rfl) hl.1 dL_law_1371 ⟨Nat.le_trans (show _ ≤ 100000 by omega) (Nat.le_of_ble_eq_true rfl), Nat.le_trans (show _ ≤ 1000000 by omega) (Nat.le_of_ble_eq_true rfl)⟩) hS (fun H2 locs2 hw hS => ?_)
  have hj2 : wa_wj A ad1 (wW cy ad1 (T) X1 (wa_s T 0 0 (k_from T z1)) o1) := wl_wj hj1 rfl rfl rfl
  refine lv_istore (lv' := [(6, .int (iI (o_v (k_from T z1) (T 28 z1.toNat)))), (5, .int (iI (k_from T z1))), (0, .ref b), (1, .ref (ad1 0 0)), (2, .ref (ad1 6 0)), (3, .ref (ad1 7 0)), (4, .int (iI ((5 * n : Nat) : Int)))]) hx hb dL_law_1374 hl (by decide) rfl (fun ls hl => ?_)
  refine lv_aload_n hx hb dL_law_1376 rfl (lv_at hl 4 rfl) ?_
  refine wa_cp (kL_95 F (c_X5_thrown l D cy ad1 (T) X1 (wa_s T 0 0 (k_from T z1)) o1) ⟨by decide, by decide⟩ ⟨rfl, rfl⟩ hw hw rfl rfl rfl (Nat.le_of_ble_eq_true rfl) hl.1 dL_law_1377 ⟨Nat.le_trans (show _ ≤ 100000 by omega) (Nat.le_of_ble_eq_true rfl), Nat.le_trans (show _ ≤ 1000000 by omega) (Nat.le_of_ble_eq_true rfl)⟩) ?_
  refine lv_iload hx hb dL_law_1380 (lv_at hl 1 rfl) ?_
  have e0 := hpk.1
  refine wa_ic_eq (tgt := 1387) F dL_law_1382 (by decide) ⟨by omega, by omega⟩ ⟨by omega, by omega⟩ (fun c1 => ?_) (fun c1 => absurd (by omega) c1)
  refine lv_iload hx hb dL_law_1387 (lv_at hl 1 rfl) ?_
  refine wa_if_ne (tgt := 1404) F dL_law_1389 (by decide) ⟨by omega, by omega⟩ (fun c2 => ?_) (fun k0 => ?_)
  · skip
    refine wa_goto (tgt := 1476) F dL_law_1404 (by decide) ?_
    exact law_fin hK hpk hx1 hj1 hw hS (by omega) (by omega) (lv_sub hl [2, 3, 4, 5, 6] rfl)
  · have hv : (T 28 z1.toNat) = (o_v (k_from T z1) (T 28 z1.toNat)) := (if_pos k0).symm
    have ho1 : o1 = lO (T 28 z1.toNat) := ho k0
    refine lv_aload_n hx hb dL_law_1392 rfl (lv_at hl 5 rfl) ?_
    refine wa_const F dL_law_1393 ?_
    refine wa_lald F hw rfl 0 rfl (by decide) (by decide) dL_law_1394 ?_
    refine lv_iload hx hb dL_law_1395 (lv_at hl 0 rfl) ?_
    refine lv_i2l (v := lO (o_v (k_from T z1) (T 28 z1.toNat))) hx hb dL_law_1397 rfl ?_
    refine W.lcmp hx hb dL_law_1398 ?_
    rw [show lg_cmp o1 (lO (o_v (k_from T z1) (T 28 z1.toNat))) = iI 0 from by rw [ho1.trans (congrArg lO hv)]; exact lg_cmp_self _]
    refine wa_if_eq (tgt := 1404) F dL_law_1399 (by decide) (by decide) (fun _ => ?_) (fun c9 => absurd rfl c9)
    refine wa_goto (tgt := 1476) F dL_law_1404 (by decide) ?_
    exact law_fin hK hpk hx1 hj1 hw hS (by omega) (by omega) (lv_sub hl [2, 3, 4, 5, 6] rfl)
set_option maxRecDepth 100000 in
set_option maxHeartbeats 4000000 in
/-- oldAt -/
theorem law_c_oldAt (hF : law_F p l s m meth c D cy A b L xs) {n : Nat} (hn : n ≤ 511) (hnL : 5 * n + 5 ≤ L) (hK : law_K p l e s m below meth c D cy A b Q (n + 1) n 1476) : law_K p l e s m below meth c D cy A b Q n n 1420 := by
  intro ad X T o H locs ls hg hxr hj hw hS hl
  obtain ⟨F, hTB, hN, hA, hlt, hX, hbl, hbA, hL⟩ := id hF
  have hx := F.1.1
  have hb := F.1.2.1
  have hwf := hg.1
  have hin9 := wx_inj.of hj
  obtain ⟨z1, hz1⟩ : ∃ z : Int, z = (xs (5 * n + 1)).toInt := ⟨_, rfl⟩
  have r1 : wa_r z1 := by rw [hz1]; exact iI_rng _
  have hk : k_oldAt T z1 = 0 ∨ k_oldAt T z1 = 1 := by unfold k_oldAt; split <;> omega
  have hpk := pk.q hg (k_oldAt_r T z1)
  refine lv_aload_n hx hb dL_law_1420 rfl (lv_at hl 1 rfl) ?_
  refine lv_aload_n hx hb dL_law_1421 rfl (lv_at hl 0 rfl) ?_
  refine lv_iload hx hb dL_law_1422 (lv_at hl 4 rfl) ?_
  refine wa_const F dL_law_1424 ?_
  refine wa_add F dL_law_1425 ?_
  refine wl_sld (j := 5 * n + 1) hF hS hz1 (by omega) (by omega) dL_law_1426 ?_
  refine lv_aload_n hx hb dL_law_1427 rfl (lv_at hl 3 rfl) ?_
  refine va_calli (wl_runS F hTB hN hS (c_L_oldAt l hlt D cy ad T X T o A hj hA hwf hxr hin9 z1 r1 (T) (fun _ => rfl) (fun _ => rfl) hk) qw_645 qw_646 qw_48 qw_647 ⟨by decide, by decide, rfl⟩ ⟨by decide, by decide⟩ ⟨rfl, rfl⟩ hw rfl rfl (Nat.le_of_ble_eq_true rfl) hl.1 dL_law_1428 ⟨Nat.le_trans (show _ ≤ 100000 by omega) (Nat.le_of_ble_eq_true rfl), Nat.le_trans (show _ ≤ 1000000 by omega) (Nat.le_of_ble_eq_true rfl)⟩) hS (fun _ _ h => h) (fun _ h => h) (fun r u t H1 locs1 ht hvm hq hB hz9 hk9 hS => ?_)
  obtain ⟨⟨ad1, X1⟩, o1⟩ := u
  obtain ⟨hr, ⟨hx1, hj1, he1⟩, ho⟩ := hq
  have he1 : x_ext T ad ad1 := he1
  have hx1 : xr (T) X1 := hx1
  have hj1 : wa_wj A ad1 (wW cy ad1 (T) X1 T o1) := hj1
  have hw : wa_wd D ad1 (wW cy ad1 (T) X1 T o1) H1 := by rw [← ht]; exact hB
  rw [hr]
  have hl : lv_has ls 7 [(0, .ref b), (1, .ref (ad1 0 0)), (2, .ref (ad1 6 0)), (3, .ref (ad1 7 0)), (4, .int (iI ((5 * n : Nat) : Int)))] := by rw [he1.1 0, he1.2.2.2.2.1 0, he1.2.2.2.2.2 0]; exact hl
  refine lv_istore (lv' := [(5, .int (iI (k_oldAt T z1))), (0, .ref b), (1, .ref (ad1 0 0)), (2, .ref (ad1 6 0)), (3, .ref (ad1 7 0)), (4, .int (iI ((5 * n : Nat) : Int)))]) hx hb dL_law_1431 hl (by decide) rfl (fun ls hl => ?_)
  refine lv_aload_n hx hb dL_law_1433 rfl (lv_at hl 3 rfl) ?_
  refine lv_aload_n hx hb dL_law_1434 rfl (lv_at hl 1 rfl) ?_
  refine lv_iload hx hb dL_law_1435 (lv_at hl 5 rfl) ?_
  refine wa_const F dL_law_1437 ?_
  refine wa_add F dL_law_1438 ?_
  refine wl_sld (j := 5 * n + 1) hF hS hz1 (by omega) (by omega) dL_law_1439 ?_
  refine wa_ci (kL_174 F (c_X5_oldAt l D cy ad1 (T) X1 T o1 A hj1 hwf z1 r1) ⟨by decide, by decide⟩ ⟨rfl, rfl⟩ hw hw rfl rfl rfl (Nat.le_of_ble_eq_true rfl) hl.1 dL_law_1440 ⟨Nat.le_trans (show _ ≤ 100000 by omega) (Nat.le_of_ble_eq_true rfl), Nat.le_trans (show _ ≤ 1000000 by omega) (Nat.le_of_ble_eq_true rfl)⟩) hS (fun H2 locs2 hw hS => ?_)
  have hj2 : wa_wj A ad1 (wW cy ad1 (T) X1 (wa_s T 0 0 (k_oldAt T z1)) o1) := wl_wj hj1 rfl rfl rfl
  refine lv_istore (lv' := [(6, .int (iI (o_v (k_oldAt T z1) (f_oldAt T z1)))), (5, .int (iI (k_oldAt T z1))), (0, .ref b), (1, .ref (ad1 0 0)), (2, .ref (ad1 6 0)), (3, .ref (ad1 7 0)), (4, .int (iI ((5 * n : Nat) : Int)))]) hx hb dL_law_1443 hl (by decide) rfl (fun ls hl => ?_)
  refine lv_aload_n hx hb dL_law_1445 rfl (lv_at hl 4 rfl) ?_
  refine wa_cp (kL_95 F (c_X5_thrown l D cy ad1 (T) X1 (wa_s T 0 0 (k_oldAt T z1)) o1) ⟨by decide, by decide⟩ ⟨rfl, rfl⟩ hw hw rfl rfl rfl (Nat.le_of_ble_eq_true rfl) hl.1 dL_law_1446 ⟨Nat.le_trans (show _ ≤ 100000 by omega) (Nat.le_of_ble_eq_true rfl), Nat.le_trans (show _ ≤ 1000000 by omega) (Nat.le_of_ble_eq_true rfl)⟩) ?_
  refine lv_iload hx hb dL_law_1449 (lv_at hl 1 rfl) ?_
  have e0 := hpk.1
  refine wa_ic_eq (tgt := 1456) F dL_law_1451 (by decide) ⟨by omega, by omega⟩ ⟨by omega, by omega⟩ (fun c1 => ?_) (fun c1 => absurd (by omega) c1)
  refine lv_iload hx hb dL_law_1456 (lv_at hl 1 rfl) ?_
  refine wa_if_ne (tgt := 1473) F dL_law_1458 (by decide) ⟨by omega, by omega⟩ (fun c2 => ?_) (fun k0 => ?_)
  · skip
    refine wa_goto (tgt := 1476) F dL_law_1473 (by decide) ?_
    exact law_fin hK hpk hx1 hj1 hw hS (by omega) (by omega) (lv_sub hl [2, 3, 4, 5, 6] rfl)
  · have hv : (f_oldAt T z1) = (o_v (k_oldAt T z1) (f_oldAt T z1)) := (if_pos k0).symm
    have ho1 : o1 = lO (f_oldAt T z1) := ho k0
    refine lv_aload_n hx hb dL_law_1461 rfl (lv_at hl 5 rfl) ?_
    refine wa_const F dL_law_1462 ?_
    refine wa_lald F hw rfl 0 rfl (by decide) (by decide) dL_law_1463 ?_
    refine lv_iload hx hb dL_law_1464 (lv_at hl 0 rfl) ?_
    refine lv_i2l (v := lO (o_v (k_oldAt T z1) (f_oldAt T z1))) hx hb dL_law_1466 rfl ?_
    refine W.lcmp hx hb dL_law_1467 ?_
    rw [show lg_cmp o1 (lO (o_v (k_oldAt T z1) (f_oldAt T z1))) = iI 0 from by rw [ho1.trans (congrArg lO hv)]; exact lg_cmp_self _]
    refine wa_if_eq (tgt := 1473) F dL_law_1468 (by decide) (by decide) (fun _ => ?_) (fun c9 => absurd rfl c9)
    refine wa_goto (tgt := 1476) F dL_law_1473 (by decide) ?_
    exact law_fin hK hpk hx1 hj1 hw hS (by omega) (by omega) (lv_sub hl [2, 3, 4, 5, 6] rfl)
set_option maxRecDepth 100000 in
set_option maxHeartbeats 4000000 in
/-- layers -/
theorem law_c_layers (hF : law_F p l s m meth c D cy A b L xs) {n : Nat} (hn : n ≤ 511) (hnL : 5 * n + 5 ≤ L) (hK : law_K p l e s m below meth c D cy A b Q (n + 1) n 1476) : law_K p l e s m below meth c D cy A b Q n n 566 := by
  intro ad X T o H locs ls hg hxr hj hw hS hl
  obtain ⟨F, hTB, hN, hA, hlt, hX, hbl, hbA, hL⟩ := id hF
  have hx := F.1.1
  have hb := F.1.2.1
  have hwf := hg.1
  have hin9 := wx_inj.of hj
  have hpk := pk.q hg (k := 0) (by decide)
  refine lv_aload_n hx hb dL_law_566 rfl (lv_at hl 1 rfl) ?_
  refine wa_cp (kL_118 F (c_X4_layers l D cy ad T X T o hwf hxr hin9) ⟨by decide, by decide⟩ ⟨rfl, rfl⟩ hw hw rfl rfl rfl (Nat.le_of_ble_eq_true rfl) hl.1 dL_law_567 ⟨Nat.le_trans (show _ ≤ 100000 by omega) (Nat.le_of_ble_eq_true rfl), Nat.le_trans (show _ ≤ 1000000 by omega) (Nat.le_of_ble_eq_true rfl)⟩) ?_
  refine lv_aload_n hx hb dL_law_570 rfl (lv_at hl 2 rfl) ?_
  refine wa_ci (kL_121 F (c_X5_layers l D cy ad T X T o A hj hwf) ⟨by decide, by decide⟩ ⟨rfl, rfl⟩ hw hw rfl rfl rfl (Nat.le_of_ble_eq_true rfl) hl.1 dL_law_571 ⟨Nat.le_trans (show _ ≤ 100000 by omega) (Nat.le_of_ble_eq_true rfl), Nat.le_trans (show _ ≤ 1000000 by omega) (Nat.le_of_ble_eq_true rfl)⟩) hS (fun H2 locs2 hw hS => ?_)
  have rv : wa_r (T 12 0) := by have g := hwf.1 12 0; exact ⟨by omega, by omega⟩
  refine wa_ic_eq (tgt := 1476) F dL_law_574 (by decide) rv rv (fun _ => ?_) (fun c1 => absurd rfl c1)
  exact law_fin hK hpk hxr hj hw hS (by omega) (by omega) hl
set_option maxRecDepth 100000 in
set_option maxHeartbeats 4000000 in
/-- bakes -/
theorem law_c_bakes (hF : law_F p l s m meth c D cy A b L xs) {n : Nat} (hn : n ≤ 511) (hnL : 5 * n + 5 ≤ L) (hK : law_K p l e s m below meth c D cy A b Q (n + 1) n 1476) : law_K p l e s m below meth c D cy A b Q n n 579 := by
  intro ad X T o H locs ls hg hxr hj hw hS hl
  obtain ⟨F, hTB, hN, hA, hlt, hX, hbl, hbA, hL⟩ := id hF
  have hx := F.1.1
  have hb := F.1.2.1
  have hwf := hg.1
  have hin9 := wx_inj.of hj
  have hpk := pk.q hg (k := 0) (by decide)
  refine lv_aload_n hx hb dL_law_579 rfl (lv_at hl 1 rfl) ?_
  refine wa_cp (kL_122 F (c_X4_bakes l D cy ad T X T o hwf hxr hin9) ⟨by decide, by decide⟩ ⟨rfl, rfl⟩ hw hw rfl rfl rfl (Nat.le_of_ble_eq_true rfl) hl.1 dL_law_580 ⟨Nat.le_trans (show _ ≤ 100000 by omega) (Nat.le_of_ble_eq_true rfl), Nat.le_trans (show _ ≤ 1000000 by omega) (Nat.le_of_ble_eq_true rfl)⟩) ?_
  refine lv_aload_n hx hb dL_law_583 rfl (lv_at hl 2 rfl) ?_
  refine wa_ci (kL_125 F (c_X5_bakes l D cy ad T X T o A hj hwf) ⟨by decide, by decide⟩ ⟨rfl, rfl⟩ hw hw rfl rfl rfl (Nat.le_of_ble_eq_true rfl) hl.1 dL_law_584 ⟨Nat.le_trans (show _ ≤ 100000 by omega) (Nat.le_of_ble_eq_true rfl), Nat.le_trans (show _ ≤ 1000000 by omega) (Nat.le_of_ble_eq_true rfl)⟩) hS (fun H2 locs2 hw hS => ?_)
  have rv : wa_r (T 21 0) := by have g := hwf.1 21 0; exact ⟨by omega, by omega⟩
  refine wa_ic_eq (tgt := 1476) F dL_law_587 (by decide) rv rv (fun _ => ?_) (fun c1 => absurd rfl c1)
  exact law_fin hK hpk hxr hj hw hS (by omega) (by omega) hl
set_option maxRecDepth 100000 in
set_option maxHeartbeats 4000000 in
/-- old -/
theorem law_c_old (hF : law_F p l s m meth c D cy A b L xs) {n : Nat} (hn : n ≤ 511) (hnL : 5 * n + 5 ≤ L) (hK : law_K p l e s m below meth c D cy A b Q (n + 1) n 1476) : law_K p l e s m below meth c D cy A b Q n n 1407 := by
  intro ad X T o H locs ls hg hxr hj hw hS hl
  obtain ⟨F, hTB, hN, hA, hlt, hX, hbl, hbA, hL⟩ := id hF
  have hx := F.1.1
  have hb := F.1.2.1
  have hwf := hg.1
  have hin9 := wx_inj.of hj
  have hpk := pk.q hg (k := 0) (by decide)
  refine lv_aload_n hx hb dL_law_1407 rfl (lv_at hl 1 rfl) ?_
  refine wx_ci (kL_168 F (c_X4_old l D cy ad T X T o A hj hwf hxr hin9) ⟨by decide, by decide⟩ ⟨rfl, rfl⟩ hw hw rfl rfl rfl (Nat.le_of_ble_eq_true rfl) hl.1 dL_law_1408 ⟨Nat.le_trans (show _ ≤ 100000 by omega) (Nat.le_of_ble_eq_true rfl), Nat.le_trans (show _ ≤ 1000000 by omega) (Nat.le_of_ble_eq_true rfl)⟩) hS (fun X1 H1 locs1 hx1 hw hS => ?_)
  have hj1 : wa_wj A ad (wW cy ad T X1 T o) := wl_wj hj rfl rfl rfl
  refine lv_aload_n hx hb dL_law_1411 rfl (lv_at hl 2 rfl) ?_
  refine wa_ci (kL_171 F (c_X5_old l D cy ad T X1 T o A hj1 hwf) ⟨by decide, by decide⟩ ⟨rfl, rfl⟩ hw hw rfl rfl rfl (Nat.le_of_ble_eq_true rfl) hl.1 dL_law_1412 ⟨Nat.le_trans (show _ ≤ 100000 by omega) (Nat.le_of_ble_eq_true rfl), Nat.le_trans (show _ ≤ 1000000 by omega) (Nat.le_of_ble_eq_true rfl)⟩) hS (fun H2 locs2 hw hS => ?_)
  have w29 := hwf.2.2.2.2.1
  have rv : wa_r (f_cnt (f_isOld T) (T 29 0).toNat) := by have g := f_cnt_rng (f_isOld T) (T 29 0).toNat; exact ⟨by omega, by omega⟩
  have ev : f_cnt (fun u => f_isOld (wa_s T 0 0 0) u) (T 29 0).toNat = f_cnt (f_isOld T) (T 29 0).toNat := rfl
  refine wa_ic_eq (tgt := 1476) F dL_law_1415 (by decide) rv (by rw [ev]; exact rv) (fun _ => ?_) (fun c1 => absurd ev.symm c1)
  exact law_fin hK hpk hx1 hj1 hw hS (by omega) (by omega) hl
end WLC
