/-! the law: its helpers (laid by program) -/
set_option maxRecDepth 100000 in
set_option maxHeartbeats 4000000 in
/-- add -/
theorem c_L_add (l : Launch) (hlt : l.stackTraces = false) (D : va_G) (cy : Nat → ClassId) (ad : Nat → Nat → Nat) (S X T : wa_St) (o : Int64) (A : Nat → Prop) (hj : wa_wj A ad (wW cy ad S X T o)) (hA : wa_Up A) (hwf : wf S) (hxr : xr S X) (hin : wx_inj ad S) (z : Int) (rz : wa_r z) (h6 : ∀ j : Nat, S 8 0 ≤ (j : Int) → S 6 j = 0) (h5 : ∀ j : Nat, 5 * S 8 0 ≤ (j : Int) → S 5 j = 0) (S1 : wa_St) (h1 : k_add S z = 0 → S1 = a_add S z) (h2 : k_add S z ≠ 0 → S1 = S) (hk : k_add S z = 0 ∨ k_add S z = 1 ∨ k_add S z = 2) : Met l yL_add [.codeWith yL_add cL_add 4 (Option.some FieldType.int) [(0, 9, 12, 13), (0, 9, 15, 15)]] ({ frames := 8, cells := 3, slots := 18, locals := 127 } : Room) (wl_pc [.ref (ad 0 0), .int (iI z), .ref (ad 7 0)] D cy A (fun H => wa_wd D ad (wW cy ad S X T o) H)) (wl_Q A D cy ad T S S1 (k_add S z) (S 8 0)) 3 18 A := by
  refine wl_en (by decide +kernel) (Nat.le_of_ble_eq_true rfl) ?_
  intro p e s m args below meth c F hTB hN htab hw ls hl
  have F : wa_fx p s m c meth args cL_add 4 RL "add" (Option.some FieldType.int) D cy := F
  have hw : wa_wd D ad (wW cy ad S X T o) s.heap := hw
  have hl : lv_has ls 4 [(0, .ref (ad 0 0)), (1, .int (iI z)), (2, .ref (ad 7 0))] := hl
  have hx := F.1.1
  have hb := F.1.2.1
  have hS : va_S A s.heap s.heap [] := va_S.rf
  refine lv_aload_n hx hb dL_add_0 rfl (lv_at hl 2 rfl) ?_
  refine wa_const F dL_add_1 ?_
  refine lv_aload_n hx hb dL_add_2 rfl (lv_at hl 0 rfl) ?_
  refine lv_iload_n hx hb dL_add_3 rfl (lv_at hl 1 rfl) ?_
  refine wl_ci (vL_7 F hTB hS (c_X4_add l hlt D cy ad S X T o A hj hA hwf hxr hin z rz h6 h5) ⟨by decide, by decide⟩ ⟨rfl, rfl⟩ hw hw rfl rfl rfl (Nat.le_of_ble_eq_true rfl) hl.1 dL_add_4 ⟨(Nat.le_of_ble_eq_true rfl), (Nat.le_of_ble_eq_true rfl)⟩) hS (fun E ce q9 u H1 locs1 hE hk0 hp hB hS hce hcv hcl => ?_) (fun u H1 locs1 hK hp hB hS => ?_)
  · obtain ⟨ad1, X1⟩ := u
    have e1 := (h2 hk0).symm
    subst e1
    rcases hk with hk | hk | hk
    · exact absurd hk hk0
    · have hE : E = "java/lang/IndexOutOfBoundsException" := by rw [hE, hk]; rfl
      subst hE
      refine vx_catch F.1.2.2.2.1 ([] : List ExceptionTableEntry) ⟨0, 9, 12, 13⟩ ([⟨0, 9, 15, 15⟩] : List ExceptionTableEntry) htab (fun z hz => by cases hz) rfl (by decide) (F.1.2.2.2.2 _ qw_198) (va_Nw.use rfl (F.2.1.2.1 _ qn_162)) hce hcv hcl ?_
      refine lv_astore_n (lv' := [(3, .ref q9), (0, .ref (ad 0 0)), (1, .int (iI z)), (2, .ref (ad 7 0))]) hx hb dL_add_12 rfl hl (by decide) rfl (fun ls hl => ?_)
      refine wa_const F dL_add_13 ?_
      refine W.widen (k := 3) (n := 18) (Nat.le_of_ble_eq_true rfl) (Nat.le_of_ble_eq_true rfl) ?_
      exact wa_eI (((ad1, X1), o) : ((Nat → Nat → Nat) × wa_St) × Int64) F ⟨congrArg iI hk.symm, hp, fun q => absurd (hk.symm.trans q) (by decide)⟩ hB hS dL_add_14
    · have hE : E = "java/lang/IllegalStateException" := by rw [hE, hk]; rfl
      subst hE
      refine vx_catch F.1.2.2.2.1 ([⟨0, 9, 12, 13⟩] : List ExceptionTableEntry) ⟨0, 9, 15, 15⟩ ([] : List ExceptionTableEntry) htab (fun z hz => by rw [List.mem_singleton.mp hz]; exact Or.inr ⟨by decide, _, F.1.2.2.2.2 _ qw_198, hN.1⟩) rfl (by decide) (F.1.2.2.2.2 _ qw_199) (va_Nw.use rfl (F.2.1.2.1 _ qn_230)) hce hcv hcl ?_
      refine lv_astore_n (lv' := [(3, .ref q9), (0, .ref (ad 0 0)), (1, .int (iI z)), (2, .ref (ad 7 0))]) hx hb dL_add_15 rfl hl (by decide) rfl (fun ls hl => ?_)
      refine wa_const F dL_add_16 ?_
      refine W.widen (k := 3) (n := 18) (Nat.le_of_ble_eq_true rfl) (Nat.le_of_ble_eq_true rfl) ?_
      exact wa_eI (((ad1, X1), o) : ((Nat → Nat → Nat) × wa_St) × Int64) F ⟨congrArg iI hk.symm, hp, fun q => absurd (hk.symm.trans q) (by decide)⟩ hB hS dL_add_17
  · obtain ⟨ad1, X1⟩ := u
    have e1 := (h1 hK).symm
    subst e1
    obtain ⟨hx1, hj1, he1⟩ := hp
    have hw : wa_wd D ad1 (wW cy ad1 (a_add S z) X1 T o) H1 := hB
    refine lv_i2l (v := lO (S 8 0)) hx hb dL_add_7 rfl ?_
    refine wl_last 7 0 (he1.2.2.2.2.2 0).symm F hw hj1 hS rfl dL_add_8 (fun H2 locs2 hw hS => ?_)
    rw [wl_o] at hw
    have hj2 := hj1.put (C := wW cy ad1 (a_add S z) X1 T o) (kd := 7) (i := 0) (e := wa_aL (cy 5) 1 (fun _ => lO (S 8 0))) rfl
    rw [wl_o] at hj2
    refine wa_goto (tgt := 18) F dL_add_9 (by decide) ?_
    refine wa_const F dL_add_18 ?_
    refine W.widen (k := 3) (n := 18) (Nat.le_of_ble_eq_true rfl) (Nat.le_of_ble_eq_true rfl) ?_
    exact wa_eI (((ad1, X1), lO (S 8 0)) : ((Nat → Nat → Nat) × wa_St) × Int64) F ⟨congrArg iI hK.symm, ⟨hx1, hj2, he1⟩, fun _ => rfl⟩ hw hS dL_add_19
set_option maxRecDepth 100000 in
set_option maxHeartbeats 4000000 in
/-- step -/
theorem c_L_step (l : Launch) (hlt : l.stackTraces = false) (D : va_G) (cy : Nat → ClassId) (ad : Nat → Nat → Nat) (S X T : wa_St) (o : Int64) (A : Nat → Prop) (hj : wa_wj A ad (wW cy ad S X T o)) (hA : wa_Up A) (hwf : wf S) (hxr : xr S X) (hin : wx_inj ad S) (i : Int) (ri : wa_r i) (q : Int) (rq : wa_r q) (S1 : wa_St) (h1 : k_step S i q = 0 → S1 = a_step S i q) (h2 : k_step S i q ≠ 0 → S1 = S) (hk : k_step S i q = 0 ∨ k_step S i q = 1 ∨ k_step S i q = 2 ∨ k_step S i q = 3) : Met l yL_step [.codeWith yL_step cL_step 5 (Option.some FieldType.int) [(0, 10, 13, 13), (0, 10, 17, 21), (0, 10, 21, 15)]] ({ frames := 8, cells := 2, slots := 12, locals := 127 } : Room) (wl_pc [.ref (ad 0 0), .int (iI i), .int (iI q), .ref (ad 7 0)] D cy A (fun H => wa_wd D ad (wW cy ad S X T o) H)) (wl_Q A D cy ad T S S1 (k_step S i q) (S 6 i.toNat + 1)) 2 12 A := by
  refine wl_en (by decide +kernel) (Nat.le_of_ble_eq_true rfl) ?_
  intro p e s m args below meth c F hTB hN htab hw ls hl
  have F : wa_fx p s m c meth args cL_step 5 RL "step" (Option.some FieldType.int) D cy := F
  have hw : wa_wd D ad (wW cy ad S X T o) s.heap := hw
  have hl : lv_has ls 5 [(0, .ref (ad 0 0)), (1, .int (iI i)), (2, .int (iI q)), (3, .ref (ad 7 0))] := hl
  have hx := F.1.1
  have hb := F.1.2.1
  have hS : va_S A s.heap s.heap [] := va_S.rf
  refine lv_aload_n hx hb dL_step_0 rfl (lv_at hl 3 rfl) ?_
  refine wa_const F dL_step_1 ?_
  refine lv_aload_n hx hb dL_step_2 rfl (lv_at hl 0 rfl) ?_
  refine lv_iload_n hx hb dL_step_3 rfl (lv_at hl 1 rfl) ?_
  refine lv_iload_n hx hb dL_step_4 rfl (lv_at hl 2 rfl) ?_
  refine wl_ci (vL_17 F hTB hS (c_X4_step l hlt D cy ad S X T o A hj hA hwf hxr hin i ri q rq) ⟨by decide, by decide⟩ ⟨rfl, rfl⟩ hw hw rfl rfl rfl (Nat.le_of_ble_eq_true rfl) hl.1 dL_step_5 ⟨(Nat.le_of_ble_eq_true rfl), (Nat.le_of_ble_eq_true rfl)⟩) hS (fun E ce q9 u H1 locs1 hE hk0 hp hB hS hce hcv hcl => ?_) (fun u H1 locs1 hK hp hB hS => ?_)
  · obtain ⟨ad1, X1⟩ := u
    have e1 := (h2 hk0).symm
    subst e1
    rcases hk with hk | hk | hk | hk
    · exact absurd hk hk0
    · have hE : E = "java/lang/IndexOutOfBoundsException" := by rw [hE, hk]; rfl
      subst hE
      refine vx_catch F.1.2.2.2.1 ([] : List ExceptionTableEntry) ⟨0, 10, 13, 13⟩ ([⟨0, 10, 17, 21⟩, ⟨0, 10, 21, 15⟩] : List ExceptionTableEntry) htab (fun z hz => by cases hz) rfl (by decide) (F.1.2.2.2.2 _ qw_198) (va_Nw.use rfl (F.2.1.2.1 _ qn_162)) hce hcv hcl ?_
      refine lv_astore (lv' := [(4, .ref q9), (0, .ref (ad 0 0)), (1, .int (iI i)), (2, .int (iI q)), (3, .ref (ad 7 0))]) hx hb dL_step_13 hl (by decide) rfl (fun ls hl => ?_)
      refine wa_const F dL_step_15 ?_
      refine W.widen (k := 2) (n := 12) (Nat.le_of_ble_eq_true rfl) (Nat.le_of_ble_eq_true rfl) ?_
      exact wa_eI (((ad1, X1), o) : ((Nat → Nat → Nat) × wa_St) × Int64) F ⟨congrArg iI hk.symm, hp, fun q => absurd (hk.symm.trans q) (by decide)⟩ hB hS dL_step_16
    · have hE : E = "java/lang/IllegalArgumentException" := by rw [hE, hk]; rfl
      subst hE
      refine vx_catch F.1.2.2.2.1 ([⟨0, 10, 13, 13⟩] : List ExceptionTableEntry) ⟨0, 10, 17, 21⟩ ([⟨0, 10, 21, 15⟩] : List ExceptionTableEntry) htab (fun z hz => by rw [List.mem_singleton.mp hz]; exact Or.inr ⟨by decide, _, F.1.2.2.2.2 _ qw_198, hN.2.1⟩) rfl (by decide) (F.1.2.2.2.2 _ qw_323) (va_Nw.use rfl (F.2.1.2.1 _ qn_282)) hce hcv hcl ?_
      refine lv_astore (lv' := [(4, .ref q9), (0, .ref (ad 0 0)), (1, .int (iI i)), (2, .int (iI q)), (3, .ref (ad 7 0))]) hx hb dL_step_17 hl (by decide) rfl (fun ls hl => ?_)
      refine wa_const F dL_step_19 ?_
      refine W.widen (k := 2) (n := 12) (Nat.le_of_ble_eq_true rfl) (Nat.le_of_ble_eq_true rfl) ?_
      exact wa_eI (((ad1, X1), o) : ((Nat → Nat → Nat) × wa_St) × Int64) F ⟨congrArg iI hk.symm, hp, fun q => absurd (hk.symm.trans q) (by decide)⟩ hB hS dL_step_20
    · have hE : E = "java/lang/IllegalStateException" := by rw [hE, hk]; rfl
      subst hE
      refine vx_catch F.1.2.2.2.1 ([⟨0, 10, 13, 13⟩, ⟨0, 10, 17, 21⟩] : List ExceptionTableEntry) ⟨0, 10, 21, 15⟩ ([] : List ExceptionTableEntry) htab (fun z hz => by
        rcases List.mem_cons.mp hz with rfl | hz
        · exact Or.inr ⟨by decide, _, F.1.2.2.2.2 _ qw_198, hN.1⟩
        · rw [List.mem_singleton.mp hz]; exact Or.inr ⟨by decide, _, F.1.2.2.2.2 _ qw_323, hN.2.2⟩) rfl (by decide) (F.1.2.2.2.2 _ qw_199) (va_Nw.use rfl (F.2.1.2.1 _ qn_230)) hce hcv hcl ?_
      refine lv_astore (lv' := [(4, .ref q9), (0, .ref (ad 0 0)), (1, .int (iI i)), (2, .int (iI q)), (3, .ref (ad 7 0))]) hx hb dL_step_21 hl (by decide) rfl (fun ls hl => ?_)
      refine wa_const F dL_step_23 ?_
      refine W.widen (k := 2) (n := 12) (Nat.le_of_ble_eq_true rfl) (Nat.le_of_ble_eq_true rfl) ?_
      exact wa_eI (((ad1, X1), o) : ((Nat → Nat → Nat) × wa_St) × Int64) F ⟨congrArg iI hk.symm, hp, fun q => absurd (hk.symm.trans q) (by decide)⟩ hB hS dL_step_24
  · obtain ⟨ad1, X1⟩ := u
    have e1 := (h1 hK).symm
    subst e1
    obtain ⟨hx1, hj1, he1⟩ := hp
    have hw : wa_wd D ad1 (wW cy ad1 (a_step S i q) X1 T o) H1 := hB
    refine lv_i2l (v := lO (S 6 i.toNat + 1)) hx hb dL_step_8 rfl ?_
    refine wl_last 7 0 (he1.2.2.2.2.2 0).symm F hw hj1 hS rfl dL_step_9 (fun H2 locs2 hw hS => ?_)
    rw [wl_o] at hw
    have hj2 := hj1.put (C := wW cy ad1 (a_step S i q) X1 T o) (kd := 7) (i := 0) (e := wa_aL (cy 5) 1 (fun _ => lO (S 6 i.toNat + 1))) rfl
    rw [wl_o] at hj2
    refine wa_goto (tgt := 25) F dL_step_10 (by decide) ?_
    refine wa_const F dL_step_25 ?_
    refine W.widen (k := 2) (n := 12) (Nat.le_of_ble_eq_true rfl) (Nat.le_of_ble_eq_true rfl) ?_
    exact wa_eI (((ad1, X1), lO (S 6 i.toNat + 1)) : ((Nat → Nat → Nat) × wa_St) × Int64) F ⟨congrArg iI hK.symm, ⟨hx1, hj2, he1⟩, fun _ => rfl⟩ hw hS dL_step_26
set_option maxRecDepth 100000 in
set_option maxHeartbeats 4000000 in
/-- change -/
theorem c_L_change (l : Launch) (hlt : l.stackTraces = false) (D : va_G) (cy : Nat → ClassId) (ad : Nat → Nat → Nat) (S X T : wa_St) (o : Int64) (A : Nat → Prop) (hj : wa_wj A ad (wW cy ad S X T o)) (hA : wa_Up A) (hwf : wf S) (hxr : xr S X) (hin : wx_inj ad S) (q v : Int) (rq : wa_r q) (rv : wa_r v) (S1 : wa_St) (h1 : k_change S q v = 0 → S1 = a_change S q v) (h2 : k_change S q v ≠ 0 → S1 = S) (hk : k_change S q v = 0 ∨ k_change S q v = 1) : Met l yL_change [.codeWith yL_change cL_change 5 (Option.some FieldType.int) [(0, 10, 13, 21)]] ({ frames := 7, cells := 1, slots := 6, locals := 104 } : Room) (wl_pc [.ref (ad 0 0), .int (iI q), .int (iI v), .ref (ad 7 0)] D cy A (fun H => wa_wd D ad (wW cy ad S X T o) H)) (wl_Q A D cy ad T S S1 (k_change S q v) ((a_change S q v) 2 q.toNat)) 1 6 A := by
  refine wl_en (by decide +kernel) (Nat.le_of_ble_eq_true rfl) ?_
  intro p e s m args below meth c F hTB hN htab hw ls hl
  have F : wa_fx p s m c meth args cL_change 5 RL "change" (Option.some FieldType.int) D cy := F
  have hw : wa_wd D ad (wW cy ad S X T o) s.heap := hw
  have hl : lv_has ls 5 [(0, .ref (ad 0 0)), (1, .int (iI q)), (2, .int (iI v)), (3, .ref (ad 7 0))] := hl
  have hx := F.1.1
  have hb := F.1.2.1
  have hS : va_S A s.heap s.heap [] := va_S.rf
  refine lv_aload_n hx hb dL_change_0 rfl (lv_at hl 3 rfl) ?_
  refine wa_const F dL_change_1 ?_
  refine lv_aload_n hx hb dL_change_2 rfl (lv_at hl 0 rfl) ?_
  refine lv_iload_n hx hb dL_change_3 rfl (lv_at hl 1 rfl) ?_
  refine lv_iload_n hx hb dL_change_4 rfl (lv_at hl 2 rfl) ?_
  refine wl_ci (vL_23 F hTB hS (c_X4_change l hlt D cy ad S X T o A hj hA hwf hxr hin q v rq rv) ⟨by decide, by decide⟩ ⟨rfl, rfl⟩ hw hw rfl rfl rfl (Nat.le_of_ble_eq_true rfl) hl.1 dL_change_5 ⟨(Nat.le_of_ble_eq_true rfl), (Nat.le_of_ble_eq_true rfl)⟩) hS (fun E ce q9 u H1 locs1 hE hk0 hp hB hS hce hcv hcl => ?_) (fun u H1 locs1 hK hp hB hS => ?_)
  · obtain ⟨ad1, X1⟩ := u
    have e1 := (h2 hk0).symm
    subst e1
    rcases hk with hk | hk
    · exact absurd hk hk0
    · have hE : E = "java/lang/IllegalArgumentException" := by rw [hE, hk]; rfl
      subst hE
      refine vx_catch F.1.2.2.2.1 ([] : List ExceptionTableEntry) ⟨0, 10, 13, 21⟩ ([] : List ExceptionTableEntry) htab (fun z hz => by cases hz) rfl (by decide) (F.1.2.2.2.2 _ qw_323) (va_Nw.use rfl (F.2.1.2.1 _ qn_282)) hce hcv hcl ?_
      refine lv_astore (lv' := [(4, .ref q9), (0, .ref (ad 0 0)), (1, .int (iI q)), (2, .int (iI v)), (3, .ref (ad 7 0))]) hx hb dL_change_13 hl (by decide) rfl (fun ls hl => ?_)
      refine wa_const F dL_change_15 ?_
      refine W.widen (k := 1) (n := 6) (Nat.le_of_ble_eq_true rfl) (Nat.le_of_ble_eq_true rfl) ?_
      exact wa_eI (((ad1, X1), o) : ((Nat → Nat → Nat) × wa_St) × Int64) F ⟨congrArg iI hk.symm, hp, fun q => absurd (hk.symm.trans q) (by decide)⟩ hB hS dL_change_16
  · obtain ⟨ad1, X1⟩ := u
    have e1 := (h1 hK).symm
    subst e1
    obtain ⟨hx1, hj1, he1⟩ := hp
    have hw : wa_wd D ad1 (wW cy ad1 (a_change S q v) X1 T o) H1 := hB
    refine lv_i2l (v := lO ((a_change S q v) 2 q.toNat)) hx hb dL_change_8 rfl ?_
    refine wl_last 7 0 (he1.2.2.2.2.2 0).symm F hw hj1 hS rfl dL_change_9 (fun H2 locs2 hw hS => ?_)
    rw [wl_o] at hw
    have hj2 := hj1.put (C := wW cy ad1 (a_change S q v) X1 T o) (kd := 7) (i := 0) (e := wa_aL (cy 5) 1 (fun _ => lO ((a_change S q v) 2 q.toNat))) rfl
    rw [wl_o] at hj2
    refine wa_goto (tgt := 17) F dL_change_10 (by decide) ?_
    refine wa_const F dL_change_17 ?_
    refine W.widen (k := 1) (n := 6) (Nat.le_of_ble_eq_true rfl) (Nat.le_of_ble_eq_true rfl) ?_
    exact wa_eI (((ad1, X1), lO ((a_change S q v) 2 q.toNat)) : ((Nat → Nat → Nat) × wa_St) × Int64) F ⟨congrArg iI hK.symm, ⟨hx1, hj2, he1⟩, fun _ => rfl⟩ hw hS dL_change_18
set_option maxRecDepth 100000 in
set_option maxHeartbeats 4000000 in
/-- bake -/
theorem c_L_bake (l : Launch) (hlt : l.stackTraces = false) (D : va_G) (cy : Nat → ClassId) (ad : Nat → Nat → Nat) (S X T : wa_St) (o : Int64) (A : Nat → Prop) (hj : wa_wj A ad (wW cy ad S X T o)) (hA : wa_Up A) (hwf : wf S) (hxr : xr S X) (hin : wx_inj ad S) (i : Int) (ri : wa_r i) (l5 : S 21 0 < 60 → S 12 0 ≤ 295) (S1 : wa_St) (h1 : j_bake S i = 0 → S1 = x_bn S i) (h2 : j_bake S i ≠ 0 → S1 = S) (hk : j_bake S i = 0 ∨ j_bake S i = 1 ∨ j_bake S i = 2) : Met l yL_bake [.codeWith yL_bake cL_bake 4 (Option.some FieldType.int) [(0, 9, 12, 13), (0, 9, 15, 15)]] ({ frames := 8, cells := 3, slots := 18, locals := 163 } : Room) (wl_pc [.ref (ad 0 0), .int (iI i), .ref (ad 7 0)] D cy A (fun H => wa_wd D ad (wW cy ad S X T o) H)) (wl_Q A D cy ad T S S1 (j_bake S i) ((x_bn S i) 7 i.toNat)) 3 18 A := by
  refine wl_en (by decide +kernel) (Nat.le_of_ble_eq_true rfl) ?_
  intro p e s m args below meth c F hTB hN htab hw ls hl
  have F : wa_fx p s m c meth args cL_bake 4 RL "bake" (Option.some FieldType.int) D cy := F
  have hw : wa_wd D ad (wW cy ad S X T o) s.heap := hw
  have hl : lv_has ls 4 [(0, .ref (ad 0 0)), (1, .int (iI i)), (2, .ref (ad 7 0))] := hl
  have hx := F.1.1
  have hb := F.1.2.1
  have hS : va_S A s.heap s.heap [] := va_S.rf
  refine lv_aload_n hx hb dL_bake_0 rfl (lv_at hl 2 rfl) ?_
  refine wa_const F dL_bake_1 ?_
  refine lv_aload_n hx hb dL_bake_2 rfl (lv_at hl 0 rfl) ?_
  refine lv_iload_n hx hb dL_bake_3 rfl (lv_at hl 1 rfl) ?_
  refine wl_ci (vL_26 F hTB hS (c_X4_bake l hlt D cy ad S X T o A hj hA hwf hxr hin i ri l5) ⟨by decide, by decide⟩ ⟨rfl, rfl⟩ hw hw rfl rfl rfl (Nat.le_of_ble_eq_true rfl) hl.1 dL_bake_4 ⟨(Nat.le_of_ble_eq_true rfl), (Nat.le_of_ble_eq_true rfl)⟩) hS (fun E ce q9 u H1 locs1 hE hk0 hp hB hS hce hcv hcl => ?_) (fun u H1 locs1 hK hp hB hS => ?_)
  · obtain ⟨ad1, X1⟩ := u
    have e1 := (h2 hk0).symm
    subst e1
    rcases hk with hk | hk | hk
    · exact absurd hk hk0
    · have hE : E = "java/lang/IndexOutOfBoundsException" := by rw [hE, hk]; rfl
      subst hE
      refine vx_catch F.1.2.2.2.1 ([] : List ExceptionTableEntry) ⟨0, 9, 12, 13⟩ ([⟨0, 9, 15, 15⟩] : List ExceptionTableEntry) htab (fun z hz => by cases hz) rfl (by decide) (F.1.2.2.2.2 _ qw_198) (va_Nw.use rfl (F.2.1.2.1 _ qn_162)) hce hcv hcl ?_
      refine lv_astore_n (lv' := [(3, .ref q9), (0, .ref (ad 0 0)), (1, .int (iI i)), (2, .ref (ad 7 0))]) hx hb dL_bake_12 rfl hl (by decide) rfl (fun ls hl => ?_)
      refine wa_const F dL_bake_13 ?_
      refine W.widen (k := 3) (n := 18) (Nat.le_of_ble_eq_true rfl) (Nat.le_of_ble_eq_true rfl) ?_
      exact wa_eI (((ad1, X1), o) : ((Nat → Nat → Nat) × wa_St) × Int64) F ⟨congrArg iI hk.symm, hp, fun q => absurd (hk.symm.trans q) (by decide)⟩ hB hS dL_bake_14
    · have hE : E = "java/lang/IllegalStateException" := by rw [hE, hk]; rfl
      subst hE
      refine vx_catch F.1.2.2.2.1 ([⟨0, 9, 12, 13⟩] : List ExceptionTableEntry) ⟨0, 9, 15, 15⟩ ([] : List ExceptionTableEntry) htab (fun z hz => by rw [List.mem_singleton.mp hz]; exact Or.inr ⟨by decide, _, F.1.2.2.2.2 _ qw_198, hN.1⟩) rfl (by decide) (F.1.2.2.2.2 _ qw_199) (va_Nw.use rfl (F.2.1.2.1 _ qn_230)) hce hcv hcl ?_
      refine lv_astore_n (lv' := [(3, .ref q9), (0, .ref (ad 0 0)), (1, .int (iI i)), (2, .ref (ad 7 0))]) hx hb dL_bake_15 rfl hl (by decide) rfl (fun ls hl => ?_)
      refine wa_const F dL_bake_16 ?_
      refine W.widen (k := 3) (n := 18) (Nat.le_of_ble_eq_true rfl) (Nat.le_of_ble_eq_true rfl) ?_
      exact wa_eI (((ad1, X1), o) : ((Nat → Nat → Nat) × wa_St) × Int64) F ⟨congrArg iI hk.symm, hp, fun q => absurd (hk.symm.trans q) (by decide)⟩ hB hS dL_bake_17
  · obtain ⟨ad1, X1⟩ := u
    have e1 := (h1 hK).symm
    subst e1
    obtain ⟨hx1, hj1, he1⟩ := hp
    have hw : wa_wd D ad1 (wW cy ad1 (x_bn S i) X1 T o) H1 := hB
    refine lv_i2l (v := lO ((x_bn S i) 7 i.toNat)) hx hb dL_bake_7 rfl ?_
    refine wl_last 7 0 (he1.2.2.2.2.2 0).symm F hw hj1 hS rfl dL_bake_8 (fun H2 locs2 hw hS => ?_)
    rw [wl_o] at hw
    have hj2 := hj1.put (C := wW cy ad1 (x_bn S i) X1 T o) (kd := 7) (i := 0) (e := wa_aL (cy 5) 1 (fun _ => lO ((x_bn S i) 7 i.toNat))) rfl
    rw [wl_o] at hj2
    refine wa_goto (tgt := 18) F dL_bake_9 (by decide) ?_
    refine wa_const F dL_bake_18 ?_
    refine W.widen (k := 3) (n := 18) (Nat.le_of_ble_eq_true rfl) (Nat.le_of_ble_eq_true rfl) ?_
    exact wa_eI (((ad1, X1), lO ((x_bn S i) 7 i.toNat)) : ((Nat → Nat → Nat) × wa_St) × Int64) F ⟨congrArg iI hK.symm, ⟨hx1, hj2, he1⟩, fun _ => rfl⟩ hw hS dL_bake_19
set_option maxRecDepth 100000 in
set_option maxHeartbeats 4000000 in
/-- bakeAll -/
theorem c_L_bakeAll (l : Launch) (hlt : l.stackTraces = false) (D : va_G) (cy : Nat → ClassId) (ad : Nat → Nat → Nat) (S X T : wa_St) (o : Int64) (A : Nat → Prop) (hj : wa_wj A ad (wW cy ad S X T o)) (hA : wa_Up A) (hwf : wf S) (hxr : xr S X) (hin : wx_inj ad S) (l5 : S 12 0 ≤ 5 * S 21 0) (S1 : wa_St) (h1 : j_all S = 0 → S1 = x_ba (x_L S X) 10 0 S) (h2 : j_all S ≠ 0 → S1 = S) (hk : j_all S = 0 ∨ j_all S = 1) : Met l yL_bakeAll [.codeWith yL_bakeAll cL_bakeAll 3 (Option.some FieldType.int) [(0, 8, 11, 15)]] ({ frames := 7, cells := 20, slots := 120, locals := 166 } : Room) (wl_pc [.ref (ad 0 0), .ref (ad 7 0)] D cy A (fun H => wa_wd D ad (wW cy ad S X T o) H)) (wl_Q A D cy ad T S S1 (j_all S) (x_ba (x_L S X) 10 0 S 21 0 - S 21 0)) 20 120 A := by
  refine wl_en (by decide +kernel) (Nat.le_of_ble_eq_true rfl) ?_
  intro p e s m args below meth c F hTB hN htab hw ls hl
  have F : wa_fx p s m c meth args cL_bakeAll 3 RL "bakeAll" (Option.some FieldType.int) D cy := F
  have hw : wa_wd D ad (wW cy ad S X T o) s.heap := hw
  have hl : lv_has ls 3 [(0, .ref (ad 0 0)), (1, .ref (ad 7 0))] := hl
  have hx := F.1.1
  have hb := F.1.2.1
  have hS : va_S A s.heap s.heap [] := va_S.rf
  refine lv_aload_n hx hb dL_bakeAll_0 rfl (lv_at hl 1 rfl) ?_
  refine wa_const F dL_bakeAll_1 ?_
  refine lv_aload_n hx hb dL_bakeAll_2 rfl (lv_at hl 0 rfl) ?_
  refine wl_ci (vL_29 F hTB hS (c_X4_bakeAll l hlt D cy ad S X T o A hj hA hwf hxr hin l5) ⟨by decide, by decide⟩ ⟨rfl, rfl⟩ hw hw rfl rfl rfl (Nat.le_of_ble_eq_true rfl) hl.1 dL_bakeAll_3 ⟨(Nat.le_of_ble_eq_true rfl), (Nat.le_of_ble_eq_true rfl)⟩) hS (fun E ce q9 u H1 locs1 hE hk0 hp hB hS hce hcv hcl => ?_) (fun u H1 locs1 hK hp hB hS => ?_)
  · obtain ⟨ad1, X1⟩ := u
    have e1 := (h2 hk0).symm
    subst e1
    rcases hk with hk | hk
    · exact absurd hk hk0
    · have hE : E = "java/lang/IllegalStateException" := by rw [hE, hk]; rfl
      subst hE
      refine vx_catch F.1.2.2.2.1 ([] : List ExceptionTableEntry) ⟨0, 8, 11, 15⟩ ([] : List ExceptionTableEntry) htab (fun z hz => by cases hz) rfl (by decide) (F.1.2.2.2.2 _ qw_199) (va_Nw.use rfl (F.2.1.2.1 _ qn_230)) hce hcv hcl ?_
      refine lv_astore_n (lv' := [(2, .ref q9), (0, .ref (ad 0 0)), (1, .ref (ad 7 0))]) hx hb dL_bakeAll_11 rfl hl (by decide) rfl (fun ls hl => ?_)
      refine wa_const F dL_bakeAll_12 ?_
      refine W.widen (k := 20) (n := 120) (Nat.le_of_ble_eq_true rfl) (Nat.le_of_ble_eq_true rfl) ?_
      exact wa_eI (((ad1, X1), o) : ((Nat → Nat → Nat) × wa_St) × Int64) F ⟨congrArg iI hk.symm, hp, fun q => absurd (hk.symm.trans q) (by decide)⟩ hB hS dL_bakeAll_13
  · obtain ⟨ad1, X1⟩ := u
    have e1 := (h1 hK).symm
    subst e1
    obtain ⟨hx1, hj1, he1⟩ := hp
    have hw : wa_wd D ad1 (wW cy ad1 (x_ba (x_L S X) 10 0 S) X1 T o) H1 := hB
    refine lv_i2l (v := lO (x_ba (x_L S X) 10 0 S 21 0 - S 21 0)) hx hb dL_bakeAll_6 rfl ?_
    refine wl_last 7 0 (he1.2.2.2.2.2 0).symm F hw hj1 hS rfl dL_bakeAll_7 (fun H2 locs2 hw hS => ?_)
    rw [wl_o] at hw
    have hj2 := hj1.put (C := wW cy ad1 (x_ba (x_L S X) 10 0 S) X1 T o) (kd := 7) (i := 0) (e := wa_aL (cy 5) 1 (fun _ => lO (x_ba (x_L S X) 10 0 S 21 0 - S 21 0))) rfl
    rw [wl_o] at hj2
    refine wa_goto (tgt := 14) F dL_bakeAll_8 (by decide) ?_
    refine wa_const F dL_bakeAll_14 ?_
    refine W.widen (k := 20) (n := 120) (Nat.le_of_ble_eq_true rfl) (Nat.le_of_ble_eq_true rfl) ?_
    exact wa_eI (((ad1, X1), lO (x_ba (x_L S X) 10 0 S 21 0 - S 21 0)) : ((Nat → Nat → Nat) × wa_St) × Int64) F ⟨congrArg iI hK.symm, ⟨hx1, hj2, he1⟩, fun _ => rfl⟩ hw hS dL_bakeAll_15
set_option maxRecDepth 100000 in
set_option maxHeartbeats 4000000 in
/-- isFresh -/
theorem c_L_isFresh (l : Launch) (hlt : l.stackTraces = false) (D : va_G) (cy : Nat → ClassId) (ad : Nat → Nat → Nat) (S X T : wa_St) (o : Int64) (A : Nat → Prop) (hj : wa_wj A ad (wW cy ad S X T o)) (hA : wa_Up A) (hwf : wf S) (hxr : xr S X) (hin : wx_inj ad S) (i : Int) (ri : wa_r i) (S1 : wa_St) (h1 : k_img S i = 0 → S1 = S) (h2 : k_img S i ≠ 0 → S1 = S) (hk : k_img S i = 0 ∨ k_img S i = 1) : Met l yL_isFresh [.codeWith yL_isFresh cL_isFresh 4 (Option.some FieldType.int) [(0, 16, 19, 13)]] ({ frames := 8, cells := 1, slots := 6, locals := 136 } : Room) (wl_pc [.ref (ad 0 0), .int (iI i), .ref (ad 7 0)] D cy A (fun H => wa_wd D ad (wW cy ad S X T o) H)) (wl_Q A D cy ad T S S1 (k_img S i) (bI (x_frs S 10 i = true))) 1 6 A := by
  refine wl_en (by decide +kernel) (Nat.le_of_ble_eq_true rfl) ?_
  intro p e s m args below meth c F hTB hN htab hw ls hl
  have F : wa_fx p s m c meth args cL_isFresh 4 RL "isFresh" (Option.some FieldType.int) D cy := F
  have hw : wa_wd D ad (wW cy ad S X T o) s.heap := hw
  have hl : lv_has ls 4 [(0, .ref (ad 0 0)), (1, .int (iI i)), (2, .ref (ad 7 0))] := hl
  have hx := F.1.1
  have hb := F.1.2.1
  have hS : va_S A s.heap s.heap [] := va_S.rf
  refine lv_aload_n hx hb dL_isFresh_0 rfl (lv_at hl 2 rfl) ?_
  refine wa_const F dL_isFresh_1 ?_
  refine lv_aload_n hx hb dL_isFresh_2 rfl (lv_at hl 0 rfl) ?_
  refine lv_iload_n hx hb dL_isFresh_3 rfl (lv_at hl 1 rfl) ?_
  refine wl_ci (vL_33 F hTB hS (c_X4_isFresh l hlt D cy ad S X T o A hj hA hwf hxr hin i ri) ⟨by decide, by decide⟩ ⟨rfl, rfl⟩ hw hw rfl rfl rfl (Nat.le_of_ble_eq_true rfl) hl.1 dL_isFresh_4 ⟨(Nat.le_of_ble_eq_true rfl), (Nat.le_of_ble_eq_true rfl)⟩) hS (fun E ce q9 u H1 locs1 hE hk0 hp hB hS hce hcv hcl => ?_) (fun u H1 locs1 hK hp hB hS => ?_)
  · obtain ⟨ad1, X1⟩ := u
    have e1 := (h2 hk0).symm
    subst e1
    rcases hk with hk | hk
    · exact absurd hk hk0
    · have hE : E = "java/lang/IndexOutOfBoundsException" := by rw [hE, hk]; rfl
      subst hE
      refine vx_catch F.1.2.2.2.1 ([] : List ExceptionTableEntry) ⟨0, 16, 19, 13⟩ ([] : List ExceptionTableEntry) htab (fun z hz => by cases hz) rfl (by decide) (F.1.2.2.2.2 _ qw_198) (va_Nw.use rfl (F.2.1.2.1 _ qn_162)) hce hcv hcl ?_
      refine lv_astore_n (lv' := [(3, .ref q9), (0, .ref (ad 0 0)), (1, .int (iI i)), (2, .ref (ad 7 0))]) hx hb dL_isFresh_19 rfl hl (by decide) rfl (fun ls hl => ?_)
      refine wa_const F dL_isFresh_20 ?_
      refine W.widen (k := 1) (n := 6) (Nat.le_of_ble_eq_true rfl) (Nat.le_of_ble_eq_true rfl) ?_
      exact wa_eI (((ad1, X1), o) : ((Nat → Nat → Nat) × wa_St) × Int64) F ⟨congrArg iI hk.symm, hp, fun q => absurd (hk.symm.trans q) (by decide)⟩ hB hS dL_isFresh_21
  · obtain ⟨ad1, X1⟩ := u
    have e1 := (h1 hK).symm
    subst e1
    obtain ⟨hx1, hj1, he1⟩ := hp
    have hw : wa_wd D ad1 (wW cy ad1 (S) X1 T o) H1 := hB
    have hv := bI_01 (x_frs S 10 i = true)
    refine wa_if_eq (tgt := 14) F dL_isFresh_7 (by decide) (by rcases hv with q | q <;> rw [q] <;> decide) (fun cz => ?_) (fun cz => ?_)
    · have ev : bI (x_frs S 10 i = true) = 0 := cz
      refine lv_lconst (v := lO (bI (x_frs S 10 i = true))) hx hb dL_isFresh_14 (by rw [ev]; decide +kernel) ?_
      refine wl_last 7 0 (he1.2.2.2.2.2 0).symm F hw hj1 hS rfl dL_isFresh_15 (fun H2 locs2 hw hS => ?_)
      rw [wl_o] at hw
      have hj2 := hj1.put (C := wW cy ad1 (S) X1 T o) (kd := 7) (i := 0) (e := wa_aL (cy 5) 1 (fun _ => lO (bI (x_frs S 10 i = true)))) rfl
      rw [wl_o] at hj2
      refine wa_goto (tgt := 22) F dL_isFresh_16 (by decide) ?_
      refine wa_const F dL_isFresh_22 ?_
      refine W.widen (k := 1) (n := 6) (Nat.le_of_ble_eq_true rfl) (Nat.le_of_ble_eq_true rfl) ?_
      exact wa_eI (((ad1, X1), lO (bI (x_frs S 10 i = true))) : ((Nat → Nat → Nat) × wa_St) × Int64) F ⟨congrArg iI hK.symm, ⟨hx1, hj2, he1⟩, fun _ => rfl⟩ hw hS dL_isFresh_23
    · have ev : bI (x_frs S 10 i = true) = 1 := by omega
      refine lv_lconst (v := lO (bI (x_frs S 10 i = true))) hx hb dL_isFresh_10 (by rw [ev]; decide +kernel) ?_
      refine wa_goto (tgt := 15) F dL_isFresh_11 (by decide) ?_
      refine wl_last 7 0 (he1.2.2.2.2.2 0).symm F hw hj1 hS rfl dL_isFresh_15 (fun H2 locs2 hw hS => ?_)
      rw [wl_o] at hw
      have hj2 := hj1.put (C := wW cy ad1 (S) X1 T o) (kd := 7) (i := 0) (e := wa_aL (cy 5) 1 (fun _ => lO (bI (x_frs S 10 i = true)))) rfl
      rw [wl_o] at hj2
      refine wa_goto (tgt := 22) F dL_isFresh_16 (by decide) ?_
      refine wa_const F dL_isFresh_22 ?_
      refine W.widen (k := 1) (n := 6) (Nat.le_of_ble_eq_true rfl) (Nat.le_of_ble_eq_true rfl) ?_
      exact wa_eI (((ad1, X1), lO (bI (x_frs S 10 i = true))) : ((Nat → Nat → Nat) × wa_St) × Int64) F ⟨congrArg iI hK.symm, ⟨hx1, hj2, he1⟩, fun _ => rfl⟩ hw hS dL_isFresh_23
set_option maxRecDepth 100000 in
set_option maxHeartbeats 4000000 in
/-- isFreshAnew -/
theorem c_L_isFreshAnew (l : Launch) (hlt : l.stackTraces = false) (D : va_G) (cy : Nat → ClassId) (ad : Nat → Nat → Nat) (S X T : wa_St) (o : Int64) (A : Nat → Prop) (hj : wa_wj A ad (wW cy ad S X T o)) (hA : wa_Up A) (hwf : wf S) (hxr : xr S X) (hin : wx_inj ad S) (i : Int) (ri : wa_r i) (S1 : wa_St) (h1 : k_img S i = 0 → S1 = S) (h2 : k_img S i ≠ 0 → S1 = S) (hk : k_img S i = 0 ∨ k_img S i = 1) : Met l yL_isFreshAnew [.codeWith yL_isFreshAnew cL_isFreshAnew 4 (Option.some FieldType.int) [(0, 16, 19, 13)]] ({ frames := 8, cells := 1, slots := 6, locals := 126 } : Room) (wl_pc [.ref (ad 0 0), .int (iI i), .ref (ad 7 0)] D cy A (fun H => wa_wd D ad (wW cy ad S X T o) H)) (wl_Q A D cy ad T S S1 (k_img S i) (bI (x_mds S 10 i = true))) 1 6 A := by
  refine wl_en (by decide +kernel) (Nat.le_of_ble_eq_true rfl) ?_
  intro p e s m args below meth c F hTB hN htab hw ls hl
  have F : wa_fx p s m c meth args cL_isFreshAnew 4 RL "isFreshAnew" (Option.some FieldType.int) D cy := F
  have hw : wa_wd D ad (wW cy ad S X T o) s.heap := hw
  have hl : lv_has ls 4 [(0, .ref (ad 0 0)), (1, .int (iI i)), (2, .ref (ad 7 0))] := hl
  have hx := F.1.1
  have hb := F.1.2.1
  have hS : va_S A s.heap s.heap [] := va_S.rf
  refine lv_aload_n hx hb dL_isFreshAnew_0 rfl (lv_at hl 2 rfl) ?_
  refine wa_const F dL_isFreshAnew_1 ?_
  refine lv_aload_n hx hb dL_isFreshAnew_2 rfl (lv_at hl 0 rfl) ?_
  refine lv_iload_n hx hb dL_isFreshAnew_3 rfl (lv_at hl 1 rfl) ?_
  refine wl_ci (vL_37 F hTB hS (c_X4_isFreshAnew l hlt D cy ad S X T o A hj hA hwf hxr hin i ri) ⟨by decide, by decide⟩ ⟨rfl, rfl⟩ hw hw rfl rfl rfl (Nat.le_of_ble_eq_true rfl) hl.1 dL_isFreshAnew_4 ⟨(Nat.le_of_ble_eq_true rfl), (Nat.le_of_ble_eq_true rfl)⟩) hS (fun E ce q9 u H1 locs1 hE hk0 hp hB hS hce hcv hcl => ?_) (fun u H1 locs1 hK hp hB hS => ?_)
  · obtain ⟨ad1, X1⟩ := u
    have e1 := (h2 hk0).symm
    subst e1
    rcases hk with hk | hk
    · exact absurd hk hk0
    · have hE : E = "java/lang/IndexOutOfBoundsException" := by rw [hE, hk]; rfl
      subst hE
      refine vx_catch F.1.2.2.2.1 ([] : List ExceptionTableEntry) ⟨0, 16, 19, 13⟩ ([] : List ExceptionTableEntry) htab (fun z hz => by cases hz) rfl (by decide) (F.1.2.2.2.2 _ qw_198) (va_Nw.use rfl (F.2.1.2.1 _ qn_162)) hce hcv hcl ?_
      refine lv_astore_n (lv' := [(3, .ref q9), (0, .ref (ad 0 0)), (1, .int (iI i)), (2, .ref (ad 7 0))]) hx hb dL_isFreshAnew_19 rfl hl (by decide) rfl (fun ls hl => ?_)
      refine wa_const F dL_isFreshAnew_20 ?_
      refine W.widen (k := 1) (n := 6) (Nat.le_of_ble_eq_true rfl) (Nat.le_of_ble_eq_true rfl) ?_
      exact wa_eI (((ad1, X1), o) : ((Nat → Nat → Nat) × wa_St) × Int64) F ⟨congrArg iI hk.symm, hp, fun q => absurd (hk.symm.trans q) (by decide)⟩ hB hS dL_isFreshAnew_21
  · obtain ⟨ad1, X1⟩ := u
    have e1 := (h1 hK).symm
    subst e1
    obtain ⟨hx1, hj1, he1⟩ := hp
    have hw : wa_wd D ad1 (wW cy ad1 (S) X1 T o) H1 := hB
    have hv := bI_01 (x_mds S 10 i = true)
    refine wa_if_eq (tgt := 14) F dL_isFreshAnew_7 (by decide) (by rcases hv with q | q <;> rw [q] <;> decide) (fun cz => ?_) (fun cz => ?_)
    · have ev : bI (x_mds S 10 i = true) = 0 := cz
      refine lv_lconst (v := lO (bI (x_mds S 10 i = true))) hx hb dL_isFreshAnew_14 (by rw [ev]; decide +kernel) ?_
      refine wl_last 7 0 (he1.2.2.2.2.2 0).symm F hw hj1 hS rfl dL_isFreshAnew_15 (fun H2 locs2 hw hS => ?_)
      rw [wl_o] at hw
      have hj2 := hj1.put (C := wW cy ad1 (S) X1 T o) (kd := 7) (i := 0) (e := wa_aL (cy 5) 1 (fun _ => lO (bI (x_mds S 10 i = true)))) rfl
      rw [wl_o] at hj2
      refine wa_goto (tgt := 22) F dL_isFreshAnew_16 (by decide) ?_
      refine wa_const F dL_isFreshAnew_22 ?_
      refine W.widen (k := 1) (n := 6) (Nat.le_of_ble_eq_true rfl) (Nat.le_of_ble_eq_true rfl) ?_
      exact wa_eI (((ad1, X1), lO (bI (x_mds S 10 i = true))) : ((Nat → Nat → Nat) × wa_St) × Int64) F ⟨congrArg iI hK.symm, ⟨hx1, hj2, he1⟩, fun _ => rfl⟩ hw hS dL_isFreshAnew_23
    · have ev : bI (x_mds S 10 i = true) = 1 := by omega
      refine lv_lconst (v := lO (bI (x_mds S 10 i = true))) hx hb dL_isFreshAnew_10 (by rw [ev]; decide +kernel) ?_
      refine wa_goto (tgt := 15) F dL_isFreshAnew_11 (by decide) ?_
      refine wl_last 7 0 (he1.2.2.2.2.2 0).symm F hw hj1 hS rfl dL_isFreshAnew_15 (fun H2 locs2 hw hS => ?_)
      rw [wl_o] at hw
      have hj2 := hj1.put (C := wW cy ad1 (S) X1 T o) (kd := 7) (i := 0) (e := wa_aL (cy 5) 1 (fun _ => lO (bI (x_mds S 10 i = true)))) rfl
      rw [wl_o] at hj2
      refine wa_goto (tgt := 22) F dL_isFreshAnew_16 (by decide) ?_
      refine wa_const F dL_isFreshAnew_22 ?_
      refine W.widen (k := 1) (n := 6) (Nat.le_of_ble_eq_true rfl) (Nat.le_of_ble_eq_true rfl) ?_
      exact wa_eI (((ad1, X1), lO (bI (x_mds S 10 i = true))) : ((Nat → Nat → Nat) × wa_St) × Int64) F ⟨congrArg iI hK.symm, ⟨hx1, hj2, he1⟩, fun _ => rfl⟩ hw hS dL_isFreshAnew_23
set_option maxRecDepth 100000 in
set_option maxHeartbeats 4000000 in
/-- latest -/
theorem c_L_latest (l : Launch) (hlt : l.stackTraces = false) (D : va_G) (cy : Nat → ClassId) (ad : Nat → Nat → Nat) (S X T : wa_St) (o : Int64) (A : Nat → Prop) (hj : wa_wj A ad (wW cy ad S X T o)) (hA : wa_Up A) (hwf : wf S) (hxr : xr S X) (hin : wx_inj ad S) (i : Int) (ri : wa_r i) (S1 : wa_St) (h1 : k_img S i = 0 → S1 = S) (h2 : k_img S i ≠ 0 → S1 = S) (hk : k_img S i = 0 ∨ k_img S i = 1) : Met l yL_latest [.codeWith yL_latest cL_latest 4 (Option.some FieldType.int) [(0, 9, 12, 13)]] ({ frames := 8, cells := 1, slots := 6, locals := 125 } : Room) (wl_pc [.ref (ad 0 0), .int (iI i), .ref (ad 7 0)] D cy A (fun H => wa_wd D ad (wW cy ad S X T o) H)) (wl_Q A D cy ad T S S1 (k_img S i) (S 7 i.toNat)) 1 6 A := by
  refine wl_en (by decide +kernel) (Nat.le_of_ble_eq_true rfl) ?_
  intro p e s m args below meth c F hTB hN htab hw ls hl
  have F : wa_fx p s m c meth args cL_latest 4 RL "latest" (Option.some FieldType.int) D cy := F
  have hw : wa_wd D ad (wW cy ad S X T o) s.heap := hw
  have hl : lv_has ls 4 [(0, .ref (ad 0 0)), (1, .int (iI i)), (2, .ref (ad 7 0))] := hl
  have hx := F.1.1
  have hb := F.1.2.1
  have hS : va_S A s.heap s.heap [] := va_S.rf
  refine lv_aload_n hx hb dL_latest_0 rfl (lv_at hl 2 rfl) ?_
  refine wa_const F dL_latest_1 ?_
  refine lv_aload_n hx hb dL_latest_2 rfl (lv_at hl 0 rfl) ?_
  refine lv_iload_n hx hb dL_latest_3 rfl (lv_at hl 1 rfl) ?_
  refine wl_ci (vL_40 F hTB hS (c_X4_latest l hlt D cy ad S X T o A hj hA hwf hxr hin i ri) ⟨by decide, by decide⟩ ⟨rfl, rfl⟩ hw hw rfl rfl rfl (Nat.le_of_ble_eq_true rfl) hl.1 dL_latest_4 ⟨(Nat.le_of_ble_eq_true rfl), (Nat.le_of_ble_eq_true rfl)⟩) hS (fun E ce q9 u H1 locs1 hE hk0 hp hB hS hce hcv hcl => ?_) (fun u H1 locs1 hK hp hB hS => ?_)
  · obtain ⟨ad1, X1⟩ := u
    have e1 := (h2 hk0).symm
    subst e1
    rcases hk with hk | hk
    · exact absurd hk hk0
    · have hE : E = "java/lang/IndexOutOfBoundsException" := by rw [hE, hk]; rfl
      subst hE
      refine vx_catch F.1.2.2.2.1 ([] : List ExceptionTableEntry) ⟨0, 9, 12, 13⟩ ([] : List ExceptionTableEntry) htab (fun z hz => by cases hz) rfl (by decide) (F.1.2.2.2.2 _ qw_198) (va_Nw.use rfl (F.2.1.2.1 _ qn_162)) hce hcv hcl ?_
      refine lv_astore_n (lv' := [(3, .ref q9), (0, .ref (ad 0 0)), (1, .int (iI i)), (2, .ref (ad 7 0))]) hx hb dL_latest_12 rfl hl (by decide) rfl (fun ls hl => ?_)
      refine wa_const F dL_latest_13 ?_
      refine W.widen (k := 1) (n := 6) (Nat.le_of_ble_eq_true rfl) (Nat.le_of_ble_eq_true rfl) ?_
      exact wa_eI (((ad1, X1), o) : ((Nat → Nat → Nat) × wa_St) × Int64) F ⟨congrArg iI hk.symm, hp, fun q => absurd (hk.symm.trans q) (by decide)⟩ hB hS dL_latest_14
  · obtain ⟨ad1, X1⟩ := u
    have e1 := (h1 hK).symm
    subst e1
    obtain ⟨hx1, hj1, he1⟩ := hp
    have hw : wa_wd D ad1 (wW cy ad1 (S) X1 T o) H1 := hB
    refine lv_i2l (v := lO (S 7 i.toNat)) hx hb dL_latest_7 rfl ?_
    refine wl_last 7 0 (he1.2.2.2.2.2 0).symm F hw hj1 hS rfl dL_latest_8 (fun H2 locs2 hw hS => ?_)
    rw [wl_o] at hw
    have hj2 := hj1.put (C := wW cy ad1 (S) X1 T o) (kd := 7) (i := 0) (e := wa_aL (cy 5) 1 (fun _ => lO (S 7 i.toNat))) rfl
    rw [wl_o] at hj2
    refine wa_goto (tgt := 15) F dL_latest_9 (by decide) ?_
    refine wa_const F dL_latest_15 ?_
    refine W.widen (k := 1) (n := 6) (Nat.le_of_ble_eq_true rfl) (Nat.le_of_ble_eq_true rfl) ?_
    exact wa_eI (((ad1, X1), lO (S 7 i.toNat)) : ((Nat → Nat → Nat) × wa_St) × Int64) F ⟨congrArg iI hK.symm, ⟨hx1, hj2, he1⟩, fun _ => rfl⟩ hw hS dL_latest_16
set_option maxRecDepth 100000 in
set_option maxHeartbeats 4000000 in
/-- top -/
theorem c_L_top (l : Launch) (hlt : l.stackTraces = false) (D : va_G) (cy : Nat → ClassId) (ad : Nat → Nat → Nat) (S X T : wa_St) (o : Int64) (A : Nat → Prop) (hj : wa_wj A ad (wW cy ad S X T o)) (hA : wa_Up A) (hwf : wf S) (hxr : xr S X) (hin : wx_inj ad S) (b9 : Int) (rb9 : wa_r b9) (S1 : wa_St) (h1 : k_bk S b9 = 0 → S1 = S) (h2 : k_bk S b9 ≠ 0 → S1 = S) (hk : k_bk S b9 = 0 ∨ k_bk S b9 = 1) : Met l yL_top [.codeWith yL_top cL_top 4 (Option.some FieldType.int) [(0, 9, 12, 13)]] ({ frames := 8, cells := 1, slots := 6, locals := 125 } : Room) (wl_pc [.ref (ad 0 0), .int (iI b9), .ref (ad 7 0)] D cy A (fun H => wa_wd D ad (wW cy ad S X T o) H)) (wl_Q A D cy ad T S S1 (k_bk S b9) (S 14 b9.toNat)) 1 6 A := by
  refine wl_en (by decide +kernel) (Nat.le_of_ble_eq_true rfl) ?_
  intro p e s m args below meth c F hTB hN htab hw ls hl
  have F : wa_fx p s m c meth args cL_top 4 RL "top" (Option.some FieldType.int) D cy := F
  have hw : wa_wd D ad (wW cy ad S X T o) s.heap := hw
  have hl : lv_has ls 4 [(0, .ref (ad 0 0)), (1, .int (iI b9)), (2, .ref (ad 7 0))] := hl
  have hx := F.1.1
  have hb := F.1.2.1
  have hS : va_S A s.heap s.heap [] := va_S.rf
  refine lv_aload_n hx hb dL_top_0 rfl (lv_at hl 2 rfl) ?_
  refine wa_const F dL_top_1 ?_
  refine lv_aload_n hx hb dL_top_2 rfl (lv_at hl 0 rfl) ?_
  refine lv_iload_n hx hb dL_top_3 rfl (lv_at hl 1 rfl) ?_
  refine wl_ci (vL_43 F hTB hS (c_X4_top l hlt D cy ad S X T o A hj hA hwf hxr hin b9 rb9) ⟨by decide, by decide⟩ ⟨rfl, rfl⟩ hw hw rfl rfl rfl (Nat.le_of_ble_eq_true rfl) hl.1 dL_top_4 ⟨(Nat.le_of_ble_eq_true rfl), (Nat.le_of_ble_eq_true rfl)⟩) hS (fun E ce q9 u H1 locs1 hE hk0 hp hB hS hce hcv hcl => ?_) (fun u H1 locs1 hK hp hB hS => ?_)
  · obtain ⟨ad1, X1⟩ := u
    have e1 := (h2 hk0).symm
    subst e1
    rcases hk with hk | hk
    · exact absurd hk hk0
    · have hE : E = "java/lang/IndexOutOfBoundsException" := by rw [hE, hk]; rfl
      subst hE
      refine vx_catch F.1.2.2.2.1 ([] : List ExceptionTableEntry) ⟨0, 9, 12, 13⟩ ([] : List ExceptionTableEntry) htab (fun z hz => by cases hz) rfl (by decide) (F.1.2.2.2.2 _ qw_198) (va_Nw.use rfl (F.2.1.2.1 _ qn_162)) hce hcv hcl ?_
      refine lv_astore_n (lv' := [(3, .ref q9), (0, .ref (ad 0 0)), (1, .int (iI b9)), (2, .ref (ad 7 0))]) hx hb dL_top_12 rfl hl (by decide) rfl (fun ls hl => ?_)
      refine wa_const F dL_top_13 ?_
      refine W.widen (k := 1) (n := 6) (Nat.le_of_ble_eq_true rfl) (Nat.le_of_ble_eq_true rfl) ?_
      exact wa_eI (((ad1, X1), o) : ((Nat → Nat → Nat) × wa_St) × Int64) F ⟨congrArg iI hk.symm, hp, fun q => absurd (hk.symm.trans q) (by decide)⟩ hB hS dL_top_14
  · obtain ⟨ad1, X1⟩ := u
    have e1 := (h1 hK).symm
    subst e1
    obtain ⟨hx1, hj1, he1⟩ := hp
    have hw : wa_wd D ad1 (wW cy ad1 (S) X1 T o) H1 := hB
    refine lv_i2l (v := lO (S 14 b9.toNat)) hx hb dL_top_7 rfl ?_
    refine wl_last 7 0 (he1.2.2.2.2.2 0).symm F hw hj1 hS rfl dL_top_8 (fun H2 locs2 hw hS => ?_)
    rw [wl_o] at hw
    have hj2 := hj1.put (C := wW cy ad1 (S) X1 T o) (kd := 7) (i := 0) (e := wa_aL (cy 5) 1 (fun _ => lO (S 14 b9.toNat))) rfl
    rw [wl_o] at hj2
    refine wa_goto (tgt := 15) F dL_top_9 (by decide) ?_
    refine wa_const F dL_top_15 ?_
    refine W.widen (k := 1) (n := 6) (Nat.le_of_ble_eq_true rfl) (Nat.le_of_ble_eq_true rfl) ?_
    exact wa_eI (((ad1, X1), lO (S 14 b9.toNat)) : ((Nat → Nat → Nat) × wa_St) × Int64) F ⟨congrArg iI hK.symm, ⟨hx1, hj2, he1⟩, fun _ => rfl⟩ hw hS dL_top_16
set_option maxRecDepth 100000 in
set_option maxHeartbeats 4000000 in
/-- test -/
theorem c_L_test (l : Launch) (hlt : l.stackTraces = false) (D : va_G) (cy : Nat → ClassId) (ad : Nat → Nat → Nat) (S X T : wa_St) (o : Int64) (A : Nat → Prop) (hj : wa_wj A ad (wW cy ad S X T o)) (hA : wa_Up A) (hwf : wf S) (hxr : xr S X) (hin : wx_inj ad S) (b9 : Int) (rb9 : wa_r b9) (q : Int) (rq : 0 ≤ q ∧ q ≤ 1) (S1 : wa_St) (h1 : k_test S b9 = 0 → S1 = a_test S b9 q) (h2 : k_test S b9 ≠ 0 → S1 = S) (hk : k_test S b9 = 0 ∨ k_test S b9 = 1 ∨ k_test S b9 = 2) : Met l yL_test [.codeWith yL_test cL_test 5 (Option.some FieldType.int) [(0, 17, 20, 13), (0, 17, 24, 15)]] ({ frames := 8, cells := 2, slots := 12, locals := 127 } : Room) (wl_pc [.ref (ad 0 0), .int (iI b9), .int (iI q), .ref (ad 7 0)] D cy A (fun H => wa_wd D ad (wW cy ad S X T o) H)) (wl_Q A D cy ad T S S1 (k_test S b9) (bI (S 17 b9.toNat ≠ 0 ∨ q = 0))) 2 12 A := by
  refine wl_en (by decide +kernel) (Nat.le_of_ble_eq_true rfl) ?_
  intro p e s m args below meth c F hTB hN htab hw ls hl
  have F : wa_fx p s m c meth args cL_test 5 RL "test" (Option.some FieldType.int) D cy := F
  have hw : wa_wd D ad (wW cy ad S X T o) s.heap := hw
  have hl : lv_has ls 5 [(0, .ref (ad 0 0)), (1, .int (iI b9)), (2, .int (iI q)), (3, .ref (ad 7 0))] := hl
  have hx := F.1.1
  have hb := F.1.2.1
  have hS : va_S A s.heap s.heap [] := va_S.rf
  refine lv_aload_n hx hb dL_test_0 rfl (lv_at hl 3 rfl) ?_
  refine wa_const F dL_test_1 ?_
  refine lv_aload_n hx hb dL_test_2 rfl (lv_at hl 0 rfl) ?_
  refine lv_iload_n hx hb dL_test_3 rfl (lv_at hl 1 rfl) ?_
  refine lv_iload_n hx hb dL_test_4 rfl (lv_at hl 2 rfl) ?_
  refine wl_ci (vL_46 F hTB hS (c_X4_test l hlt D cy ad S X T o A hj hA hwf hxr hin b9 rb9 q rq) ⟨by decide, by decide⟩ ⟨rfl, rfl⟩ hw hw rfl rfl rfl (Nat.le_of_ble_eq_true rfl) hl.1 dL_test_5 ⟨(Nat.le_of_ble_eq_true rfl), (Nat.le_of_ble_eq_true rfl)⟩) hS (fun E ce q9 u H1 locs1 hE hk0 hp hB hS hce hcv hcl => ?_) (fun u H1 locs1 hK hp hB hS => ?_)
  · obtain ⟨ad1, X1⟩ := u
    have e1 := (h2 hk0).symm
    subst e1
    rcases hk with hk | hk | hk
    · exact absurd hk hk0
    · have hE : E = "java/lang/IndexOutOfBoundsException" := by rw [hE, hk]; rfl
      subst hE
      refine vx_catch F.1.2.2.2.1 ([] : List ExceptionTableEntry) ⟨0, 17, 20, 13⟩ ([⟨0, 17, 24, 15⟩] : List ExceptionTableEntry) htab (fun z hz => by cases hz) rfl (by decide) (F.1.2.2.2.2 _ qw_198) (va_Nw.use rfl (F.2.1.2.1 _ qn_162)) hce hcv hcl ?_
      refine lv_astore (lv' := [(4, .ref q9), (0, .ref (ad 0 0)), (1, .int (iI b9)), (2, .int (iI q)), (3, .ref (ad 7 0))]) hx hb dL_test_20 hl (by decide) rfl (fun ls hl => ?_)
      refine wa_const F dL_test_22 ?_
      refine W.widen (k := 2) (n := 12) (Nat.le_of_ble_eq_true rfl) (Nat.le_of_ble_eq_true rfl) ?_
      exact wa_eI (((ad1, X1), o) : ((Nat → Nat → Nat) × wa_St) × Int64) F ⟨congrArg iI hk.symm, hp, fun q => absurd (hk.symm.trans q) (by decide)⟩ hB hS dL_test_23
    · have hE : E = "java/lang/IllegalStateException" := by rw [hE, hk]; rfl
      subst hE
      refine vx_catch F.1.2.2.2.1 ([⟨0, 17, 20, 13⟩] : List ExceptionTableEntry) ⟨0, 17, 24, 15⟩ ([] : List ExceptionTableEntry) htab (fun z hz => by rw [List.mem_singleton.mp hz]; exact Or.inr ⟨by decide, _, F.1.2.2.2.2 _ qw_198, hN.1⟩) rfl (by decide) (F.1.2.2.2.2 _ qw_199) (va_Nw.use rfl (F.2.1.2.1 _ qn_230)) hce hcv hcl ?_
      refine lv_astore (lv' := [(4, .ref q9), (0, .ref (ad 0 0)), (1, .int (iI b9)), (2, .int (iI q)), (3, .ref (ad 7 0))]) hx hb dL_test_24 hl (by decide) rfl (fun ls hl => ?_)
      refine wa_const F dL_test_26 ?_
      refine W.widen (k := 2) (n := 12) (Nat.le_of_ble_eq_true rfl) (Nat.le_of_ble_eq_true rfl) ?_
      exact wa_eI (((ad1, X1), o) : ((Nat → Nat → Nat) × wa_St) × Int64) F ⟨congrArg iI hk.symm, hp, fun q => absurd (hk.symm.trans q) (by decide)⟩ hB hS dL_test_27
  · obtain ⟨ad1, X1⟩ := u
    have e1 := (h1 hK).symm
    subst e1
    obtain ⟨hx1, hj1, he1⟩ := hp
    have hw : wa_wd D ad1 (wW cy ad1 (a_test S b9 q) X1 T o) H1 := hB
    have hv := bI_01 (S 17 b9.toNat ≠ 0 ∨ q = 0)
    refine wa_if_eq (tgt := 15) F dL_test_8 (by decide) (by rcases hv with q | q <;> rw [q] <;> decide) (fun cz => ?_) (fun cz => ?_)
    · have ev : bI (S 17 b9.toNat ≠ 0 ∨ q = 0) = 0 := cz
      refine lv_lconst (v := lO (bI (S 17 b9.toNat ≠ 0 ∨ q = 0))) hx hb dL_test_15 (by rw [ev]; decide +kernel) ?_
      refine wl_last 7 0 (he1.2.2.2.2.2 0).symm F hw hj1 hS rfl dL_test_16 (fun H2 locs2 hw hS => ?_)
      rw [wl_o] at hw
      have hj2 := hj1.put (C := wW cy ad1 (a_test S b9 q) X1 T o) (kd := 7) (i := 0) (e := wa_aL (cy 5) 1 (fun _ => lO (bI (S 17 b9.toNat ≠ 0 ∨ q = 0)))) rfl
      rw [wl_o] at hj2
      refine wa_goto (tgt := 28) F dL_test_17 (by decide) ?_
      refine wa_const F dL_test_28 ?_
      refine W.widen (k := 2) (n := 12) (Nat.le_of_ble_eq_true rfl) (Nat.le_of_ble_eq_true rfl) ?_
      exact wa_eI (((ad1, X1), lO (bI (S 17 b9.toNat ≠ 0 ∨ q = 0))) : ((Nat → Nat → Nat) × wa_St) × Int64) F ⟨congrArg iI hK.symm, ⟨hx1, hj2, he1⟩, fun _ => rfl⟩ hw hS dL_test_29
    · have ev : bI (S 17 b9.toNat ≠ 0 ∨ q = 0) = 1 := by omega
      refine lv_lconst (v := lO (bI (S 17 b9.toNat ≠ 0 ∨ q = 0))) hx hb dL_test_11 (by rw [ev]; decide +kernel) ?_
      refine wa_goto (tgt := 16) F dL_test_12 (by decide) ?_
      refine wl_last 7 0 (he1.2.2.2.2.2 0).symm F hw hj1 hS rfl dL_test_16 (fun H2 locs2 hw hS => ?_)
      rw [wl_o] at hw
      have hj2 := hj1.put (C := wW cy ad1 (a_test S b9 q) X1 T o) (kd := 7) (i := 0) (e := wa_aL (cy 5) 1 (fun _ => lO (bI (S 17 b9.toNat ≠ 0 ∨ q = 0)))) rfl
      rw [wl_o] at hj2
      refine wa_goto (tgt := 28) F dL_test_17 (by decide) ?_
      refine wa_const F dL_test_28 ?_
      refine W.widen (k := 2) (n := 12) (Nat.le_of_ble_eq_true rfl) (Nat.le_of_ble_eq_true rfl) ?_
      exact wa_eI (((ad1, X1), lO (bI (S 17 b9.toNat ≠ 0 ∨ q = 0))) : ((Nat → Nat → Nat) × wa_St) × Int64) F ⟨congrArg iI hK.symm, ⟨hx1, hj2, he1⟩, fun _ => rfl⟩ hw hS dL_test_29
set_option maxRecDepth 100000 in
set_option maxHeartbeats 4000000 in
/-- hold -/
theorem c_L_hold (l : Launch) (hlt : l.stackTraces = false) (D : va_G) (cy : Nat → ClassId) (ad : Nat → Nat → Nat) (S X T : wa_St) (o : Int64) (A : Nat → Prop) (hj : wa_wj A ad (wW cy ad S X T o)) (hA : wa_Up A) (hwf : wf S) (hxr : xr S X) (hin : wx_inj ad S) (b9 : Int) (rb9 : wa_r b9) (S1 : wa_St) (h1 : k_hold S b9 = 0 → S1 = a_hold S b9) (h2 : k_hold S b9 ≠ 0 → S1 = S) (hk : k_hold S b9 = 0 ∨ k_hold S b9 = 1 ∨ k_hold S b9 = 2) : Met l yL_hold [.codeWith yL_hold cL_hold 4 (Option.some FieldType.int) [(0, 9, 12, 13), (0, 9, 15, 15)]] ({ frames := 8, cells := 2, slots := 12, locals := 126 } : Room) (wl_pc [.ref (ad 0 0), .int (iI b9), .ref (ad 7 0)] D cy A (fun H => wa_wd D ad (wW cy ad S X T o) H)) (wl_Q A D cy ad T S S1 (k_hold S b9) (f_run S b9)) 2 12 A := by
  refine wl_en (by decide +kernel) (Nat.le_of_ble_eq_true rfl) ?_
  intro p e s m args below meth c F hTB hN htab hw ls hl
  have F : wa_fx p s m c meth args cL_hold 4 RL "hold" (Option.some FieldType.int) D cy := F
  have hw : wa_wd D ad (wW cy ad S X T o) s.heap := hw
  have hl : lv_has ls 4 [(0, .ref (ad 0 0)), (1, .int (iI b9)), (2, .ref (ad 7 0))] := hl
  have hx := F.1.1
  have hb := F.1.2.1
  have hS : va_S A s.heap s.heap [] := va_S.rf
  refine lv_aload_n hx hb dL_hold_0 rfl (lv_at hl 2 rfl) ?_
  refine wa_const F dL_hold_1 ?_
  refine lv_aload_n hx hb dL_hold_2 rfl (lv_at hl 0 rfl) ?_
  refine lv_iload_n hx hb dL_hold_3 rfl (lv_at hl 1 rfl) ?_
  refine wl_ci (vL_50 F hTB hS (c_X4_hold l hlt D cy ad S X T o A hj hA hwf hxr hin b9 rb9) ⟨by decide, by decide⟩ ⟨rfl, rfl⟩ hw hw rfl rfl rfl (Nat.le_of_ble_eq_true rfl) hl.1 dL_hold_4 ⟨(Nat.le_of_ble_eq_true rfl), (Nat.le_of_ble_eq_true rfl)⟩) hS (fun E ce q9 u H1 locs1 hE hk0 hp hB hS hce hcv hcl => ?_) (fun u H1 locs1 hK hp hB hS => ?_)
  · obtain ⟨ad1, X1⟩ := u
    have e1 := (h2 hk0).symm
    subst e1
    rcases hk with hk | hk | hk
    · exact absurd hk hk0
    · have hE : E = "java/lang/IndexOutOfBoundsException" := by rw [hE, hk]; rfl
      subst hE
      refine vx_catch F.1.2.2.2.1 ([] : List ExceptionTableEntry) ⟨0, 9, 12, 13⟩ ([⟨0, 9, 15, 15⟩] : List ExceptionTableEntry) htab (fun z hz => by cases hz) rfl (by decide) (F.1.2.2.2.2 _ qw_198) (va_Nw.use rfl (F.2.1.2.1 _ qn_162)) hce hcv hcl ?_
      refine lv_astore_n (lv' := [(3, .ref q9), (0, .ref (ad 0 0)), (1, .int (iI b9)), (2, .ref (ad 7 0))]) hx hb dL_hold_12 rfl hl (by decide) rfl (fun ls hl => ?_)
      refine wa_const F dL_hold_13 ?_
      refine W.widen (k := 2) (n := 12) (Nat.le_of_ble_eq_true rfl) (Nat.le_of_ble_eq_true rfl) ?_
      exact wa_eI (((ad1, X1), o) : ((Nat → Nat → Nat) × wa_St) × Int64) F ⟨congrArg iI hk.symm, hp, fun q => absurd (hk.symm.trans q) (by decide)⟩ hB hS dL_hold_14
    · have hE : E = "java/lang/IllegalStateException" := by rw [hE, hk]; rfl
      subst hE
      refine vx_catch F.1.2.2.2.1 ([⟨0, 9, 12, 13⟩] : List ExceptionTableEntry) ⟨0, 9, 15, 15⟩ ([] : List ExceptionTableEntry) htab (fun z hz => by rw [List.mem_singleton.mp hz]; exact Or.inr ⟨by decide, _, F.1.2.2.2.2 _ qw_198, hN.1⟩) rfl (by decide) (F.1.2.2.2.2 _ qw_199) (va_Nw.use rfl (F.2.1.2.1 _ qn_230)) hce hcv hcl ?_
      refine lv_astore_n (lv' := [(3, .ref q9), (0, .ref (ad 0 0)), (1, .int (iI b9)), (2, .ref (ad 7 0))]) hx hb dL_hold_15 rfl hl (by decide) rfl (fun ls hl => ?_)
      refine wa_const F dL_hold_16 ?_
      refine W.widen (k := 2) (n := 12) (Nat.le_of_ble_eq_true rfl) (Nat.le_of_ble_eq_true rfl) ?_
      exact wa_eI (((ad1, X1), o) : ((Nat → Nat → Nat) × wa_St) × Int64) F ⟨congrArg iI hk.symm, hp, fun q => absurd (hk.symm.trans q) (by decide)⟩ hB hS dL_hold_17
  · obtain ⟨ad1, X1⟩ := u
    have e1 := (h1 hK).symm
    subst e1
    obtain ⟨hx1, hj1, he1⟩ := hp
    have hw : wa_wd D ad1 (wW cy ad1 (a_hold S b9) X1 T o) H1 := hB
    refine lv_i2l (v := lO (f_run S b9)) hx hb dL_hold_7 rfl ?_
    refine wl_last 7 0 (he1.2.2.2.2.2 0).symm F hw hj1 hS rfl dL_hold_8 (fun H2 locs2 hw hS => ?_)
    rw [wl_o] at hw
    have hj2 := hj1.put (C := wW cy ad1 (a_hold S b9) X1 T o) (kd := 7) (i := 0) (e := wa_aL (cy 5) 1 (fun _ => lO (f_run S b9))) rfl
    rw [wl_o] at hj2
    refine wa_goto (tgt := 18) F dL_hold_9 (by decide) ?_
    refine wa_const F dL_hold_18 ?_
    refine W.widen (k := 2) (n := 12) (Nat.le_of_ble_eq_true rfl) (Nat.le_of_ble_eq_true rfl) ?_
    exact wa_eI (((ad1, X1), lO (f_run S b9)) : ((Nat → Nat → Nat) × wa_St) × Int64) F ⟨congrArg iI hK.symm, ⟨hx1, hj2, he1⟩, fun _ => rfl⟩ hw hS dL_hold_19
set_option maxRecDepth 100000 in
set_option maxHeartbeats 4000000 in
/-- raise -/
theorem c_L_raise (l : Launch) (hlt : l.stackTraces = false) (D : va_G) (cy : Nat → ClassId) (ad : Nat → Nat → Nat) (S X T : wa_St) (o : Int64) (A : Nat → Prop) (hj : wa_wj A ad (wW cy ad S X T o)) (hA : wa_Up A) (hwf : wf S) (hxr : xr S X) (hin : wx_inj ad S) (b9 : Int) (rb9 : wa_r b9) (h16 : ∀ b, 0 ≤ S 16 b ∧ S 16 b ≤ 2) (S1 : wa_St) (h1 : k_raise S b9 = 0 → S1 = a_raise S b9) (h2 : k_raise S b9 ≠ 0 → S1 = S) (hk : k_raise S b9 = 0 ∨ k_raise S b9 = 1 ∨ k_raise S b9 = 2) : Met l yL_raise [.codeWith yL_raise cL_raise 4 (Option.some FieldType.int) [(0, 9, 12, 13), (0, 9, 15, 15)]] ({ frames := 8, cells := 2, slots := 12, locals := 126 } : Room) (wl_pc [.ref (ad 0 0), .int (iI b9), .ref (ad 7 0)] D cy A (fun H => wa_wd D ad (wW cy ad S X T o) H)) (wl_Q A D cy ad T S S1 (k_raise S b9) (S 16 b9.toNat + 1)) 2 12 A := by
  refine wl_en (by decide +kernel) (Nat.le_of_ble_eq_true rfl) ?_
  intro p e s m args below meth c F hTB hN htab hw ls hl
  have F : wa_fx p s m c meth args cL_raise 4 RL "raise" (Option.some FieldType.int) D cy := F
  have hw : wa_wd D ad (wW cy ad S X T o) s.heap := hw
  have hl : lv_has ls 4 [(0, .ref (ad 0 0)), (1, .int (iI b9)), (2, .ref (ad 7 0))] := hl
  have hx := F.1.1
  have hb := F.1.2.1
  have hS : va_S A s.heap s.heap [] := va_S.rf
  refine lv_aload_n hx hb dL_raise_0 rfl (lv_at hl 2 rfl) ?_
  refine wa_const F dL_raise_1 ?_
  refine lv_aload_n hx hb dL_raise_2 rfl (lv_at hl 0 rfl) ?_
  refine lv_iload_n hx hb dL_raise_3 rfl (lv_at hl 1 rfl) ?_
  refine wl_ci (vL_53 F hTB hS (c_X4_raise l hlt D cy ad S X T o A hj hA hwf hxr hin b9 rb9 h16) ⟨by decide, by decide⟩ ⟨rfl, rfl⟩ hw hw rfl rfl rfl (Nat.le_of_ble_eq_true rfl) hl.1 dL_raise_4 ⟨(Nat.le_of_ble_eq_true rfl), (Nat.le_of_ble_eq_true rfl)⟩) hS (fun E ce q9 u H1 locs1 hE hk0 hp hB hS hce hcv hcl => ?_) (fun u H1 locs1 hK hp hB hS => ?_)
  · obtain ⟨ad1, X1⟩ := u
    have e1 := (h2 hk0).symm
    subst e1
    rcases hk with hk | hk | hk
    · exact absurd hk hk0
    · have hE : E = "java/lang/IndexOutOfBoundsException" := by rw [hE, hk]; rfl
      subst hE
      refine vx_catch F.1.2.2.2.1 ([] : List ExceptionTableEntry) ⟨0, 9, 12, 13⟩ ([⟨0, 9, 15, 15⟩] : List ExceptionTableEntry) htab (fun z hz => by cases hz) rfl (by decide) (F.1.2.2.2.2 _ qw_198) (va_Nw.use rfl (F.2.1.2.1 _ qn_162)) hce hcv hcl ?_
      refine lv_astore_n (lv' := [(3, .ref q9), (0, .ref (ad 0 0)), (1, .int (iI b9)), (2, .ref (ad 7 0))]) hx hb dL_raise_12 rfl hl (by decide) rfl (fun ls hl => ?_)
      refine wa_const F dL_raise_13 ?_
      refine W.widen (k := 2) (n := 12) (Nat.le_of_ble_eq_true rfl) (Nat.le_of_ble_eq_true rfl) ?_
      exact wa_eI (((ad1, X1), o) : ((Nat → Nat → Nat) × wa_St) × Int64) F ⟨congrArg iI hk.symm, hp, fun q => absurd (hk.symm.trans q) (by decide)⟩ hB hS dL_raise_14
    · have hE : E = "java/lang/IllegalStateException" := by rw [hE, hk]; rfl
      subst hE
      refine vx_catch F.1.2.2.2.1 ([⟨0, 9, 12, 13⟩] : List ExceptionTableEntry) ⟨0, 9, 15, 15⟩ ([] : List ExceptionTableEntry) htab (fun z hz => by rw [List.mem_singleton.mp hz]; exact Or.inr ⟨by decide, _, F.1.2.2.2.2 _ qw_198, hN.1⟩) rfl (by decide) (F.1.2.2.2.2 _ qw_199) (va_Nw.use rfl (F.2.1.2.1 _ qn_230)) hce hcv hcl ?_
      refine lv_astore_n (lv' := [(3, .ref q9), (0, .ref (ad 0 0)), (1, .int (iI b9)), (2, .ref (ad 7 0))]) hx hb dL_raise_15 rfl hl (by decide) rfl (fun ls hl => ?_)
      refine wa_const F dL_raise_16 ?_
      refine W.widen (k := 2) (n := 12) (Nat.le_of_ble_eq_true rfl) (Nat.le_of_ble_eq_true rfl) ?_
      exact wa_eI (((ad1, X1), o) : ((Nat → Nat → Nat) × wa_St) × Int64) F ⟨congrArg iI hk.symm, hp, fun q => absurd (hk.symm.trans q) (by decide)⟩ hB hS dL_raise_17
  · obtain ⟨ad1, X1⟩ := u
    have e1 := (h1 hK).symm
    subst e1
    obtain ⟨hx1, hj1, he1⟩ := hp
    have hw : wa_wd D ad1 (wW cy ad1 (a_raise S b9) X1 T o) H1 := hB
    refine lv_i2l (v := lO (S 16 b9.toNat + 1)) hx hb dL_raise_7 rfl ?_
    refine wl_last 7 0 (he1.2.2.2.2.2 0).symm F hw hj1 hS rfl dL_raise_8 (fun H2 locs2 hw hS => ?_)
    rw [wl_o] at hw
    have hj2 := hj1.put (C := wW cy ad1 (a_raise S b9) X1 T o) (kd := 7) (i := 0) (e := wa_aL (cy 5) 1 (fun _ => lO (S 16 b9.toNat + 1))) rfl
    rw [wl_o] at hj2
    refine wa_goto (tgt := 18) F dL_raise_9 (by decide) ?_
    refine wa_const F dL_raise_18 ?_
    refine W.widen (k := 2) (n := 12) (Nat.le_of_ble_eq_true rfl) (Nat.le_of_ble_eq_true rfl) ?_
    exact wa_eI (((ad1, X1), lO (S 16 b9.toNat + 1)) : ((Nat → Nat → Nat) × wa_St) × Int64) F ⟨congrArg iI hK.symm, ⟨hx1, hj2, he1⟩, fun _ => rfl⟩ hw hS dL_raise_19
set_option maxRecDepth 100000 in
set_option maxHeartbeats 4000000 in
/-- copy -/
theorem c_L_copy (l : Launch) (hlt : l.stackTraces = false) (D : va_G) (cy : Nat → ClassId) (ad : Nat → Nat → Nat) (S X T : wa_St) (o : Int64) (A : Nat → Prop) (hj : wa_wj A ad (wW cy ad S X T o)) (hA : wa_Up A) (hwf : wf S) (hxr : xr S X) (hin : wx_inj ad S) (b9 : Int) (rb9 : wa_r b9) (q : Int) (rq : wa_r q) (hd9 : ∀ j, -2 ≤ S 1 0 + S 22 j ∧ S 1 0 + S 22 j ≤ 100000) (S1 : wa_St) (h1 : k_copy S b9 q = 0 → S1 = a_copy S b9 q) (h2 : k_copy S b9 q ≠ 0 → S1 = S) (hk : k_copy S b9 q = 0 ∨ k_copy S b9 q = 1 ∨ k_copy S b9 q = 2 ∨ k_copy S b9 q = 3) : Met l yL_copy [.codeWith yL_copy cL_copy 5 (Option.some FieldType.int) [(0, 10, 13, 13), (0, 10, 17, 21), (0, 10, 21, 15)]] ({ frames := 8, cells := 2, slots := 12, locals := 127 } : Room) (wl_pc [.ref (ad 0 0), .int (iI b9), .int (iI q), .ref (ad 7 0)] D cy A (fun H => wa_wd D ad (wW cy ad S X T o) H)) (wl_Q A D cy ad T S S1 (k_copy S b9 q) (S 1 0 + S 22 q.toNat)) 2 12 A := by
  refine wl_en (by decide +kernel) (Nat.le_of_ble_eq_true rfl) ?_
  intro p e s m args below meth c F hTB hN htab hw ls hl
  have F : wa_fx p s m c meth args cL_copy 5 RL "copy" (Option.some FieldType.int) D cy := F
  have hw : wa_wd D ad (wW cy ad S X T o) s.heap := hw
  have hl : lv_has ls 5 [(0, .ref (ad 0 0)), (1, .int (iI b9)), (2, .int (iI q)), (3, .ref (ad 7 0))] := hl
  have hx := F.1.1
  have hb := F.1.2.1
  have hS : va_S A s.heap s.heap [] := va_S.rf
  refine lv_aload_n hx hb dL_copy_0 rfl (lv_at hl 3 rfl) ?_
  refine wa_const F dL_copy_1 ?_
  refine lv_aload_n hx hb dL_copy_2 rfl (lv_at hl 0 rfl) ?_
  refine lv_iload_n hx hb dL_copy_3 rfl (lv_at hl 1 rfl) ?_
  refine lv_iload_n hx hb dL_copy_4 rfl (lv_at hl 2 rfl) ?_
  refine wl_ci (vL_56 F hTB hS (c_X4_copy l hlt D cy ad S X T o A hj hA hwf hxr hin b9 rb9 q rq hd9) ⟨by decide, by decide⟩ ⟨rfl, rfl⟩ hw hw rfl rfl rfl (Nat.le_of_ble_eq_true rfl) hl.1 dL_copy_5 ⟨(Nat.le_of_ble_eq_true rfl), (Nat.le_of_ble_eq_true rfl)⟩) hS (fun E ce q9 u H1 locs1 hE hk0 hp hB hS hce hcv hcl => ?_) (fun u H1 locs1 hK hp hB hS => ?_)
  · obtain ⟨ad1, X1⟩ := u
    have e1 := (h2 hk0).symm
    subst e1
    rcases hk with hk | hk | hk | hk
    · exact absurd hk hk0
    · have hE : E = "java/lang/IndexOutOfBoundsException" := by rw [hE, hk]; rfl
      subst hE
      refine vx_catch F.1.2.2.2.1 ([] : List ExceptionTableEntry) ⟨0, 10, 13, 13⟩ ([⟨0, 10, 17, 21⟩, ⟨0, 10, 21, 15⟩] : List ExceptionTableEntry) htab (fun z hz => by cases hz) rfl (by decide) (F.1.2.2.2.2 _ qw_198) (va_Nw.use rfl (F.2.1.2.1 _ qn_162)) hce hcv hcl ?_
      refine lv_astore (lv' := [(4, .ref q9), (0, .ref (ad 0 0)), (1, .int (iI b9)), (2, .int (iI q)), (3, .ref (ad 7 0))]) hx hb dL_copy_13 hl (by decide) rfl (fun ls hl => ?_)
      refine wa_const F dL_copy_15 ?_
      refine W.widen (k := 2) (n := 12) (Nat.le_of_ble_eq_true rfl) (Nat.le_of_ble_eq_true rfl) ?_
      exact wa_eI (((ad1, X1), o) : ((Nat → Nat → Nat) × wa_St) × Int64) F ⟨congrArg iI hk.symm, hp, fun q => absurd (hk.symm.trans q) (by decide)⟩ hB hS dL_copy_16
    · have hE : E = "java/lang/IllegalArgumentException" := by rw [hE, hk]; rfl
      subst hE
      refine vx_catch F.1.2.2.2.1 ([⟨0, 10, 13, 13⟩] : List ExceptionTableEntry) ⟨0, 10, 17, 21⟩ ([⟨0, 10, 21, 15⟩] : List ExceptionTableEntry) htab (fun z hz => by rw [List.mem_singleton.mp hz]; exact Or.inr ⟨by decide, _, F.1.2.2.2.2 _ qw_198, hN.2.1⟩) rfl (by decide) (F.1.2.2.2.2 _ qw_323) (va_Nw.use rfl (F.2.1.2.1 _ qn_282)) hce hcv hcl ?_
      refine lv_astore (lv' := [(4, .ref q9), (0, .ref (ad 0 0)), (1, .int (iI b9)), (2, .int (iI q)), (3, .ref (ad 7 0))]) hx hb dL_copy_17 hl (by decide) rfl (fun ls hl => ?_)
      refine wa_const F dL_copy_19 ?_
      refine W.widen (k := 2) (n := 12) (Nat.le_of_ble_eq_true rfl) (Nat.le_of_ble_eq_true rfl) ?_
      exact wa_eI (((ad1, X1), o) : ((Nat → Nat → Nat) × wa_St) × Int64) F ⟨congrArg iI hk.symm, hp, fun q => absurd (hk.symm.trans q) (by decide)⟩ hB hS dL_copy_20
    · have hE : E = "java/lang/IllegalStateException" := by rw [hE, hk]; rfl
      subst hE
      refine vx_catch F.1.2.2.2.1 ([⟨0, 10, 13, 13⟩, ⟨0, 10, 17, 21⟩] : List ExceptionTableEntry) ⟨0, 10, 21, 15⟩ ([] : List ExceptionTableEntry) htab (fun z hz => by
        rcases List.mem_cons.mp hz with rfl | hz
        · exact Or.inr ⟨by decide, _, F.1.2.2.2.2 _ qw_198, hN.1⟩
        · rw [List.mem_singleton.mp hz]; exact Or.inr ⟨by decide, _, F.1.2.2.2.2 _ qw_323, hN.2.2⟩) rfl (by decide) (F.1.2.2.2.2 _ qw_199) (va_Nw.use rfl (F.2.1.2.1 _ qn_230)) hce hcv hcl ?_
      refine lv_astore (lv' := [(4, .ref q9), (0, .ref (ad 0 0)), (1, .int (iI b9)), (2, .int (iI q)), (3, .ref (ad 7 0))]) hx hb dL_copy_21 hl (by decide) rfl (fun ls hl => ?_)
      refine wa_const F dL_copy_23 ?_
      refine W.widen (k := 2) (n := 12) (Nat.le_of_ble_eq_true rfl) (Nat.le_of_ble_eq_true rfl) ?_
      exact wa_eI (((ad1, X1), o) : ((Nat → Nat → Nat) × wa_St) × Int64) F ⟨congrArg iI hk.symm, hp, fun q => absurd (hk.symm.trans q) (by decide)⟩ hB hS dL_copy_24
  · obtain ⟨ad1, X1⟩ := u
    have e1 := (h1 hK).symm
    subst e1
    obtain ⟨hx1, hj1, he1⟩ := hp
    have hw : wa_wd D ad1 (wW cy ad1 (a_copy S b9 q) X1 T o) H1 := hB
    refine lv_i2l (v := lO (S 1 0 + S 22 q.toNat)) hx hb dL_copy_8 rfl ?_
    refine wl_last 7 0 (he1.2.2.2.2.2 0).symm F hw hj1 hS rfl dL_copy_9 (fun H2 locs2 hw hS => ?_)
    rw [wl_o] at hw
    have hj2 := hj1.put (C := wW cy ad1 (a_copy S b9 q) X1 T o) (kd := 7) (i := 0) (e := wa_aL (cy 5) 1 (fun _ => lO (S 1 0 + S 22 q.toNat))) rfl
    rw [wl_o] at hj2
    refine wa_goto (tgt := 25) F dL_copy_10 (by decide) ?_
    refine wa_const F dL_copy_25 ?_
    refine W.widen (k := 2) (n := 12) (Nat.le_of_ble_eq_true rfl) (Nat.le_of_ble_eq_true rfl) ?_
    exact wa_eI (((ad1, X1), lO (S 1 0 + S 22 q.toNat)) : ((Nat → Nat → Nat) × wa_St) × Int64) F ⟨congrArg iI hK.symm, ⟨hx1, hj2, he1⟩, fun _ => rfl⟩ hw hS dL_copy_26
set_option maxRecDepth 100000 in
set_option maxHeartbeats 4000000 in
/-- setRules -/
theorem c_L_setRules (l : Launch) (hlt : l.stackTraces = false) (D : va_G) (cy : Nat → ClassId) (ad : Nat → Nat → Nat) (S X T : wa_St) (o : Int64) (A : Nat → Prop) (hj : wa_wj A ad (wW cy ad S X T o)) (hA : wa_Up A) (hwf : wf S) (hxr : xr S X) (hin : wx_inj ad S) (q d9 st kp : Int) (rq : wa_r q) (rd : wa_r d9) (rst : wa_r st) (rkp : wa_r kp) (S1 : wa_St) (h1 : k_rules q d9 st kp = 0 → S1 = a_rules S q d9 st kp) (h2 : k_rules q d9 st kp ≠ 0 → S1 = S) (hk : k_rules q d9 st kp = 0 ∨ k_rules q d9 st kp = 1) : Met l yL_setRules [.codeWith yL_setRules cL_setRules 6 (Option.some FieldType.int) [(0, 9, 12, 21)]] ({ frames := 7, cells := 1, slots := 6, locals := 106 } : Room) (wl_pc [.ref (ad 0 0), .int (iI q), .int (iI d9), .int (iI st), .int (iI kp)] D cy A (fun H => wa_wd D ad (wW cy ad S X T o) H)) (va_Qi (fun r (u : ((Nat → Nat → Nat) × wa_St) × Int64) => r = iI (k_rules q d9 st kp) ∧ (xr S1 u.1.2 ∧ wa_wj A u.1.1 (wW cy u.1.1 S1 u.1.2 T u.2) ∧ x_ext S ad u.1.1)) (fun u t => wa_wd D u.1.1 (wW cy u.1.1 S1 u.1.2 T u.2) t.heap) A) 1 6 A := by
  refine wl_en (by decide +kernel) (Nat.le_of_ble_eq_true rfl) ?_
  intro p e s m args below meth c F hTB hN htab hw ls hl
  have F : wa_fx p s m c meth args cL_setRules 6 RL "setRules" (Option.some FieldType.int) D cy := F
  have hw : wa_wd D ad (wW cy ad S X T o) s.heap := hw
  have hl : lv_has ls 6 [(0, .ref (ad 0 0)), (1, .int (iI q)), (2, .int (iI d9)), (3, .int (iI st)), (4, .int (iI kp))] := hl
  have hx := F.1.1
  have hb := F.1.2.1
  have hS : va_S A s.heap s.heap [] := va_S.rf
  refine lv_aload_n hx hb dL_setRules_0 rfl (lv_at hl 0 rfl) ?_
  refine lv_iload_n hx hb dL_setRules_1 rfl (lv_at hl 1 rfl) ?_
  refine lv_iload_n hx hb dL_setRules_2 rfl (lv_at hl 2 rfl) ?_
  refine lv_iload_n hx hb dL_setRules_3 rfl (lv_at hl 3 rfl) ?_
  refine lv_iload hx hb dL_setRules_4 (lv_at hl 4 rfl) ?_
  refine wl_cv (vL_59 F hTB hS (c_X4_setRules l hlt D cy ad S X T o A hj hA hwf hxr hin q d9 st kp rq rd rst rkp) ⟨by decide, by decide⟩ ⟨rfl, rfl⟩ hw hw rfl rfl rfl (Nat.le_of_ble_eq_true rfl) hl.1 dL_setRules_6 ⟨(Nat.le_of_ble_eq_true rfl), (Nat.le_of_ble_eq_true rfl)⟩) hS (fun E ce q9 u H1 locs1 hE hk0 hp hB hS hce hcv hcl => ?_) (fun u H1 locs1 hK hp hB hS => ?_)
  · obtain ⟨ad1, X1⟩ := u
    have e1 := (h2 hk0).symm
    subst e1
    rcases hk with hk | hk
    · exact absurd hk hk0
    · have hE : E = "java/lang/IllegalArgumentException" := by rw [hE, hk]; rfl
      subst hE
      refine vx_catch F.1.2.2.2.1 ([] : List ExceptionTableEntry) ⟨0, 9, 12, 21⟩ ([] : List ExceptionTableEntry) htab (fun z hz => by cases hz) rfl (by decide) (F.1.2.2.2.2 _ qw_323) (va_Nw.use rfl (F.2.1.2.1 _ qn_282)) hce hcv hcl ?_
      refine lv_astore (lv' := [(5, .ref q9), (0, .ref (ad 0 0)), (1, .int (iI q)), (2, .int (iI d9)), (3, .int (iI st)), (4, .int (iI kp))]) hx hb dL_setRules_12 hl (by decide) rfl (fun ls hl => ?_)
      refine wa_const F dL_setRules_14 ?_
      refine W.widen (k := 1) (n := 6) (Nat.le_of_ble_eq_true rfl) (Nat.le_of_ble_eq_true rfl) ?_
      exact wa_eI (((ad1, X1), o) : ((Nat → Nat → Nat) × wa_St) × Int64) F ⟨congrArg iI hk.symm, hp⟩ hB hS dL_setRules_15
  · obtain ⟨ad1, X1⟩ := u
    have e1 := (h1 hK).symm
    subst e1
    obtain ⟨hx1, hj1, he1⟩ := hp
    have hw : wa_wd D ad1 (wW cy ad1 (a_rules S q d9 st kp) X1 T o) H1 := hB
    refine wa_goto (tgt := 16) F dL_setRules_9 (by decide) ?_
    refine wa_const F dL_setRules_16 ?_
    refine W.widen (k := 1) (n := 6) (Nat.le_of_ble_eq_true rfl) (Nat.le_of_ble_eq_true rfl) ?_
    exact wa_eI (((ad1, X1), o) : ((Nat → Nat → Nat) × wa_St) × Int64) F ⟨congrArg iI hK.symm, ⟨hx1, hj1, he1⟩⟩ hw hS dL_setRules_17
set_option maxRecDepth 100000 in
set_option maxHeartbeats 4000000 in
/-- pass -/
theorem c_L_pass (l : Launch) (hlt : l.stackTraces = false) (D : va_G) (cy : Nat → ClassId) (ad : Nat → Nat → Nat) (S X T : wa_St) (o : Int64) (A : Nat → Prop) (hj : wa_wj A ad (wW cy ad S X T o)) (hA : wa_Up A) (hwf : wf S) (hxr : xr S X) (hin : wx_inj ad S) (d9 : Int) (rd : wa_r d9) (hday : S 1 0 ≤ 99000 ∧ 0 ≤ S 1 0) (S1 : wa_St) (h1 : k_pass d9 = 0 → S1 = (f_pin (S 21 0).toNat 0 (wa_s S 1 0 (S 1 0 + d9)) 0).1) (h2 : k_pass d9 ≠ 0 → S1 = S) (hk : k_pass d9 = 0 ∨ k_pass d9 = 1) : Met l yL_pass [.codeWith yL_pass cL_pass 4 (Option.some FieldType.int) [(0, 9, 12, 21)]] ({ frames := 7, cells := 1, slots := 6, locals := 108 } : Room) (wl_pc [.ref (ad 0 0), .int (iI d9), .ref (ad 7 0)] D cy A (fun H => wa_wd D ad (wW cy ad S X T o) H)) (wl_Q A D cy ad T S S1 (k_pass d9) ((f_pin (S 21 0).toNat 0 (wa_s S 1 0 (S 1 0 + d9)) 0).2)) 1 6 A := by
  refine wl_en (by decide +kernel) (Nat.le_of_ble_eq_true rfl) ?_
  intro p e s m args below meth c F hTB hN htab hw ls hl
  have F : wa_fx p s m c meth args cL_pass 4 RL "pass" (Option.some FieldType.int) D cy := F
  have hw : wa_wd D ad (wW cy ad S X T o) s.heap := hw
  have hl : lv_has ls 4 [(0, .ref (ad 0 0)), (1, .int (iI d9)), (2, .ref (ad 7 0))] := hl
  have hx := F.1.1
  have hb := F.1.2.1
  have hS : va_S A s.heap s.heap [] := va_S.rf
  refine lv_aload_n hx hb dL_pass_0 rfl (lv_at hl 2 rfl) ?_
  refine wa_const F dL_pass_1 ?_
  refine lv_aload_n hx hb dL_pass_2 rfl (lv_at hl 0 rfl) ?_
  refine lv_iload_n hx hb dL_pass_3 rfl (lv_at hl 1 rfl) ?_
  refine wl_ci (vL_63 F hTB hS (c_X4_pass l hlt D cy ad S X T o A hj hA hwf hxr hin d9 rd hday) ⟨by decide, by decide⟩ ⟨rfl, rfl⟩ hw hw rfl rfl rfl (Nat.le_of_ble_eq_true rfl) hl.1 dL_pass_4 ⟨(Nat.le_of_ble_eq_true rfl), (Nat.le_of_ble_eq_true rfl)⟩) hS (fun E ce q9 u H1 locs1 hE hk0 hp hB hS hce hcv hcl => ?_) (fun u H1 locs1 hK hp hB hS => ?_)
  · obtain ⟨ad1, X1⟩ := u
    have e1 := (h2 hk0).symm
    subst e1
    rcases hk with hk | hk
    · exact absurd hk hk0
    · have hE : E = "java/lang/IllegalArgumentException" := by rw [hE, hk]; rfl
      subst hE
      refine vx_catch F.1.2.2.2.1 ([] : List ExceptionTableEntry) ⟨0, 9, 12, 21⟩ ([] : List ExceptionTableEntry) htab (fun z hz => by cases hz) rfl (by decide) (F.1.2.2.2.2 _ qw_323) (va_Nw.use rfl (F.2.1.2.1 _ qn_282)) hce hcv hcl ?_
      refine lv_astore_n (lv' := [(3, .ref q9), (0, .ref (ad 0 0)), (1, .int (iI d9)), (2, .ref (ad 7 0))]) hx hb dL_pass_12 rfl hl (by decide) rfl (fun ls hl => ?_)
      refine wa_const F dL_pass_13 ?_
      refine W.widen (k := 1) (n := 6) (Nat.le_of_ble_eq_true rfl) (Nat.le_of_ble_eq_true rfl) ?_
      exact wa_eI (((ad1, X1), o) : ((Nat → Nat → Nat) × wa_St) × Int64) F ⟨congrArg iI hk.symm, hp, fun q => absurd (hk.symm.trans q) (by decide)⟩ hB hS dL_pass_14
  · obtain ⟨ad1, X1⟩ := u
    have e1 := (h1 hK).symm
    subst e1
    obtain ⟨hx1, hj1, he1⟩ := hp
    have hw : wa_wd D ad1 (wW cy ad1 ((f_pin (S 21 0).toNat 0 (wa_s S 1 0 (S 1 0 + d9)) 0).1) X1 T o) H1 := hB
    refine lv_i2l (v := lO ((f_pin (S 21 0).toNat 0 (wa_s S 1 0 (S 1 0 + d9)) 0).2)) hx hb dL_pass_7 rfl ?_
    refine wl_last 7 0 (he1.2.2.2.2.2 0).symm F hw hj1 hS rfl dL_pass_8 (fun H2 locs2 hw hS => ?_)
    rw [wl_o] at hw
    have hj2 := hj1.put (C := wW cy ad1 ((f_pin (S 21 0).toNat 0 (wa_s S 1 0 (S 1 0 + d9)) 0).1) X1 T o) (kd := 7) (i := 0) (e := wa_aL (cy 5) 1 (fun _ => lO ((f_pin (S 21 0).toNat 0 (wa_s S 1 0 (S 1 0 + d9)) 0).2))) rfl
    rw [wl_o] at hj2
    refine wa_goto (tgt := 15) F dL_pass_9 (by decide) ?_
    refine wa_const F dL_pass_15 ?_
    refine W.widen (k := 1) (n := 6) (Nat.le_of_ble_eq_true rfl) (Nat.le_of_ble_eq_true rfl) ?_
    exact wa_eI (((ad1, X1), lO ((f_pin (S 21 0).toNat 0 (wa_s S 1 0 (S 1 0 + d9)) 0).2)) : ((Nat → Nat → Nat) × wa_St) × Int64) F ⟨congrArg iI hK.symm, ⟨hx1, hj2, he1⟩, fun _ => rfl⟩ hw hS dL_pass_16
set_option maxRecDepth 100000 in
set_option maxHeartbeats 4000000 in
/-- state -/
theorem c_L_state (l : Launch) (hlt : l.stackTraces = false) (D : va_G) (cy : Nat → ClassId) (ad : Nat → Nat → Nat) (S X T : wa_St) (o : Int64) (A : Nat → Prop) (hj : wa_wj A ad (wW cy ad S X T o)) (hA : wa_Up A) (hwf : wf S) (hxr : xr S X) (hin : wx_inj ad S) (b9 : Int) (rb9 : wa_r b9) (S1 : wa_St) (h1 : k_bk S b9 = 0 → S1 = S) (h2 : k_bk S b9 ≠ 0 → S1 = S) (hk : k_bk S b9 = 0 ∨ k_bk S b9 = 1) : Met l yL_state [.codeWith yL_state cL_state 4 (Option.some FieldType.int) [(0, 9, 12, 13)]] ({ frames := 8, cells := 1, slots := 6, locals := 127 } : Room) (wl_pc [.ref (ad 0 0), .int (iI b9), .ref (ad 7 0)] D cy A (fun H => wa_wd D ad (wW cy ad S X T o) H)) (wl_Q A D cy ad T S S1 (k_bk S b9) (v_state S b9.toNat)) 1 6 A := by
  refine wl_en (by decide +kernel) (Nat.le_of_ble_eq_true rfl) ?_
  intro p e s m args below meth c F hTB hN htab hw ls hl
  have F : wa_fx p s m c meth args cL_state 4 RL "state" (Option.some FieldType.int) D cy := F
  have hw : wa_wd D ad (wW cy ad S X T o) s.heap := hw
  have hl : lv_has ls 4 [(0, .ref (ad 0 0)), (1, .int (iI b9)), (2, .ref (ad 7 0))] := hl
  have hx := F.1.1
  have hb := F.1.2.1
  have hS : va_S A s.heap s.heap [] := va_S.rf
  refine lv_aload_n hx hb dL_state_0 rfl (lv_at hl 2 rfl) ?_
  refine wa_const F dL_state_1 ?_
  refine lv_aload_n hx hb dL_state_2 rfl (lv_at hl 0 rfl) ?_
  refine lv_iload_n hx hb dL_state_3 rfl (lv_at hl 1 rfl) ?_
  refine wl_ci (vL_66 F hTB hS (c_X4_state l hlt D cy ad S X T o A hj hA hwf hxr hin b9 rb9) ⟨by decide, by decide⟩ ⟨rfl, rfl⟩ hw hw rfl rfl rfl (Nat.le_of_ble_eq_true rfl) hl.1 dL_state_4 ⟨(Nat.le_of_ble_eq_true rfl), (Nat.le_of_ble_eq_true rfl)⟩) hS (fun E ce q9 u H1 locs1 hE hk0 hp hB hS hce hcv hcl => ?_) (fun u H1 locs1 hK hp hB hS => ?_)
  · obtain ⟨ad1, X1⟩ := u
    have e1 := (h2 hk0).symm
    subst e1
    rcases hk with hk | hk
    · exact absurd hk hk0
    · have hE : E = "java/lang/IndexOutOfBoundsException" := by rw [hE, hk]; rfl
      subst hE
      refine vx_catch F.1.2.2.2.1 ([] : List ExceptionTableEntry) ⟨0, 9, 12, 13⟩ ([] : List ExceptionTableEntry) htab (fun z hz => by cases hz) rfl (by decide) (F.1.2.2.2.2 _ qw_198) (va_Nw.use rfl (F.2.1.2.1 _ qn_162)) hce hcv hcl ?_
      refine lv_astore_n (lv' := [(3, .ref q9), (0, .ref (ad 0 0)), (1, .int (iI b9)), (2, .ref (ad 7 0))]) hx hb dL_state_12 rfl hl (by decide) rfl (fun ls hl => ?_)
      refine wa_const F dL_state_13 ?_
      refine W.widen (k := 1) (n := 6) (Nat.le_of_ble_eq_true rfl) (Nat.le_of_ble_eq_true rfl) ?_
      exact wa_eI (((ad1, X1), o) : ((Nat → Nat → Nat) × wa_St) × Int64) F ⟨congrArg iI hk.symm, hp, fun q => absurd (hk.symm.trans q) (by decide)⟩ hB hS dL_state_14
  · obtain ⟨ad1, X1⟩ := u
    have e1 := (h1 hK).symm
    subst e1
    obtain ⟨hx1, hj1, he1⟩ := hp
    have hw : wa_wd D ad1 (wW cy ad1 (S) X1 T o) H1 := hB
    refine lv_i2l (v := lO (v_state S b9.toNat)) hx hb dL_state_7 rfl ?_
    refine wl_last 7 0 (he1.2.2.2.2.2 0).symm F hw hj1 hS rfl dL_state_8 (fun H2 locs2 hw hS => ?_)
    rw [wl_o] at hw
    have hj2 := hj1.put (C := wW cy ad1 (S) X1 T o) (kd := 7) (i := 0) (e := wa_aL (cy 5) 1 (fun _ => lO (v_state S b9.toNat))) rfl
    rw [wl_o] at hj2
    refine wa_goto (tgt := 15) F dL_state_9 (by decide) ?_
    refine wa_const F dL_state_15 ?_
    refine W.widen (k := 1) (n := 6) (Nat.le_of_ble_eq_true rfl) (Nat.le_of_ble_eq_true rfl) ?_
    exact wa_eI (((ad1, X1), lO (v_state S b9.toNat)) : ((Nat → Nat → Nat) × wa_St) × Int64) F ⟨congrArg iI hK.symm, ⟨hx1, hj2, he1⟩, fun _ => rfl⟩ hw hS dL_state_16
set_option maxRecDepth 100000 in
set_option maxHeartbeats 4000000 in
/-- start -/
theorem c_L_start (l : Launch) (hlt : l.stackTraces = false) (D : va_G) (cy : Nat → ClassId) (ad : Nat → Nat → Nat) (S X T : wa_St) (o : Int64) (A : Nat → Prop) (hj : wa_wj A ad (wW cy ad S X T o)) (hA : wa_Up A) (hwf : wf S) (hxr : xr S X) (hin : wx_inj ad S) (i q rg : Int) (ri : wa_r i) (rq : wa_r q) (rrg : wa_r rg) (S1 : wa_St) (h1 : k_start S i q rg = 0 → S1 = a_start S i q rg) (h2 : k_start S i q rg ≠ 0 → S1 = S) (hk : k_start S i q rg = 0 ∨ k_start S i q rg = 1 ∨ k_start S i q rg = 2 ∨ k_start S i q rg = 3) : Met l yL_start [.codeWith yL_start cL_start 6 (Option.some FieldType.int) [(0, 12, 15, 13), (0, 12, 19, 21), (0, 12, 23, 15)]] ({ frames := 8, cells := 2, slots := 12, locals := 130 } : Room) (wl_pc [.ref (ad 0 0), .int (iI i), .int (iI q), .int (iI rg), .ref (ad 7 0)] D cy A (fun H => wa_wd D ad (wW cy ad S X T o) H)) (wl_Q A D cy ad T S S1 (k_start S i q rg) (S 29 0)) 2 12 A := by
  refine wl_en (by decide +kernel) (Nat.le_of_ble_eq_true rfl) ?_
  intro p e s m args below meth c F hTB hN htab hw ls hl
  have F : wa_fx p s m c meth args cL_start 6 RL "start" (Option.some FieldType.int) D cy := F
  have hw : wa_wd D ad (wW cy ad S X T o) s.heap := hw
  have hl : lv_has ls 6 [(0, .ref (ad 0 0)), (1, .int (iI i)), (2, .int (iI q)), (3, .int (iI rg)), (4, .ref (ad 7 0))] := hl
  have hx := F.1.1
  have hb := F.1.2.1
  have hS : va_S A s.heap s.heap [] := va_S.rf
  refine lv_aload hx hb dL_start_0 (lv_at hl 4 rfl) ?_
  refine wa_const F dL_start_2 ?_
  refine lv_aload_n hx hb dL_start_3 rfl (lv_at hl 0 rfl) ?_
  refine lv_iload_n hx hb dL_start_4 rfl (lv_at hl 1 rfl) ?_
  refine lv_iload_n hx hb dL_start_5 rfl (lv_at hl 2 rfl) ?_
  refine lv_iload_n hx hb dL_start_6 rfl (lv_at hl 3 rfl) ?_
  refine wl_ci (vL_69 F hTB hS (c_X4_start l hlt D cy ad S X T o A hj hA hwf hxr hin i q rg ri rq rrg) ⟨by decide, by decide⟩ ⟨rfl, rfl⟩ hw hw rfl rfl rfl (Nat.le_of_ble_eq_true rfl) hl.1 dL_start_7 ⟨(Nat.le_of_ble_eq_true rfl), (Nat.le_of_ble_eq_true rfl)⟩) hS (fun E ce q9 u H1 locs1 hE hk0 hp hB hS hce hcv hcl => ?_) (fun u H1 locs1 hK hp hB hS => ?_)
  · obtain ⟨ad1, X1⟩ := u
    have e1 := (h2 hk0).symm
    subst e1
    rcases hk with hk | hk | hk | hk
    · exact absurd hk hk0
    · have hE : E = "java/lang/IndexOutOfBoundsException" := by rw [hE, hk]; rfl
      subst hE
      refine vx_catch F.1.2.2.2.1 ([] : List ExceptionTableEntry) ⟨0, 12, 15, 13⟩ ([⟨0, 12, 19, 21⟩, ⟨0, 12, 23, 15⟩] : List ExceptionTableEntry) htab (fun z hz => by cases hz) rfl (by decide) (F.1.2.2.2.2 _ qw_198) (va_Nw.use rfl (F.2.1.2.1 _ qn_162)) hce hcv hcl ?_
      refine lv_astore (lv' := [(5, .ref q9), (0, .ref (ad 0 0)), (1, .int (iI i)), (2, .int (iI q)), (3, .int (iI rg)), (4, .ref (ad 7 0))]) hx hb dL_start_15 hl (by decide) rfl (fun ls hl => ?_)
      refine wa_const F dL_start_17 ?_
      refine W.widen (k := 2) (n := 12) (Nat.le_of_ble_eq_true rfl) (Nat.le_of_ble_eq_true rfl) ?_
      exact wa_eI (((ad1, X1), o) : ((Nat → Nat → Nat) × wa_St) × Int64) F ⟨congrArg iI hk.symm, hp, fun q => absurd (hk.symm.trans q) (by decide)⟩ hB hS dL_start_18
    · have hE : E = "java/lang/IllegalArgumentException" := by rw [hE, hk]; rfl
      subst hE
      refine vx_catch F.1.2.2.2.1 ([⟨0, 12, 15, 13⟩] : List ExceptionTableEntry) ⟨0, 12, 19, 21⟩ ([⟨0, 12, 23, 15⟩] : List ExceptionTableEntry) htab (fun z hz => by rw [List.mem_singleton.mp hz]; exact Or.inr ⟨by decide, _, F.1.2.2.2.2 _ qw_198, hN.2.1⟩) rfl (by decide) (F.1.2.2.2.2 _ qw_323) (va_Nw.use rfl (F.2.1.2.1 _ qn_282)) hce hcv hcl ?_
      refine lv_astore (lv' := [(5, .ref q9), (0, .ref (ad 0 0)), (1, .int (iI i)), (2, .int (iI q)), (3, .int (iI rg)), (4, .ref (ad 7 0))]) hx hb dL_start_19 hl (by decide) rfl (fun ls hl => ?_)
      refine wa_const F dL_start_21 ?_
      refine W.widen (k := 2) (n := 12) (Nat.le_of_ble_eq_true rfl) (Nat.le_of_ble_eq_true rfl) ?_
      exact wa_eI (((ad1, X1), o) : ((Nat → Nat → Nat) × wa_St) × Int64) F ⟨congrArg iI hk.symm, hp, fun q => absurd (hk.symm.trans q) (by decide)⟩ hB hS dL_start_22
    · have hE : E = "java/lang/IllegalStateException" := by rw [hE, hk]; rfl
      subst hE
      refine vx_catch F.1.2.2.2.1 ([⟨0, 12, 15, 13⟩, ⟨0, 12, 19, 21⟩] : List ExceptionTableEntry) ⟨0, 12, 23, 15⟩ ([] : List ExceptionTableEntry) htab (fun z hz => by
        rcases List.mem_cons.mp hz with rfl | hz
        · exact Or.inr ⟨by decide, _, F.1.2.2.2.2 _ qw_198, hN.1⟩
        · rw [List.mem_singleton.mp hz]; exact Or.inr ⟨by decide, _, F.1.2.2.2.2 _ qw_323, hN.2.2⟩) rfl (by decide) (F.1.2.2.2.2 _ qw_199) (va_Nw.use rfl (F.2.1.2.1 _ qn_230)) hce hcv hcl ?_
      refine lv_astore (lv' := [(5, .ref q9), (0, .ref (ad 0 0)), (1, .int (iI i)), (2, .int (iI q)), (3, .int (iI rg)), (4, .ref (ad 7 0))]) hx hb dL_start_23 hl (by decide) rfl (fun ls hl => ?_)
      refine wa_const F dL_start_25 ?_
      refine W.widen (k := 2) (n := 12) (Nat.le_of_ble_eq_true rfl) (Nat.le_of_ble_eq_true rfl) ?_
      exact wa_eI (((ad1, X1), o) : ((Nat → Nat → Nat) × wa_St) × Int64) F ⟨congrArg iI hk.symm, hp, fun q => absurd (hk.symm.trans q) (by decide)⟩ hB hS dL_start_26
  · obtain ⟨ad1, X1⟩ := u
    have e1 := (h1 hK).symm
    subst e1
    obtain ⟨hx1, hj1, he1⟩ := hp
    have hw : wa_wd D ad1 (wW cy ad1 (a_start S i q rg) X1 T o) H1 := hB
    refine lv_i2l (v := lO (S 29 0)) hx hb dL_start_10 rfl ?_
    refine wl_last 7 0 (he1.2.2.2.2.2 0).symm F hw hj1 hS rfl dL_start_11 (fun H2 locs2 hw hS => ?_)
    rw [wl_o] at hw
    have hj2 := hj1.put (C := wW cy ad1 (a_start S i q rg) X1 T o) (kd := 7) (i := 0) (e := wa_aL (cy 5) 1 (fun _ => lO (S 29 0))) rfl
    rw [wl_o] at hj2
    refine wa_goto (tgt := 27) F dL_start_12 (by decide) ?_
    refine wa_const F dL_start_27 ?_
    refine W.widen (k := 2) (n := 12) (Nat.le_of_ble_eq_true rfl) (Nat.le_of_ble_eq_true rfl) ?_
    exact wa_eI (((ad1, X1), lO (S 29 0)) : ((Nat → Nat → Nat) × wa_St) × Int64) F ⟨congrArg iI hK.symm, ⟨hx1, hj2, he1⟩, fun _ => rfl⟩ hw hS dL_start_28
set_option maxRecDepth 100000 in
set_option maxHeartbeats 4000000 in
/-- renew -/
theorem c_L_renew (l : Launch) (hlt : l.stackTraces = false) (D : va_G) (cy : Nat → ClassId) (ad : Nat → Nat → Nat) (S X T : wa_St) (o : Int64) (A : Nat → Prop) (hj : wa_wj A ad (wW cy ad S X T o)) (hA : wa_Up A) (hwf : wf S) (hxr : xr S X) (hin : wx_inj ad S) (u9 : Int) (ru9 : wa_r u9) (h27 : ∀ u : Nat, (u : Int) < S 29 0 → -2 ≤ S 27 u ∧ S 27 u ≤ 2) (S1 : wa_St) (h1 : k_renew S u9 = 0 → S1 = a_renew S u9) (h2 : k_renew S u9 ≠ 0 → S1 = S) (hk : k_renew S u9 = 0 ∨ k_renew S u9 = 1 ∨ k_renew S u9 = 2) : Met l yL_renew [.codeWith yL_renew cL_renew 4 (Option.some FieldType.int) [(0, 9, 12, 13), (0, 9, 15, 15)]] ({ frames := 9, cells := 3, slots := 18, locals := 149 } : Room) (wl_pc [.ref (ad 0 0), .int (iI u9), .ref (ad 7 0)] D cy A (fun H => wa_wd D ad (wW cy ad S X T o) H)) (wl_Q A D cy ad T S S1 (k_renew S u9) (f_next S u9.toNat)) 3 18 A := by
  refine wl_en (by decide +kernel) (Nat.le_of_ble_eq_true rfl) ?_
  intro p e s m args below meth c F hTB hN htab hw ls hl
  have F : wa_fx p s m c meth args cL_renew 4 RL "renew" (Option.some FieldType.int) D cy := F
  have hw : wa_wd D ad (wW cy ad S X T o) s.heap := hw
  have hl : lv_has ls 4 [(0, .ref (ad 0 0)), (1, .int (iI u9)), (2, .ref (ad 7 0))] := hl
  have hx := F.1.1
  have hb := F.1.2.1
  have hS : va_S A s.heap s.heap [] := va_S.rf
  refine lv_aload_n hx hb dL_renew_0 rfl (lv_at hl 2 rfl) ?_
  refine wa_const F dL_renew_1 ?_
  refine lv_aload_n hx hb dL_renew_2 rfl (lv_at hl 0 rfl) ?_
  refine lv_iload_n hx hb dL_renew_3 rfl (lv_at hl 1 rfl) ?_
  refine wl_ci (vL_73 F hTB hS (c_X4_renew l hlt D cy ad S X T o A hj hA hwf hxr hin u9 ru9 h27) ⟨by decide, by decide⟩ ⟨rfl, rfl⟩ hw hw rfl rfl rfl (Nat.le_of_ble_eq_true rfl) hl.1 dL_renew_4 ⟨(Nat.le_of_ble_eq_true rfl), (Nat.le_of_ble_eq_true rfl)⟩) hS (fun E ce q9 u H1 locs1 hE hk0 hp hB hS hce hcv hcl => ?_) (fun u H1 locs1 hK hp hB hS => ?_)
  · obtain ⟨ad1, X1⟩ := u
    have e1 := (h2 hk0).symm
    subst e1
    rcases hk with hk | hk | hk
    · exact absurd hk hk0
    · have hE : E = "java/lang/IndexOutOfBoundsException" := by rw [hE, hk]; rfl
      subst hE
      refine vx_catch F.1.2.2.2.1 ([] : List ExceptionTableEntry) ⟨0, 9, 12, 13⟩ ([⟨0, 9, 15, 15⟩] : List ExceptionTableEntry) htab (fun z hz => by cases hz) rfl (by decide) (F.1.2.2.2.2 _ qw_198) (va_Nw.use rfl (F.2.1.2.1 _ qn_162)) hce hcv hcl ?_
      refine lv_astore_n (lv' := [(3, .ref q9), (0, .ref (ad 0 0)), (1, .int (iI u9)), (2, .ref (ad 7 0))]) hx hb dL_renew_12 rfl hl (by decide) rfl (fun ls hl => ?_)
      refine wa_const F dL_renew_13 ?_
      refine W.widen (k := 3) (n := 18) (Nat.le_of_ble_eq_true rfl) (Nat.le_of_ble_eq_true rfl) ?_
      exact wa_eI (((ad1, X1), o) : ((Nat → Nat → Nat) × wa_St) × Int64) F ⟨congrArg iI hk.symm, hp, fun q => absurd (hk.symm.trans q) (by decide)⟩ hB hS dL_renew_14
    · have hE : E = "java/lang/IllegalStateException" := by rw [hE, hk]; rfl
      subst hE
      refine vx_catch F.1.2.2.2.1 ([⟨0, 9, 12, 13⟩] : List ExceptionTableEntry) ⟨0, 9, 15, 15⟩ ([] : List ExceptionTableEntry) htab (fun z hz => by rw [List.mem_singleton.mp hz]; exact Or.inr ⟨by decide, _, F.1.2.2.2.2 _ qw_198, hN.1⟩) rfl (by decide) (F.1.2.2.2.2 _ qw_199) (va_Nw.use rfl (F.2.1.2.1 _ qn_230)) hce hcv hcl ?_
      refine lv_astore_n (lv' := [(3, .ref q9), (0, .ref (ad 0 0)), (1, .int (iI u9)), (2, .ref (ad 7 0))]) hx hb dL_renew_15 rfl hl (by decide) rfl (fun ls hl => ?_)
      refine wa_const F dL_renew_16 ?_
      refine W.widen (k := 3) (n := 18) (Nat.le_of_ble_eq_true rfl) (Nat.le_of_ble_eq_true rfl) ?_
      exact wa_eI (((ad1, X1), o) : ((Nat → Nat → Nat) × wa_St) × Int64) F ⟨congrArg iI hk.symm, hp, fun q => absurd (hk.symm.trans q) (by decide)⟩ hB hS dL_renew_17
  · obtain ⟨ad1, X1⟩ := u
    have e1 := (h1 hK).symm
    subst e1
    obtain ⟨hx1, hj1, he1⟩ := hp
    have hw : wa_wd D ad1 (wW cy ad1 (a_renew S u9) X1 T o) H1 := hB
    refine lv_i2l (v := lO (f_next S u9.toNat)) hx hb dL_renew_7 rfl ?_
    refine wl_last 7 0 (he1.2.2.2.2.2 0).symm F hw hj1 hS rfl dL_renew_8 (fun H2 locs2 hw hS => ?_)
    rw [wl_o] at hw
    have hj2 := hj1.put (C := wW cy ad1 (a_renew S u9) X1 T o) (kd := 7) (i := 0) (e := wa_aL (cy 5) 1 (fun _ => lO (f_next S u9.toNat))) rfl
    rw [wl_o] at hj2
    refine wa_goto (tgt := 18) F dL_renew_9 (by decide) ?_
    refine wa_const F dL_renew_18 ?_
    refine W.widen (k := 3) (n := 18) (Nat.le_of_ble_eq_true rfl) (Nat.le_of_ble_eq_true rfl) ?_
    exact wa_eI (((ad1, X1), lO (f_next S u9.toNat)) : ((Nat → Nat → Nat) × wa_St) × Int64) F ⟨congrArg iI hK.symm, ⟨hx1, hj2, he1⟩, fun _ => rfl⟩ hw hS dL_renew_19
set_option maxRecDepth 100000 in
set_option maxHeartbeats 4000000 in
/-- stop -/
theorem c_L_stop (l : Launch) (hlt : l.stackTraces = false) (D : va_G) (cy : Nat → ClassId) (ad : Nat → Nat → Nat) (S X T : wa_St) (o : Int64) (A : Nat → Prop) (hj : wa_wj A ad (wW cy ad S X T o)) (hA : wa_Up A) (hwf : wf S) (hxr : xr S X) (hin : wx_inj ad S) (u9 : Int) (ru9 : wa_r u9) (S1 : wa_St) (h1 : k_stop S u9 = 0 → S1 = a_stop S u9) (h2 : k_stop S u9 ≠ 0 → S1 = S) (hk : k_stop S u9 = 0 ∨ k_stop S u9 = 1) : Met l yL_stop [.codeWith yL_stop cL_stop 4 (Option.some FieldType.int) [(0, 9, 12, 13)]] ({ frames := 9, cells := 2, slots := 12, locals := 149 } : Room) (wl_pc [.ref (ad 0 0), .int (iI u9), .ref (ad 7 0)] D cy A (fun H => wa_wd D ad (wW cy ad S X T o) H)) (wl_Q A D cy ad T S S1 (k_stop S u9) (S 28 u9.toNat)) 2 12 A := by
  refine wl_en (by decide +kernel) (Nat.le_of_ble_eq_true rfl) ?_
  intro p e s m args below meth c F hTB hN htab hw ls hl
  have F : wa_fx p s m c meth args cL_stop 4 RL "stop" (Option.some FieldType.int) D cy := F
  have hw : wa_wd D ad (wW cy ad S X T o) s.heap := hw
  have hl : lv_has ls 4 [(0, .ref (ad 0 0)), (1, .int (iI u9)), (2, .ref (ad 7 0))] := hl
  have hx := F.1.1
  have hb := F.1.2.1
  have hS : va_S A s.heap s.heap [] := va_S.rf
  refine lv_aload_n hx hb dL_stop_0 rfl (lv_at hl 2 rfl) ?_
  refine wa_const F dL_stop_1 ?_
  refine lv_aload_n hx hb dL_stop_2 rfl (lv_at hl 0 rfl) ?_
  refine lv_iload_n hx hb dL_stop_3 rfl (lv_at hl 1 rfl) ?_
  refine wl_ci (vL_76 F hTB hS (c_X4_stop l hlt D cy ad S X T o A hj hA hwf hxr hin u9 ru9) ⟨by decide, by decide⟩ ⟨rfl, rfl⟩ hw hw rfl rfl rfl (Nat.le_of_ble_eq_true rfl) hl.1 dL_stop_4 ⟨(Nat.le_of_ble_eq_true rfl), (Nat.le_of_ble_eq_true rfl)⟩) hS (fun E ce q9 u H1 locs1 hE hk0 hp hB hS hce hcv hcl => ?_) (fun u H1 locs1 hK hp hB hS => ?_)
  · obtain ⟨ad1, X1⟩ := u
    have e1 := (h2 hk0).symm
    subst e1
    rcases hk with hk | hk
    · exact absurd hk hk0
    · have hE : E = "java/lang/IndexOutOfBoundsException" := by rw [hE, hk]; rfl
      subst hE
      refine vx_catch F.1.2.2.2.1 ([] : List ExceptionTableEntry) ⟨0, 9, 12, 13⟩ ([] : List ExceptionTableEntry) htab (fun z hz => by cases hz) rfl (by decide) (F.1.2.2.2.2 _ qw_198) (va_Nw.use rfl (F.2.1.2.1 _ qn_162)) hce hcv hcl ?_
      refine lv_astore_n (lv' := [(3, .ref q9), (0, .ref (ad 0 0)), (1, .int (iI u9)), (2, .ref (ad 7 0))]) hx hb dL_stop_12 rfl hl (by decide) rfl (fun ls hl => ?_)
      refine wa_const F dL_stop_13 ?_
      refine W.widen (k := 2) (n := 12) (Nat.le_of_ble_eq_true rfl) (Nat.le_of_ble_eq_true rfl) ?_
      exact wa_eI (((ad1, X1), o) : ((Nat → Nat → Nat) × wa_St) × Int64) F ⟨congrArg iI hk.symm, hp, fun q => absurd (hk.symm.trans q) (by decide)⟩ hB hS dL_stop_14
  · obtain ⟨ad1, X1⟩ := u
    have e1 := (h1 hK).symm
    subst e1
    obtain ⟨hx1, hj1, he1⟩ := hp
    have hw : wa_wd D ad1 (wW cy ad1 (a_stop S u9) X1 T o) H1 := hB
    refine lv_i2l (v := lO (S 28 u9.toNat)) hx hb dL_stop_7 rfl ?_
    refine wl_last 7 0 (he1.2.2.2.2.2 0).symm F hw hj1 hS rfl dL_stop_8 (fun H2 locs2 hw hS => ?_)
    rw [wl_o] at hw
    have hj2 := hj1.put (C := wW cy ad1 (a_stop S u9) X1 T o) (kd := 7) (i := 0) (e := wa_aL (cy 5) 1 (fun _ => lO (S 28 u9.toNat))) rfl
    rw [wl_o] at hj2
    refine wa_goto (tgt := 15) F dL_stop_9 (by decide) ?_
    refine wa_const F dL_stop_15 ?_
    refine W.widen (k := 2) (n := 12) (Nat.le_of_ble_eq_true rfl) (Nat.le_of_ble_eq_true rfl) ?_
    exact wa_eI (((ad1, X1), lO (S 28 u9.toNat)) : ((Nat → Nat → Nat) × wa_St) × Int64) F ⟨congrArg iI hK.symm, ⟨hx1, hj2, he1⟩, fun _ => rfl⟩ hw hS dL_stop_16
set_option maxRecDepth 100000 in
set_option maxHeartbeats 4000000 in
/-- runsFrom -/
theorem c_L_runsFrom (l : Launch) (hlt : l.stackTraces = false) (D : va_G) (cy : Nat → ClassId) (ad : Nat → Nat → Nat) (S X T : wa_St) (o : Int64) (A : Nat → Prop) (hj : wa_wj A ad (wW cy ad S X T o)) (hA : wa_Up A) (hwf : wf S) (hxr : xr S X) (hin : wx_inj ad S) (u9 : Int) (ru9 : wa_r u9) (S1 : wa_St) (h1 : k_from S u9 = 0 → S1 = S) (h2 : k_from S u9 ≠ 0 → S1 = S) (hk : k_from S u9 = 0 ∨ k_from S u9 = 1) : Met l yL_runsFrom [.codeWith yL_runsFrom cL_runsFrom 4 (Option.some FieldType.int) [(0, 9, 12, 13)]] ({ frames := 8, cells := 1, slots := 6, locals := 125 } : Room) (wl_pc [.ref (ad 0 0), .int (iI u9), .ref (ad 7 0)] D cy A (fun H => wa_wd D ad (wW cy ad S X T o) H)) (wl_Q A D cy ad T S S1 (k_from S u9) (S 28 u9.toNat)) 1 6 A := by
  refine wl_en (by decide +kernel) (Nat.le_of_ble_eq_true rfl) ?_
  intro p e s m args below meth c F hTB hN htab hw ls hl
  have F : wa_fx p s m c meth args cL_runsFrom 4 RL "runsFrom" (Option.some FieldType.int) D cy := F
  have hw : wa_wd D ad (wW cy ad S X T o) s.heap := hw
  have hl : lv_has ls 4 [(0, .ref (ad 0 0)), (1, .int (iI u9)), (2, .ref (ad 7 0))] := hl
  have hx := F.1.1
  have hb := F.1.2.1
  have hS : va_S A s.heap s.heap [] := va_S.rf
  refine lv_aload_n hx hb dL_runsFrom_0 rfl (lv_at hl 2 rfl) ?_
  refine wa_const F dL_runsFrom_1 ?_
  refine lv_aload_n hx hb dL_runsFrom_2 rfl (lv_at hl 0 rfl) ?_
  refine lv_iload_n hx hb dL_runsFrom_3 rfl (lv_at hl 1 rfl) ?_
  refine wl_ci (vL_79 F hTB hS (c_X4_runsFrom l hlt D cy ad S X T o A hj hA hwf hxr hin u9 ru9) ⟨by decide, by decide⟩ ⟨rfl, rfl⟩ hw hw rfl rfl rfl (Nat.le_of_ble_eq_true rfl) hl.1 dL_runsFrom_4 ⟨(Nat.le_of_ble_eq_true rfl), (Nat.le_of_ble_eq_true rfl)⟩) hS (fun E ce q9 u H1 locs1 hE hk0 hp hB hS hce hcv hcl => ?_) (fun u H1 locs1 hK hp hB hS => ?_)
  · obtain ⟨ad1, X1⟩ := u
    have e1 := (h2 hk0).symm
    subst e1
    rcases hk with hk | hk
    · exact absurd hk hk0
    · have hE : E = "java/lang/IndexOutOfBoundsException" := by rw [hE, hk]; rfl
      subst hE
      refine vx_catch F.1.2.2.2.1 ([] : List ExceptionTableEntry) ⟨0, 9, 12, 13⟩ ([] : List ExceptionTableEntry) htab (fun z hz => by cases hz) rfl (by decide) (F.1.2.2.2.2 _ qw_198) (va_Nw.use rfl (F.2.1.2.1 _ qn_162)) hce hcv hcl ?_
      refine lv_astore_n (lv' := [(3, .ref q9), (0, .ref (ad 0 0)), (1, .int (iI u9)), (2, .ref (ad 7 0))]) hx hb dL_runsFrom_12 rfl hl (by decide) rfl (fun ls hl => ?_)
      refine wa_const F dL_runsFrom_13 ?_
      refine W.widen (k := 1) (n := 6) (Nat.le_of_ble_eq_true rfl) (Nat.le_of_ble_eq_true rfl) ?_
      exact wa_eI (((ad1, X1), o) : ((Nat → Nat → Nat) × wa_St) × Int64) F ⟨congrArg iI hk.symm, hp, fun q => absurd (hk.symm.trans q) (by decide)⟩ hB hS dL_runsFrom_14
  · obtain ⟨ad1, X1⟩ := u
    have e1 := (h1 hK).symm
    subst e1
    obtain ⟨hx1, hj1, he1⟩ := hp
    have hw : wa_wd D ad1 (wW cy ad1 (S) X1 T o) H1 := hB
    refine lv_i2l (v := lO (S 28 u9.toNat)) hx hb dL_runsFrom_7 rfl ?_
    refine wl_last 7 0 (he1.2.2.2.2.2 0).symm F hw hj1 hS rfl dL_runsFrom_8 (fun H2 locs2 hw hS => ?_)
    rw [wl_o] at hw
    have hj2 := hj1.put (C := wW cy ad1 (S) X1 T o) (kd := 7) (i := 0) (e := wa_aL (cy 5) 1 (fun _ => lO (S 28 u9.toNat))) rfl
    rw [wl_o] at hj2
    refine wa_goto (tgt := 15) F dL_runsFrom_9 (by decide) ?_
    refine wa_const F dL_runsFrom_15 ?_
    refine W.widen (k := 1) (n := 6) (Nat.le_of_ble_eq_true rfl) (Nat.le_of_ble_eq_true rfl) ?_
    exact wa_eI (((ad1, X1), lO (S 28 u9.toNat)) : ((Nat → Nat → Nat) × wa_St) × Int64) F ⟨congrArg iI hK.symm, ⟨hx1, hj2, he1⟩, fun _ => rfl⟩ hw hS dL_runsFrom_16
set_option maxRecDepth 100000 in
set_option maxHeartbeats 4000000 in
/-- oldAt -/
theorem c_L_oldAt (l : Launch) (hlt : l.stackTraces = false) (D : va_G) (cy : Nat → ClassId) (ad : Nat → Nat → Nat) (S X T : wa_St) (o : Int64) (A : Nat → Prop) (hj : wa_wj A ad (wW cy ad S X T o)) (hA : wa_Up A) (hwf : wf S) (hxr : xr S X) (hin : wx_inj ad S) (q : Int) (rq : wa_r q) (S1 : wa_St) (h1 : k_oldAt S q = 0 → S1 = S) (h2 : k_oldAt S q ≠ 0 → S1 = S) (hk : k_oldAt S q = 0 ∨ k_oldAt S q = 1) : Met l yL_oldAt [.codeWith yL_oldAt cL_oldAt 4 (Option.some FieldType.int) [(0, 9, 12, 13)]] ({ frames := 7, cells := 1, slots := 6, locals := 162 } : Room) (wl_pc [.ref (ad 0 0), .int (iI q), .ref (ad 7 0)] D cy A (fun H => wa_wd D ad (wW cy ad S X T o) H)) (wl_Q A D cy ad T S S1 (k_oldAt S q) (f_oldAt S q)) 1 6 A := by
  refine wl_en (by decide +kernel) (Nat.le_of_ble_eq_true rfl) ?_
  intro p e s m args below meth c F hTB hN htab hw ls hl
  have F : wa_fx p s m c meth args cL_oldAt 4 RL "oldAt" (Option.some FieldType.int) D cy := F
  have hw : wa_wd D ad (wW cy ad S X T o) s.heap := hw
  have hl : lv_has ls 4 [(0, .ref (ad 0 0)), (1, .int (iI q)), (2, .ref (ad 7 0))] := hl
  have hx := F.1.1
  have hb := F.1.2.1
  have hS : va_S A s.heap s.heap [] := va_S.rf
  refine lv_aload_n hx hb dL_oldAt_0 rfl (lv_at hl 2 rfl) ?_
  refine wa_const F dL_oldAt_1 ?_
  refine lv_aload_n hx hb dL_oldAt_2 rfl (lv_at hl 0 rfl) ?_
  refine lv_iload_n hx hb dL_oldAt_3 rfl (lv_at hl 1 rfl) ?_
  refine wl_ci (vL_82 F hTB hS (c_X4_oldAt l hlt D cy ad S X T o A hj hA hwf hxr hin q rq) ⟨by decide, by decide⟩ ⟨rfl, rfl⟩ hw hw rfl rfl rfl (Nat.le_of_ble_eq_true rfl) hl.1 dL_oldAt_4 ⟨(Nat.le_of_ble_eq_true rfl), (Nat.le_of_ble_eq_true rfl)⟩) hS (fun E ce q9 u H1 locs1 hE hk0 hp hB hS hce hcv hcl => ?_) (fun u H1 locs1 hK hp hB hS => ?_)
  · obtain ⟨ad1, X1⟩ := u
    have e1 := (h2 hk0).symm
    subst e1
    rcases hk with hk | hk
    · exact absurd hk hk0
    · have hE : E = "java/lang/IndexOutOfBoundsException" := by rw [hE, hk]; rfl
      subst hE
      refine vx_catch F.1.2.2.2.1 ([] : List ExceptionTableEntry) ⟨0, 9, 12, 13⟩ ([] : List ExceptionTableEntry) htab (fun z hz => by cases hz) rfl (by decide) (F.1.2.2.2.2 _ qw_198) (va_Nw.use rfl (F.2.1.2.1 _ qn_162)) hce hcv hcl ?_
      refine lv_astore_n (lv' := [(3, .ref q9), (0, .ref (ad 0 0)), (1, .int (iI q)), (2, .ref (ad 7 0))]) hx hb dL_oldAt_12 rfl hl (by decide) rfl (fun ls hl => ?_)
      refine wa_const F dL_oldAt_13 ?_
      refine W.widen (k := 1) (n := 6) (Nat.le_of_ble_eq_true rfl) (Nat.le_of_ble_eq_true rfl) ?_
      exact wa_eI (((ad1, X1), o) : ((Nat → Nat → Nat) × wa_St) × Int64) F ⟨congrArg iI hk.symm, hp, fun q => absurd (hk.symm.trans q) (by decide)⟩ hB hS dL_oldAt_14
  · obtain ⟨ad1, X1⟩ := u
    have e1 := (h1 hK).symm
    subst e1
    obtain ⟨hx1, hj1, he1⟩ := hp
    have hw : wa_wd D ad1 (wW cy ad1 (S) X1 T o) H1 := hB
    refine lv_i2l (v := lO (f_oldAt S q)) hx hb dL_oldAt_7 rfl ?_
    refine wl_last 7 0 (he1.2.2.2.2.2 0).symm F hw hj1 hS rfl dL_oldAt_8 (fun H2 locs2 hw hS => ?_)
    rw [wl_o] at hw
    have hj2 := hj1.put (C := wW cy ad1 (S) X1 T o) (kd := 7) (i := 0) (e := wa_aL (cy 5) 1 (fun _ => lO (f_oldAt S q))) rfl
    rw [wl_o] at hj2
    refine wa_goto (tgt := 15) F dL_oldAt_9 (by decide) ?_
    refine wa_const F dL_oldAt_15 ?_
    refine W.widen (k := 1) (n := 6) (Nat.le_of_ble_eq_true rfl) (Nat.le_of_ble_eq_true rfl) ?_
    exact wa_eI (((ad1, X1), lO (f_oldAt S q)) : ((Nat → Nat → Nat) × wa_St) × Int64) F ⟨congrArg iI hK.symm, ⟨hx1, hj2, he1⟩, fun _ => rfl⟩ hw hS dL_oldAt_16
