/-! the law: its helpers (laid by program) -/
set_option maxRecDepth 100000 in
set_option maxHeartbeats 4000000 in
/-- stepped around step -/
theorem c_L_stepped (l : Launch) (hlt : l.stackTraces = false) (D : va_G) (cy : Nat → ClassId) (ad : Nat → Nat → Nat) {n : Nat} (T X G : wa_St) (o : Int64) (A : Nat → Prop) (hj : wa_wj A ad (wW cy ad T X G o)) (hA : wa_Up A) (hg : gi n T) (hxr : xr T X) (i q : Int) (ri : wa_r i) (rq : wa_r q) (T1 : wa_St) (v : Int) (hk : k_step T i q = 0 ∨ k_step T i q = 3) (h0 : k_step T i q = 0 → T1 = a_step T i q ∧ v = T 6 i.toNat + 1) (h3 : k_step T i q = 3 → T1 = wa_s T 0 0 3 ∧ v = -3) : Met l yL_stepped [.codeWith yL_stepped cL_stepped 4 (Option.some FieldType.int) [(0, 6, 7, 31)]] ({ frames := 8, cells := 2, slots := 12, locals := 127 } : Room) (wl_pc [.ref (ad 0 0), .int (iI i), .int (iI q)] D cy A (fun H => wa_wd D ad (wW cy ad T X G o) H)) (wl_Q A D cy ad G o T T1 v) 2 12 A := by
  refine wl_en (by decide +kernel) (Nat.le_of_ble_eq_true rfl) ?_
  intro p e s m args below meth c F hTB hN htab hw ls hl
  have F : wa_fx p s m c meth args cL_stepped 4 RL "stepped" (Option.some FieldType.int) D cy := F
  have hw : wa_wd D ad (wW cy ad T X G o) s.heap := hw
  have hl : lv_has ls 4 [(0, .ref (ad 0 0)), (1, .int (iI i)), (2, .int (iI q))] := hl
  have hx := F.1.1
  have hb := F.1.2.1
  have hpk := pk_step hg i q
  have hS : va_S A s.heap s.heap [] := va_S.rf
  refine lv_aload_n hx hb dL_stepped_0 rfl (lv_at hl 0 rfl) ?_
  refine lv_iload_n hx hb dL_stepped_1 rfl (lv_at hl 1 rfl) ?_
  refine lv_iload_n hx hb dL_stepped_2 rfl (lv_at hl 2 rfl) ?_
  refine wl_ci (vL_33 F hTB hS (c_X4_step l hlt D cy ad T X G o A hj hA hg.1 hxr (wx_inj.of hj) i ri q rq) ⟨by decide, by decide⟩ ⟨rfl, rfl⟩ hw hw rfl rfl rfl (Nat.le_of_ble_eq_true rfl) hl.1 dL_stepped_3 ⟨(Nat.le_of_ble_eq_true rfl), (Nat.le_of_ble_eq_true rfl)⟩) hS (fun E ce q9 u H1 locs1 hE hk0 hp hB hS hce hcv hcl => ?_) (fun u H1 locs1 hK hp hB hS => ?_)
  · obtain ⟨ad1, X1⟩ := u
    rcases hk with hk | hk
    · exact absurd hk hk0
    · have hE : E = "java/lang/IllegalStateException" := by rw [hE, hk]; rfl
      subst hE
      obtain ⟨rfl, rfl⟩ := h3 hk
      have e1 : o_x (k_step T i q) T (a_step T i q) = T := if_neg hk0
      rw [e1] at hpk
      have e2 : o_s T (k_step T i q) (a_step T i q) = wa_s T 0 0 3 := (if_neg hk0).trans (by rw [hk])
      rw [e2] at hpk
      obtain ⟨hp1, hw1⟩ := wl_go hpk hp hB
      refine vx_catch F.1.2.2.2.1 ([] : List ExceptionTableEntry) ⟨0, 6, 7, 31⟩ ([] : List ExceptionTableEntry) htab (fun z hz => by cases hz) rfl (by decide) (F.1.2.2.2.2 _ qw_351) (va_Nw.use rfl (F.2.1.2.1 _ qn_177)) hce hcv hcl ?_
      refine lv_astore_n (lv' := [(3, .ref q9), (0, .ref (ad 0 0)), (1, .int (iI i)), (2, .int (iI q))]) hx hb dL_stepped_7 rfl hl (by decide) rfl (fun ls hl => ?_)
      refine wa_bi F dL_stepped_8 (by decide +kernel) ?_
      refine W.widen (k := 2) (n := 12) (Nat.le_of_ble_eq_true rfl) (Nat.le_of_ble_eq_true rfl) ?_
      exact wa_eI ((ad1, X1) : (Nat → Nat → Nat) × wa_St) F ⟨congrArg iI rfl, hp1⟩ hw1 hS dL_stepped_10
  · obtain ⟨ad1, X1⟩ := u
    obtain ⟨rfl, rfl⟩ := h0 hK
    have e1 : o_x (k_step T i q) T (a_step T i q) = a_step T i q := if_pos hK
    rw [e1] at hpk
    have e2 : o_s T (k_step T i q) (a_step T i q) = a_step T i q := if_pos hK
    rw [e2] at hpk
    obtain ⟨hp1, hw1⟩ := wl_go hpk hp hB
    refine W.widen (k := 2) (n := 12) (Nat.le_of_ble_eq_true rfl) (Nat.le_of_ble_eq_true rfl) ?_
    exact wa_eI ((ad1, X1) : (Nat → Nat → Nat) × wa_St) F ⟨congrArg iI rfl, hp1⟩ hw1 hS dL_stepped_6
set_option maxRecDepth 100000 in
set_option maxHeartbeats 4000000 in
/-- changed around change -/
theorem c_L_changed (l : Launch) (hlt : l.stackTraces = false) (D : va_G) (cy : Nat → ClassId) (ad : Nat → Nat → Nat) {n : Nat} (T X G : wa_St) (o : Int64) (A : Nat → Prop) (hj : wa_wj A ad (wW cy ad T X G o)) (hA : wa_Up A) (hg : gi n T) (hxr : xr T X) (i q : Int) (ri : wa_r i) (rq : wa_r q) (hn : n ≤ 600) (T1 : wa_St) (v : Int) (hk : k_change T i q = 0 ∨ k_change T i q = 1) (h0 : k_change T i q = 0 → T1 = a_change T i q ∧ v = a_change T i q 2 i.toNat) (h1 : k_change T i q = 1 → T1 = wa_s T 0 0 1 ∧ v = -2) : Met l yL_changed [.codeWith yL_changed cL_changed 4 (Option.some FieldType.int) [(0, 6, 7, 39)]] ({ frames := 7, cells := 1, slots := 6, locals := 104 } : Room) (wl_pc [.ref (ad 0 0), .int (iI i), .int (iI q)] D cy A (fun H => wa_wd D ad (wW cy ad T X G o) H)) (wl_Q A D cy ad G o T T1 v) 1 6 A := by
  refine wl_en (by decide +kernel) (Nat.le_of_ble_eq_true rfl) ?_
  intro p e s m args below meth c F hTB hN htab hw ls hl
  have F : wa_fx p s m c meth args cL_changed 4 RL "changed" (Option.some FieldType.int) D cy := F
  have hw : wa_wd D ad (wW cy ad T X G o) s.heap := hw
  have hl : lv_has ls 4 [(0, .ref (ad 0 0)), (1, .int (iI i)), (2, .int (iI q))] := hl
  have hx := F.1.1
  have hb := F.1.2.1
  have hpk := pk_change hg hn i q
  have hS : va_S A s.heap s.heap [] := va_S.rf
  refine lv_aload_n hx hb dL_changed_0 rfl (lv_at hl 0 rfl) ?_
  refine lv_iload_n hx hb dL_changed_1 rfl (lv_at hl 1 rfl) ?_
  refine lv_iload_n hx hb dL_changed_2 rfl (lv_at hl 2 rfl) ?_
  refine wl_ci (vL_36 F hTB hS (c_X4_change l hlt D cy ad T X G o A hj hA hg.1 hxr (wx_inj.of hj) i q ri rq) ⟨by decide, by decide⟩ ⟨rfl, rfl⟩ hw hw rfl rfl rfl (Nat.le_of_ble_eq_true rfl) hl.1 dL_changed_3 ⟨(Nat.le_of_ble_eq_true rfl), (Nat.le_of_ble_eq_true rfl)⟩) hS (fun E ce q9 u H1 locs1 hE hk0 hp hB hS hce hcv hcl => ?_) (fun u H1 locs1 hK hp hB hS => ?_)
  · obtain ⟨ad1, X1⟩ := u
    rcases hk with hk | hk
    · exact absurd hk hk0
    · have hE : E = "java/lang/IllegalArgumentException" := by rw [hE, hk]; rfl
      subst hE
      obtain ⟨rfl, rfl⟩ := h1 hk
      have e1 : o_x (k_change T i q) T (a_change T i q) = T := if_neg hk0
      rw [e1] at hpk
      have e2 : o_s T (k_change T i q) (a_change T i q) = wa_s T 0 0 1 := (if_neg hk0).trans (by rw [hk])
      rw [e2] at hpk
      obtain ⟨hp1, hw1⟩ := wl_go hpk hp hB
      refine vx_catch F.1.2.2.2.1 ([] : List ExceptionTableEntry) ⟨0, 6, 7, 39⟩ ([] : List ExceptionTableEntry) htab (fun z hz => by cases hz) rfl (by decide) (F.1.2.2.2.2 _ qw_470) (va_Nw.use rfl (F.2.1.2.1 _ qn_267)) hce hcv hcl ?_
      refine lv_astore_n (lv' := [(3, .ref q9), (0, .ref (ad 0 0)), (1, .int (iI i)), (2, .int (iI q))]) hx hb dL_changed_7 rfl hl (by decide) rfl (fun ls hl => ?_)
      refine wa_bi F dL_changed_8 (by decide +kernel) ?_
      refine W.widen (k := 1) (n := 6) (Nat.le_of_ble_eq_true rfl) (Nat.le_of_ble_eq_true rfl) ?_
      exact wa_eI ((ad1, X1) : (Nat → Nat → Nat) × wa_St) F ⟨congrArg iI rfl, hp1⟩ hw1 hS dL_changed_10
  · obtain ⟨ad1, X1⟩ := u
    obtain ⟨rfl, rfl⟩ := h0 hK
    have e1 : o_x (k_change T i q) T (a_change T i q) = a_change T i q := if_pos hK
    rw [e1] at hpk
    have e2 : o_s T (k_change T i q) (a_change T i q) = a_change T i q := if_pos hK
    rw [e2] at hpk
    obtain ⟨hp1, hw1⟩ := wl_go hpk hp hB
    refine W.widen (k := 1) (n := 6) (Nat.le_of_ble_eq_true rfl) (Nat.le_of_ble_eq_true rfl) ?_
    exact wa_eI ((ad1, X1) : (Nat → Nat → Nat) × wa_St) F ⟨congrArg iI rfl, hp1⟩ hw1 hS dL_changed_6
set_option maxRecDepth 100000 in
set_option maxHeartbeats 4000000 in
/-- started around start -/
theorem c_L_started (l : Launch) (hlt : l.stackTraces = false) (D : va_G) (cy : Nat → ClassId) (ad : Nat → Nat → Nat) {n : Nat} (T X G : wa_St) (o : Int64) (A : Nat → Prop) (hj : wa_wj A ad (wW cy ad T X G o)) (hA : wa_Up A) (hg : gi n T) (hxr : xr T X) (i q r : Int) (ri : wa_r i) (rq : wa_r q) (rr : wa_r r) (T1 : wa_St) (v : Int) (hk : k_start T i q r = 0 ∨ k_start T i q r = 3) (h0 : k_start T i q r = 0 → T1 = a_start T i q r ∧ v = T 29 0) (h3 : k_start T i q r = 3 → T1 = wa_s T 0 0 3 ∧ v = -3) : Met l yL_started [.codeWith yL_started cL_started 5 (Option.some FieldType.int) [(0, 7, 8, 31)]] ({ frames := 8, cells := 2, slots := 12, locals := 130 } : Room) (wl_pc [.ref (ad 0 0), .int (iI i), .int (iI q), .int (iI r)] D cy A (fun H => wa_wd D ad (wW cy ad T X G o) H)) (wl_Q A D cy ad G o T T1 v) 2 12 A := by
  refine wl_en (by decide +kernel) (Nat.le_of_ble_eq_true rfl) ?_
  intro p e s m args below meth c F hTB hN htab hw ls hl
  have F : wa_fx p s m c meth args cL_started 5 RL "started" (Option.some FieldType.int) D cy := F
  have hw : wa_wd D ad (wW cy ad T X G o) s.heap := hw
  have hl : lv_has ls 5 [(0, .ref (ad 0 0)), (1, .int (iI i)), (2, .int (iI q)), (3, .int (iI r))] := hl
  have hx := F.1.1
  have hb := F.1.2.1
  have hpk := pk_start hg i q r
  have hS : va_S A s.heap s.heap [] := va_S.rf
  refine lv_aload_n hx hb dL_started_0 rfl (lv_at hl 0 rfl) ?_
  refine lv_iload_n hx hb dL_started_1 rfl (lv_at hl 1 rfl) ?_
  refine lv_iload_n hx hb dL_started_2 rfl (lv_at hl 2 rfl) ?_
  refine lv_iload_n hx hb dL_started_3 rfl (lv_at hl 3 rfl) ?_
  refine wl_ci (vL_41 F hTB hS (c_X4_start l hlt D cy ad T X G o A hj hA hg.1 hxr (wx_inj.of hj) i q r ri rq rr) ⟨by decide, by decide⟩ ⟨rfl, rfl⟩ hw hw rfl rfl rfl (Nat.le_of_ble_eq_true rfl) hl.1 dL_started_4 ⟨(Nat.le_of_ble_eq_true rfl), (Nat.le_of_ble_eq_true rfl)⟩) hS (fun E ce q9 u H1 locs1 hE hk0 hp hB hS hce hcv hcl => ?_) (fun u H1 locs1 hK hp hB hS => ?_)
  · obtain ⟨ad1, X1⟩ := u
    rcases hk with hk | hk
    · exact absurd hk hk0
    · have hE : E = "java/lang/IllegalStateException" := by rw [hE, hk]; rfl
      subst hE
      obtain ⟨rfl, rfl⟩ := h3 hk
      have e1 : o_x (k_start T i q r) T (a_start T i q r) = T := if_neg hk0
      rw [e1] at hpk
      have e2 : o_s T (k_start T i q r) (a_start T i q r) = wa_s T 0 0 3 := (if_neg hk0).trans (by rw [hk])
      rw [e2] at hpk
      obtain ⟨hp1, hw1⟩ := wl_go hpk hp hB
      refine vx_catch F.1.2.2.2.1 ([] : List ExceptionTableEntry) ⟨0, 7, 8, 31⟩ ([] : List ExceptionTableEntry) htab (fun z hz => by cases hz) rfl (by decide) (F.1.2.2.2.2 _ qw_351) (va_Nw.use rfl (F.2.1.2.1 _ qn_177)) hce hcv hcl ?_
      refine lv_astore (lv' := [(4, .ref q9), (0, .ref (ad 0 0)), (1, .int (iI i)), (2, .int (iI q)), (3, .int (iI r))]) hx hb dL_started_8 hl (by decide) rfl (fun ls hl => ?_)
      refine wa_bi F dL_started_10 (by decide +kernel) ?_
      refine W.widen (k := 2) (n := 12) (Nat.le_of_ble_eq_true rfl) (Nat.le_of_ble_eq_true rfl) ?_
      exact wa_eI ((ad1, X1) : (Nat → Nat → Nat) × wa_St) F ⟨congrArg iI rfl, hp1⟩ hw1 hS dL_started_12
  · obtain ⟨ad1, X1⟩ := u
    obtain ⟨rfl, rfl⟩ := h0 hK
    have e1 : o_x (k_start T i q r) T (a_start T i q r) = a_start T i q r := if_pos hK
    rw [e1] at hpk
    have e2 : o_s T (k_start T i q r) (a_start T i q r) = a_start T i q r := if_pos hK
    rw [e2] at hpk
    obtain ⟨hp1, hw1⟩ := wl_go hpk hp hB
    refine W.widen (k := 2) (n := 12) (Nat.le_of_ble_eq_true rfl) (Nat.le_of_ble_eq_true rfl) ?_
    exact wa_eI ((ad1, X1) : (Nat → Nat → Nat) × wa_St) F ⟨congrArg iI rfl, hp1⟩ hw1 hS dL_started_7
set_option maxRecDepth 100000 in
set_option maxHeartbeats 4000000 in
/-- renewed around renew -/
theorem c_L_renewed (l : Launch) (hlt : l.stackTraces = false) (D : va_G) (cy : Nat → ClassId) (ad : Nat → Nat → Nat) {n : Nat} (T X G : wa_St) (o : Int64) (A : Nat → Prop) (hj : wa_wj A ad (wW cy ad T X G o)) (hA : wa_Up A) (hg : gi n T) (hxr : xr T X) (u : Int) (ru : wa_r u) (T1 : wa_St) (v : Int) (hk : k_renew T u = 0 ∨ k_renew T u = 1 ∨ k_renew T u = 2) (h0 : k_renew T u = 0 → T1 = a_renew T u ∧ v = f_next T u.toNat) (h1 : k_renew T u = 1 → T1 = wa_s T 0 0 1 ∧ v = -1) (h2 : k_renew T u = 2 → T1 = wa_s T 0 0 2 ∧ v = -3) : Met l yL_renewed [.codeWith yL_renewed cL_renewed 3 (Option.some FieldType.int) [(0, 5, 6, 48), (0, 5, 9, 31)]] ({ frames := 9, cells := 3, slots := 18, locals := 149 } : Room) (wl_pc [.ref (ad 0 0), .int (iI u)] D cy A (fun H => wa_wd D ad (wW cy ad T X G o) H)) (wl_Q A D cy ad G o T T1 v) 3 18 A := by
  refine wl_en (by decide +kernel) (Nat.le_of_ble_eq_true rfl) ?_
  intro p e s m args below meth c F hTB hN htab hw ls hl
  have F : wa_fx p s m c meth args cL_renewed 3 RL "renewed" (Option.some FieldType.int) D cy := F
  have hw : wa_wd D ad (wW cy ad T X G o) s.heap := hw
  have hl : lv_has ls 3 [(0, .ref (ad 0 0)), (1, .int (iI u))] := hl
  have hx := F.1.1
  have hb := F.1.2.1
  have hpk := pk_renew hg u
  have hS : va_S A s.heap s.heap [] := va_S.rf
  refine lv_aload_n hx hb dL_renewed_0 rfl (lv_at hl 0 rfl) ?_
  refine lv_iload_n hx hb dL_renewed_1 rfl (lv_at hl 1 rfl) ?_
  refine wl_ci (vL_45 F hTB hS (c_X4_renew l hlt D cy ad T X G o A hj hA hg.1 hxr (wx_inj.of hj) u ru (fun u _ => by have g2 := hg.2.2.2.2.2.2.2.1 u; omega)) ⟨by decide, by decide⟩ ⟨rfl, rfl⟩ hw hw rfl rfl rfl (Nat.le_of_ble_eq_true rfl) hl.1 dL_renewed_2 ⟨(Nat.le_of_ble_eq_true rfl), (Nat.le_of_ble_eq_true rfl)⟩) hS (fun E ce q9 u H1 locs1 hE hk0 hp hB hS hce hcv hcl => ?_) (fun u H1 locs1 hK hp hB hS => ?_)
  · obtain ⟨ad1, X1⟩ := u
    rcases hk with hk | hk | hk
    · exact absurd hk hk0
    · have hE : E = "java/lang/IndexOutOfBoundsException" := by rw [hE, hk]; rfl
      subst hE
      obtain ⟨rfl, rfl⟩ := h1 hk
      have e1 : o_x (k_renew T u) T (a_renew T u) = T := if_neg hk0
      rw [e1] at hpk
      have e2 : o_s T (k_renew T u) (a_renew T u) = wa_s T 0 0 1 := (if_neg hk0).trans (by rw [hk])
      rw [e2] at hpk
      obtain ⟨hp1, hw1⟩ := wl_go hpk hp hB
      refine vx_catch F.1.2.2.2.1 ([] : List ExceptionTableEntry) ⟨0, 5, 6, 48⟩ ([⟨0, 5, 9, 31⟩] : List ExceptionTableEntry) htab (fun z hz => by cases hz) rfl (by decide) (F.1.2.2.2.2 _ qw_522) (va_Nw.use rfl (F.2.1.2.1 _ qn_109)) hce hcv hcl ?_
      refine lv_astore_n (lv' := [(2, .ref q9), (0, .ref (ad 0 0)), (1, .int (iI u))]) hx hb dL_renewed_6 rfl hl (by decide) rfl (fun ls hl => ?_)
      refine wa_const F dL_renewed_7 ?_
      refine W.widen (k := 3) (n := 18) (Nat.le_of_ble_eq_true rfl) (Nat.le_of_ble_eq_true rfl) ?_
      exact wa_eI ((ad1, X1) : (Nat → Nat → Nat) × wa_St) F ⟨congrArg iI rfl, hp1⟩ hw1 hS dL_renewed_8
    · have hE : E = "java/lang/IllegalStateException" := by rw [hE, hk]; rfl
      subst hE
      obtain ⟨rfl, rfl⟩ := h2 hk
      have e1 : o_x (k_renew T u) T (a_renew T u) = T := if_neg hk0
      rw [e1] at hpk
      have e2 : o_s T (k_renew T u) (a_renew T u) = wa_s T 0 0 2 := (if_neg hk0).trans (by rw [hk])
      rw [e2] at hpk
      obtain ⟨hp1, hw1⟩ := wl_go hpk hp hB
      refine vx_catch F.1.2.2.2.1 ([⟨0, 5, 6, 48⟩] : List ExceptionTableEntry) ⟨0, 5, 9, 31⟩ ([] : List ExceptionTableEntry) htab (fun z hz => by rw [List.mem_singleton.mp hz]; exact Or.inr ⟨by decide, _, F.1.2.2.2.2 _ qw_522, hN⟩) rfl (by decide) (F.1.2.2.2.2 _ qw_351) (va_Nw.use rfl (F.2.1.2.1 _ qn_177)) hce hcv hcl ?_
      refine lv_astore_n (lv' := [(2, .ref q9), (0, .ref (ad 0 0)), (1, .int (iI u))]) hx hb dL_renewed_9 rfl hl (by decide) rfl (fun ls hl => ?_)
      refine wa_bi F dL_renewed_10 (by decide +kernel) ?_
      refine W.widen (k := 3) (n := 18) (Nat.le_of_ble_eq_true rfl) (Nat.le_of_ble_eq_true rfl) ?_
      exact wa_eI ((ad1, X1) : (Nat → Nat → Nat) × wa_St) F ⟨congrArg iI rfl, hp1⟩ hw1 hS dL_renewed_12
  · obtain ⟨ad1, X1⟩ := u
    obtain ⟨rfl, rfl⟩ := h0 hK
    have e1 : o_x (k_renew T u) T (a_renew T u) = a_renew T u := if_pos hK
    rw [e1] at hpk
    have e2 : o_s T (k_renew T u) (a_renew T u) = a_renew T u := if_pos hK
    rw [e2] at hpk
    obtain ⟨hp1, hw1⟩ := wl_go hpk hp hB
    refine W.widen (k := 3) (n := 18) (Nat.le_of_ble_eq_true rfl) (Nat.le_of_ble_eq_true rfl) ?_
    exact wa_eI ((ad1, X1) : (Nat → Nat → Nat) × wa_St) F ⟨congrArg iI rfl, hp1⟩ hw1 hS dL_renewed_5
set_option maxRecDepth 100000 in
set_option maxHeartbeats 4000000 in
/-- stopped around stop -/
theorem c_L_stopped (l : Launch) (hlt : l.stackTraces = false) (D : va_G) (cy : Nat → ClassId) (ad : Nat → Nat → Nat) {n : Nat} (T X G : wa_St) (o : Int64) (A : Nat → Prop) (hj : wa_wj A ad (wW cy ad T X G o)) (hA : wa_Up A) (hg : gi n T) (hxr : xr T X) (u : Int) (ru : wa_r u) (T1 : wa_St) (v : Int) (hk : k_stop T u = 0 ∨ k_stop T u = 1) (h0 : k_stop T u = 0 → T1 = a_stop T u ∧ v = T 28 u.toNat) (h1 : k_stop T u = 1 → T1 = wa_s T 0 0 1 ∧ v = -1) : Met l yL_stopped [.codeWith yL_stopped cL_stopped 3 (Option.some FieldType.int) [(0, 5, 6, 48)]] ({ frames := 9, cells := 2, slots := 12, locals := 149 } : Room) (wl_pc [.ref (ad 0 0), .int (iI u)] D cy A (fun H => wa_wd D ad (wW cy ad T X G o) H)) (wl_Q A D cy ad G o T T1 v) 2 12 A := by
  refine wl_en (by decide +kernel) (Nat.le_of_ble_eq_true rfl) ?_
  intro p e s m args below meth c F hTB hN htab hw ls hl
  have F : wa_fx p s m c meth args cL_stopped 3 RL "stopped" (Option.some FieldType.int) D cy := F
  have hw : wa_wd D ad (wW cy ad T X G o) s.heap := hw
  have hl : lv_has ls 3 [(0, .ref (ad 0 0)), (1, .int (iI u))] := hl
  have hx := F.1.1
  have hb := F.1.2.1
  have hpk := pk_stop hg u
  have hS : va_S A s.heap s.heap [] := va_S.rf
  refine lv_aload_n hx hb dL_stopped_0 rfl (lv_at hl 0 rfl) ?_
  refine lv_iload_n hx hb dL_stopped_1 rfl (lv_at hl 1 rfl) ?_
  refine wl_ci (vL_50 F hTB hS (c_X4_stop l hlt D cy ad T X G o A hj hA hg.1 hxr (wx_inj.of hj) u ru) ⟨by decide, by decide⟩ ⟨rfl, rfl⟩ hw hw rfl rfl rfl (Nat.le_of_ble_eq_true rfl) hl.1 dL_stopped_2 ⟨(Nat.le_of_ble_eq_true rfl), (Nat.le_of_ble_eq_true rfl)⟩) hS (fun E ce q9 u H1 locs1 hE hk0 hp hB hS hce hcv hcl => ?_) (fun u H1 locs1 hK hp hB hS => ?_)
  · obtain ⟨ad1, X1⟩ := u
    rcases hk with hk | hk
    · exact absurd hk hk0
    · have hE : E = "java/lang/IndexOutOfBoundsException" := by rw [hE, hk]; rfl
      subst hE
      obtain ⟨rfl, rfl⟩ := h1 hk
      have e1 : o_x (k_stop T u) T (a_stop T u) = T := if_neg hk0
      rw [e1] at hpk
      have e2 : o_s T (k_stop T u) (a_stop T u) = wa_s T 0 0 1 := (if_neg hk0).trans (by rw [hk])
      rw [e2] at hpk
      obtain ⟨hp1, hw1⟩ := wl_go hpk hp hB
      refine vx_catch F.1.2.2.2.1 ([] : List ExceptionTableEntry) ⟨0, 5, 6, 48⟩ ([] : List ExceptionTableEntry) htab (fun z hz => by cases hz) rfl (by decide) (F.1.2.2.2.2 _ qw_522) (va_Nw.use rfl (F.2.1.2.1 _ qn_109)) hce hcv hcl ?_
      refine lv_astore_n (lv' := [(2, .ref q9), (0, .ref (ad 0 0)), (1, .int (iI u))]) hx hb dL_stopped_6 rfl hl (by decide) rfl (fun ls hl => ?_)
      refine wa_const F dL_stopped_7 ?_
      refine W.widen (k := 2) (n := 12) (Nat.le_of_ble_eq_true rfl) (Nat.le_of_ble_eq_true rfl) ?_
      exact wa_eI ((ad1, X1) : (Nat → Nat → Nat) × wa_St) F ⟨congrArg iI rfl, hp1⟩ hw1 hS dL_stopped_8
  · obtain ⟨ad1, X1⟩ := u
    obtain ⟨rfl, rfl⟩ := h0 hK
    have e1 : o_x (k_stop T u) T (a_stop T u) = a_stop T u := if_pos hK
    rw [e1] at hpk
    have e2 : o_s T (k_stop T u) (a_stop T u) = a_stop T u := if_pos hK
    rw [e2] at hpk
    obtain ⟨hp1, hw1⟩ := wl_go hpk hp hB
    refine W.widen (k := 2) (n := 12) (Nat.le_of_ble_eq_true rfl) (Nat.le_of_ble_eq_true rfl) ?_
    exact wa_eI ((ad1, X1) : (Nat → Nat → Nat) × wa_St) F ⟨congrArg iI rfl, hp1⟩ hw1 hS dL_stopped_5
set_option maxRecDepth 100000 in
set_option maxHeartbeats 4000000 in
/-- tried around bake -/
theorem c_L_tried0 (l : Launch) (hlt : l.stackTraces = false) (D : va_G) (cy : Nat → ClassId) (ad : Nat → Nat → Nat) {n : Nat} (T X G : wa_St) (o : Int64) (A : Nat → Prop) (hj : wa_wj A ad (wW cy ad T X G o)) (hA : wa_Up A) (hg : gi n T) (hxr : xr T X) (a b : Int) (ra : wa_r a) (rb : wa_r b) (T1 : wa_St) (v : Int) (hk : k_bake T a = 0 ∨ k_bake T a = 2) (h0 : k_bake T a = 0 → T1 = a_bake T a ∧ v = a_bake T a 7 a.toNat) (h2 : k_bake T a = 2 → T1 = wa_s T 0 0 2 ∧ v = -3) : Met l yL_tried [.codeWith yL_tried cL_tried 5 (Option.some FieldType.int) [(0, 86, 87, 31)]] ({ frames := 8, cells := 3, slots := 18, locals := 163 } : Room) (wl_pc [.ref (ad 0 0), .int (iI 0), .int (iI a), .int (iI b)] D cy A (fun H => wa_wd D ad (wW cy ad T X G o) H)) (wl_Q A D cy ad G o T T1 v) 3 18 A := by
  refine wl_en (by decide +kernel) (Nat.le_of_ble_eq_true rfl) ?_
  intro p e s m args below meth c F hTB hN htab hw ls hl
  have F : wa_fx p s m c meth args cL_tried 5 RL "tried" (Option.some FieldType.int) D cy := F
  have hw : wa_wd D ad (wW cy ad T X G o) s.heap := hw
  have hl : lv_has ls 5 [(0, .ref (ad 0 0)), (1, .int (iI 0)), (2, .int (iI a)), (3, .int (iI b))] := hl
  have hx := F.1.1
  have hb := F.1.2.1
  have hpk := pk_bake hg a
  have hS : va_S A s.heap s.heap [] := va_S.rf
  refine lv_iload_n hx hb dL_tried_0 rfl (lv_at hl 1 rfl) ?_
  refine wa_if_ne (tgt := 12) F dL_tried_1 (by decide) (by decide) (fun c1 => absurd c1 (by decide)) (fun c1 => ?_)
  refine lv_aload_n hx hb dL_tried_4 rfl (lv_at hl 0 rfl) ?_
  refine lv_iload_n hx hb dL_tried_5 rfl (lv_at hl 2 rfl) ?_
  refine wl_ci (vL_7 F hTB hS (c_X4_bake l hlt D cy ad T X G o A hj hA hg.1 hxr (wx_inj.of hj) a ra (fun h => by have := hg.2.2.1; omega)) ⟨by decide, by decide⟩ ⟨rfl, rfl⟩ hw hw rfl rfl rfl (Nat.le_of_ble_eq_true rfl) hl.1 dL_tried_6 ⟨(Nat.le_of_ble_eq_true rfl), (Nat.le_of_ble_eq_true rfl)⟩) hS (fun E ce q9 u H1 locs1 hE hk0 hp hB hS hce hcv hcl => ?_) (fun u H1 locs1 hK hp hB hS => ?_)
  · obtain ⟨ad1, X1⟩ := u
    rw [(j_bake_eq hg.1 a)] at hE hk0
    rcases hk with hk | hk
    · exact absurd hk hk0
    · have hE : E = "java/lang/IllegalStateException" := by rw [hE, hk]; rfl
      subst hE
      obtain ⟨rfl, rfl⟩ := h2 hk
      have e1 : o_x (j_bake T a) T (x_bn T a) = T := if_neg (fun z => hk0 ((j_bake_eq hg.1 a).symm.trans z))
      rw [e1] at hpk
      have e2 : o_s T (k_bake T a) (a_bake T a) = wa_s T 0 0 2 := (if_neg hk0).trans (by rw [hk])
      rw [e2] at hpk
      obtain ⟨hp1, hw1⟩ := wl_go hpk hp hB
      refine vx_catch F.1.2.2.2.1 ([] : List ExceptionTableEntry) ⟨0, 86, 87, 31⟩ ([] : List ExceptionTableEntry) htab (fun z hz => by cases hz) rfl (by decide) (F.1.2.2.2.2 _ qw_351) (va_Nw.use rfl (F.2.1.2.1 _ qn_177)) hce hcv hcl ?_
      refine lv_astore (lv' := [(4, .ref q9), (0, .ref (ad 0 0)), (1, .int (iI 0)), (2, .int (iI a)), (3, .int (iI b))]) hx hb dL_tried_87 hl (by decide) rfl (fun ls hl => ?_)
      refine wa_bi F dL_tried_89 (by decide +kernel) ?_
      refine W.widen (k := 3) (n := 18) (Nat.le_of_ble_eq_true rfl) (Nat.le_of_ble_eq_true rfl) ?_
      exact wa_eI ((ad1, X1) : (Nat → Nat → Nat) × wa_St) F ⟨congrArg iI rfl, hp1⟩ hw1 hS dL_tried_91
  · obtain ⟨ad1, X1⟩ := u
    rw [(j_bake_eq hg.1 a)] at hK
    obtain ⟨rfl, rfl⟩ := h0 hK
    have e1 : o_x (j_bake T a) T (x_bn T a) = x_bn T a := if_pos ((j_bake_eq hg.1 a).trans hK)
    rw [e1] at hpk
    have e2 : o_s T (k_bake T a) (a_bake T a) = a_bake T a := if_pos hK
    rw [e2] at hpk
    obtain ⟨hp1, hw1⟩ := wl_go hpk hp hB
    refine wa_goto (tgt := 86) F dL_tried_9 (by decide) ?_
    refine W.widen (k := 3) (n := 18) (Nat.le_of_ble_eq_true rfl) (Nat.le_of_ble_eq_true rfl) ?_
    exact wa_eI ((ad1, X1) : (Nat → Nat → Nat) × wa_St) F ⟨congrArg iI ((bn_eq hg hK).2.1 7 _ (by decide) (by decide) (by decide)), hp1⟩ hw1 hS dL_tried_86
set_option maxRecDepth 100000 in
set_option maxHeartbeats 4000000 in
/-- tried around hold -/
theorem c_L_tried1 (l : Launch) (hlt : l.stackTraces = false) (D : va_G) (cy : Nat → ClassId) (ad : Nat → Nat → Nat) {n : Nat} (T X G : wa_St) (o : Int64) (A : Nat → Prop) (hj : wa_wj A ad (wW cy ad T X G o)) (hA : wa_Up A) (hg : gi n T) (hxr : xr T X) (a b : Int) (ra : wa_r a) (rb : wa_r b) (T1 : wa_St) (v : Int) (hk : k_hold T a = 0 ∨ k_hold T a = 2) (h0 : k_hold T a = 0 → T1 = a_hold T a ∧ v = f_run T a) (h2 : k_hold T a = 2 → T1 = wa_s T 0 0 2 ∧ v = -3) : Met l yL_tried [.codeWith yL_tried cL_tried 5 (Option.some FieldType.int) [(0, 86, 87, 31)]] ({ frames := 8, cells := 2, slots := 12, locals := 126 } : Room) (wl_pc [.ref (ad 0 0), .int (iI 1), .int (iI a), .int (iI b)] D cy A (fun H => wa_wd D ad (wW cy ad T X G o) H)) (wl_Q A D cy ad G o T T1 v) 2 12 A := by
  refine wl_en (by decide +kernel) (Nat.le_of_ble_eq_true rfl) ?_
  intro p e s m args below meth c F hTB hN htab hw ls hl
  have F : wa_fx p s m c meth args cL_tried 5 RL "tried" (Option.some FieldType.int) D cy := F
  have hw : wa_wd D ad (wW cy ad T X G o) s.heap := hw
  have hl : lv_has ls 5 [(0, .ref (ad 0 0)), (1, .int (iI 1)), (2, .int (iI a)), (3, .int (iI b))] := hl
  have hx := F.1.1
  have hb := F.1.2.1
  have hpk := pk_hold hg a
  have hS : va_S A s.heap s.heap [] := va_S.rf
  refine lv_iload_n hx hb dL_tried_0 rfl (lv_at hl 1 rfl) ?_
  refine wa_if_ne (tgt := 12) F dL_tried_1 (by decide) (by decide) (fun c1 => ?_) (fun c1 => absurd c1 (by decide))
  refine lv_iload_n hx hb dL_tried_12 rfl (lv_at hl 1 rfl) ?_
  refine wa_const F dL_tried_13 ?_
  refine wa_ic_ne (tgt := 25) F dL_tried_14 (by decide) (by decide) (by decide) (fun c14 => absurd c14 (by decide)) (fun c14 => ?_)
  refine lv_aload_n hx hb dL_tried_17 rfl (lv_at hl 0 rfl) ?_
  refine lv_iload_n hx hb dL_tried_18 rfl (lv_at hl 2 rfl) ?_
  refine wl_ci (vL_13 F hTB hS (c_X4_hold l hlt D cy ad T X G o A hj hA hg.1 hxr (wx_inj.of hj) a ra) ⟨by decide, by decide⟩ ⟨rfl, rfl⟩ hw hw rfl rfl rfl (Nat.le_of_ble_eq_true rfl) hl.1 dL_tried_19 ⟨(Nat.le_of_ble_eq_true rfl), (Nat.le_of_ble_eq_true rfl)⟩) hS (fun E ce q9 u H1 locs1 hE hk0 hp hB hS hce hcv hcl => ?_) (fun u H1 locs1 hK hp hB hS => ?_)
  · obtain ⟨ad1, X1⟩ := u
    rcases hk with hk | hk
    · exact absurd hk hk0
    · have hE : E = "java/lang/IllegalStateException" := by rw [hE, hk]; rfl
      subst hE
      obtain ⟨rfl, rfl⟩ := h2 hk
      have e1 : o_x (k_hold T a) T (a_hold T a) = T := if_neg hk0
      rw [e1] at hpk
      have e2 : o_s T (k_hold T a) (a_hold T a) = wa_s T 0 0 2 := (if_neg hk0).trans (by rw [hk])
      rw [e2] at hpk
      obtain ⟨hp1, hw1⟩ := wl_go hpk hp hB
      refine vx_catch F.1.2.2.2.1 ([] : List ExceptionTableEntry) ⟨0, 86, 87, 31⟩ ([] : List ExceptionTableEntry) htab (fun z hz => by cases hz) rfl (by decide) (F.1.2.2.2.2 _ qw_351) (va_Nw.use rfl (F.2.1.2.1 _ qn_177)) hce hcv hcl ?_
      refine lv_astore (lv' := [(4, .ref q9), (0, .ref (ad 0 0)), (1, .int (iI 1)), (2, .int (iI a)), (3, .int (iI b))]) hx hb dL_tried_87 hl (by decide) rfl (fun ls hl => ?_)
      refine wa_bi F dL_tried_89 (by decide +kernel) ?_
      refine W.widen (k := 2) (n := 12) (Nat.le_of_ble_eq_true rfl) (Nat.le_of_ble_eq_true rfl) ?_
      exact wa_eI ((ad1, X1) : (Nat → Nat → Nat) × wa_St) F ⟨congrArg iI rfl, hp1⟩ hw1 hS dL_tried_91
  · obtain ⟨ad1, X1⟩ := u
    obtain ⟨rfl, rfl⟩ := h0 hK
    have e1 : o_x (k_hold T a) T (a_hold T a) = a_hold T a := if_pos hK
    rw [e1] at hpk
    have e2 : o_s T (k_hold T a) (a_hold T a) = a_hold T a := if_pos hK
    rw [e2] at hpk
    obtain ⟨hp1, hw1⟩ := wl_go hpk hp hB
    refine wa_goto (tgt := 86) F dL_tried_22 (by decide) ?_
    refine W.widen (k := 2) (n := 12) (Nat.le_of_ble_eq_true rfl) (Nat.le_of_ble_eq_true rfl) ?_
    exact wa_eI ((ad1, X1) : (Nat → Nat → Nat) × wa_St) F ⟨congrArg iI rfl, hp1⟩ hw1 hS dL_tried_86
set_option maxRecDepth 100000 in
set_option maxHeartbeats 4000000 in
/-- tried around raise -/
theorem c_L_tried2 (l : Launch) (hlt : l.stackTraces = false) (D : va_G) (cy : Nat → ClassId) (ad : Nat → Nat → Nat) {n : Nat} (T X G : wa_St) (o : Int64) (A : Nat → Prop) (hj : wa_wj A ad (wW cy ad T X G o)) (hA : wa_Up A) (hg : gi n T) (hxr : xr T X) (a b : Int) (ra : wa_r a) (rb : wa_r b) (T1 : wa_St) (v : Int) (hk : k_raise T a = 0 ∨ k_raise T a = 2) (h0 : k_raise T a = 0 → T1 = a_raise T a ∧ v = T 16 a.toNat + 1) (h2 : k_raise T a = 2 → T1 = wa_s T 0 0 2 ∧ v = -3) : Met l yL_tried [.codeWith yL_tried cL_tried 5 (Option.some FieldType.int) [(0, 86, 87, 31)]] ({ frames := 8, cells := 2, slots := 12, locals := 126 } : Room) (wl_pc [.ref (ad 0 0), .int (iI 2), .int (iI a), .int (iI b)] D cy A (fun H => wa_wd D ad (wW cy ad T X G o) H)) (wl_Q A D cy ad G o T T1 v) 2 12 A := by
  refine wl_en (by decide +kernel) (Nat.le_of_ble_eq_true rfl) ?_
  intro p e s m args below meth c F hTB hN htab hw ls hl
  have F : wa_fx p s m c meth args cL_tried 5 RL "tried" (Option.some FieldType.int) D cy := F
  have hw : wa_wd D ad (wW cy ad T X G o) s.heap := hw
  have hl : lv_has ls 5 [(0, .ref (ad 0 0)), (1, .int (iI 2)), (2, .int (iI a)), (3, .int (iI b))] := hl
  have hx := F.1.1
  have hb := F.1.2.1
  have hpk := pk_raise hg a
  have hS : va_S A s.heap s.heap [] := va_S.rf
  refine lv_iload_n hx hb dL_tried_0 rfl (lv_at hl 1 rfl) ?_
  refine wa_if_ne (tgt := 12) F dL_tried_1 (by decide) (by decide) (fun c1 => ?_) (fun c1 => absurd c1 (by decide))
  refine lv_iload_n hx hb dL_tried_12 rfl (lv_at hl 1 rfl) ?_
  refine wa_const F dL_tried_13 ?_
  refine wa_ic_ne (tgt := 25) F dL_tried_14 (by decide) (by decide) (by decide) (fun c14 => ?_) (fun c14 => absurd c14 (by decide))
  refine lv_iload_n hx hb dL_tried_25 rfl (lv_at hl 1 rfl) ?_
  refine wa_const F dL_tried_26 ?_
  refine wa_ic_ne (tgt := 38) F dL_tried_27 (by decide) (by decide) (by decide) (fun c27 => absurd c27 (by decide)) (fun c27 => ?_)
  refine lv_aload_n hx hb dL_tried_30 rfl (lv_at hl 0 rfl) ?_
  refine lv_iload_n hx hb dL_tried_31 rfl (lv_at hl 2 rfl) ?_
  refine wl_ci (vL_16 F hTB hS (c_X4_raise l hlt D cy ad T X G o A hj hA hg.1 hxr (wx_inj.of hj) a ra hg.2.2.2.2.2.2.1) ⟨by decide, by decide⟩ ⟨rfl, rfl⟩ hw hw rfl rfl rfl (Nat.le_of_ble_eq_true rfl) hl.1 dL_tried_32 ⟨(Nat.le_of_ble_eq_true rfl), (Nat.le_of_ble_eq_true rfl)⟩) hS (fun E ce q9 u H1 locs1 hE hk0 hp hB hS hce hcv hcl => ?_) (fun u H1 locs1 hK hp hB hS => ?_)
  · obtain ⟨ad1, X1⟩ := u
    rcases hk with hk | hk
    · exact absurd hk hk0
    · have hE : E = "java/lang/IllegalStateException" := by rw [hE, hk]; rfl
      subst hE
      obtain ⟨rfl, rfl⟩ := h2 hk
      have e1 : o_x (k_raise T a) T (a_raise T a) = T := if_neg hk0
      rw [e1] at hpk
      have e2 : o_s T (k_raise T a) (a_raise T a) = wa_s T 0 0 2 := (if_neg hk0).trans (by rw [hk])
      rw [e2] at hpk
      obtain ⟨hp1, hw1⟩ := wl_go hpk hp hB
      refine vx_catch F.1.2.2.2.1 ([] : List ExceptionTableEntry) ⟨0, 86, 87, 31⟩ ([] : List ExceptionTableEntry) htab (fun z hz => by cases hz) rfl (by decide) (F.1.2.2.2.2 _ qw_351) (va_Nw.use rfl (F.2.1.2.1 _ qn_177)) hce hcv hcl ?_
      refine lv_astore (lv' := [(4, .ref q9), (0, .ref (ad 0 0)), (1, .int (iI 2)), (2, .int (iI a)), (3, .int (iI b))]) hx hb dL_tried_87 hl (by decide) rfl (fun ls hl => ?_)
      refine wa_bi F dL_tried_89 (by decide +kernel) ?_
      refine W.widen (k := 2) (n := 12) (Nat.le_of_ble_eq_true rfl) (Nat.le_of_ble_eq_true rfl) ?_
      exact wa_eI ((ad1, X1) : (Nat → Nat → Nat) × wa_St) F ⟨congrArg iI rfl, hp1⟩ hw1 hS dL_tried_91
  · obtain ⟨ad1, X1⟩ := u
    obtain ⟨rfl, rfl⟩ := h0 hK
    have e1 : o_x (k_raise T a) T (a_raise T a) = a_raise T a := if_pos hK
    rw [e1] at hpk
    have e2 : o_s T (k_raise T a) (a_raise T a) = a_raise T a := if_pos hK
    rw [e2] at hpk
    obtain ⟨hp1, hw1⟩ := wl_go hpk hp hB
    refine wa_goto (tgt := 86) F dL_tried_35 (by decide) ?_
    refine W.widen (k := 2) (n := 12) (Nat.le_of_ble_eq_true rfl) (Nat.le_of_ble_eq_true rfl) ?_
    exact wa_eI ((ad1, X1) : (Nat → Nat → Nat) × wa_St) F ⟨congrArg iI rfl, hp1⟩ hw1 hS dL_tried_86
set_option maxRecDepth 100000 in
set_option maxHeartbeats 4000000 in
/-- tried around copy -/
theorem c_L_tried3 (l : Launch) (hlt : l.stackTraces = false) (D : va_G) (cy : Nat → ClassId) (ad : Nat → Nat → Nat) {n : Nat} (T X G : wa_St) (o : Int64) (A : Nat → Prop) (hj : wa_wj A ad (wW cy ad T X G o)) (hA : wa_Up A) (hg : gi n T) (hxr : xr T X) (a b : Int) (ra : wa_r a) (rb : wa_r b) (hn : n ≤ 600) (T1 : wa_St) (v : Int) (hk : k_copy T a b = 0 ∨ k_copy T a b = 3) (h0 : k_copy T a b = 0 → T1 = a_copy T a b ∧ v = T 1 0 + T 22 b.toNat) (h3 : k_copy T a b = 3 → T1 = wa_s T 0 0 3 ∧ v = -3) : Met l yL_tried [.codeWith yL_tried cL_tried 5 (Option.some FieldType.int) [(0, 86, 87, 31)]] ({ frames := 8, cells := 2, slots := 12, locals := 127 } : Room) (wl_pc [.ref (ad 0 0), .int (iI 3), .int (iI a), .int (iI b)] D cy A (fun H => wa_wd D ad (wW cy ad T X G o) H)) (wl_Q A D cy ad G o T T1 v) 2 12 A := by
  refine wl_en (by decide +kernel) (Nat.le_of_ble_eq_true rfl) ?_
  intro p e s m args below meth c F hTB hN htab hw ls hl
  have F : wa_fx p s m c meth args cL_tried 5 RL "tried" (Option.some FieldType.int) D cy := F
  have hw : wa_wd D ad (wW cy ad T X G o) s.heap := hw
  have hl : lv_has ls 5 [(0, .ref (ad 0 0)), (1, .int (iI 3)), (2, .int (iI a)), (3, .int (iI b))] := hl
  have hx := F.1.1
  have hb := F.1.2.1
  have hpk := pk_copy hg hn a b
  have hS : va_S A s.heap s.heap [] := va_S.rf
  refine lv_iload_n hx hb dL_tried_0 rfl (lv_at hl 1 rfl) ?_
  refine wa_if_ne (tgt := 12) F dL_tried_1 (by decide) (by decide) (fun c1 => ?_) (fun c1 => absurd c1 (by decide))
  refine lv_iload_n hx hb dL_tried_12 rfl (lv_at hl 1 rfl) ?_
  refine wa_const F dL_tried_13 ?_
  refine wa_ic_ne (tgt := 25) F dL_tried_14 (by decide) (by decide) (by decide) (fun c14 => ?_) (fun c14 => absurd c14 (by decide))
  refine lv_iload_n hx hb dL_tried_25 rfl (lv_at hl 1 rfl) ?_
  refine wa_const F dL_tried_26 ?_
  refine wa_ic_ne (tgt := 38) F dL_tried_27 (by decide) (by decide) (by decide) (fun c27 => ?_) (fun c27 => absurd c27 (by decide))
  refine lv_iload_n hx hb dL_tried_38 rfl (lv_at hl 1 rfl) ?_
  refine wa_const F dL_tried_39 ?_
  refine wa_ic_ne (tgt := 52) F dL_tried_40 (by decide) (by decide) (by decide) (fun c40 => absurd c40 (by decide)) (fun c40 => ?_)
  refine lv_aload_n hx hb dL_tried_43 rfl (lv_at hl 0 rfl) ?_
  refine lv_iload_n hx hb dL_tried_44 rfl (lv_at hl 2 rfl) ?_
  refine lv_iload_n hx hb dL_tried_45 rfl (lv_at hl 3 rfl) ?_
  refine wl_ci (vL_19 F hTB hS (c_X4_copy l hlt D cy ad T X G o A hj hA hg.1 hxr (wx_inj.of hj) a ra b rb (fun j => by have g1 := hg.2.2.2.2.2.2.2.2.1 j; have g2 := hg.2.2.2.2.2.2.2.2.2.1; omega)) ⟨by decide, by decide⟩ ⟨rfl, rfl⟩ hw hw rfl rfl rfl (Nat.le_of_ble_eq_true rfl) hl.1 dL_tried_46 ⟨(Nat.le_of_ble_eq_true rfl), (Nat.le_of_ble_eq_true rfl)⟩) hS (fun E ce q9 u H1 locs1 hE hk0 hp hB hS hce hcv hcl => ?_) (fun u H1 locs1 hK hp hB hS => ?_)
  · obtain ⟨ad1, X1⟩ := u
    rcases hk with hk | hk
    · exact absurd hk hk0
    · have hE : E = "java/lang/IllegalStateException" := by rw [hE, hk]; rfl
      subst hE
      obtain ⟨rfl, rfl⟩ := h3 hk
      have e1 : o_x (k_copy T a b) T (a_copy T a b) = T := if_neg hk0
      rw [e1] at hpk
      have e2 : o_s T (k_copy T a b) (a_copy T a b) = wa_s T 0 0 3 := (if_neg hk0).trans (by rw [hk])
      rw [e2] at hpk
      obtain ⟨hp1, hw1⟩ := wl_go hpk hp hB
      refine vx_catch F.1.2.2.2.1 ([] : List ExceptionTableEntry) ⟨0, 86, 87, 31⟩ ([] : List ExceptionTableEntry) htab (fun z hz => by cases hz) rfl (by decide) (F.1.2.2.2.2 _ qw_351) (va_Nw.use rfl (F.2.1.2.1 _ qn_177)) hce hcv hcl ?_
      refine lv_astore (lv' := [(4, .ref q9), (0, .ref (ad 0 0)), (1, .int (iI 3)), (2, .int (iI a)), (3, .int (iI b))]) hx hb dL_tried_87 hl (by decide) rfl (fun ls hl => ?_)
      refine wa_bi F dL_tried_89 (by decide +kernel) ?_
      refine W.widen (k := 2) (n := 12) (Nat.le_of_ble_eq_true rfl) (Nat.le_of_ble_eq_true rfl) ?_
      exact wa_eI ((ad1, X1) : (Nat → Nat → Nat) × wa_St) F ⟨congrArg iI rfl, hp1⟩ hw1 hS dL_tried_91
  · obtain ⟨ad1, X1⟩ := u
    obtain ⟨rfl, rfl⟩ := h0 hK
    have e1 : o_x (k_copy T a b) T (a_copy T a b) = a_copy T a b := if_pos hK
    rw [e1] at hpk
    have e2 : o_s T (k_copy T a b) (a_copy T a b) = a_copy T a b := if_pos hK
    rw [e2] at hpk
    obtain ⟨hp1, hw1⟩ := wl_go hpk hp hB
    refine wa_goto (tgt := 86) F dL_tried_49 (by decide) ?_
    refine W.widen (k := 2) (n := 12) (Nat.le_of_ble_eq_true rfl) (Nat.le_of_ble_eq_true rfl) ?_
    exact wa_eI ((ad1, X1) : (Nat → Nat → Nat) × wa_St) F ⟨congrArg iI rfl, hp1⟩ hw1 hS dL_tried_86
set_option maxRecDepth 100000 in
set_option maxHeartbeats 4000000 in
/-- tried around bakeAll -/
theorem c_L_tried4 (l : Launch) (hlt : l.stackTraces = false) (D : va_G) (cy : Nat → ClassId) (ad : Nat → Nat → Nat) {n : Nat} (T X G : wa_St) (o : Int64) (A : Nat → Prop) (hj : wa_wj A ad (wW cy ad T X G o)) (hA : wa_Up A) (hg : gi n T) (hxr : xr T X) (a b : Int) (ra : wa_r a) (rb : wa_r b) (T1 : wa_St) (v : Int) (hk : k_all T = 0 ∨ k_all T = 1) (h0 : k_all T = 0 → T1 = s_all T ∧ v = v_all T) (h1 : k_all T = 1 → T1 = s_all T ∧ v = -3) : Met l yL_tried [.codeWith yL_tried cL_tried 5 (Option.some FieldType.int) [(0, 86, 87, 31)]] ({ frames := 7, cells := 20, slots := 120, locals := 166 } : Room) (wl_pc [.ref (ad 0 0), .int (iI 4), .int (iI a), .int (iI b)] D cy A (fun H => wa_wd D ad (wW cy ad T X G o) H)) (wl_Q A D cy ad G o T T1 v) 20 120 A := by
  refine wl_en (by decide +kernel) (Nat.le_of_ble_eq_true rfl) ?_
  intro p e s m args below meth c F hTB hN htab hw ls hl
  have F : wa_fx p s m c meth args cL_tried 5 RL "tried" (Option.some FieldType.int) D cy := F
  have hw : wa_wd D ad (wW cy ad T X G o) s.heap := hw
  have hl : lv_has ls 5 [(0, .ref (ad 0 0)), (1, .int (iI 4)), (2, .int (iI a)), (3, .int (iI b))] := hl
  have hx := F.1.1
  have hb := F.1.2.1
  have hpk := (pk_all hg hxr).1
  have hS : va_S A s.heap s.heap [] := va_S.rf
  refine lv_iload_n hx hb dL_tried_0 rfl (lv_at hl 1 rfl) ?_
  refine wa_if_ne (tgt := 12) F dL_tried_1 (by decide) (by decide) (fun c1 => ?_) (fun c1 => absurd c1 (by decide))
  refine lv_iload_n hx hb dL_tried_12 rfl (lv_at hl 1 rfl) ?_
  refine wa_const F dL_tried_13 ?_
  refine wa_ic_ne (tgt := 25) F dL_tried_14 (by decide) (by decide) (by decide) (fun c14 => ?_) (fun c14 => absurd c14 (by decide))
  refine lv_iload_n hx hb dL_tried_25 rfl (lv_at hl 1 rfl) ?_
  refine wa_const F dL_tried_26 ?_
  refine wa_ic_ne (tgt := 38) F dL_tried_27 (by decide) (by decide) (by decide) (fun c27 => ?_) (fun c27 => absurd c27 (by decide))
  refine lv_iload_n hx hb dL_tried_38 rfl (lv_at hl 1 rfl) ?_
  refine wa_const F dL_tried_39 ?_
  refine wa_ic_ne (tgt := 52) F dL_tried_40 (by decide) (by decide) (by decide) (fun c40 => ?_) (fun c40 => absurd c40 (by decide))
  refine lv_iload_n hx hb dL_tried_52 rfl (lv_at hl 1 rfl) ?_
  refine wa_const F dL_tried_53 ?_
  refine wa_ic_ne (tgt := 64) F dL_tried_54 (by decide) (by decide) (by decide) (fun c54 => absurd c54 (by decide)) (fun c54 => ?_)
  refine lv_aload_n hx hb dL_tried_57 rfl (lv_at hl 0 rfl) ?_
  refine wl_ci (vL_23 F hTB hS (c_X4_bakeAll l hlt D cy ad T X G o A hj hA hg.1 hxr (wx_inj.of hj) hg.2.2.1) ⟨by decide, by decide⟩ ⟨rfl, rfl⟩ hw hw rfl rfl rfl (Nat.le_of_ble_eq_true rfl) hl.1 dL_tried_58 ⟨(Nat.le_of_ble_eq_true rfl), (Nat.le_of_ble_eq_true rfl)⟩) hS (fun E ce q9 u H1 locs1 hE hk0 hp hB hS hce hcv hcl => ?_) (fun u H1 locs1 hK hp hB hS => ?_)
  · obtain ⟨ad1, X1⟩ := u
    rw [(j_all_eq hg hxr)] at hE hk0
    rcases hk with hk | hk
    · exact absurd hk hk0
    · have hE : E = "java/lang/IllegalStateException" := by rw [hE, hk]; rfl
      subst hE
      obtain ⟨rfl, rfl⟩ := h1 hk
      have e1 : o_x (j_all T) T (x_ba (x_L T X) 10 0 T) = T := if_neg (fun z => hk0 ((j_all_eq hg hxr).symm.trans z))
      rw [e1] at hpk
      obtain ⟨hp1, hw1⟩ := wl_go hpk hp hB
      refine vx_catch F.1.2.2.2.1 ([] : List ExceptionTableEntry) ⟨0, 86, 87, 31⟩ ([] : List ExceptionTableEntry) htab (fun z hz => by cases hz) rfl (by decide) (F.1.2.2.2.2 _ qw_351) (va_Nw.use rfl (F.2.1.2.1 _ qn_177)) hce hcv hcl ?_
      refine lv_astore (lv' := [(4, .ref q9), (0, .ref (ad 0 0)), (1, .int (iI 4)), (2, .int (iI a)), (3, .int (iI b))]) hx hb dL_tried_87 hl (by decide) rfl (fun ls hl => ?_)
      refine wa_bi F dL_tried_89 (by decide +kernel) ?_
      refine W.widen (k := 20) (n := 120) (Nat.le_of_ble_eq_true rfl) (Nat.le_of_ble_eq_true rfl) ?_
      exact wa_eI ((ad1, X1) : (Nat → Nat → Nat) × wa_St) F ⟨congrArg iI rfl, hp1⟩ hw1 hS dL_tried_91
  · obtain ⟨ad1, X1⟩ := u
    rw [(j_all_eq hg hxr)] at hK
    obtain ⟨rfl, rfl⟩ := h0 hK
    have e1 : o_x (j_all T) T (x_ba (x_L T X) 10 0 T) = x_ba (x_L T X) 10 0 T := if_pos ((j_all_eq hg hxr).trans hK)
    rw [e1] at hpk
    obtain ⟨hp1, hw1⟩ := wl_go hpk hp hB
    refine wa_goto (tgt := 86) F dL_tried_61 (by decide) ?_
    refine W.widen (k := 20) (n := 120) (Nat.le_of_ble_eq_true rfl) (Nat.le_of_ble_eq_true rfl) ?_
    exact wa_eI ((ad1, X1) : (Nat → Nat → Nat) × wa_St) F ⟨congrArg iI ((pk_all hg hxr).2 hK), hp1⟩ hw1 hS dL_tried_86
set_option maxRecDepth 100000 in
set_option maxHeartbeats 4000000 in
/-- tried around test -/
theorem c_L_tried5f (l : Launch) (hlt : l.stackTraces = false) (D : va_G) (cy : Nat → ClassId) (ad : Nat → Nat → Nat) {n : Nat} (T X G : wa_St) (o : Int64) (A : Nat → Prop) (hj : wa_wj A ad (wW cy ad T X G o)) (hA : wa_Up A) (hg : gi n T) (hxr : xr T X) (a : Int) (ra : wa_r a) (T1 : wa_St) (v : Int) (hk : k_test T a = 0 ∨ k_test T a = 2) (h0 : k_test T a = 0 → T1 = a_test T a 0 ∧ v = bI (T 17 a.toNat ≠ 0 ∨ (0 : Int) = 0)) (h2 : k_test T a = 2 → T1 = wa_s T 0 0 2 ∧ v = -3) : Met l yL_tried [.codeWith yL_tried cL_tried 5 (Option.some FieldType.int) [(0, 86, 87, 31)]] ({ frames := 8, cells := 2, slots := 12, locals := 127 } : Room) (wl_pc [.ref (ad 0 0), .int (iI 5), .int (iI a), .int (iI 0)] D cy A (fun H => wa_wd D ad (wW cy ad T X G o) H)) (wl_Q A D cy ad G o T T1 v) 2 12 A := by
  refine wl_en (by decide +kernel) (Nat.le_of_ble_eq_true rfl) ?_
  intro p e s m args below meth c F hTB hN htab hw ls hl
  have F : wa_fx p s m c meth args cL_tried 5 RL "tried" (Option.some FieldType.int) D cy := F
  have hw : wa_wd D ad (wW cy ad T X G o) s.heap := hw
  have hl : lv_has ls 5 [(0, .ref (ad 0 0)), (1, .int (iI 5)), (2, .int (iI a)), (3, .int (iI 0))] := hl
  have hx := F.1.1
  have hb := F.1.2.1
  have hpk := pk_test hg a 0
  have hS : va_S A s.heap s.heap [] := va_S.rf
  refine lv_iload_n hx hb dL_tried_0 rfl (lv_at hl 1 rfl) ?_
  refine wa_if_ne (tgt := 12) F dL_tried_1 (by decide) (by decide) (fun c1 => ?_) (fun c1 => absurd c1 (by decide))
  refine lv_iload_n hx hb dL_tried_12 rfl (lv_at hl 1 rfl) ?_
  refine wa_const F dL_tried_13 ?_
  refine wa_ic_ne (tgt := 25) F dL_tried_14 (by decide) (by decide) (by decide) (fun c14 => ?_) (fun c14 => absurd c14 (by decide))
  refine lv_iload_n hx hb dL_tried_25 rfl (lv_at hl 1 rfl) ?_
  refine wa_const F dL_tried_26 ?_
  refine wa_ic_ne (tgt := 38) F dL_tried_27 (by decide) (by decide) (by decide) (fun c27 => ?_) (fun c27 => absurd c27 (by decide))
  refine lv_iload_n hx hb dL_tried_38 rfl (lv_at hl 1 rfl) ?_
  refine wa_const F dL_tried_39 ?_
  refine wa_ic_ne (tgt := 52) F dL_tried_40 (by decide) (by decide) (by decide) (fun c40 => ?_) (fun c40 => absurd c40 (by decide))
  refine lv_iload_n hx hb dL_tried_52 rfl (lv_at hl 1 rfl) ?_
  refine wa_const F dL_tried_53 ?_
  refine wa_ic_ne (tgt := 64) F dL_tried_54 (by decide) (by decide) (by decide) (fun c54 => ?_) (fun c54 => absurd c54 (by decide))
  refine lv_aload_n hx hb dL_tried_64 rfl (lv_at hl 0 rfl) ?_
  refine lv_iload_n hx hb dL_tried_65 rfl (lv_at hl 2 rfl) ?_
  refine lv_iload_n hx hb dL_tried_66 rfl (lv_at hl 3 rfl) ?_
  refine wa_if_le (tgt := 74) F dL_tried_67 (by decide) (by decide) (fun c67 => ?_) (fun c67 => absurd c67 (by decide))
  refine wa_const F dL_tried_74 ?_
  refine wl_ci (vL_27 F hTB hS (c_X4_test l hlt D cy ad T X G o A hj hA hg.1 hxr (wx_inj.of hj) a ra 0 (by decide)) ⟨by decide, by decide⟩ ⟨rfl, rfl⟩ hw hw rfl rfl rfl (Nat.le_of_ble_eq_true rfl) hl.1 dL_tried_75 ⟨(Nat.le_of_ble_eq_true rfl), (Nat.le_of_ble_eq_true rfl)⟩) hS (fun E ce q9 u H1 locs1 hE hk0 hp hB hS hce hcv hcl => ?_) (fun u H1 locs1 hK hp hB hS => ?_)
  · obtain ⟨ad1, X1⟩ := u
    rcases hk with hk | hk
    · exact absurd hk hk0
    · have hE : E = "java/lang/IllegalStateException" := by rw [hE, hk]; rfl
      subst hE
      obtain ⟨rfl, rfl⟩ := h2 hk
      have e1 : o_x (k_test T a) T (a_test T a 0) = T := if_neg hk0
      rw [e1] at hpk
      have e2 : o_s T (k_test T a) (a_test T a 0) = wa_s T 0 0 2 := (if_neg hk0).trans (by rw [hk])
      rw [e2] at hpk
      obtain ⟨hp1, hw1⟩ := wl_go hpk hp hB
      refine vx_catch F.1.2.2.2.1 ([] : List ExceptionTableEntry) ⟨0, 86, 87, 31⟩ ([] : List ExceptionTableEntry) htab (fun z hz => by cases hz) rfl (by decide) (F.1.2.2.2.2 _ qw_351) (va_Nw.use rfl (F.2.1.2.1 _ qn_177)) hce hcv hcl ?_
      refine lv_astore (lv' := [(4, .ref q9), (0, .ref (ad 0 0)), (1, .int (iI 5)), (2, .int (iI a)), (3, .int (iI 0))]) hx hb dL_tried_87 hl (by decide) rfl (fun ls hl => ?_)
      refine wa_bi F dL_tried_89 (by decide +kernel) ?_
      refine W.widen (k := 2) (n := 12) (Nat.le_of_ble_eq_true rfl) (Nat.le_of_ble_eq_true rfl) ?_
      exact wa_eI ((ad1, X1) : (Nat → Nat → Nat) × wa_St) F ⟨congrArg iI rfl, hp1⟩ hw1 hS dL_tried_91
  · obtain ⟨ad1, X1⟩ := u
    obtain ⟨rfl, rfl⟩ := h0 hK
    have e1 : o_x (k_test T a) T (a_test T a 0) = a_test T a 0 := if_pos hK
    rw [e1] at hpk
    have e2 : o_s T (k_test T a) (a_test T a 0) = a_test T a 0 := if_pos hK
    rw [e2] at hpk
    obtain ⟨hp1, hw1⟩ := wl_go hpk hp hB
    have hv := bI_01 (T 17 a.toNat ≠ 0 ∨ (0 : Int) = 0)
    refine wa_if_eq (tgt := 85) F dL_tried_78 (by decide) (by have q0 := hv; exact ⟨by omega, by omega⟩) (fun c78 => ?_) (fun c78 => ?_)
    · skip
      refine wa_const F dL_tried_85 ?_
      refine W.widen (k := 2) (n := 12) (Nat.le_of_ble_eq_true rfl) (Nat.le_of_ble_eq_true rfl) ?_
      exact wa_eI ((ad1, X1) : (Nat → Nat → Nat) × wa_St) F ⟨congrArg iI (show (0 : Int) = bI (T 17 a.toNat ≠ 0 ∨ (0 : Int) = 0) by omega), hp1⟩ hw1 hS dL_tried_86
    · skip
      refine wa_const F dL_tried_81 ?_
      refine wa_goto (tgt := 86) F dL_tried_82 (by decide) ?_
      refine W.widen (k := 2) (n := 12) (Nat.le_of_ble_eq_true rfl) (Nat.le_of_ble_eq_true rfl) ?_
      exact wa_eI ((ad1, X1) : (Nat → Nat → Nat) × wa_St) F ⟨congrArg iI (show (1 : Int) = bI (T 17 a.toNat ≠ 0 ∨ (0 : Int) = 0) by omega), hp1⟩ hw1 hS dL_tried_86
set_option maxRecDepth 100000 in
set_option maxHeartbeats 4000000 in
/-- tried around test -/
theorem c_L_tried5p (l : Launch) (hlt : l.stackTraces = false) (D : va_G) (cy : Nat → ClassId) (ad : Nat → Nat → Nat) {n : Nat} (T X G : wa_St) (o : Int64) (A : Nat → Prop) (hj : wa_wj A ad (wW cy ad T X G o)) (hA : wa_Up A) (hg : gi n T) (hxr : xr T X) (a : Int) (ra : wa_r a) (T1 : wa_St) (v : Int) (hk : k_test T a = 0 ∨ k_test T a = 2) (h0 : k_test T a = 0 → T1 = a_test T a 1 ∧ v = bI (T 17 a.toNat ≠ 0 ∨ (1 : Int) = 0)) (h2 : k_test T a = 2 → T1 = wa_s T 0 0 2 ∧ v = -3) : Met l yL_tried [.codeWith yL_tried cL_tried 5 (Option.some FieldType.int) [(0, 86, 87, 31)]] ({ frames := 8, cells := 2, slots := 12, locals := 127 } : Room) (wl_pc [.ref (ad 0 0), .int (iI 5), .int (iI a), .int (iI 1)] D cy A (fun H => wa_wd D ad (wW cy ad T X G o) H)) (wl_Q A D cy ad G o T T1 v) 2 12 A := by
  refine wl_en (by decide +kernel) (Nat.le_of_ble_eq_true rfl) ?_
  intro p e s m args below meth c F hTB hN htab hw ls hl
  have F : wa_fx p s m c meth args cL_tried 5 RL "tried" (Option.some FieldType.int) D cy := F
  have hw : wa_wd D ad (wW cy ad T X G o) s.heap := hw
  have hl : lv_has ls 5 [(0, .ref (ad 0 0)), (1, .int (iI 5)), (2, .int (iI a)), (3, .int (iI 1))] := hl
  have hx := F.1.1
  have hb := F.1.2.1
  have hpk := pk_test hg a 1
  have hS : va_S A s.heap s.heap [] := va_S.rf
  refine lv_iload_n hx hb dL_tried_0 rfl (lv_at hl 1 rfl) ?_
  refine wa_if_ne (tgt := 12) F dL_tried_1 (by decide) (by decide) (fun c1 => ?_) (fun c1 => absurd c1 (by decide))
  refine lv_iload_n hx hb dL_tried_12 rfl (lv_at hl 1 rfl) ?_
  refine wa_const F dL_tried_13 ?_
  refine wa_ic_ne (tgt := 25) F dL_tried_14 (by decide) (by decide) (by decide) (fun c14 => ?_) (fun c14 => absurd c14 (by decide))
  refine lv_iload_n hx hb dL_tried_25 rfl (lv_at hl 1 rfl) ?_
  refine wa_const F dL_tried_26 ?_
  refine wa_ic_ne (tgt := 38) F dL_tried_27 (by decide) (by decide) (by decide) (fun c27 => ?_) (fun c27 => absurd c27 (by decide))
  refine lv_iload_n hx hb dL_tried_38 rfl (lv_at hl 1 rfl) ?_
  refine wa_const F dL_tried_39 ?_
  refine wa_ic_ne (tgt := 52) F dL_tried_40 (by decide) (by decide) (by decide) (fun c40 => ?_) (fun c40 => absurd c40 (by decide))
  refine lv_iload_n hx hb dL_tried_52 rfl (lv_at hl 1 rfl) ?_
  refine wa_const F dL_tried_53 ?_
  refine wa_ic_ne (tgt := 64) F dL_tried_54 (by decide) (by decide) (by decide) (fun c54 => ?_) (fun c54 => absurd c54 (by decide))
  refine lv_aload_n hx hb dL_tried_64 rfl (lv_at hl 0 rfl) ?_
  refine lv_iload_n hx hb dL_tried_65 rfl (lv_at hl 2 rfl) ?_
  refine lv_iload_n hx hb dL_tried_66 rfl (lv_at hl 3 rfl) ?_
  refine wa_if_le (tgt := 74) F dL_tried_67 (by decide) (by decide) (fun c67 => absurd c67 (by decide)) (fun c67 => ?_)
  refine wa_const F dL_tried_70 ?_
  refine wa_goto (tgt := 75) F dL_tried_71 (by decide) ?_
  refine wl_ci (vL_27 F hTB hS (c_X4_test l hlt D cy ad T X G o A hj hA hg.1 hxr (wx_inj.of hj) a ra 1 (by decide)) ⟨by decide, by decide⟩ ⟨rfl, rfl⟩ hw hw rfl rfl rfl (Nat.le_of_ble_eq_true rfl) hl.1 dL_tried_75 ⟨(Nat.le_of_ble_eq_true rfl), (Nat.le_of_ble_eq_true rfl)⟩) hS (fun E ce q9 u H1 locs1 hE hk0 hp hB hS hce hcv hcl => ?_) (fun u H1 locs1 hK hp hB hS => ?_)
  · obtain ⟨ad1, X1⟩ := u
    rcases hk with hk | hk
    · exact absurd hk hk0
    · have hE : E = "java/lang/IllegalStateException" := by rw [hE, hk]; rfl
      subst hE
      obtain ⟨rfl, rfl⟩ := h2 hk
      have e1 : o_x (k_test T a) T (a_test T a 1) = T := if_neg hk0
      rw [e1] at hpk
      have e2 : o_s T (k_test T a) (a_test T a 1) = wa_s T 0 0 2 := (if_neg hk0).trans (by rw [hk])
      rw [e2] at hpk
      obtain ⟨hp1, hw1⟩ := wl_go hpk hp hB
      refine vx_catch F.1.2.2.2.1 ([] : List ExceptionTableEntry) ⟨0, 86, 87, 31⟩ ([] : List ExceptionTableEntry) htab (fun z hz => by cases hz) rfl (by decide) (F.1.2.2.2.2 _ qw_351) (va_Nw.use rfl (F.2.1.2.1 _ qn_177)) hce hcv hcl ?_
      refine lv_astore (lv' := [(4, .ref q9), (0, .ref (ad 0 0)), (1, .int (iI 5)), (2, .int (iI a)), (3, .int (iI 1))]) hx hb dL_tried_87 hl (by decide) rfl (fun ls hl => ?_)
      refine wa_bi F dL_tried_89 (by decide +kernel) ?_
      refine W.widen (k := 2) (n := 12) (Nat.le_of_ble_eq_true rfl) (Nat.le_of_ble_eq_true rfl) ?_
      exact wa_eI ((ad1, X1) : (Nat → Nat → Nat) × wa_St) F ⟨congrArg iI rfl, hp1⟩ hw1 hS dL_tried_91
  · obtain ⟨ad1, X1⟩ := u
    obtain ⟨rfl, rfl⟩ := h0 hK
    have e1 : o_x (k_test T a) T (a_test T a 1) = a_test T a 1 := if_pos hK
    rw [e1] at hpk
    have e2 : o_s T (k_test T a) (a_test T a 1) = a_test T a 1 := if_pos hK
    rw [e2] at hpk
    obtain ⟨hp1, hw1⟩ := wl_go hpk hp hB
    have hv := bI_01 (T 17 a.toNat ≠ 0 ∨ (1 : Int) = 0)
    refine wa_if_eq (tgt := 85) F dL_tried_78 (by decide) (by have q0 := hv; exact ⟨by omega, by omega⟩) (fun c78 => ?_) (fun c78 => ?_)
    · skip
      refine wa_const F dL_tried_85 ?_
      refine W.widen (k := 2) (n := 12) (Nat.le_of_ble_eq_true rfl) (Nat.le_of_ble_eq_true rfl) ?_
      exact wa_eI ((ad1, X1) : (Nat → Nat → Nat) × wa_St) F ⟨congrArg iI (show (0 : Int) = bI (T 17 a.toNat ≠ 0 ∨ (1 : Int) = 0) by omega), hp1⟩ hw1 hS dL_tried_86
    · skip
      refine wa_const F dL_tried_81 ?_
      refine wa_goto (tgt := 86) F dL_tried_82 (by decide) ?_
      refine W.widen (k := 2) (n := 12) (Nat.le_of_ble_eq_true rfl) (Nat.le_of_ble_eq_true rfl) ?_
      exact wa_eI ((ad1, X1) : (Nat → Nat → Nat) × wa_St) F ⟨congrArg iI (show (1 : Int) = bI (T 17 a.toNat ≠ 0 ∨ (1 : Int) = 0) by omega), hp1⟩ hw1 hS dL_tried_86
