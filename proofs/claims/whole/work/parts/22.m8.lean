/-! contracts of the reference, eighth part: old, oldAt, pass (laid by program) -/
set_option maxRecDepth 100000 in
set_option maxHeartbeats 4000000 in
/-- old -/
theorem c_X5_old (l : Launch) (D : va_G) (cy : Nat → ClassId) (ad : Nat → Nat → Nat) (S X T : wa_St) (o : Int64) (A : Nat → Prop) (hj : wa_wj A ad (wW cy ad S X T o)) (hwf : wf T) : Met l yX5_old wX5_old ({ frames := 4, cells := 0, slots := 0, locals := 90 } : Room) (wa_pc [.ref (ad 6 0)] D cy (fun H => wa_wd D ad (wW cy ad S X T o) H)) (wa_Qi A D ad (wW cy ad S X (wa_s T 0 0 0) o) (f_cnt (fun u => f_isOld (wa_s T 0 0 0) u) (T 29 0).toNat)) 0 0 A := by
  refine wa_en (by decide +kernel) (Nat.le_of_ble_eq_true rfl) ?_
  intro p e s m args below meth c F hw ls hl
  have F : wa_fx p s m c meth args cX5_old 3 RX5 "old" (Option.some FieldType.int) D cy := F
  have hw : wa_wd D ad (wW cy ad S X T o) s.heap := hw
  have hl : lv_has ls 3 [(0, .ref (ad 6 0))] := hl
  obtain ⟨hx, hb, hml, hown, hts⟩ := id F.1
  obtain ⟨hB, w8, w21, w12, w29, w4, w7, w6, w5, w13, w25, w26, w28, w14, w3, wf17⟩ := id hwf
  have hS : va_S A s.heap s.heap [] := va_S.rf
  refine lv_aload_n hx hb dX5_old_0 rfl (lv_at hl 0 rfl) ?_
  refine wa_const F dX5_old_1 ?_
  refine pM_90 F hw (wm_j hj _ _) hS dX5_old_2 (fun H locs hw hS => ?_)
  refine wa_const F dX5_old_5 ?_
  refine lv_istore_n (lv' := [(1, .int (iI 0)), (0, .ref (ad 6 0))]) hx hb dX5_old_6 rfl hl (by decide) rfl (fun ls hl => ?_)
  refine wa_const F dX5_old_7 ?_
  refine lv_istore_n (lv' := [(2, .int (iI 0)), (1, .int (iI 0)), (0, .ref (ad 6 0))]) hx hb dX5_old_8 rfl hl (by decide) rfl (fun ls hl => ?_)
  have loop9 : ∀ (k : Nat) (jx : Nat) (q : Int) (H : Heap) (locs : List Loc), (jx + k = (T 29 0).toNat) → (q = f_cnt (fun u => f_isOld (wa_s T 0 0 0) u) jx) → wa_wd D ad (wW cy ad S X (wa_s T 0 0 0) o) H → va_S A s.heap H locs → ∀ ls : Array Slot, lv_has ls 3 [(0, .ref (ad 6 0)), (1, .int (iI q)), (2, .int (iI (jx : Int)))] → W p l e ({ frames := 4, cells := 0, slots := 0, locals := 90 } : Room) s m args below meth c H locs 0 0 (MQ below (wa_Qi A D ad (wW cy ad S X (wa_s T 0 0 0) o) (f_cnt (fun u => f_isOld (wa_s T 0 0 0) u) (T 29 0).toNat)) args s 0 0 A) (F0 m 9 ls []) := by
    intro k
    induction k with
    | zero =>
      intro jx q H locs hk hq hw hS ls hl
      refine lv_iload_n hx hb dX5_old_9 rfl (lv_at hl 2 rfl) ?_
      refine lv_aload_n hx hb dX5_old_10 rfl (lv_at hl 0 rfl) ?_
      refine gX5_147 F hw rfl (v := .int (iI (T 29 0))) rfl dX5_old_11 ?_
      refine wa_ic_ge (tgt := 39) F dX5_old_14 (by decide) (by exact ⟨by omega, by omega⟩) (by have q0 := hB 29 0; exact ⟨by omega, by omega⟩) (fun c14 => ?_) (fun c14 => absurd c14 (by omega))
      refine lv_iload_n hx hb dX5_old_39 rfl (lv_at hl 1 rfl) ?_
      exact wa_ei F hw hS (by rw [hq, show jx = (T 29 0).toNat by omega]) dX5_old_40
    | succ k ih9 =>
      intro jx q H locs hk hq hw hS ls hl
      refine lv_iload_n hx hb dX5_old_9 rfl (lv_at hl 2 rfl) ?_
      refine lv_aload_n hx hb dX5_old_10 rfl (lv_at hl 0 rfl) ?_
      refine gX5_147 F hw rfl (v := .int (iI (T 29 0))) rfl dX5_old_11 ?_
      refine wa_ic_ge (tgt := 39) F dX5_old_14 (by decide) (by exact ⟨by omega, by omega⟩) (by have q0 := hB 29 0; exact ⟨by omega, by omega⟩) (fun c14 => absurd c14 (by omega)) (fun c14 => ?_)
      refine lv_iload_n hx hb dX5_old_17 rfl (lv_at hl 1 rfl) ?_
      refine lv_aload_n hx hb dX5_old_18 rfl (lv_at hl 0 rfl) ?_
      refine lv_iload_n hx hb dX5_old_19 rfl (lv_at hl 2 rfl) ?_
      refine wa_cp (kX5_165 F (c_X5_isOld l D cy ad S X (wa_s T 0 0 0) o (wf_th hwf (k := 0) (by decide)) ((jx : Int)) jx rfl (show (jx : Int) < (wa_s T 0 0 0) 29 0 from (show (jx : Int) < T 29 0 by omega))) ⟨by decide, by decide⟩ ⟨rfl, rfl⟩ hw hw rfl rfl rfl (Nat.le_of_ble_eq_true rfl) hl.1 dX5_old_20 ⟨Nat.le_refl _, Nat.le_refl _⟩) ?_
      by_cases b20 : f_isOld (wa_s T 0 0 0) jx = true
      · rw [bI_t b20]
        refine wa_if_eq (tgt := 30) F dX5_old_23 (by decide) (by decide) (fun c23 => absurd c23 (by decide)) (fun c23 => ?_)
        refine wa_const F dX5_old_26 ?_
        refine wa_goto (tgt := 31) F dX5_old_27 (by decide) ?_
        refine wa_add F dX5_old_31 ?_
        refine lv_istore_n (lv' := [(1, .int (iI (q + 1))), (0, .ref (ad 6 0)), (2, .int (iI (jx : Int)))]) hx hb dX5_old_32 rfl hl (by decide) rfl (fun ls hl => ?_)
        refine wa_inc (k := 2) (b := ((jx + 1) : Int)) (lv' := [(2, .int (iI ((jx + 1) : Int))), (1, .int (iI (q + 1))), (0, .ref (ad 6 0))]) F dX5_old_33 hl rfl (by omega) (by decide) rfl (fun ls hl => ?_)
        refine wa_goto (tgt := 9) F dX5_old_36 (by decide) ?_
        exact ih9 (jx + 1) (q + 1) _ _ (by omega) (by simp only [f_cnt, hq]; rw [bI_t b20]) hw hS ls (lv_sub hl [2, 1, 0] rfl)
      · rw [bI_f b20]
        refine wa_if_eq (tgt := 30) F dX5_old_23 (by decide) (by decide) (fun c23 => ?_) (fun c23 => absurd c23 (by decide))
        refine wa_const F dX5_old_30 ?_
        refine wa_add F dX5_old_31 ?_
        refine lv_istore_n (lv' := [(1, .int (iI (q + 0))), (0, .ref (ad 6 0)), (2, .int (iI (jx : Int)))]) hx hb dX5_old_32 rfl hl (by decide) rfl (fun ls hl => ?_)
        refine wa_inc (k := 2) (b := ((jx + 1) : Int)) (lv' := [(2, .int (iI ((jx + 1) : Int))), (1, .int (iI (q + 0))), (0, .ref (ad 6 0))]) F dX5_old_33 hl rfl (by omega) (by decide) rfl (fun ls hl => ?_)
        refine wa_goto (tgt := 9) F dX5_old_36 (by decide) ?_
        exact ih9 (jx + 1) (q + 0) _ _ (by omega) (by simp only [f_cnt, hq]; rw [bI_f b20]) hw hS ls (lv_sub hl [2, 1, 0] rfl)
  exact loop9 ((T 29 0).toNat) 0 0 _ _ (by omega) rfl hw hS ls (lv_sub hl [2, 1, 0] rfl)
set_option maxRecDepth 100000 in
set_option maxHeartbeats 4000000 in
/-- oldAt -/
theorem c_X5_oldAt (l : Launch) (D : va_G) (cy : Nat → ClassId) (ad : Nat → Nat → Nat) (S X T : wa_St) (o : Int64) (A : Nat → Prop) (hj : wa_wj A ad (wW cy ad S X T o)) (hwf : wf T) (q : Int) (rq : wa_r q) : Met l yX5_oldAt wX5_oldAt ({ frames := 4, cells := 0, slots := 0, locals := 90 } : Room) (wa_pc [.ref (ad 6 0), .int (iI q)] D cy (fun H => wa_wd D ad (wW cy ad S X T o) H)) (wa_Qi A D ad (wW cy ad S X (wa_s T 0 0 (k_oldAt T q)) o) (o_v (k_oldAt T q) (f_oldAt T q))) 0 0 A := by
  refine wa_en (by decide +kernel) (Nat.le_of_ble_eq_true rfl) ?_
  intro p e s m args below meth c F hw ls hl
  have F : wa_fx p s m c meth args cX5_oldAt 5 RX5 "oldAt" (Option.some FieldType.int) D cy := F
  have hw : wa_wd D ad (wW cy ad S X T o) s.heap := hw
  have hl : lv_has ls 5 [(0, .ref (ad 6 0)), (1, .int (iI q))] := hl
  obtain ⟨hx, hb, hml, hown, hts⟩ := id F.1
  obtain ⟨hB, w8, w21, w12, w29, w4, w7, w6, w5, w13, w25, w26, w28, w14, w3, wf17⟩ := id hwf
  have hS : va_S A s.heap s.heap [] := va_S.rf
  refine wa_const F dX5_oldAt_0 ?_
  refine lv_istore_n (lv' := [(2, .int (iI 0)), (0, .ref (ad 6 0)), (1, .int (iI q))]) hx hb dX5_oldAt_1 rfl hl (by decide) rfl (fun ls hl => ?_)
  have loop2 : ∀ (k : Nat) (ux : Nat) (H : Heap) (locs : List Loc), (ux + k = (T 29 0).toNat) → (f_fnd (fun u => f_isOld T u && decide (f_rank T u = q)) k ux = f_oldAt T q) → wa_wd D ad (wW cy ad S X T o) H → va_S A s.heap H locs → ∀ ls : Array Slot, lv_has ls 5 [(0, .ref (ad 6 0)), (1, .int (iI q)), (2, .int (iI (ux : Int)))] → W p l e ({ frames := 4, cells := 0, slots := 0, locals := 90 } : Room) s m args below meth c H locs 0 0 (MQ below (wa_Qi A D ad (wW cy ad S X (wa_s T 0 0 (k_oldAt T q)) o) (o_v (k_oldAt T q) (f_oldAt T q))) args s 0 0 A) (F0 m 2 ls []) := by
    intro k
    induction k with
    | zero =>
      intro ux H locs hk hr hw hS ls hl
      refine lv_iload_n hx hb dX5_oldAt_2 rfl (lv_at hl 2 rfl) ?_
      refine lv_aload_n hx hb dX5_oldAt_3 rfl (lv_at hl 0 rfl) ?_
      refine gX5_147 F hw rfl (v := .int (iI (T 29 0))) rfl dX5_oldAt_4 ?_
      refine wa_ic_ge (tgt := 97) F dX5_oldAt_7 (by decide) (by exact ⟨by omega, by omega⟩) (by have q0 := hB 29 0; exact ⟨by omega, by omega⟩) (fun c7 => ?_) (fun c7 => absurd c7 (by omega))
      refine lv_aload_n hx hb dX5_oldAt_97 rfl (lv_at hl 0 rfl) ?_
      refine wa_const F dX5_oldAt_98 ?_
      refine pM_90 F hw (wm_j hj _ _) hS dX5_oldAt_99 (fun H locs hw hS => ?_)
      refine wa_const F dX5_oldAt_102 ?_
      have ev : f_oldAt T q = -2 := by rw [← hr]; rfl
      have ek : k_oldAt T q = 1 := by unfold k_oldAt; rw [ev]; rfl
      rw [ek, ev]
      exact wa_ei F hw hS rfl dX5_oldAt_103
    | succ k ih2 =>
      intro ux H locs hk hr hw hS ls hl
      refine lv_iload_n hx hb dX5_oldAt_2 rfl (lv_at hl 2 rfl) ?_
      refine lv_aload_n hx hb dX5_oldAt_3 rfl (lv_at hl 0 rfl) ?_
      refine gX5_147 F hw rfl (v := .int (iI (T 29 0))) rfl dX5_oldAt_4 ?_
      refine wa_ic_ge (tgt := 97) F dX5_oldAt_7 (by decide) (by exact ⟨by omega, by omega⟩) (by have q0 := hB 29 0; exact ⟨by omega, by omega⟩) (fun c7 => absurd c7 (by omega)) (fun c7 => ?_)
      by_cases hom : f_isOld T ux = true
      · skip
        refine wa_const F dX5_oldAt_10 ?_
        refine lv_istore_n (lv' := [(3, .int (iI 0)), (0, .ref (ad 6 0)), (1, .int (iI q)), (2, .int (iI (ux : Int)))]) hx hb dX5_oldAt_11 rfl hl (by decide) rfl (fun ls hl => ?_)
        refine wa_const F dX5_oldAt_12 ?_
        refine lv_istore (lv' := [(4, .int (iI 0)), (3, .int (iI 0)), (0, .ref (ad 6 0)), (1, .int (iI q)), (2, .int (iI (ux : Int)))]) hx hb dX5_oldAt_13 hl (by decide) rfl (fun ls hl => ?_)
        have loop15 : ∀ (k : Nat) (vx : Nat) (qa : Int) (H : Heap) (locs : List Loc), (vx + k = (T 29 0).toNat) → (qa = f_cnt (fun v => decide (v ≠ ux) && f_isOld T v && f_ahead T v ux) vx) → wa_wd D ad (wW cy ad S X T o) H → va_S A s.heap H locs → ∀ ls : Array Slot, lv_has ls 5 [(0, .ref (ad 6 0)), (1, .int (iI q)), (2, .int (iI (ux : Int))), (3, .int (iI qa)), (4, .int (iI (vx : Int)))] → W p l e ({ frames := 4, cells := 0, slots := 0, locals := 90 } : Room) s m args below meth c H locs 0 0 (MQ below (wa_Qi A D ad (wW cy ad S X (wa_s T 0 0 (k_oldAt T q)) o) (o_v (k_oldAt T q) (f_oldAt T q))) args s 0 0 A) (F0 m 15 ls []) := by
          intro k
          induction k with
          | zero =>
            intro vx qa H locs hk2 hqa hw hS ls hl
            refine lv_iload hx hb dX5_oldAt_15 (lv_at hl 4 rfl) ?_
            refine lv_aload_n hx hb dX5_oldAt_17 rfl (lv_at hl 0 rfl) ?_
            refine gX5_147 F hw rfl (v := .int (iI (T 29 0))) rfl dX5_oldAt_18 ?_
            refine wa_ic_ge (tgt := 71) F dX5_oldAt_21 (by decide) (by exact ⟨by omega, by omega⟩) (by have q0 := hB 29 0; exact ⟨by omega, by omega⟩) (fun c21 => ?_) (fun c21 => absurd c21 (by omega))
            refine lv_aload_n hx hb dX5_oldAt_71 rfl (lv_at hl 0 rfl) ?_
            refine lv_iload_n hx hb dX5_oldAt_72 rfl (lv_at hl 2 rfl) ?_
            refine wa_cp (kX5_165 F (c_X5_isOld l D cy ad S X T o hwf ((ux : Int)) ux rfl (by omega)) ⟨by decide, by decide⟩ ⟨rfl, rfl⟩ hw hw rfl rfl rfl (Nat.le_of_ble_eq_true rfl) hl.1 dX5_oldAt_73 ⟨Nat.le_refl _, Nat.le_refl _⟩) ?_
            rw [bI_t hom]
            have hrk : f_rank T ux = qa := by rw [hqa, show vx = (T 29 0).toNat by omega]; rfl
            refine wa_if_eq (tgt := 91) F dX5_oldAt_76 (by decide) (by decide) (fun c76 => absurd c76 (by decide)) (fun c76 => ?_)
            refine lv_iload_n hx hb dX5_oldAt_79 rfl (lv_at hl 3 rfl) ?_
            refine lv_iload_n hx hb dX5_oldAt_80 rfl (lv_at hl 1 rfl) ?_
            refine wa_ic_ne (tgt := 91) F dX5_oldAt_81 (by decide) (by have q0 := (show 0 ≤ qa ∧ qa ≤ vx from hqa ▸ f_cnt_rng _ _); exact ⟨by omega, by omega⟩) (by have q0 := rq; exact ⟨by omega, by omega⟩) (fun c81 => ?_) (fun c81 => ?_)
            · skip
              refine wa_inc (k := 2) (b := ((ux + 1) : Int)) (lv' := [(2, .int (iI ((ux + 1) : Int))), (0, .ref (ad 6 0)), (1, .int (iI q)), (3, .int (iI qa)), (4, .int (iI (vx : Int)))]) F dX5_oldAt_91 hl rfl (by omega) (by decide) rfl (fun ls hl => ?_)
              refine wa_goto (tgt := 2) F dX5_oldAt_94 (by decide) ?_
              exact ih2 (ux + 1) _ _ (by omega) (by rw [← hr, f_fnd, if_neg (show ¬ ((f_isOld T ux && decide (f_rank T ux = q)) = true) by simp [hrk]; intro _; omega)]) hw hS ls (lv_sub hl [1, 2, 0] rfl)
            · skip
              refine lv_aload_n hx hb dX5_oldAt_84 rfl (lv_at hl 0 rfl) ?_
              refine wa_const F dX5_oldAt_85 ?_
              refine pM_90 F hw (wm_j hj _ _) hS dX5_oldAt_86 (fun H locs hw hS => ?_)
              refine lv_iload_n hx hb dX5_oldAt_89 rfl (lv_at hl 2 rfl) ?_
              have ev : f_oldAt T q = (ux : Int) := by rw [← hr, f_fnd, if_pos (show (f_isOld T ux && decide (f_rank T ux = q)) = true by simp [hom, hrk]; omega)]
              have ek : k_oldAt T q = 0 := by unfold k_oldAt; rw [ev]; exact if_neg (by omega)
              rw [ek, ev]
              exact wa_ei F hw hS rfl dX5_oldAt_90
          | succ k ih15 =>
            intro vx qa H locs hk2 hqa hw hS ls hl
            refine lv_iload hx hb dX5_oldAt_15 (lv_at hl 4 rfl) ?_
            refine lv_aload_n hx hb dX5_oldAt_17 rfl (lv_at hl 0 rfl) ?_
            refine gX5_147 F hw rfl (v := .int (iI (T 29 0))) rfl dX5_oldAt_18 ?_
            refine wa_ic_ge (tgt := 71) F dX5_oldAt_21 (by decide) (by exact ⟨by omega, by omega⟩) (by have q0 := hB 29 0; exact ⟨by omega, by omega⟩) (fun c21 => absurd c21 (by omega)) (fun c21 => ?_)
            refine lv_aload_n hx hb dX5_oldAt_24 rfl (lv_at hl 0 rfl) ?_
            refine lv_iload_n hx hb dX5_oldAt_25 rfl (lv_at hl 2 rfl) ?_
            refine wa_cp (kX5_165 F (c_X5_isOld l D cy ad S X T o hwf ((ux : Int)) ux rfl (by omega)) ⟨by decide, by decide⟩ ⟨rfl, rfl⟩ hw hw rfl rfl rfl (Nat.le_of_ble_eq_true rfl) hl.1 dX5_oldAt_26 ⟨Nat.le_refl _, Nat.le_refl _⟩) ?_
            rw [bI_t hom]
            refine wa_if_eq (tgt := 71) F dX5_oldAt_29 (by decide) (by decide) (fun c29 => absurd c29 (by decide)) (fun c29 => ?_)
            refine lv_iload_n hx hb dX5_oldAt_32 rfl (lv_at hl 3 rfl) ?_
            refine lv_iload hx hb dX5_oldAt_33 (lv_at hl 4 rfl) ?_
            refine lv_iload_n hx hb dX5_oldAt_35 rfl (lv_at hl 2 rfl) ?_
            refine wa_ic_eq (tgt := 62) F dX5_oldAt_36 (by decide) (by exact ⟨by omega, by omega⟩) (by exact ⟨by omega, by omega⟩) (fun c36 => ?_) (fun c36 => ?_)
            · skip
              refine wa_const F dX5_oldAt_62 ?_
              refine wa_add F dX5_oldAt_63 ?_
              refine lv_istore_n (lv' := [(3, .int (iI (qa + 0))), (0, .ref (ad 6 0)), (1, .int (iI q)), (2, .int (iI (ux : Int))), (4, .int (iI (vx : Int)))]) hx hb dX5_oldAt_64 rfl hl (by decide) rfl (fun ls hl => ?_)
              refine wa_inc (k := 4) (b := ((vx + 1) : Int)) (lv' := [(4, .int (iI ((vx + 1) : Int))), (3, .int (iI (qa + 0))), (0, .ref (ad 6 0)), (1, .int (iI q)), (2, .int (iI (ux : Int)))]) F dX5_oldAt_65 hl rfl (by omega) (by decide) rfl (fun ls hl => ?_)
              refine wa_goto (tgt := 15) F dX5_oldAt_68 (by decide) ?_
              exact ih15 (vx + 1) (qa + 0) _ _ (by omega) (by simp only [f_cnt, hqa]; rw [bI_f (show ¬ ((decide (vx ≠ ux) && f_isOld T vx && f_ahead T vx ux) = true) by simp; intro h; omega)]) hw hS ls (lv_sub hl [2, 3, 4, 1, 0] rfl)
            · skip
              refine lv_aload_n hx hb dX5_oldAt_39 rfl (lv_at hl 0 rfl) ?_
              refine lv_iload hx hb dX5_oldAt_40 (lv_at hl 4 rfl) ?_
              refine wa_cp (kX5_165 F (c_X5_isOld l D cy ad S X T o hwf ((vx : Int)) vx rfl (by omega)) ⟨by decide, by decide⟩ ⟨rfl, rfl⟩ hw hw rfl rfl rfl (Nat.le_of_ble_eq_true rfl) hl.1 dX5_oldAt_42 ⟨Nat.le_refl _, Nat.le_refl _⟩) ?_
              by_cases b42 : f_isOld T vx = true
              · rw [bI_t b42]
                refine wa_if_eq (tgt := 62) F dX5_oldAt_45 (by decide) (by decide) (fun c45 => absurd c45 (by decide)) (fun c45 => ?_)
                refine lv_aload_n hx hb dX5_oldAt_48 rfl (lv_at hl 0 rfl) ?_
                refine lv_iload hx hb dX5_oldAt_49 (lv_at hl 4 rfl) ?_
                refine lv_iload_n hx hb dX5_oldAt_51 rfl (lv_at hl 2 rfl) ?_
                refine wa_cp (kX5_168 F (c_X5_isAhead l D cy ad S X T o hwf ((vx : Int)) (vx) rfl ((ux : Int)) (ux) rfl (by omega) (ho28 T b42) (by omega) (ho28 T hom)) ⟨by decide, by decide⟩ ⟨rfl, rfl⟩ hw hw rfl rfl rfl (Nat.le_of_ble_eq_true rfl) hl.1 dX5_oldAt_52 ⟨Nat.le_refl _, Nat.le_refl _⟩) ?_
                by_cases b52 : f_ahead T vx ux = true
                · rw [bI_t b52]
                  refine wa_if_eq (tgt := 62) F dX5_oldAt_55 (by decide) (by decide) (fun c55 => absurd c55 (by decide)) (fun c55 => ?_)
                  refine wa_const F dX5_oldAt_58 ?_
                  refine wa_goto (tgt := 63) F dX5_oldAt_59 (by decide) ?_
                  refine wa_add F dX5_oldAt_63 ?_
                  refine lv_istore_n (lv' := [(3, .int (iI (qa + 1))), (0, .ref (ad 6 0)), (1, .int (iI q)), (2, .int (iI (ux : Int))), (4, .int (iI (vx : Int)))]) hx hb dX5_oldAt_64 rfl hl (by decide) rfl (fun ls hl => ?_)
                  refine wa_inc (k := 4) (b := ((vx + 1) : Int)) (lv' := [(4, .int (iI ((vx + 1) : Int))), (3, .int (iI (qa + 1))), (0, .ref (ad 6 0)), (1, .int (iI q)), (2, .int (iI (ux : Int)))]) F dX5_oldAt_65 hl rfl (by omega) (by decide) rfl (fun ls hl => ?_)
                  refine wa_goto (tgt := 15) F dX5_oldAt_68 (by decide) ?_
                  exact ih15 (vx + 1) (qa + 1) _ _ (by omega) (by simp only [f_cnt, hqa]; rw [bI_t (show (decide (vx ≠ ux) && f_isOld T vx && f_ahead T vx ux) = true by simp [b42, b52]; omega)]) hw hS ls (lv_sub hl [2, 3, 4, 1, 0] rfl)
                · rw [bI_f b52]
                  refine wa_if_eq (tgt := 62) F dX5_oldAt_55 (by decide) (by decide) (fun c55 => ?_) (fun c55 => absurd c55 (by decide))
                  refine wa_const F dX5_oldAt_62 ?_
                  refine wa_add F dX5_oldAt_63 ?_
                  refine lv_istore_n (lv' := [(3, .int (iI (qa + 0))), (0, .ref (ad 6 0)), (1, .int (iI q)), (2, .int (iI (ux : Int))), (4, .int (iI (vx : Int)))]) hx hb dX5_oldAt_64 rfl hl (by decide) rfl (fun ls hl => ?_)
                  refine wa_inc (k := 4) (b := ((vx + 1) : Int)) (lv' := [(4, .int (iI ((vx + 1) : Int))), (3, .int (iI (qa + 0))), (0, .ref (ad 6 0)), (1, .int (iI q)), (2, .int (iI (ux : Int)))]) F dX5_oldAt_65 hl rfl (by omega) (by decide) rfl (fun ls hl => ?_)
                  refine wa_goto (tgt := 15) F dX5_oldAt_68 (by decide) ?_
                  exact ih15 (vx + 1) (qa + 0) _ _ (by omega) (by simp only [f_cnt, hqa]; rw [bI_f (show ¬ ((decide (vx ≠ ux) && f_isOld T vx && f_ahead T vx ux) = true) by simp [b52])]) hw hS ls (lv_sub hl [2, 3, 4, 1, 0] rfl)
              · rw [bI_f b42]
                refine wa_if_eq (tgt := 62) F dX5_oldAt_45 (by decide) (by decide) (fun c45 => ?_) (fun c45 => absurd c45 (by decide))
                refine wa_const F dX5_oldAt_62 ?_
                refine wa_add F dX5_oldAt_63 ?_
                refine lv_istore_n (lv' := [(3, .int (iI (qa + 0))), (0, .ref (ad 6 0)), (1, .int (iI q)), (2, .int (iI (ux : Int))), (4, .int (iI (vx : Int)))]) hx hb dX5_oldAt_64 rfl hl (by decide) rfl (fun ls hl => ?_)
                refine wa_inc (k := 4) (b := ((vx + 1) : Int)) (lv' := [(4, .int (iI ((vx + 1) : Int))), (3, .int (iI (qa + 0))), (0, .ref (ad 6 0)), (1, .int (iI q)), (2, .int (iI (ux : Int)))]) F dX5_oldAt_65 hl rfl (by omega) (by decide) rfl (fun ls hl => ?_)
                refine wa_goto (tgt := 15) F dX5_oldAt_68 (by decide) ?_
                exact ih15 (vx + 1) (qa + 0) _ _ (by omega) (by simp only [f_cnt, hqa]; rw [bI_f (show ¬ ((decide (vx ≠ ux) && f_isOld T vx && f_ahead T vx ux) = true) by simp [b42])]) hw hS ls (lv_sub hl [2, 3, 4, 1, 0] rfl)
        exact loop15 ((T 29 0).toNat) 0 0 _ _ (by omega) rfl hw hS ls (lv_sub hl [2, 3, 4, 1, 0] rfl)
      · skip
        refine wa_const F dX5_oldAt_10 ?_
        refine lv_istore_n (lv' := [(3, .int (iI 0)), (0, .ref (ad 6 0)), (1, .int (iI q)), (2, .int (iI (ux : Int)))]) hx hb dX5_oldAt_11 rfl hl (by decide) rfl (fun ls hl => ?_)
        refine wa_const F dX5_oldAt_12 ?_
        refine lv_istore (lv' := [(4, .int (iI 0)), (3, .int (iI 0)), (0, .ref (ad 6 0)), (1, .int (iI q)), (2, .int (iI (ux : Int)))]) hx hb dX5_oldAt_13 hl (by decide) rfl (fun ls hl => ?_)
        refine lv_iload hx hb dX5_oldAt_15 (lv_at hl 0 rfl) ?_
        refine lv_aload_n hx hb dX5_oldAt_17 rfl (lv_at hl 2 rfl) ?_
        refine gX5_147 F hw rfl (v := .int (iI (T 29 0))) rfl dX5_oldAt_18 ?_
        refine wa_ic_ge (tgt := 71) F dX5_oldAt_21 (by decide) (by decide) (by have q0 := hB 29 0; exact ⟨by omega, by omega⟩) (fun c21 => absurd c21 (by omega)) (fun c21 => ?_)
        refine lv_aload_n hx hb dX5_oldAt_24 rfl (lv_at hl 2 rfl) ?_
        refine lv_iload_n hx hb dX5_oldAt_25 rfl (lv_at hl 4 rfl) ?_
        refine wa_cp (kX5_165 F (c_X5_isOld l D cy ad S X T o hwf ((ux : Int)) ux rfl (by omega)) ⟨by decide, by decide⟩ ⟨rfl, rfl⟩ hw hw rfl rfl rfl (Nat.le_of_ble_eq_true rfl) hl.1 dX5_oldAt_26 ⟨Nat.le_refl _, Nat.le_refl _⟩) ?_
        rw [bI_f hom]
        refine wa_if_eq (tgt := 71) F dX5_oldAt_29 (by decide) (by decide) (fun c29 => ?_) (fun c29 => absurd c29 (by decide))
        refine lv_aload_n hx hb dX5_oldAt_71 rfl (lv_at hl 2 rfl) ?_
        refine lv_iload_n hx hb dX5_oldAt_72 rfl (lv_at hl 4 rfl) ?_
        refine wa_cp (kX5_165 F (c_X5_isOld l D cy ad S X T o hwf ((ux : Int)) ux rfl (by omega)) ⟨by decide, by decide⟩ ⟨rfl, rfl⟩ hw hw rfl rfl rfl (Nat.le_of_ble_eq_true rfl) hl.1 dX5_oldAt_73 ⟨Nat.le_refl _, Nat.le_refl _⟩) ?_
        rw [bI_f hom]
        refine wa_if_eq (tgt := 91) F dX5_oldAt_76 (by decide) (by decide) (fun c76 => ?_) (fun c76 => absurd c76 (by decide))
        refine wa_inc (k := 4) (b := ((ux + 1) : Int)) (lv' := [(2, .int (iI ((ux + 1) : Int))), (4, .int (iI 0)), (3, .int (iI 0)), (0, .ref (ad 6 0)), (1, .int (iI q))]) F dX5_oldAt_91 hl rfl (by omega) (by decide) rfl (fun ls hl => ?_)
        refine wa_goto (tgt := 2) F dX5_oldAt_94 (by decide) ?_
        exact ih2 (ux + 1) _ _ (by omega) (by rw [← hr, f_fnd, if_neg (show ¬ ((f_isOld T ux && decide (f_rank T ux = q)) = true) by simp [hom])]) hw hS ls (lv_sub hl [3, 4, 0] rfl)
  exact loop2 ((T 29 0).toNat) 0 _ _ (by omega) rfl hw hS ls (lv_sub hl [1, 2, 0] rfl)

set_option maxRecDepth 100000 in
set_option maxHeartbeats 4000000 in
/-- pass -/
theorem c_X5_pass (l : Launch) (D : va_G) (cy : Nat → ClassId) (ad : Nat → Nat → Nat) (S X T : wa_St) (o : Int64) (A : Nat → Prop) (hj : wa_wj A ad (wW cy ad S X T o)) (hwf : wf T) (d9 : Int) (rd9 : wa_r d9) (hday : T 1 0 ≤ 99000) : Met l yX5_pass wX5_pass ({ frames := 1, cells := 0, slots := 0, locals := 23 } : Room) (wa_pc [.ref (ad 6 0), .int (iI d9)] D cy (fun H => wa_wd D ad (wW cy ad S X T o) H)) (wa_Qi A D ad (wW cy ad S X (o_s T (k_pass d9) (f_pout d9.toNat (wa_s T 0 0 0) 0).1) o) (o_v (k_pass d9) (f_pout d9.toNat (wa_s T 0 0 0) 0).2)) 0 0 A := by
  refine wa_en (by decide +kernel) (Nat.le_of_ble_eq_true rfl) ?_
  intro p e s m args below meth c F hw ls hl
  have F : wa_fx p s m c meth args cX5_pass 5 RX5 "pass" (Option.some FieldType.int) D cy := F
  have hw : wa_wd D ad (wW cy ad S X T o) s.heap := hw
  have hl : lv_has ls 5 [(0, .ref (ad 6 0)), (1, .int (iI d9))] := hl
  obtain ⟨hx, hb, hml, hown, hts⟩ := id F.1
  obtain ⟨hB, w8, w21, w12, w29, w4, w7, w6, w5, w13, w25, w26, w28, w14, w3, wf17⟩ := id hwf
  have hS : va_S A s.heap s.heap [] := va_S.rf
  refine lv_aload_n hx hb dX5_pass_0 rfl (lv_at hl 0 rfl) ?_
  refine lv_iload_n hx hb dX5_pass_1 rfl (lv_at hl 1 rfl) ?_
  refine wa_const F dX5_pass_2 ?_
  refine wa_bi F dX5_pass_3 (by decide +kernel) ?_
  refine wa_cp (kX5_96 F (c_X5_isIn l D cy ad S X T o (d9) (1) (30) (by have q0 := rd9; exact ⟨by omega, by omega⟩) (by decide) (by decide)) ⟨by decide, by decide⟩ ⟨rfl, rfl⟩ hw rfl rfl (Nat.le_of_ble_eq_true rfl) hl.1 dX5_pass_5 ⟨Nat.le_refl _, Nat.le_refl _⟩) ?_
  by_cases b5 : 1 ≤ d9 ∧ d9 ≤ 30
  · rw [bI_t b5]
    refine wa_if_eq (tgt := 15) F dX5_pass_8 (by decide) (by decide) (fun c8 => absurd c8 (by decide)) (fun c8 => ?_)
    refine wa_const F dX5_pass_11 ?_
    refine wa_goto (tgt := 16) F dX5_pass_12 (by decide) ?_
    refine wa_ci (kX5_103 F (c_X5_isFine l D cy ad S X T o A (wm_j hj _ _) (0) (by decide)) ⟨by decide, by decide⟩ ⟨rfl, rfl⟩ hw hw rfl rfl rfl (Nat.le_of_ble_eq_true rfl) hl.1 dX5_pass_16 ⟨Nat.le_refl _, Nat.le_refl _⟩) hS (fun H locs hw hS => ?_)
    refine wa_if_ne (tgt := 24) F dX5_pass_19 (by decide) (by decide) (fun c19 => ?_) (fun c19 => absurd c19 (by decide))
    refine wa_const F dX5_pass_24 ?_
    refine lv_istore_n (lv' := [(2, .int (iI 0)), (0, .ref (ad 6 0)), (1, .int (iI d9))]) hx hb dX5_pass_25 rfl hl (by decide) rfl (fun ls hl => ?_)
    refine wa_const F dX5_pass_26 ?_
    refine lv_istore_n (lv' := [(3, .int (iI 0)), (2, .int (iI 0)), (0, .ref (ad 6 0)), (1, .int (iI d9))]) hx hb dX5_pass_27 rfl hl (by decide) rfl (fun ls hl => ?_)
    have loop28 : ∀ (k : Nat) (dx : Nat) (q1 : Int) (T1 : wa_St) (H : Heap) (locs : List Loc), (dx + k = d9.toNat) → (p_inv T k T1) → (f_pout k T1 q1 = f_pout d9.toNat (wa_s T 0 0 0) 0) → wa_wd D ad (wW cy ad S X T1 o) H → va_S A s.heap H locs → ∀ ls : Array Slot, lv_has ls 5 [(0, .ref (ad 6 0)), (1, .int (iI d9)), (2, .int (iI q1)), (3, .int (iI (dx : Int)))] → W p l e ({ frames := 1, cells := 0, slots := 0, locals := 23 } : Room) s m args below meth c H locs 0 0 (MQ below (wa_Qi A D ad (wW cy ad S X (o_s T (k_pass d9) (f_pout d9.toNat (wa_s T 0 0 0) 0).1) o) (o_v (k_pass d9) (f_pout d9.toNat (wa_s T 0 0 0) 0).2)) args s 0 0 A) (F0 m 28 ls []) := by
      intro k
      induction k with
      | zero =>
        intro dx q1 T1 H locs hk hp1 hr hw hS ls hl
        have hwf1 := hp1.1
        have hB1 := hwf1.1
        have e21 := hp1.2.1
        have hd1 := hp1.2.2
        have w21b := hwf1.2.2.1
        refine lv_iload_n hx hb dX5_pass_28 rfl (lv_at hl 3 rfl) ?_
        refine lv_iload_n hx hb dX5_pass_29 rfl (lv_at hl 1 rfl) ?_
        refine wa_ic_ge (tgt := 116) F dX5_pass_30 (by decide) (by exact ⟨by omega, by omega⟩) (by have q0 := rd9; exact ⟨by omega, by omega⟩) (fun c30 => ?_) (fun c30 => absurd c30 (by omega))
        refine lv_iload_n hx hb dX5_pass_116 rfl (lv_at hl 2 rfl) ?_
        have ek : k_pass d9 = 0 := if_pos b5
        rw [ek, ← hr]
        exact wa_ei F hw hS rfl dX5_pass_117
      | succ k ih28 =>
        intro dx q1 T1 H locs hk hp1 hr hw hS ls hl
        have hwf1 := hp1.1
        have hB1 := hwf1.1
        have e21 := hp1.2.1
        have hd1 := hp1.2.2
        have w21b := hwf1.2.2.1
        refine lv_iload_n hx hb dX5_pass_28 rfl (lv_at hl 3 rfl) ?_
        refine lv_iload_n hx hb dX5_pass_29 rfl (lv_at hl 1 rfl) ?_
        refine wa_ic_ge (tgt := 116) F dX5_pass_30 (by decide) (by exact ⟨by omega, by omega⟩) (by have q0 := rd9; exact ⟨by omega, by omega⟩) (fun c30 => absurd c30 (by omega)) (fun c30 => ?_)
        refine lv_aload_n hx hb dX5_pass_33 rfl (lv_at hl 0 rfl) ?_
        refine lv_dup hx hb dX5_pass_34 rfl ?_
        refine gX5_130 F hw rfl (v := .int (iI (T1 1 0))) rfl dX5_pass_35 ?_
        refine wa_const F dX5_pass_38 ?_
        refine wa_add F dX5_pass_39 ?_
        refine pM_130 F hw (wm_j hj _ _) hS dX5_pass_40 (fun H locs hw hS => ?_)
        refine wa_const F dX5_pass_43 ?_
        refine lv_istore (lv' := [(4, .int (iI 0)), (0, .ref (ad 6 0)), (1, .int (iI d9)), (2, .int (iI q1)), (3, .int (iI (dx : Int)))]) hx hb dX5_pass_44 hl (by decide) rfl (fun ls hl => ?_)
        have loop46 : ∀ (k : Nat) (jx : Nat) (q2 : Int) (T2 : wa_St) (H : Heap) (locs : List Loc), (jx + k = (T1 21 0).toNat) → (p_inv2 T1 T2) → (f_pin k jx T2 q2 = f_pday T1 q1) → wa_wd D ad (wW cy ad S X T2 o) H → va_S A s.heap H locs → ∀ ls : Array Slot, lv_has ls 5 [(0, .ref (ad 6 0)), (1, .int (iI d9)), (2, .int (iI q2)), (3, .int (iI (dx : Int))), (4, .int (iI (jx : Int)))] → W p l e ({ frames := 1, cells := 0, slots := 0, locals := 23 } : Room) s m args below meth c H locs 0 0 (MQ below (wa_Qi A D ad (wW cy ad S X (o_s T (k_pass d9) (f_pout d9.toNat (wa_s T 0 0 0) 0).1) o) (o_v (k_pass d9) (f_pout d9.toNat (wa_s T 0 0 0) 0).2)) args s 0 0 A) (F0 m 46 ls []) := by
          intro k
          induction k with
          | zero =>
            intro jx q2 T2 H locs hk2 hp2 hr2 hw hS ls hl
            have hwf2 := hp2.1
            have hB2 := hwf2.1
            have e212 := hp2.2.1
            refine lv_iload hx hb dX5_pass_46 (lv_at hl 4 rfl) ?_
            refine lv_aload_n hx hb dX5_pass_48 rfl (lv_at hl 0 rfl) ?_
            refine gX5_100 F hw rfl (v := .int (iI (T2 21 0))) rfl dX5_pass_49 ?_
            refine wa_ic_ge (tgt := 110) F dX5_pass_52 (by decide) (by exact ⟨by omega, by omega⟩) (by have q0 := hB2 21 0; exact ⟨by omega, by omega⟩) (fun c52 => ?_) (fun c52 => absurd c52 (by omega))
            have hx2 : f_pday T1 q1 = (T2, q2) := by rw [← hr2]; rfl
            have hpb := hp1.next hp2
            have hrb : f_pout k T2 q2 = f_pout d9.toNat (wa_s T 0 0 0) 0 := by rw [← hr]; simp only [f_pout]; rw [hx2]
            refine wa_inc (k := 3) (b := ((dx + 1) : Int)) (lv' := [(3, .int (iI ((dx + 1) : Int))), (0, .ref (ad 6 0)), (1, .int (iI d9)), (2, .int (iI q2)), (4, .int (iI (jx : Int)))]) F dX5_pass_110 hl rfl (by omega) (by decide) rfl (fun ls hl => ?_)
            refine wa_goto (tgt := 28) F dX5_pass_113 (by decide) ?_
            exact ih28 (dx + 1) q2 T2 _ _ (by omega) hpb hrb hw hS ls (lv_sub hl [1, 2, 3, 0] rfl)
          | succ k ih46 =>
            intro jx q2 T2 H locs hk2 hp2 hr2 hw hS ls hl
            have hwf2 := hp2.1
            have hB2 := hwf2.1
            have e212 := hp2.2.1
            refine lv_iload hx hb dX5_pass_46 (lv_at hl 4 rfl) ?_
            refine lv_aload_n hx hb dX5_pass_48 rfl (lv_at hl 0 rfl) ?_
            refine gX5_100 F hw rfl (v := .int (iI (T2 21 0))) rfl dX5_pass_49 ?_
            refine wa_ic_ge (tgt := 110) F dX5_pass_52 (by decide) (by exact ⟨by omega, by omega⟩) (by have q0 := hB2 21 0; exact ⟨by omega, by omega⟩) (fun c52 => absurd c52 (by omega)) (fun c52 => ?_)
            refine lv_aload_n hx hb dX5_pass_55 rfl (lv_at hl 0 rfl) ?_
            refine gX5_53 F hw rfl (v := .ref (ad 6 18)) rfl dX5_pass_56 ?_
            refine lv_iload hx hb dX5_pass_59 (lv_at hl 4 rfl) ?_
            refine aM_18 F hw jx rfl (by omega) dX5_pass_61 ?_
            refine wa_if_ne (tgt := 104) F dX5_pass_62 (by decide) (by have q0 := hB2 18 jx; exact ⟨by omega, by omega⟩) (fun c62 => ?_) (fun c62 => ?_)
            · skip
              refine wa_inc (k := 4) (b := ((jx + 1) : Int)) (lv' := [(4, .int (iI ((jx + 1) : Int))), (0, .ref (ad 6 0)), (1, .int (iI d9)), (2, .int (iI q2)), (3, .int (iI (dx : Int)))]) F dX5_pass_104 hl rfl (by omega) (by decide) rfl (fun ls hl => ?_)
              refine wa_goto (tgt := 46) F dX5_pass_107 (by decide) ?_
              exact ih46 (jx + 1) q2 T2 _ _ (by omega) hp2 (by rw [← hr2]; simp only [f_pin]; rw [if_neg (show ¬ (T2 18 jx = 0 ∧ T2 24 0 < T2 1 0 - T2 15 jx ∧ f_run T2 (jx : Int) = 0) by omega)]) hw hS ls (lv_sub hl [1, 2, 3, 4, 0] rfl)
            · skip
              refine lv_aload_n hx hb dX5_pass_65 rfl (lv_at hl 0 rfl) ?_
              refine gX5_130 F hw rfl (v := .int (iI (T2 1 0))) rfl dX5_pass_66 ?_
              refine lv_aload_n hx hb dX5_pass_69 rfl (lv_at hl 0 rfl) ?_
              refine gX5_43 F hw rfl (v := .ref (ad 6 15)) rfl dX5_pass_70 ?_
              refine lv_iload hx hb dX5_pass_73 (lv_at hl 4 rfl) ?_
              refine aM_15 F hw jx rfl (by omega) dX5_pass_75 ?_
              refine wa_sub F dX5_pass_76 ?_
              refine lv_aload_n hx hb dX5_pass_77 rfl (lv_at hl 0 rfl) ?_
              refine gX5_69 F hw rfl (v := .int (iI (T2 24 0))) rfl dX5_pass_78 ?_
              refine wa_ic_le (tgt := 104) F dX5_pass_81 (by decide) (by have q0 := hB2 1 0; have q1 := hB2 15 jx; exact ⟨by omega, by omega⟩) (by have q0 := hB2 24 0; exact ⟨by omega, by omega⟩) (fun c81 => ?_) (fun c81 => ?_)
              · skip
                refine wa_inc (k := 4) (b := ((jx + 1) : Int)) (lv' := [(4, .int (iI ((jx + 1) : Int))), (0, .ref (ad 6 0)), (1, .int (iI d9)), (2, .int (iI q2)), (3, .int (iI (dx : Int)))]) F dX5_pass_104 hl rfl (by omega) (by decide) rfl (fun ls hl => ?_)
                refine wa_goto (tgt := 46) F dX5_pass_107 (by decide) ?_
                exact ih46 (jx + 1) q2 T2 _ _ (by omega) hp2 (by rw [← hr2]; simp only [f_pin]; rw [if_neg (show ¬ (T2 18 jx = 0 ∧ T2 24 0 < T2 1 0 - T2 15 jx ∧ f_run T2 (jx : Int) = 0) by omega)]) hw hS ls (lv_sub hl [1, 2, 3, 4, 0] rfl)
              · skip
                refine lv_aload_n hx hb dX5_pass_84 rfl (lv_at hl 0 rfl) ?_
                refine lv_iload hx hb dX5_pass_85 (lv_at hl 4 rfl) ?_
                refine wa_cp (kX5_150 F (c_X5_running l D cy ad S X T2 o hwf2 ((jx : Int)) (by exact ⟨by omega, by omega⟩)) ⟨by decide, by decide⟩ ⟨rfl, rfl⟩ hw hw rfl rfl rfl (Nat.le_of_ble_eq_true rfl) hl.1 dX5_pass_87 ⟨Nat.le_refl _, Nat.le_refl _⟩) ?_
                refine wa_if_ne (tgt := 104) F dX5_pass_90 (by decide) (by have q0 := f_run_rng hwf2 ((jx : Int)); exact ⟨by omega, by omega⟩) (fun c90 => ?_) (fun c90 => ?_)
                · skip
                  refine wa_inc (k := 4) (b := ((jx + 1) : Int)) (lv' := [(4, .int (iI ((jx + 1) : Int))), (0, .ref (ad 6 0)), (1, .int (iI d9)), (2, .int (iI q2)), (3, .int (iI (dx : Int)))]) F dX5_pass_104 hl rfl (by omega) (by decide) rfl (fun ls hl => ?_)
                  refine wa_goto (tgt := 46) F dX5_pass_107 (by decide) ?_
                  exact ih46 (jx + 1) q2 T2 _ _ (by omega) hp2 (by rw [← hr2]; simp only [f_pin]; rw [if_neg (show ¬ (T2 18 jx = 0 ∧ T2 24 0 < T2 1 0 - T2 15 jx ∧ f_run T2 (jx : Int) = 0) by omega)]) hw hS ls (lv_sub hl [1, 2, 3, 4, 0] rfl)
                · skip
                  refine lv_aload_n hx hb dX5_pass_93 rfl (lv_at hl 0 rfl) ?_
                  refine gX5_53 F hw rfl (v := .ref (ad 6 18)) rfl dX5_pass_94 ?_
                  refine lv_iload hx hb dX5_pass_97 (lv_at hl 4 rfl) ?_
                  refine wa_const F dX5_pass_99 ?_
                  refine sM_18 F hw (wm_j hj _ _) hS (by decide) jx rfl (by omega) dX5_pass_100 (fun H locs hw hS => ?_)
                  refine wa_inc (k := 2) (b := (q2 + 1)) (lv' := [(2, .int (iI (q2 + 1))), (0, .ref (ad 6 0)), (1, .int (iI d9)), (3, .int (iI (dx : Int))), (4, .int (iI (jx : Int)))]) F dX5_pass_101 hl rfl rfl (by decide) rfl (fun ls hl => ?_)
                  refine wa_inc (k := 4) (b := ((jx + 1) : Int)) (lv' := [(4, .int (iI ((jx + 1) : Int))), (2, .int (iI (q2 + 1))), (0, .ref (ad 6 0)), (1, .int (iI d9)), (3, .int (iI (dx : Int)))]) F dX5_pass_104 hl rfl (by omega) (by decide) rfl (fun ls hl => ?_)
                  refine wa_goto (tgt := 46) F dX5_pass_107 (by decide) ?_
                  exact ih46 (jx + 1) (q2 + 1) (wa_s T2 18 jx 1) _ _ (by omega) (hp2.set jx) (by rw [← hr2]; simp only [f_pin]; rw [if_pos (show T2 18 jx = 0 ∧ T2 24 0 < T2 1 0 - T2 15 jx ∧ f_run T2 (jx : Int) = 0 from ⟨c62, c81, c90⟩)]) hw hS ls (lv_sub hl [2, 3, 1, 4, 0] rfl)
        exact loop46 ((T1 21 0).toNat) 0 q1 (wa_s T1 1 0 ((T1 1 0) + 1)) _ _ (by omega) (p_inv2.of hp1) rfl hw hS ls (lv_sub hl [1, 2, 3, 4, 0] rfl)
    exact loop28 (d9.toNat) 0 0 (wa_s T 0 0 0) _ _ (by omega) ⟨wf_th hwf (by decide), rfl, by show T 1 0 + _ ≤ _; omega⟩ rfl hw hS ls (lv_sub hl [2, 3, 1, 0] rfl)
  · rw [bI_f b5]
    refine wa_if_eq (tgt := 15) F dX5_pass_8 (by decide) (by decide) (fun c8 => ?_) (fun c8 => absurd c8 (by decide))
    refine wa_const F dX5_pass_15 ?_
    refine wa_ci (kX5_103 F (c_X5_isFine l D cy ad S X T o A (wm_j hj _ _) (1) (by decide)) ⟨by decide, by decide⟩ ⟨rfl, rfl⟩ hw hw rfl rfl rfl (Nat.le_of_ble_eq_true rfl) hl.1 dX5_pass_16 ⟨Nat.le_refl _, Nat.le_refl _⟩) hS (fun H locs hw hS => ?_)
    refine wa_if_ne (tgt := 24) F dX5_pass_19 (by decide) (by decide) (fun c19 => absurd c19 (by decide)) (fun c19 => ?_)
    refine wa_const F dX5_pass_22 ?_
    have ek : k_pass d9 = 1 := if_neg b5
    rw [ek]
    exact wa_ei F hw hS rfl dX5_pass_23
