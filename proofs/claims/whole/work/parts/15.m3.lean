/-! contracts of the reference, third part (laid by program) -/
set_option maxRecDepth 100000 in
set_option maxHeartbeats 4000000 in
/-- isFreshNow -/
theorem c_X5_isFreshNow (l : Launch) (D : va_G) (cy : Nat → ClassId) (ad : Nat → Nat → Nat) (S X T : wa_St) (o : Int64) (hwf : wf T) (z : Int) (i : Nat) (hzi : z = (i : Int)) (hi : (i : Int) < T 8 0) : Met l yX5_isFreshNow wX5_isFreshNow ({ frames := 3, cells := 0, slots := 0, locals := 68 } : Room) (wa_pc [.ref (ad 6 0), .int (iI z)] D cy (fun H => wa_wd D ad (wW cy ad S X T o) H)) (wa_Qp (bI (f_fresh T i = true))) 0 0 (fun _ => False) := by
  refine wa_en (by decide +kernel) (Nat.le_of_ble_eq_true rfl) ?_
  intro p e s m args below meth c F hw ls hl
  have F : wa_fx p s m c meth args cX5_isFreshNow 4 RX5 "isFreshNow" (Option.some FieldType.boolean) D cy := F
  have hw : wa_wd D ad (wW cy ad S X T o) s.heap := hw
  have hl : lv_has ls 4 [(0, .ref (ad 6 0)), (1, .int (iI z))] := hl
  obtain ⟨hx, hb, hml, hown, hts⟩ := id F.1
  obtain ⟨hB, w8, w21, w12, w29, w4, w7, w6, w5, w13, w25, w26, w28, w14, w3, wf17⟩ := id hwf
  subst hzi
  refine wa_const F dX5_isFreshNow_0 ?_
  refine lv_istore_n (lv' := [(2, .int (iI 1)), (0, .ref (ad 6 0)), (1, .int (iI (i : Int)))]) hx hb dX5_isFreshNow_1 rfl hl (by decide) rfl (fun ls hl => ?_)
  refine lv_iload_n hx hb dX5_isFreshNow_2 rfl (lv_at hl 2 rfl) ?_
  refine lv_istore_n (lv' := [(3, .int (iI (i : Int))), (2, .int (iI 1)), (0, .ref (ad 6 0)), (1, .int (iI (i : Int)))]) hx hb dX5_isFreshNow_3 rfl hl (by decide) rfl (fun ls hl => ?_)
  have loop4 : ∀ (k : Nat) (bb : Int) (zz : Int), (bb = 0 ∨ bb = 1) → (-1 ≤ zz ∧ zz < (k : Int) ∧ zz < T 8 0) → ((bb = 1 ∧ f_fr T k zz = true) ↔ f_fresh T i = true) → ∀ ls : Array Slot, lv_has ls 4 [(0, .ref (ad 6 0)), (1, .int (iI (i : Int))), (2, .int (iI bb)), (3, .int (iI zz))] → W p l e ({ frames := 3, cells := 0, slots := 0, locals := 68 } : Room) s m args below meth c s.heap [] 0 0 (MQ below (wa_Qp (bI (f_fresh T i = true))) args s 0 0 (fun _ => False)) (F0 m 4 ls []) := by
    intro k
    induction k with
    | zero =>
      intro bb zz hbb hzz hr ls hl
      refine lv_iload_n hx hb dX5_isFreshNow_4 rfl (lv_at hl 3 rfl) ?_
      refine wa_const F dX5_isFreshNow_5 ?_
      refine wa_ic_eq (tgt := 45) F dX5_isFreshNow_6 (by decide) (by exact ⟨by omega, by omega⟩) (by decide) (fun c6 => ?_) (fun c6 => absurd c6 (by omega))
      refine lv_iload_n hx hb dX5_isFreshNow_45 rfl (lv_at hl 2 rfl) ?_
      exact wa_epz F (by have q := hr; clear hr; rcases hbb with h0 | h0 <;> subst h0 <;> simp_all [f_fr, bI]) hbb dX5_isFreshNow_46
    | succ k ih4 =>
      intro bb zz hbb hzz hr ls hl
      refine lv_iload_n hx hb dX5_isFreshNow_4 rfl (lv_at hl 3 rfl) ?_
      refine wa_const F dX5_isFreshNow_5 ?_
      refine wa_ic_eq (tgt := 45) F dX5_isFreshNow_6 (by decide) (by exact ⟨by omega, by omega⟩) (by decide) (fun c6 => ?_) (fun c6 => ?_)
      · skip
        refine lv_iload_n hx hb dX5_isFreshNow_45 rfl (lv_at hl 2 rfl) ?_
        exact wa_epz F (by have q := hr; clear hr; rcases hbb with h0 | h0 <;> subst h0 <;> simp_all [f_fr, bI]) hbb dX5_isFreshNow_46
      · skip
        obtain ⟨j, rfl⟩ := Int.eq_ofNat_of_zero_le (show 0 ≤ zz by omega)
        refine lv_iload_n hx hb dX5_isFreshNow_9 rfl (lv_at hl 2 rfl) ?_
        refine wa_if_eq (tgt := 33) F dX5_isFreshNow_10 (by decide) (by exact ⟨by omega, by omega⟩) (fun c10 => ?_) (fun c10 => ?_)
        · skip
          refine wa_const F dX5_isFreshNow_33 ?_
          refine lv_istore_n (lv' := [(2, .int (iI 0)), (0, .ref (ad 6 0)), (1, .int (iI (i : Int))), (3, .int (iI (j : Int)))]) hx hb dX5_isFreshNow_34 rfl hl (by decide) rfl (fun ls hl => ?_)
          refine lv_aload_n hx hb dX5_isFreshNow_35 rfl (lv_at hl 1 rfl) ?_
          refine gX5_16 F hw rfl (v := .ref (ad 6 4)) rfl dX5_isFreshNow_36 ?_
          refine lv_iload_n hx hb dX5_isFreshNow_39 rfl (lv_at hl 3 rfl) ?_
          refine aM_4 F hw j rfl (by omega) dX5_isFreshNow_40 ?_
          refine lv_istore_n (lv' := [(3, .int (iI (T 4 j))), (2, .int (iI 0)), (0, .ref (ad 6 0)), (1, .int (iI (i : Int)))]) hx hb dX5_isFreshNow_41 rfl hl (by decide) rfl (fun ls hl => ?_)
          refine wa_goto (tgt := 4) F dX5_isFreshNow_42 (by decide) ?_
          exact ih4 0 (T 4 j) (by decide) (by have := w4 j (by omega); omega) (by rw [← hr]; simp [f_fr, show ¬ ((j : Int) = -1) by omega, c10]) ls (lv_sub hl [2, 3, 1, 0] rfl)
        · skip
          have hb1 : bb = 1 := by omega
          refine lv_aload_n hx hb dX5_isFreshNow_13 rfl (lv_at hl 0 rfl) ?_
          refine lv_iload_n hx hb dX5_isFreshNow_14 rfl (lv_at hl 3 rfl) ?_
          refine wa_cp (kX5_124 F (c_X5_hasBase l D cy ad S X T o hwf ((j : Int)) j rfl (by omega)) ⟨by decide, by decide⟩ ⟨rfl, rfl⟩ hw hw rfl rfl rfl (Nat.le_of_ble_eq_true rfl) hl.1 dX5_isFreshNow_15 ⟨Nat.le_refl _, Nat.le_refl _⟩) ?_
          by_cases b15 : f_hasBase T j
          · rw [bI_t b15]
            refine wa_if_eq (tgt := 33) F dX5_isFreshNow_18 (by decide) (by decide) (fun c18 => absurd c18 (by decide)) (fun c18 => ?_)
            refine lv_aload_n hx hb dX5_isFreshNow_21 rfl (lv_at hl 0 rfl) ?_
            refine lv_iload_n hx hb dX5_isFreshNow_22 rfl (lv_at hl 3 rfl) ?_
            refine wa_cp (kX5_127 F (c_X5_isAlike l D cy ad S X T o hwf ((j : Int)) (j) rfl (by omega) b15) ⟨by decide, by decide⟩ ⟨rfl, rfl⟩ hw hw rfl rfl rfl (Nat.le_of_ble_eq_true rfl) hl.1 dX5_isFreshNow_23 ⟨Nat.le_refl _, Nat.le_refl _⟩) ?_
            by_cases b23 : f_alike T j
            · rw [bI_t b23]
              refine wa_if_eq (tgt := 33) F dX5_isFreshNow_26 (by decide) (by decide) (fun c26 => absurd c26 (by decide)) (fun c26 => ?_)
              refine wa_const F dX5_isFreshNow_29 ?_
              refine wa_goto (tgt := 34) F dX5_isFreshNow_30 (by decide) ?_
              refine lv_istore_n (lv' := [(2, .int (iI 1)), (0, .ref (ad 6 0)), (1, .int (iI (i : Int))), (3, .int (iI (j : Int)))]) hx hb dX5_isFreshNow_34 rfl hl (by decide) rfl (fun ls hl => ?_)
              refine lv_aload_n hx hb dX5_isFreshNow_35 rfl (lv_at hl 1 rfl) ?_
              refine gX5_16 F hw rfl (v := .ref (ad 6 4)) rfl dX5_isFreshNow_36 ?_
              refine lv_iload_n hx hb dX5_isFreshNow_39 rfl (lv_at hl 3 rfl) ?_
              refine aM_4 F hw j rfl (by omega) dX5_isFreshNow_40 ?_
              refine lv_istore_n (lv' := [(3, .int (iI (T 4 j))), (2, .int (iI 1)), (0, .ref (ad 6 0)), (1, .int (iI (i : Int)))]) hx hb dX5_isFreshNow_41 rfl hl (by decide) rfl (fun ls hl => ?_)
              refine wa_goto (tgt := 4) F dX5_isFreshNow_42 (by decide) ?_
              exact ih4 1 (T 4 j) (by decide) (by have := w4 j (by omega); omega) (by rw [← hr]; simp [f_fr, show ¬ ((j : Int) = -1) by omega, c10, b15, b23, hb1]) ls (lv_sub hl [2, 3, 1, 0] rfl)
            · rw [bI_f b23]
              refine wa_if_eq (tgt := 33) F dX5_isFreshNow_26 (by decide) (by decide) (fun c26 => ?_) (fun c26 => absurd c26 (by decide))
              refine wa_const F dX5_isFreshNow_33 ?_
              refine lv_istore_n (lv' := [(2, .int (iI 0)), (0, .ref (ad 6 0)), (1, .int (iI (i : Int))), (3, .int (iI (j : Int)))]) hx hb dX5_isFreshNow_34 rfl hl (by decide) rfl (fun ls hl => ?_)
              refine lv_aload_n hx hb dX5_isFreshNow_35 rfl (lv_at hl 1 rfl) ?_
              refine gX5_16 F hw rfl (v := .ref (ad 6 4)) rfl dX5_isFreshNow_36 ?_
              refine lv_iload_n hx hb dX5_isFreshNow_39 rfl (lv_at hl 3 rfl) ?_
              refine aM_4 F hw j rfl (by omega) dX5_isFreshNow_40 ?_
              refine lv_istore_n (lv' := [(3, .int (iI (T 4 j))), (2, .int (iI 0)), (0, .ref (ad 6 0)), (1, .int (iI (i : Int)))]) hx hb dX5_isFreshNow_41 rfl hl (by decide) rfl (fun ls hl => ?_)
              refine wa_goto (tgt := 4) F dX5_isFreshNow_42 (by decide) ?_
              exact ih4 0 (T 4 j) (by decide) (by have := w4 j (by omega); omega) (by rw [← hr]; simp [f_fr, show ¬ ((j : Int) = -1) by omega, c10, b15, b23, hb1]) ls (lv_sub hl [2, 3, 1, 0] rfl)
          · rw [bI_f b15]
            refine wa_if_eq (tgt := 33) F dX5_isFreshNow_18 (by decide) (by decide) (fun c18 => ?_) (fun c18 => absurd c18 (by decide))
            refine wa_const F dX5_isFreshNow_33 ?_
            refine lv_istore_n (lv' := [(2, .int (iI 0)), (0, .ref (ad 6 0)), (1, .int (iI (i : Int))), (3, .int (iI (j : Int)))]) hx hb dX5_isFreshNow_34 rfl hl (by decide) rfl (fun ls hl => ?_)
            refine lv_aload_n hx hb dX5_isFreshNow_35 rfl (lv_at hl 1 rfl) ?_
            refine gX5_16 F hw rfl (v := .ref (ad 6 4)) rfl dX5_isFreshNow_36 ?_
            refine lv_iload_n hx hb dX5_isFreshNow_39 rfl (lv_at hl 3 rfl) ?_
            refine aM_4 F hw j rfl (by omega) dX5_isFreshNow_40 ?_
            refine lv_istore_n (lv' := [(3, .int (iI (T 4 j))), (2, .int (iI 0)), (0, .ref (ad 6 0)), (1, .int (iI (i : Int)))]) hx hb dX5_isFreshNow_41 rfl hl (by decide) rfl (fun ls hl => ?_)
            refine wa_goto (tgt := 4) F dX5_isFreshNow_42 (by decide) ?_
            exact ih4 0 (T 4 j) (by decide) (by have := w4 j (by omega); omega) (by rw [← hr]; simp [f_fr, show ¬ ((j : Int) = -1) by omega, c10, b15, hb1]) ls (lv_sub hl [2, 3, 1, 0] rfl)
  exact loop4 (i + 1) 1 (i : Int) (Or.inr rfl) ⟨by omega, by omega, by omega⟩ (by simp [f_fresh]) ls (lv_sub hl [2, 3, 1, 0] rfl)
set_option maxRecDepth 100000 in
set_option maxHeartbeats 4000000 in
/-- running -/
theorem c_X5_running (l : Launch) (D : va_G) (cy : Nat → ClassId) (ad : Nat → Nat → Nat) (S X T : wa_St) (o : Int64) (hwf : wf T) (b9 : Int) (rb9 : wa_r b9) : Met l yX5_running wX5_running ({ frames := 0, cells := 0, slots := 0, locals := 0 } : Room) (wa_pc [.ref (ad 6 0), .int (iI b9)] D cy (fun H => wa_wd D ad (wW cy ad S X T o) H)) (wa_Qp (f_run T b9)) 0 0 (fun _ => False) := by
  refine wa_en (by decide +kernel) (Nat.le_of_ble_eq_true rfl) ?_
  intro p e s m args below meth c F hw ls hl
  have F : wa_fx p s m c meth args cX5_running 4 RX5 "running" (Option.some FieldType.int) D cy := F
  have hw : wa_wd D ad (wW cy ad S X T o) s.heap := hw
  have hl : lv_has ls 4 [(0, .ref (ad 6 0)), (1, .int (iI b9))] := hl
  obtain ⟨hx, hb, hml, hown, hts⟩ := id F.1
  obtain ⟨hB, w8, w21, w12, w29, w4, w7, w6, w5, w13, w25, w26, w28, w14, w3, wf17⟩ := id hwf
  refine wa_const F dX5_running_0 ?_
  refine lv_istore_n (lv' := [(2, .int (iI 0)), (0, .ref (ad 6 0)), (1, .int (iI b9))]) hx hb dX5_running_1 rfl hl (by decide) rfl (fun ls hl => ?_)
  refine wa_const F dX5_running_2 ?_
  refine lv_istore_n (lv' := [(3, .int (iI 0)), (2, .int (iI 0)), (0, .ref (ad 6 0)), (1, .int (iI b9))]) hx hb dX5_running_3 rfl hl (by decide) rfl (fun ls hl => ?_)
  have loop4 : ∀ (k : Nat) (jx : Nat) (q : Int), (jx + k = (T 29 0).toNat) → (q = f_cnt (fun u => decide (T 28 u = b9)) jx) → ∀ ls : Array Slot, lv_has ls 4 [(0, .ref (ad 6 0)), (1, .int (iI b9)), (2, .int (iI q)), (3, .int (iI (jx : Int)))] → W p l e ({ frames := 0, cells := 0, slots := 0, locals := 0 } : Room) s m args below meth c s.heap [] 0 0 (MQ below (wa_Qp (f_run T b9)) args s 0 0 (fun _ => False)) (F0 m 4 ls []) := by
    intro k
    induction k with
    | zero =>
      intro jx q hk hq ls hl
      refine lv_iload_n hx hb dX5_running_4 rfl (lv_at hl 3 rfl) ?_
      refine lv_aload_n hx hb dX5_running_5 rfl (lv_at hl 0 rfl) ?_
      refine gX5_147 F hw rfl (v := .int (iI (T 29 0))) rfl dX5_running_6 ?_
      refine wa_ic_ge (tgt := 36) F dX5_running_9 (by decide) (by exact ⟨by omega, by omega⟩) (by have q0 := hB 29 0; exact ⟨by omega, by omega⟩) (fun c9 => ?_) (fun c9 => absurd c9 (by omega))
      refine lv_iload_n hx hb dX5_running_36 rfl (lv_at hl 2 rfl) ?_
      exact wa_ep F (by rw [hq, show jx = (T 29 0).toNat by omega]; rfl) dX5_running_37
    | succ k ih4 =>
      intro jx q hk hq ls hl
      refine lv_iload_n hx hb dX5_running_4 rfl (lv_at hl 3 rfl) ?_
      refine lv_aload_n hx hb dX5_running_5 rfl (lv_at hl 0 rfl) ?_
      refine gX5_147 F hw rfl (v := .int (iI (T 29 0))) rfl dX5_running_6 ?_
      refine wa_ic_ge (tgt := 36) F dX5_running_9 (by decide) (by exact ⟨by omega, by omega⟩) (by have q0 := hB 29 0; exact ⟨by omega, by omega⟩) (fun c9 => absurd c9 (by omega)) (fun c9 => ?_)
      refine lv_iload_n hx hb dX5_running_12 rfl (lv_at hl 2 rfl) ?_
      refine lv_aload_n hx hb dX5_running_13 rfl (lv_at hl 0 rfl) ?_
      refine gX5_81 F hw rfl (v := .ref (ad 6 28)) rfl dX5_running_14 ?_
      refine lv_iload_n hx hb dX5_running_17 rfl (lv_at hl 3 rfl) ?_
      refine aM_28 F hw jx rfl (by omega) dX5_running_18 ?_
      refine lv_iload_n hx hb dX5_running_19 rfl (lv_at hl 1 rfl) ?_
      refine wa_ic_ne (tgt := 27) F dX5_running_20 (by decide) (by have q0 := hB 28 jx; exact ⟨by omega, by omega⟩) (by exact ⟨by omega, by omega⟩) (fun c20 => ?_) (fun c20 => ?_)
      · skip
        refine wa_const F dX5_running_27 ?_
        refine wa_add F dX5_running_28 ?_
        refine lv_istore_n (lv' := [(2, .int (iI (q + 0))), (0, .ref (ad 6 0)), (1, .int (iI b9)), (3, .int (iI (jx : Int)))]) hx hb dX5_running_29 rfl hl (by decide) rfl (fun ls hl => ?_)
        refine wa_inc (k := 3) (b := ((jx + 1) : Int)) (lv' := [(3, .int (iI ((jx + 1) : Int))), (2, .int (iI (q + 0))), (0, .ref (ad 6 0)), (1, .int (iI b9))]) F dX5_running_30 hl rfl (by omega) (by decide) rfl (fun ls hl => ?_)
        refine wa_goto (tgt := 4) F dX5_running_33 (by decide) ?_
        exact ih4 (jx + 1) (q + 0) (by omega) (by simp [f_cnt, bI, hq, c20]) ls (lv_sub hl [2, 3, 1, 0] rfl)
      · skip
        refine wa_const F dX5_running_23 ?_
        refine wa_goto (tgt := 28) F dX5_running_24 (by decide) ?_
        refine wa_add F dX5_running_28 ?_
        refine lv_istore_n (lv' := [(2, .int (iI (q + 1))), (0, .ref (ad 6 0)), (1, .int (iI b9)), (3, .int (iI (jx : Int)))]) hx hb dX5_running_29 rfl hl (by decide) rfl (fun ls hl => ?_)
        refine wa_inc (k := 3) (b := ((jx + 1) : Int)) (lv' := [(3, .int (iI ((jx + 1) : Int))), (2, .int (iI (q + 1))), (0, .ref (ad 6 0)), (1, .int (iI b9))]) F dX5_running_30 hl rfl (by omega) (by decide) rfl (fun ls hl => ?_)
        refine wa_goto (tgt := 4) F dX5_running_33 (by decide) ?_
        exact ih4 (jx + 1) (q + 1) (by omega) (by simp [f_cnt, bI, hq, c20]) ls (lv_sub hl [2, 3, 1, 0] rfl)
  exact loop4 ((T 29 0).toNat) 0 0 (by omega) rfl ls (lv_sub hl [2, 3, 1, 0] rfl)
set_option maxRecDepth 100000 in
set_option maxHeartbeats 4000000 in
/-- isTooOld -/
theorem c_X5_isTooOld (l : Launch) (D : va_G) (cy : Nat → ClassId) (ad : Nat → Nat → Nat) (S X T : wa_St) (o : Int64) (hwf : wf T) (z : Int) (b9 : Nat) (hzb9 : z = (b9 : Int)) (hb9 : (b9 : Int) < T 21 0) : Met l yX5_isTooOld wX5_isTooOld ({ frames := 0, cells := 0, slots := 0, locals := 0 } : Room) (wa_pc [.ref (ad 6 0), .int (iI z)] D cy (fun H => wa_wd D ad (wW cy ad S X T o) H)) (wa_Qp (bI (f_old T b9))) 0 0 (fun _ => False) := by
  refine wa_en (by decide +kernel) (Nat.le_of_ble_eq_true rfl) ?_
  intro p e s m args below meth c F hw ls hl
  have F : wa_fx p s m c meth args cX5_isTooOld 2 RX5 "isTooOld" (Option.some FieldType.boolean) D cy := F
  have hw : wa_wd D ad (wW cy ad S X T o) s.heap := hw
  have hl : lv_has ls 2 [(0, .ref (ad 6 0)), (1, .int (iI z))] := hl
  obtain ⟨hx, hb, hml, hown, hts⟩ := id F.1
  obtain ⟨hB, w8, w21, w12, w29, w4, w7, w6, w5, w13, w25, w26, w28, w14, w3, wf17⟩ := id hwf
  subst hzb9
  refine lv_aload_n hx hb dX5_isTooOld_0 rfl (lv_at hl 0 rfl) ?_
  refine gX5_130 F hw rfl (v := .int (iI (T 1 0))) rfl dX5_isTooOld_1 ?_
  refine lv_aload_n hx hb dX5_isTooOld_4 rfl (lv_at hl 0 rfl) ?_
  refine gX5_43 F hw rfl (v := .ref (ad 6 15)) rfl dX5_isTooOld_5 ?_
  refine lv_iload_n hx hb dX5_isTooOld_8 rfl (lv_at hl 1 rfl) ?_
  refine aM_15 F hw b9 rfl (by omega) dX5_isTooOld_9 ?_
  refine wa_sub F dX5_isTooOld_10 ?_
  refine lv_aload_n hx hb dX5_isTooOld_11 rfl (lv_at hl 0 rfl) ?_
  refine gX5_65 F hw rfl (v := .int (iI (T 23 0))) rfl dX5_isTooOld_12 ?_
  refine wa_ic_le (tgt := 22) F dX5_isTooOld_15 (by decide) (by have q0 := hB 1 0; have q1 := hB 15 b9; exact ⟨by omega, by omega⟩) (by have q0 := hB 23 0; exact ⟨by omega, by omega⟩) (fun c15 => ?_) (fun c15 => ?_)
  · skip
    refine wa_const F dX5_isTooOld_22 ?_
    exact wa_epz F (bI_f (by first | omega | simp [f_old, c15])).symm (by decide) dX5_isTooOld_23
  · skip
    refine wa_const F dX5_isTooOld_18 ?_
    refine wa_goto (tgt := 23) F dX5_isTooOld_19 (by decide) ?_
    exact wa_epz F (bI_t (by first | omega | simp [f_old, c15])).symm (by decide) dX5_isTooOld_23
set_option maxRecDepth 100000 in
set_option maxHeartbeats 4000000 in
/-- bakeFor -/
theorem c_X5_bakeFor (l : Launch) (D : va_G) (cy : Nat → ClassId) (ad : Nat → Nat → Nat) (S X T : wa_St) (o : Int64) (hwf : wf T) (ii pl rg : Int) (rii : wa_r ii) (hpl : 0 ≤ pl ∧ pl ≤ 2) (rrg : wa_r rg) : Met l yX5_bakeFor wX5_bakeFor ({ frames := 1, cells := 0, slots := 0, locals := 21 } : Room) (wa_pc [.ref (ad 6 0), .int (iI ii), .int (iI pl), .int (iI rg)] D cy (fun H => wa_wd D ad (wW cy ad S X T o) H)) (wa_Qp (f_bakeFor T ii pl rg)) 0 0 (fun _ => False) := by
  refine wa_en (by decide +kernel) (Nat.le_of_ble_eq_true rfl) ?_
  intro p e s m args below meth c F hw ls hl
  have F : wa_fx p s m c meth args cX5_bakeFor 8 RX5 "bakeFor" (Option.some FieldType.int) D cy := F
  have hw : wa_wd D ad (wW cy ad S X T o) s.heap := hw
  have hl : lv_has ls 8 [(0, .ref (ad 6 0)), (1, .int (iI ii)), (2, .int (iI pl)), (3, .int (iI rg))] := hl
  obtain ⟨hx, hb, hml, hown, hts⟩ := id F.1
  obtain ⟨hB, w8, w21, w12, w29, w4, w7, w6, w5, w13, w25, w26, w28, w14, w3, wf17⟩ := id hwf
  refine wa_const F dX5_bakeFor_0 ?_
  refine lv_istore (lv' := [(4, .int (iI (-1))), (0, .ref (ad 6 0)), (1, .int (iI ii)), (2, .int (iI pl)), (3, .int (iI rg))]) hx hb dX5_bakeFor_1 hl (by decide) rfl (fun ls hl => ?_)
  refine wa_const F dX5_bakeFor_3 ?_
  refine lv_istore (lv' := [(5, .int (iI 0)), (4, .int (iI (-1))), (0, .ref (ad 6 0)), (1, .int (iI ii)), (2, .int (iI pl)), (3, .int (iI rg))]) hx hb dX5_bakeFor_4 hl (by decide) rfl (fun ls hl => ?_)
  have loop6 : ∀ (k : Nat) (jx : Nat) (q : Int), (jx + k = (T 21 0).toNat) → (q = f_last (f_can T ii pl rg) jx) → ∀ ls : Array Slot, lv_has ls 8 [(0, .ref (ad 6 0)), (1, .int (iI ii)), (2, .int (iI pl)), (3, .int (iI rg)), (4, .int (iI q)), (5, .int (iI (jx : Int)))] → W p l e ({ frames := 1, cells := 0, slots := 0, locals := 21 } : Room) s m args below meth c s.heap [] 0 0 (MQ below (wa_Qp (f_bakeFor T ii pl rg)) args s 0 0 (fun _ => False)) (F0 m 6 ls []) := by
    intro k
    induction k with
    | zero =>
      intro jx q hk hq ls hl
      refine lv_iload hx hb dX5_bakeFor_6 (lv_at hl 5 rfl) ?_
      refine lv_aload_n hx hb dX5_bakeFor_8 rfl (lv_at hl 0 rfl) ?_
      refine gX5_100 F hw rfl (v := .int (iI (T 21 0))) rfl dX5_bakeFor_9 ?_
      refine wa_ic_ge (tgt := 121) F dX5_bakeFor_12 (by decide) (by exact ⟨by omega, by omega⟩) (by have q0 := hB 21 0; exact ⟨by omega, by omega⟩) (fun c12 => ?_) (fun c12 => absurd c12 (by omega))
      refine lv_iload hx hb dX5_bakeFor_121 (lv_at hl 4 rfl) ?_
      exact wa_ep F (by rw [hq, show jx = (T 21 0).toNat by omega]; rfl) dX5_bakeFor_123
    | succ k ih6 =>
      intro jx q hk hq ls hl
      refine lv_iload hx hb dX5_bakeFor_6 (lv_at hl 5 rfl) ?_
      refine lv_aload_n hx hb dX5_bakeFor_8 rfl (lv_at hl 0 rfl) ?_
      refine gX5_100 F hw rfl (v := .int (iI (T 21 0))) rfl dX5_bakeFor_9 ?_
      refine wa_ic_ge (tgt := 121) F dX5_bakeFor_12 (by decide) (by exact ⟨by omega, by omega⟩) (by have q0 := hB 21 0; exact ⟨by omega, by omega⟩) (fun c12 => absurd c12 (by omega)) (fun c12 => ?_)
      refine lv_aload_n hx hb dX5_bakeFor_15 rfl (lv_at hl 0 rfl) ?_
      refine gX5_59 F hw rfl (v := .ref (ad 6 20)) rfl dX5_bakeFor_16 ?_
      refine wa_const F dX5_bakeFor_19 ?_
      refine lv_iload hx hb dX5_bakeFor_20 (lv_at hl 5 rfl) ?_
      refine wa_mul F dX5_bakeFor_22 ?_
      refine lv_iload_n hx hb dX5_bakeFor_23 rfl (lv_at hl 2 rfl) ?_
      refine wa_add F dX5_bakeFor_24 ?_
      refine aM_20 F hw (3 * jx + pl.toNat) (by omega) (by omega) dX5_bakeFor_25 ?_
      refine lv_istore (lv' := [(6, .int (iI (T 20 (3 * jx + pl.toNat)))), (0, .ref (ad 6 0)), (1, .int (iI ii)), (2, .int (iI pl)), (3, .int (iI rg)), (4, .int (iI q)), (5, .int (iI (jx : Int)))]) hx hb dX5_bakeFor_26 hl (by decide) rfl (fun ls hl => ?_)
      refine lv_aload_n hx hb dX5_bakeFor_28 rfl (lv_at hl 1 rfl) ?_
      refine gX5_37 F hw rfl (v := .ref (ad 6 13)) rfl dX5_bakeFor_29 ?_
      refine lv_iload hx hb dX5_bakeFor_32 (lv_at hl 6 rfl) ?_
      refine aM_13 F hw jx rfl (by omega) dX5_bakeFor_34 ?_
      refine lv_iload_n hx hb dX5_bakeFor_35 rfl (lv_at hl 2 rfl) ?_
      refine wa_ic_ne (tgt := 98) F dX5_bakeFor_36 (by decide) (by have q0 := hB 13 jx; exact ⟨by omega, by omega⟩) (by exact ⟨by omega, by omega⟩) (fun c36 => ?_) (fun c36 => ?_)
      · skip
        refine wa_const F dX5_bakeFor_98 ?_
        refine lv_istore (lv' := [(7, .int (iI 0)), (6, .int (iI (T 20 (3 * jx + pl.toNat)))), (0, .ref (ad 6 0)), (1, .int (iI ii)), (2, .int (iI pl)), (3, .int (iI rg)), (4, .int (iI q)), (5, .int (iI (jx : Int)))]) hx hb dX5_bakeFor_99 hl (by decide) rfl (fun ls hl => ?_)
        refine lv_iload hx hb dX5_bakeFor_101 (lv_at hl 0 rfl) ?_
        refine wa_if_eq (tgt := 111) F dX5_bakeFor_103 (by decide) (by decide) (fun c103 => ?_) (fun c103 => absurd c103 (by decide))
        refine lv_iload hx hb dX5_bakeFor_111 (lv_at hl 6 rfl) ?_
        refine lv_istore (lv' := [(4, .int (iI q)), (7, .int (iI 0)), (6, .int (iI (T 20 (3 * jx + pl.toNat)))), (0, .ref (ad 6 0)), (1, .int (iI ii)), (2, .int (iI pl)), (3, .int (iI rg)), (5, .int (iI (jx : Int)))]) hx hb dX5_bakeFor_113 hl (by decide) rfl (fun ls hl => ?_)
        refine wa_inc (k := 7) (b := ((jx + 1) : Int)) (lv' := [(5, .int (iI ((jx + 1) : Int))), (4, .int (iI q)), (7, .int (iI 0)), (6, .int (iI (T 20 (3 * jx + pl.toNat)))), (0, .ref (ad 6 0)), (1, .int (iI ii)), (2, .int (iI pl)), (3, .int (iI rg))]) F dX5_bakeFor_115 hl rfl (by omega) (by decide) rfl (fun ls hl => ?_)
        refine wa_goto (tgt := 6) F dX5_bakeFor_118 (by decide) ?_
        exact ih6 (jx + 1) q (by omega) (by rw [f_last, if_neg (show ¬ f_can T ii pl rg jx = true by unfold f_can; try simp only [f_old] at *; simp only [decide_eq_true_eq]; omega)]; exact hq) ls (lv_sub hl [4, 5, 6, 7, 1, 0] rfl)
      · skip
        refine lv_iload hx hb dX5_bakeFor_39 (lv_at hl 0 rfl) ?_
        refine wa_const F dX5_bakeFor_41 ?_
        refine wa_ic_eq (tgt := 98) F dX5_bakeFor_42 (by decide) (by have q0 := hB 20 (3 * jx + pl.toNat); exact ⟨by omega, by omega⟩) (by decide) (fun c42 => ?_) (fun c42 => ?_)
        · skip
          refine wa_const F dX5_bakeFor_98 ?_
          refine lv_istore (lv' := [(7, .int (iI 0)), (6, .int (iI (T 20 (3 * jx + pl.toNat)))), (0, .ref (ad 6 0)), (1, .int (iI ii)), (2, .int (iI pl)), (3, .int (iI rg)), (4, .int (iI q)), (5, .int (iI (jx : Int)))]) hx hb dX5_bakeFor_99 hl (by decide) rfl (fun ls hl => ?_)
          refine lv_iload hx hb dX5_bakeFor_101 (lv_at hl 0 rfl) ?_
          refine wa_if_eq (tgt := 111) F dX5_bakeFor_103 (by decide) (by decide) (fun c103 => ?_) (fun c103 => absurd c103 (by decide))
          refine lv_iload hx hb dX5_bakeFor_111 (lv_at hl 6 rfl) ?_
          refine lv_istore (lv' := [(4, .int (iI q)), (7, .int (iI 0)), (6, .int (iI (T 20 (3 * jx + pl.toNat)))), (0, .ref (ad 6 0)), (1, .int (iI ii)), (2, .int (iI pl)), (3, .int (iI rg)), (5, .int (iI (jx : Int)))]) hx hb dX5_bakeFor_113 hl (by decide) rfl (fun ls hl => ?_)
          refine wa_inc (k := 7) (b := ((jx + 1) : Int)) (lv' := [(5, .int (iI ((jx + 1) : Int))), (4, .int (iI q)), (7, .int (iI 0)), (6, .int (iI (T 20 (3 * jx + pl.toNat)))), (0, .ref (ad 6 0)), (1, .int (iI ii)), (2, .int (iI pl)), (3, .int (iI rg))]) F dX5_bakeFor_115 hl rfl (by omega) (by decide) rfl (fun ls hl => ?_)
          refine wa_goto (tgt := 6) F dX5_bakeFor_118 (by decide) ?_
          exact ih6 (jx + 1) q (by omega) (by rw [f_last, if_neg (show ¬ f_can T ii pl rg jx = true by unfold f_can; try simp only [f_old] at *; simp only [decide_eq_true_eq]; omega)]; exact hq) ls (lv_sub hl [4, 5, 6, 7, 1, 0] rfl)
        · skip
          refine lv_iload hx hb dX5_bakeFor_45 (lv_at hl 0 rfl) ?_
          refine lv_aload_n hx hb dX5_bakeFor_47 rfl (lv_at hl 1 rfl) ?_
          refine gX5_130 F hw rfl (v := .int (iI (T 1 0))) rfl dX5_bakeFor_48 ?_
          refine wa_ic_gt (tgt := 98) F dX5_bakeFor_51 (by decide) (by have q0 := hB 20 (3 * jx + pl.toNat); exact ⟨by omega, by omega⟩) (by have q0 := hB 1 0; exact ⟨by omega, by omega⟩) (fun c51 => ?_) (fun c51 => ?_)
          · skip
            refine wa_const F dX5_bakeFor_98 ?_
            refine lv_istore (lv' := [(7, .int (iI 0)), (6, .int (iI (T 20 (3 * jx + pl.toNat)))), (0, .ref (ad 6 0)), (1, .int (iI ii)), (2, .int (iI pl)), (3, .int (iI rg)), (4, .int (iI q)), (5, .int (iI (jx : Int)))]) hx hb dX5_bakeFor_99 hl (by decide) rfl (fun ls hl => ?_)
            refine lv_iload hx hb dX5_bakeFor_101 (lv_at hl 0 rfl) ?_
            refine wa_if_eq (tgt := 111) F dX5_bakeFor_103 (by decide) (by decide) (fun c103 => ?_) (fun c103 => absurd c103 (by decide))
            refine lv_iload hx hb dX5_bakeFor_111 (lv_at hl 6 rfl) ?_
            refine lv_istore (lv' := [(4, .int (iI q)), (7, .int (iI 0)), (6, .int (iI (T 20 (3 * jx + pl.toNat)))), (0, .ref (ad 6 0)), (1, .int (iI ii)), (2, .int (iI pl)), (3, .int (iI rg)), (5, .int (iI (jx : Int)))]) hx hb dX5_bakeFor_113 hl (by decide) rfl (fun ls hl => ?_)
            refine wa_inc (k := 7) (b := ((jx + 1) : Int)) (lv' := [(5, .int (iI ((jx + 1) : Int))), (4, .int (iI q)), (7, .int (iI 0)), (6, .int (iI (T 20 (3 * jx + pl.toNat)))), (0, .ref (ad 6 0)), (1, .int (iI ii)), (2, .int (iI pl)), (3, .int (iI rg))]) F dX5_bakeFor_115 hl rfl (by omega) (by decide) rfl (fun ls hl => ?_)
            refine wa_goto (tgt := 6) F dX5_bakeFor_118 (by decide) ?_
            exact ih6 (jx + 1) q (by omega) (by rw [f_last, if_neg (show ¬ f_can T ii pl rg jx = true by unfold f_can; try simp only [f_old] at *; simp only [decide_eq_true_eq]; omega)]; exact hq) ls (lv_sub hl [4, 5, 6, 7, 1, 0] rfl)
          · skip
            refine lv_aload_n hx hb dX5_bakeFor_54 rfl (lv_at hl 1 rfl) ?_
            refine gX5_49 F hw rfl (v := .ref (ad 6 17)) rfl dX5_bakeFor_55 ?_
            refine lv_iload hx hb dX5_bakeFor_58 (lv_at hl 6 rfl) ?_
            refine aM_17 F hw jx rfl (by omega) dX5_bakeFor_60 ?_
            refine wa_if_ne (tgt := 98) F dX5_bakeFor_61 (by decide) (by have q0 := hB 17 jx; exact ⟨by omega, by omega⟩) (fun c61 => ?_) (fun c61 => ?_)
            · skip
              refine wa_const F dX5_bakeFor_98 ?_
              refine lv_istore (lv' := [(7, .int (iI 0)), (6, .int (iI (T 20 (3 * jx + pl.toNat)))), (0, .ref (ad 6 0)), (1, .int (iI ii)), (2, .int (iI pl)), (3, .int (iI rg)), (4, .int (iI q)), (5, .int (iI (jx : Int)))]) hx hb dX5_bakeFor_99 hl (by decide) rfl (fun ls hl => ?_)
              refine lv_iload hx hb dX5_bakeFor_101 (lv_at hl 0 rfl) ?_
              refine wa_if_eq (tgt := 111) F dX5_bakeFor_103 (by decide) (by decide) (fun c103 => ?_) (fun c103 => absurd c103 (by decide))
              refine lv_iload hx hb dX5_bakeFor_111 (lv_at hl 6 rfl) ?_
              refine lv_istore (lv' := [(4, .int (iI q)), (7, .int (iI 0)), (6, .int (iI (T 20 (3 * jx + pl.toNat)))), (0, .ref (ad 6 0)), (1, .int (iI ii)), (2, .int (iI pl)), (3, .int (iI rg)), (5, .int (iI (jx : Int)))]) hx hb dX5_bakeFor_113 hl (by decide) rfl (fun ls hl => ?_)
              refine wa_inc (k := 7) (b := ((jx + 1) : Int)) (lv' := [(5, .int (iI ((jx + 1) : Int))), (4, .int (iI q)), (7, .int (iI 0)), (6, .int (iI (T 20 (3 * jx + pl.toNat)))), (0, .ref (ad 6 0)), (1, .int (iI ii)), (2, .int (iI pl)), (3, .int (iI rg))]) F dX5_bakeFor_115 hl rfl (by omega) (by decide) rfl (fun ls hl => ?_)
              refine wa_goto (tgt := 6) F dX5_bakeFor_118 (by decide) ?_
              exact ih6 (jx + 1) q (by omega) (by rw [f_last, if_neg (show ¬ f_can T ii pl rg jx = true by unfold f_can; try simp only [f_old] at *; simp only [decide_eq_true_eq]; omega)]; exact hq) ls (lv_sub hl [4, 5, 6, 7, 1, 0] rfl)
            · skip
              refine lv_aload_n hx hb dX5_bakeFor_64 rfl (lv_at hl 1 rfl) ?_
              refine gX5_53 F hw rfl (v := .ref (ad 6 18)) rfl dX5_bakeFor_65 ?_
              refine lv_iload hx hb dX5_bakeFor_68 (lv_at hl 6 rfl) ?_
              refine aM_18 F hw jx rfl (by omega) dX5_bakeFor_70 ?_
              refine wa_if_ne (tgt := 98) F dX5_bakeFor_71 (by decide) (by have q0 := hB 18 jx; exact ⟨by omega, by omega⟩) (fun c71 => ?_) (fun c71 => ?_)
              · skip
                refine wa_const F dX5_bakeFor_98 ?_
                refine lv_istore (lv' := [(7, .int (iI 0)), (6, .int (iI (T 20 (3 * jx + pl.toNat)))), (0, .ref (ad 6 0)), (1, .int (iI ii)), (2, .int (iI pl)), (3, .int (iI rg)), (4, .int (iI q)), (5, .int (iI (jx : Int)))]) hx hb dX5_bakeFor_99 hl (by decide) rfl (fun ls hl => ?_)
                refine lv_iload hx hb dX5_bakeFor_101 (lv_at hl 0 rfl) ?_
                refine wa_if_eq (tgt := 111) F dX5_bakeFor_103 (by decide) (by decide) (fun c103 => ?_) (fun c103 => absurd c103 (by decide))
                refine lv_iload hx hb dX5_bakeFor_111 (lv_at hl 6 rfl) ?_
                refine lv_istore (lv' := [(4, .int (iI q)), (7, .int (iI 0)), (6, .int (iI (T 20 (3 * jx + pl.toNat)))), (0, .ref (ad 6 0)), (1, .int (iI ii)), (2, .int (iI pl)), (3, .int (iI rg)), (5, .int (iI (jx : Int)))]) hx hb dX5_bakeFor_113 hl (by decide) rfl (fun ls hl => ?_)
                refine wa_inc (k := 7) (b := ((jx + 1) : Int)) (lv' := [(5, .int (iI ((jx + 1) : Int))), (4, .int (iI q)), (7, .int (iI 0)), (6, .int (iI (T 20 (3 * jx + pl.toNat)))), (0, .ref (ad 6 0)), (1, .int (iI ii)), (2, .int (iI pl)), (3, .int (iI rg))]) F dX5_bakeFor_115 hl rfl (by omega) (by decide) rfl (fun ls hl => ?_)
                refine wa_goto (tgt := 6) F dX5_bakeFor_118 (by decide) ?_
                exact ih6 (jx + 1) q (by omega) (by rw [f_last, if_neg (show ¬ f_can T ii pl rg jx = true by unfold f_can; try simp only [f_old] at *; simp only [decide_eq_true_eq]; omega)]; exact hq) ls (lv_sub hl [4, 5, 6, 7, 1, 0] rfl)
              · skip
                refine lv_aload_n hx hb dX5_bakeFor_74 rfl (lv_at hl 1 rfl) ?_
                refine lv_iload hx hb dX5_bakeFor_75 (lv_at hl 6 rfl) ?_
                refine wa_cp (kX5_153 F (c_X5_isTooOld l D cy ad S X T o hwf ((jx : Int)) jx rfl (by omega)) ⟨by decide, by decide⟩ ⟨rfl, rfl⟩ hw hw rfl rfl rfl (Nat.le_of_ble_eq_true rfl) hl.1 dX5_bakeFor_77 ⟨Nat.le_refl _, Nat.le_refl _⟩) ?_
                by_cases b77 : f_old T jx
                · rw [bI_t b77]
                  refine wa_if_ne (tgt := 98) F dX5_bakeFor_80 (by decide) (by decide) (fun c80 => ?_) (fun c80 => absurd c80 (by decide))
                  refine wa_const F dX5_bakeFor_98 ?_
                  refine lv_istore (lv' := [(7, .int (iI 0)), (6, .int (iI (T 20 (3 * jx + pl.toNat)))), (0, .ref (ad 6 0)), (1, .int (iI ii)), (2, .int (iI pl)), (3, .int (iI rg)), (4, .int (iI q)), (5, .int (iI (jx : Int)))]) hx hb dX5_bakeFor_99 hl (by decide) rfl (fun ls hl => ?_)
                  refine lv_iload hx hb dX5_bakeFor_101 (lv_at hl 0 rfl) ?_
                  refine wa_if_eq (tgt := 111) F dX5_bakeFor_103 (by decide) (by decide) (fun c103 => ?_) (fun c103 => absurd c103 (by decide))
                  refine lv_iload hx hb dX5_bakeFor_111 (lv_at hl 6 rfl) ?_
                  refine lv_istore (lv' := [(4, .int (iI q)), (7, .int (iI 0)), (6, .int (iI (T 20 (3 * jx + pl.toNat)))), (0, .ref (ad 6 0)), (1, .int (iI ii)), (2, .int (iI pl)), (3, .int (iI rg)), (5, .int (iI (jx : Int)))]) hx hb dX5_bakeFor_113 hl (by decide) rfl (fun ls hl => ?_)
                  refine wa_inc (k := 7) (b := ((jx + 1) : Int)) (lv' := [(5, .int (iI ((jx + 1) : Int))), (4, .int (iI q)), (7, .int (iI 0)), (6, .int (iI (T 20 (3 * jx + pl.toNat)))), (0, .ref (ad 6 0)), (1, .int (iI ii)), (2, .int (iI pl)), (3, .int (iI rg))]) F dX5_bakeFor_115 hl rfl (by omega) (by decide) rfl (fun ls hl => ?_)
                  refine wa_goto (tgt := 6) F dX5_bakeFor_118 (by decide) ?_
                  exact ih6 (jx + 1) q (by omega) (by rw [f_last, if_neg (show ¬ f_can T ii pl rg jx = true by unfold f_can; try simp only [f_old] at *; simp only [decide_eq_true_eq]; omega)]; exact hq) ls (lv_sub hl [4, 5, 6, 7, 1, 0] rfl)
                · rw [bI_f b77]
                  refine wa_if_ne (tgt := 98) F dX5_bakeFor_80 (by decide) (by decide) (fun c80 => absurd c80 (by decide)) (fun c80 => ?_)
                  refine lv_aload_n hx hb dX5_bakeFor_83 rfl (lv_at hl 1 rfl) ?_
                  refine gX5_46 F hw rfl (v := .ref (ad 6 16)) rfl dX5_bakeFor_84 ?_
                  refine lv_iload hx hb dX5_bakeFor_87 (lv_at hl 6 rfl) ?_
                  refine aM_16 F hw jx rfl (by omega) dX5_bakeFor_89 ?_
                  refine lv_iload_n hx hb dX5_bakeFor_90 rfl (lv_at hl 4 rfl) ?_
                  refine wa_ic_lt (tgt := 98) F dX5_bakeFor_91 (by decide) (by have q0 := hB 16 jx; exact ⟨by omega, by omega⟩) (by exact ⟨by omega, by omega⟩) (fun c91 => ?_) (fun c91 => ?_)
                  · skip
                    refine wa_const F dX5_bakeFor_98 ?_
                    refine lv_istore (lv' := [(7, .int (iI 0)), (6, .int (iI (T 20 (3 * jx + pl.toNat)))), (0, .ref (ad 6 0)), (1, .int (iI ii)), (2, .int (iI pl)), (3, .int (iI rg)), (4, .int (iI q)), (5, .int (iI (jx : Int)))]) hx hb dX5_bakeFor_99 hl (by decide) rfl (fun ls hl => ?_)
                    refine lv_iload hx hb dX5_bakeFor_101 (lv_at hl 0 rfl) ?_
                    refine wa_if_eq (tgt := 111) F dX5_bakeFor_103 (by decide) (by decide) (fun c103 => ?_) (fun c103 => absurd c103 (by decide))
                    refine lv_iload hx hb dX5_bakeFor_111 (lv_at hl 6 rfl) ?_
                    refine lv_istore (lv' := [(4, .int (iI q)), (7, .int (iI 0)), (6, .int (iI (T 20 (3 * jx + pl.toNat)))), (0, .ref (ad 6 0)), (1, .int (iI ii)), (2, .int (iI pl)), (3, .int (iI rg)), (5, .int (iI (jx : Int)))]) hx hb dX5_bakeFor_113 hl (by decide) rfl (fun ls hl => ?_)
                    refine wa_inc (k := 7) (b := ((jx + 1) : Int)) (lv' := [(5, .int (iI ((jx + 1) : Int))), (4, .int (iI q)), (7, .int (iI 0)), (6, .int (iI (T 20 (3 * jx + pl.toNat)))), (0, .ref (ad 6 0)), (1, .int (iI ii)), (2, .int (iI pl)), (3, .int (iI rg))]) F dX5_bakeFor_115 hl rfl (by omega) (by decide) rfl (fun ls hl => ?_)
                    refine wa_goto (tgt := 6) F dX5_bakeFor_118 (by decide) ?_
                    exact ih6 (jx + 1) q (by omega) (by rw [f_last, if_neg (show ¬ f_can T ii pl rg jx = true by unfold f_can; try simp only [f_old] at *; simp only [decide_eq_true_eq]; omega)]; exact hq) ls (lv_sub hl [4, 5, 6, 7, 1, 0] rfl)
                  · skip
                    refine wa_const F dX5_bakeFor_94 ?_
                    refine wa_goto (tgt := 99) F dX5_bakeFor_95 (by decide) ?_
                    refine lv_istore (lv' := [(7, .int (iI 1)), (6, .int (iI (T 20 (3 * jx + pl.toNat)))), (0, .ref (ad 6 0)), (1, .int (iI ii)), (2, .int (iI pl)), (3, .int (iI rg)), (4, .int (iI q)), (5, .int (iI (jx : Int)))]) hx hb dX5_bakeFor_99 hl (by decide) rfl (fun ls hl => ?_)
                    refine lv_iload hx hb dX5_bakeFor_101 (lv_at hl 0 rfl) ?_
                    refine wa_if_eq (tgt := 111) F dX5_bakeFor_103 (by decide) (by decide) (fun c103 => absurd c103 (by decide)) (fun c103 => ?_)
                    refine lv_iload hx hb dX5_bakeFor_106 (lv_at hl 7 rfl) ?_
                    refine wa_goto (tgt := 113) F dX5_bakeFor_108 (by decide) ?_
                    refine lv_istore (lv' := [(4, .int (iI (jx : Int))), (7, .int (iI 1)), (6, .int (iI (T 20 (3 * jx + pl.toNat)))), (0, .ref (ad 6 0)), (1, .int (iI ii)), (2, .int (iI pl)), (3, .int (iI rg)), (5, .int (iI (jx : Int)))]) hx hb dX5_bakeFor_113 hl (by decide) rfl (fun ls hl => ?_)
                    refine wa_inc (k := 7) (b := ((jx + 1) : Int)) (lv' := [(5, .int (iI ((jx + 1) : Int))), (4, .int (iI (jx : Int))), (7, .int (iI 1)), (6, .int (iI (T 20 (3 * jx + pl.toNat)))), (0, .ref (ad 6 0)), (1, .int (iI ii)), (2, .int (iI pl)), (3, .int (iI rg))]) F dX5_bakeFor_115 hl rfl (by omega) (by decide) rfl (fun ls hl => ?_)
                    refine wa_goto (tgt := 6) F dX5_bakeFor_118 (by decide) ?_
                    exact ih6 (jx + 1) (jx : Int) (by omega) (by rw [f_last, if_pos (show  f_can T ii pl rg jx = true by unfold f_can; try simp only [f_old] at *; simp only [decide_eq_true_eq]; omega)]) ls (lv_sub hl [4, 5, 6, 7, 1, 0] rfl)
  exact loop6 ((T 21 0).toNat) 0 (-1) (by omega) rfl ls (lv_sub hl [2, 3, 4, 5, 1, 0] rfl)
set_option maxRecDepth 100000 in
set_option maxHeartbeats 4000000 in
/-- isRunning -/
theorem c_X5_isRunning (l : Launch) (D : va_G) (cy : Nat → ClassId) (ad : Nat → Nat → Nat) (S X T : wa_St) (o : Int64) (hwf : wf T) (u : Int) (ru : wa_r u) : Met l yX5_isRunning wX5_isRunning ({ frames := 1, cells := 0, slots := 0, locals := 22 } : Room) (wa_pc [.ref (ad 6 0), .int (iI u)] D cy (fun H => wa_wd D ad (wW cy ad S X T o) H)) (wa_Qp (bI (f_isRunning T u))) 0 0 (fun _ => False) := by
  refine wa_en (by decide +kernel) (Nat.le_of_ble_eq_true rfl) ?_
  intro p e s m args below meth c F hw ls hl
  have F : wa_fx p s m c meth args cX5_isRunning 2 RX5 "isRunning" (Option.some FieldType.boolean) D cy := F
  have hw : wa_wd D ad (wW cy ad S X T o) s.heap := hw
  have hl : lv_has ls 2 [(0, .ref (ad 6 0)), (1, .int (iI u))] := hl
  obtain ⟨hx, hb, hml, hown, hts⟩ := id F.1
  obtain ⟨hB, w8, w21, w12, w29, w4, w7, w6, w5, w13, w25, w26, w28, w14, w3, wf17⟩ := id hwf
  refine lv_iload_n hx hb dX5_isRunning_0 rfl (lv_at hl 1 rfl) ?_
  refine wa_const F dX5_isRunning_1 ?_
  refine lv_aload_n hx hb dX5_isRunning_2 rfl (lv_at hl 0 rfl) ?_
  refine gX5_147 F hw rfl (v := .int (iI (T 29 0))) rfl dX5_isRunning_3 ?_
  refine wa_const F dX5_isRunning_6 ?_
  refine wa_sub F dX5_isRunning_7 ?_
  refine wa_cp (kX5_96 F (c_X5_isIn l D cy ad S X T o (u) (0) (((T 29 0) - 1)) (by exact ⟨by omega, by omega⟩) (by decide) (by have q0 := hB 29 0; exact ⟨by omega, by omega⟩)) ⟨by decide, by decide⟩ ⟨rfl, rfl⟩ hw rfl rfl (Nat.le_of_ble_eq_true rfl) hl.1 dX5_isRunning_8 ⟨Nat.le_refl _, Nat.le_refl _⟩) ?_
  by_cases b8 : 0 ≤ u ∧ u ≤ ((T 29 0) - 1)
  · rw [bI_t b8]
    refine wa_if_eq (tgt := 28) F dX5_isRunning_11 (by decide) (by decide) (fun c11 => absurd c11 (by decide)) (fun c11 => ?_)
    obtain ⟨j, rfl⟩ := Int.eq_ofNat_of_zero_le b8.1
    refine lv_aload_n hx hb dX5_isRunning_14 rfl (lv_at hl 0 rfl) ?_
    refine gX5_81 F hw rfl (v := .ref (ad 6 28)) rfl dX5_isRunning_15 ?_
    refine lv_iload_n hx hb dX5_isRunning_18 rfl (lv_at hl 1 rfl) ?_
    refine aM_28 F hw j rfl (by omega) dX5_isRunning_19 ?_
    refine wa_const F dX5_isRunning_20 ?_
    refine wa_ic_eq (tgt := 28) F dX5_isRunning_21 (by decide) (by have q0 := hB 28 j; exact ⟨by omega, by omega⟩) (by decide) (fun c21 => ?_) (fun c21 => ?_)
    · skip
      refine wa_const F dX5_isRunning_28 ?_
      exact wa_epz F (bI_f (by first | exact fun h => h.2 (by simpa using c21) | exact fun h => b8 h.1)).symm (by decide) dX5_isRunning_29
    · skip
      refine wa_const F dX5_isRunning_24 ?_
      refine wa_goto (tgt := 29) F dX5_isRunning_25 (by decide) ?_
      exact wa_epz F (bI_t (by first | exact ⟨by omega, by simpa using c21⟩ | omega)).symm (by decide) dX5_isRunning_29
  · rw [bI_f b8]
    refine wa_if_eq (tgt := 28) F dX5_isRunning_11 (by decide) (by decide) (fun c11 => ?_) (fun c11 => absurd c11 (by decide))
    refine wa_const F dX5_isRunning_28 ?_
    exact wa_epz F (bI_f (by first | exact fun h => h.2 (by simpa using c21) | exact fun h => b8 h.1)).symm (by decide) dX5_isRunning_29
set_option maxRecDepth 100000 in
set_option maxHeartbeats 4000000 in
/-- next -/
theorem c_X5_next (l : Launch) (D : va_G) (cy : Nat → ClassId) (ad : Nat → Nat → Nat) (S X T : wa_St) (o : Int64) (hwf : wf T) (z : Int) (v : Nat) (hzv : z = (v : Int)) (hv : (v : Int) < T 29 0) : Met l yX5_next wX5_next ({ frames := 2, cells := 0, slots := 0, locals := 48 } : Room) (wa_pc [.ref (ad 6 0), .int (iI z)] D cy (fun H => wa_wd D ad (wW cy ad S X T o) H)) (wa_Qp (f_next T v)) 0 0 (fun _ => False) := by
  refine wa_en (by decide +kernel) (Nat.le_of_ble_eq_true rfl) ?_
  intro p e s m args below meth c F hw ls hl
  have F : wa_fx p s m c meth args cX5_next 2 RX5 "next" (Option.some FieldType.int) D cy := F
  have hw : wa_wd D ad (wW cy ad S X T o) s.heap := hw
  have hl : lv_has ls 2 [(0, .ref (ad 6 0)), (1, .int (iI z))] := hl
  obtain ⟨hx, hb, hml, hown, hts⟩ := id F.1
  obtain ⟨hB, w8, w21, w12, w29, w4, w7, w6, w5, w13, w25, w26, w28, w14, w3, wf17⟩ := id hwf
  subst hzv
  refine lv_aload_n hx hb dX5_next_0 rfl (lv_at hl 0 rfl) ?_
  refine lv_aload_n hx hb dX5_next_1 rfl (lv_at hl 0 rfl) ?_
  refine gX5_72 F hw rfl (v := .ref (ad 6 25)) rfl dX5_next_2 ?_
  refine lv_iload_n hx hb dX5_next_5 rfl (lv_at hl 1 rfl) ?_
  refine aM_25 F hw v rfl (by omega) dX5_next_6 ?_
  refine lv_aload_n hx hb dX5_next_7 rfl (lv_at hl 0 rfl) ?_
  refine gX5_75 F hw rfl (v := .ref (ad 6 26)) rfl dX5_next_8 ?_
  refine lv_iload_n hx hb dX5_next_11 rfl (lv_at hl 1 rfl) ?_
  refine aM_26 F hw v rfl (by omega) dX5_next_12 ?_
  refine lv_aload_n hx hb dX5_next_13 rfl (lv_at hl 0 rfl) ?_
  refine gX5_78 F hw rfl (v := .ref (ad 6 27)) rfl dX5_next_14 ?_
  refine lv_iload_n hx hb dX5_next_17 rfl (lv_at hl 1 rfl) ?_
  refine aM_27 F hw v rfl (by omega) dX5_next_18 ?_
  refine wa_cp (kX5_156 F (c_X5_bakeFor l D cy ad S X T o hwf ((T 25 v)) ((T 26 v)) ((T 27 v)) (by have q0 := hB 25 v; exact ⟨by omega, by omega⟩) (w26 v hv) (by have q0 := hB 27 v; exact ⟨by omega, by omega⟩)) ⟨by decide, by decide⟩ ⟨rfl, rfl⟩ hw hw rfl rfl rfl (Nat.le_of_ble_eq_true rfl) hl.1 dX5_next_19 ⟨Nat.le_refl _, Nat.le_refl _⟩) ?_
  exact wa_ep F (by first | rfl | omega) dX5_next_22
set_option maxRecDepth 100000 in
set_option maxHeartbeats 4000000 in
/-- isOld -/
theorem c_X5_isOld (l : Launch) (D : va_G) (cy : Nat → ClassId) (ad : Nat → Nat → Nat) (S X T : wa_St) (o : Int64) (hwf : wf T) (z : Int) (v : Nat) (hzv : z = (v : Int)) (hv : (v : Int) < T 29 0) : Met l yX5_isOld wX5_isOld ({ frames := 3, cells := 0, slots := 0, locals := 69 } : Room) (wa_pc [.ref (ad 6 0), .int (iI z)] D cy (fun H => wa_wd D ad (wW cy ad S X T o) H)) (wa_Qp (bI (f_isOld T v = true))) 0 0 (fun _ => False) := by
  refine wa_en (by decide +kernel) (Nat.le_of_ble_eq_true rfl) ?_
  intro p e s m args below meth c F hw ls hl
  have F : wa_fx p s m c meth args cX5_isOld 2 RX5 "isOld" (Option.some FieldType.boolean) D cy := F
  have hw : wa_wd D ad (wW cy ad S X T o) s.heap := hw
  have hl : lv_has ls 2 [(0, .ref (ad 6 0)), (1, .int (iI z))] := hl
  obtain ⟨hx, hb, hml, hown, hts⟩ := id F.1
  obtain ⟨hB, w8, w21, w12, w29, w4, w7, w6, w5, w13, w25, w26, w28, w14, w3, wf17⟩ := id hwf
  have w28v := w28 v (by omega)
  subst hzv
  refine lv_aload_n hx hb dX5_isOld_0 rfl (lv_at hl 0 rfl) ?_
  refine gX5_81 F hw rfl (v := .ref (ad 6 28)) rfl dX5_isOld_1 ?_
  refine lv_iload_n hx hb dX5_isOld_4 rfl (lv_at hl 1 rfl) ?_
  refine aM_28 F hw v rfl (by omega) dX5_isOld_5 ?_
  refine wa_const F dX5_isOld_6 ?_
  refine wa_ic_ne (tgt := 12) F dX5_isOld_7 (by decide) (by have q0 := hB 28 v; exact ⟨by omega, by omega⟩) (by decide) (fun c7 => ?_) (fun c7 => ?_)
  · skip
    refine lv_aload_n hx hb dX5_isOld_12 rfl (lv_at hl 0 rfl) ?_
    refine gX5_49 F hw rfl (v := .ref (ad 6 17)) rfl dX5_isOld_13 ?_
    refine lv_aload_n hx hb dX5_isOld_16 rfl (lv_at hl 0 rfl) ?_
    refine gX5_81 F hw rfl (v := .ref (ad 6 28)) rfl dX5_isOld_17 ?_
    refine lv_iload_n hx hb dX5_isOld_20 rfl (lv_at hl 1 rfl) ?_
    refine aM_28 F hw v rfl (by omega) dX5_isOld_21 ?_
    refine aM_17 F hw (((T 28 v)).toNat) (by have q0 := hB 28 v; omega) (by have q0 := hB 28 v; omega) dX5_isOld_22 ?_
    refine wa_if_ne (tgt := 62) F dX5_isOld_23 (by decide) (by have q0 := hB 17 (((T 28 v)).toNat); exact ⟨by omega, by omega⟩) (fun c23 => ?_) (fun c23 => ?_)
    · skip
      refine wa_const F dX5_isOld_62 ?_
      refine wa_goto (tgt := 67) F dX5_isOld_63 (by decide) ?_
      exact wa_epz F (bI_t (by unfold f_isOld; try simp only [f_old] at *; simp only [decide_eq_true_eq]; omega)).symm (by decide) dX5_isOld_67
    · skip
      refine lv_aload_n hx hb dX5_isOld_26 rfl (lv_at hl 0 rfl) ?_
      refine lv_aload_n hx hb dX5_isOld_27 rfl (lv_at hl 0 rfl) ?_
      refine gX5_81 F hw rfl (v := .ref (ad 6 28)) rfl dX5_isOld_28 ?_
      refine lv_iload_n hx hb dX5_isOld_31 rfl (lv_at hl 1 rfl) ?_
      refine aM_28 F hw v rfl (by omega) dX5_isOld_32 ?_
      refine wa_cp (kX5_153 F (c_X5_isTooOld l D cy ad S X T o hwf ((T 28 v)) (((T 28 v)).toNat) (by have q0 := hB 28 v; omega) (by omega)) ⟨by decide, by decide⟩ ⟨rfl, rfl⟩ hw hw rfl rfl rfl (Nat.le_of_ble_eq_true rfl) hl.1 dX5_isOld_33 ⟨Nat.le_refl _, Nat.le_refl _⟩) ?_
      by_cases b33 : f_old T (((T 28 v)).toNat)
      · rw [bI_t b33]
        refine wa_if_ne (tgt := 62) F dX5_isOld_36 (by decide) (by decide) (fun c36 => ?_) (fun c36 => absurd c36 (by decide))
        refine wa_const F dX5_isOld_62 ?_
        refine wa_goto (tgt := 67) F dX5_isOld_63 (by decide) ?_
        exact wa_epz F (bI_t (by unfold f_isOld; try simp only [f_old] at *; simp only [decide_eq_true_eq]; omega)).symm (by decide) dX5_isOld_67
      · rw [bI_f b33]
        refine wa_if_ne (tgt := 62) F dX5_isOld_36 (by decide) (by decide) (fun c36 => absurd c36 (by decide)) (fun c36 => ?_)
        refine lv_aload_n hx hb dX5_isOld_39 rfl (lv_at hl 0 rfl) ?_
        refine lv_iload_n hx hb dX5_isOld_40 rfl (lv_at hl 1 rfl) ?_
        refine wa_cp (kX5_162 F (c_X5_next l D cy ad S X T o hwf ((v : Int)) v rfl (by omega)) ⟨by decide, by decide⟩ ⟨rfl, rfl⟩ hw hw rfl rfl rfl (Nat.le_of_ble_eq_true rfl) hl.1 dX5_isOld_41 ⟨Nat.le_refl _, Nat.le_refl _⟩) ?_
        refine wa_const F dX5_isOld_44 ?_
        refine wa_ic_eq (tgt := 66) F dX5_isOld_45 (by decide) (by have q0 := (show -1 ≤ f_next T v ∧ f_next T v < 60 from f_bakeFor_rng hwf _ _ _); exact ⟨by omega, by omega⟩) (by decide) (fun c45 => ?_) (fun c45 => ?_)
        · skip
          refine wa_const F dX5_isOld_66 ?_
          exact wa_epz F (bI_f (by unfold f_isOld; try simp only [f_old] at *; simp only [decide_eq_true_eq]; omega)).symm (by decide) dX5_isOld_67
        · skip
          refine lv_aload_n hx hb dX5_isOld_48 rfl (lv_at hl 0 rfl) ?_
          refine lv_iload_n hx hb dX5_isOld_49 rfl (lv_at hl 1 rfl) ?_
          refine wa_cp (kX5_162 F (c_X5_next l D cy ad S X T o hwf ((v : Int)) v rfl (by omega)) ⟨by decide, by decide⟩ ⟨rfl, rfl⟩ hw hw rfl rfl rfl (Nat.le_of_ble_eq_true rfl) hl.1 dX5_isOld_50 ⟨Nat.le_refl _, Nat.le_refl _⟩) ?_
          refine lv_aload_n hx hb dX5_isOld_53 rfl (lv_at hl 0 rfl) ?_
          refine gX5_81 F hw rfl (v := .ref (ad 6 28)) rfl dX5_isOld_54 ?_
          refine lv_iload_n hx hb dX5_isOld_57 rfl (lv_at hl 1 rfl) ?_
          refine aM_28 F hw v rfl (by omega) dX5_isOld_58 ?_
          refine wa_ic_eq (tgt := 66) F dX5_isOld_59 (by decide) (by have q0 := (show -1 ≤ f_next T v ∧ f_next T v < 60 from f_bakeFor_rng hwf _ _ _); exact ⟨by omega, by omega⟩) (by have q0 := hB 28 v; exact ⟨by omega, by omega⟩) (fun c59 => ?_) (fun c59 => ?_)
          · skip
            refine wa_const F dX5_isOld_66 ?_
            exact wa_epz F (bI_f (by unfold f_isOld; try simp only [f_old] at *; simp only [decide_eq_true_eq]; omega)).symm (by decide) dX5_isOld_67
          · skip
            refine wa_const F dX5_isOld_62 ?_
            refine wa_goto (tgt := 67) F dX5_isOld_63 (by decide) ?_
            exact wa_epz F (bI_t (by unfold f_isOld; try simp only [f_old] at *; simp only [decide_eq_true_eq]; omega)).symm (by decide) dX5_isOld_67
  · skip
    refine wa_const F dX5_isOld_10 ?_
    exact wa_epz F (bI_f (by unfold f_isOld; try simp only [f_old] at *; simp only [decide_eq_true_eq]; omega)).symm (by decide) dX5_isOld_11
set_option maxRecDepth 100000 in
set_option maxHeartbeats 4000000 in
/-- isAhead -/
theorem c_X5_isAhead (l : Launch) (D : va_G) (cy : Nat → ClassId) (ad : Nat → Nat → Nat) (S X T : wa_St) (o : Int64) (hwf : wf T) (zu : Int) (u : Nat) (hzu : zu = (u : Int)) (zv : Int) (v : Nat) (hzv : zv = (v : Int)) (hu : (u : Int) < T 29 0) (hu2 : T 28 u ≠ -1) (hv : (v : Int) < T 29 0) (hv2 : T 28 v ≠ -1) : Met l yX5_isAhead wX5_isAhead ({ frames := 0, cells := 0, slots := 0, locals := 0 } : Room) (wa_pc [.ref (ad 6 0), .int (iI zu), .int (iI zv)] D cy (fun H => wa_wd D ad (wW cy ad S X T o) H)) (wa_Qp (bI (f_ahead T u v = true))) 0 0 (fun _ => False) := by
  refine wa_en (by decide +kernel) (Nat.le_of_ble_eq_true rfl) ?_
  intro p e s m args below meth c F hw ls hl
  have F : wa_fx p s m c meth args cX5_isAhead 5 RX5 "isAhead" (Option.some FieldType.boolean) D cy := F
  have hw : wa_wd D ad (wW cy ad S X T o) s.heap := hw
  have hl : lv_has ls 5 [(0, .ref (ad 6 0)), (1, .int (iI zu)), (2, .int (iI zv))] := hl
  obtain ⟨hx, hb, hml, hown, hts⟩ := id F.1
  obtain ⟨hB, w8, w21, w12, w29, w4, w7, w6, w5, w13, w25, w26, w28, w14, w3, wf17⟩ := id hwf
  have w28u := w28 u hu
  have w28v := w28 v hv
  subst hzu
  subst hzv
  refine lv_aload_n hx hb dX5_isAhead_0 rfl (lv_at hl 0 rfl) ?_
  refine gX5_81 F hw rfl (v := .ref (ad 6 28)) rfl dX5_isAhead_1 ?_
  refine lv_iload_n hx hb dX5_isAhead_4 rfl (lv_at hl 1 rfl) ?_
  refine aM_28 F hw u rfl (by omega) dX5_isAhead_5 ?_
  refine lv_istore_n (lv' := [(3, .int (iI (T 28 u))), (0, .ref (ad 6 0)), (1, .int (iI (u : Int))), (2, .int (iI (v : Int)))]) hx hb dX5_isAhead_6 rfl hl (by decide) rfl (fun ls hl => ?_)
  refine lv_aload_n hx hb dX5_isAhead_7 rfl (lv_at hl 1 rfl) ?_
  refine gX5_81 F hw rfl (v := .ref (ad 6 28)) rfl dX5_isAhead_8 ?_
  refine lv_iload_n hx hb dX5_isAhead_11 rfl (lv_at hl 3 rfl) ?_
  refine aM_28 F hw v rfl (by omega) dX5_isAhead_12 ?_
  refine lv_istore (lv' := [(4, .int (iI (T 28 v))), (3, .int (iI (T 28 u))), (0, .ref (ad 6 0)), (1, .int (iI (u : Int))), (2, .int (iI (v : Int)))]) hx hb dX5_isAhead_13 hl (by decide) rfl (fun ls hl => ?_)
  refine lv_aload_n hx hb dX5_isAhead_15 rfl (lv_at hl 2 rfl) ?_
  refine gX5_49 F hw rfl (v := .ref (ad 6 17)) rfl dX5_isAhead_16 ?_
  refine lv_iload_n hx hb dX5_isAhead_19 rfl (lv_at hl 1 rfl) ?_
  refine aM_17 F hw (((T 28 u)).toNat) (by have q0 := hB 28 u; omega) (by have q0 := hB 28 u; omega) dX5_isAhead_20 ?_
  refine lv_aload_n hx hb dX5_isAhead_21 rfl (lv_at hl 2 rfl) ?_
  refine gX5_49 F hw rfl (v := .ref (ad 6 17)) rfl dX5_isAhead_22 ?_
  refine lv_iload hx hb dX5_isAhead_25 (lv_at hl 0 rfl) ?_
  refine aM_17 F hw (((T 28 v)).toNat) (by have q0 := hB 28 v; omega) (by have q0 := hB 28 v; omega) dX5_isAhead_27 ?_
  refine wa_ic_eq (tgt := 38) F dX5_isAhead_28 (by decide) (by have q0 := hB 17 (((T 28 u)).toNat); exact ⟨by omega, by omega⟩) (by have q0 := hB 17 (((T 28 v)).toNat); exact ⟨by omega, by omega⟩) (fun c28 => ?_) (fun c28 => ?_)
  · skip
    refine lv_aload_n hx hb dX5_isAhead_38 rfl (lv_at hl 2 rfl) ?_
    refine gX5_43 F hw rfl (v := .ref (ad 6 15)) rfl dX5_isAhead_39 ?_
    refine lv_iload_n hx hb dX5_isAhead_42 rfl (lv_at hl 1 rfl) ?_
    refine aM_15 F hw (((T 28 u)).toNat) (by have q0 := hB 28 u; omega) (by have q0 := hB 28 u; omega) dX5_isAhead_43 ?_
    refine lv_aload_n hx hb dX5_isAhead_44 rfl (lv_at hl 2 rfl) ?_
    refine gX5_43 F hw rfl (v := .ref (ad 6 15)) rfl dX5_isAhead_45 ?_
    refine lv_iload hx hb dX5_isAhead_48 (lv_at hl 0 rfl) ?_
    refine aM_15 F hw (((T 28 v)).toNat) (by have q0 := hB 28 v; omega) (by have q0 := hB 28 v; omega) dX5_isAhead_50 ?_
    refine wa_ic_eq (tgt := 78) F dX5_isAhead_51 (by decide) (by have q0 := hB 15 (((T 28 u)).toNat); exact ⟨by omega, by omega⟩) (by have q0 := hB 15 (((T 28 v)).toNat); exact ⟨by omega, by omega⟩) (fun c51 => ?_) (fun c51 => ?_)
    · skip
      refine lv_iload_n hx hb dX5_isAhead_78 rfl (lv_at hl 3 rfl) ?_
      refine lv_iload_n hx hb dX5_isAhead_79 rfl (lv_at hl 4 rfl) ?_
      refine wa_ic_ge (tgt := 87) F dX5_isAhead_80 (by decide) (by exact ⟨by omega, by omega⟩) (by exact ⟨by omega, by omega⟩) (fun c80 => ?_) (fun c80 => ?_)
      · skip
        refine wa_const F dX5_isAhead_87 ?_
        exact wa_epz F (bI_f (by unfold f_ahead; rw [if_neg (show ¬ (T 17 (T 28 u).toNat ≠ T 17 (T 28 v).toNat) by omega)]; rw [if_neg (show ¬ (T 15 (T 28 u).toNat ≠ T 15 (T 28 v).toNat) by omega)]; simp only [decide_eq_true_eq]; omega)).symm (by decide) dX5_isAhead_88
      · skip
        refine wa_const F dX5_isAhead_83 ?_
        refine wa_goto (tgt := 88) F dX5_isAhead_84 (by decide) ?_
        exact wa_epz F (bI_t (by unfold f_ahead; rw [if_neg (show ¬ (T 17 (T 28 u).toNat ≠ T 17 (T 28 v).toNat) by omega)]; rw [if_neg (show ¬ (T 15 (T 28 u).toNat ≠ T 15 (T 28 v).toNat) by omega)]; simp only [decide_eq_true_eq]; omega)).symm (by decide) dX5_isAhead_88
    · skip
      refine lv_aload_n hx hb dX5_isAhead_54 rfl (lv_at hl 2 rfl) ?_
      refine gX5_43 F hw rfl (v := .ref (ad 6 15)) rfl dX5_isAhead_55 ?_
      refine lv_iload_n hx hb dX5_isAhead_58 rfl (lv_at hl 1 rfl) ?_
      refine aM_15 F hw (((T 28 u)).toNat) (by have q0 := hB 28 u; omega) (by have q0 := hB 28 u; omega) dX5_isAhead_59 ?_
      refine lv_aload_n hx hb dX5_isAhead_60 rfl (lv_at hl 2 rfl) ?_
      refine gX5_43 F hw rfl (v := .ref (ad 6 15)) rfl dX5_isAhead_61 ?_
      refine lv_iload hx hb dX5_isAhead_64 (lv_at hl 0 rfl) ?_
      refine aM_15 F hw (((T 28 v)).toNat) (by have q0 := hB 28 v; omega) (by have q0 := hB 28 v; omega) dX5_isAhead_66 ?_
      refine wa_ic_ge (tgt := 74) F dX5_isAhead_67 (by decide) (by have q0 := hB 15 (((T 28 u)).toNat); exact ⟨by omega, by omega⟩) (by have q0 := hB 15 (((T 28 v)).toNat); exact ⟨by omega, by omega⟩) (fun c67 => ?_) (fun c67 => ?_)
      · skip
        refine wa_const F dX5_isAhead_74 ?_
        refine wa_goto (tgt := 88) F dX5_isAhead_75 (by decide) ?_
        exact wa_epz F (bI_f (by unfold f_ahead; rw [if_neg (show ¬ (T 17 (T 28 u).toNat ≠ T 17 (T 28 v).toNat) by omega)]; rw [if_pos c51]; simp only [decide_eq_true_eq]; omega)).symm (by decide) dX5_isAhead_88
      · skip
        refine wa_const F dX5_isAhead_70 ?_
        refine wa_goto (tgt := 88) F dX5_isAhead_71 (by decide) ?_
        exact wa_epz F (bI_t (by unfold f_ahead; rw [if_neg (show ¬ (T 17 (T 28 u).toNat ≠ T 17 (T 28 v).toNat) by omega)]; rw [if_pos c51]; simp only [decide_eq_true_eq]; omega)).symm (by decide) dX5_isAhead_88
  · skip
    refine lv_aload_n hx hb dX5_isAhead_31 rfl (lv_at hl 2 rfl) ?_
    refine gX5_49 F hw rfl (v := .ref (ad 6 17)) rfl dX5_isAhead_32 ?_
    refine lv_iload_n hx hb dX5_isAhead_35 rfl (lv_at hl 1 rfl) ?_
    refine aM_17 F hw (((T 28 u)).toNat) (by have q0 := hB 28 u; omega) (by have q0 := hB 28 u; omega) dX5_isAhead_36 ?_
    exact wa_epz F (by have h9 := c28; have q1 := wf17 (T 28 u).toNat; simp only [f_ahead, if_pos h9, decide_eq_true_eq, bI]; split <;> omega) (by have q1 := wf17 (T 28 u).toNat; omega) dX5_isAhead_37
