/-! contracts of the reference, second part (laid by program) -/
set_option maxRecDepth 100000 in
set_option maxHeartbeats 4000000 in
/-- find: the layer of some things -/
theorem c_X5_find (l : Launch) (D : va_G) (cy : Nat → ClassId) (ad : Nat → Nat → Nat) (S X T : wa_St) (o : Int64) (hwf : wf T) (lo inp ver : Int) (rlo : wa_r lo) (rinp : wa_r inp) (rver : wa_r ver) : Met l yX5_find wX5_find ({ frames := 0, cells := 0, slots := 0, locals := 0 } : Room) (wa_pc [.ref (ad 6 0), .int (iI lo), .int (iI inp), .int (iI ver)] D cy (fun H => wa_wd D ad (wW cy ad S X T o) H)) (wa_Qp (f_find T lo inp ver)) 0 0 (fun _ => False) := by
  refine wa_en (by decide +kernel) (Nat.le_of_ble_eq_true rfl) ?_
  intro p e s m args below meth c F hw ls hl
  have F : wa_fx p s m c meth args cX5_find 5 RX5 "find" (Option.some FieldType.int) D cy := F
  have hw : wa_wd D ad (wW cy ad S X T o) s.heap := hw
  have hl : lv_has ls 5 [(0, .ref (ad 6 0)), (1, .int (iI lo)), (2, .int (iI inp)), (3, .int (iI ver))] := hl
  obtain ⟨hx, hb, hml, hown, hts⟩ := id F.1
  obtain ⟨hB, w8, w21, w12, w29, w4, w7, w6, w5, w13, w25, w26, w28, w14, w3⟩ := id hwf
  refine wa_const F dX5_find_0 ?_
  refine lv_istore (lv' := [(4, .int (iI 0)), (0, .ref (ad 6 0)), (1, .int (iI lo)), (2, .int (iI inp)), (3, .int (iI ver))]) hx hb dX5_find_1 hl (by decide) rfl (fun ls hl => ?_)
  have loop3 : ∀ (k : Nat) (lx : Nat), lx + k = (T 12 0).toNat → f_fnd (fun l => decide (T 9 l = lo ∧ T 10 l = inp ∧ T 11 l = ver)) k lx = f_find T lo inp ver → ∀ ls : Array Slot, lv_has ls 5 [(0, .ref (ad 6 0)), (1, .int (iI lo)), (2, .int (iI inp)), (3, .int (iI ver)), (4, .int (iI (lx : Int)))] → W p l e ({ frames := 0, cells := 0, slots := 0, locals := 0 } : Room) s m args below meth c s.heap [] 0 0 (MQ below (wa_Qp (f_find T lo inp ver)) args s 0 0 (fun _ => False)) (F0 m 3 ls []) := by
    intro k
    induction k with
    | zero =>
      intro lx hk hr ls hl
      refine lv_iload hx hb dX5_find_3 (lv_at hl 4 rfl) ?_
      refine lv_aload_n hx hb dX5_find_5 rfl (lv_at hl 0 rfl) ?_
      refine gX5_110 F hw rfl (v := .int (iI (T 12 0))) rfl dX5_find_6 ?_
      refine wa_ic_ge (tgt := 54) F dX5_find_9 (by decide) (by exact ⟨by omega, by omega⟩) (by have q0 := hB 12 0; exact ⟨by omega, by omega⟩) (fun c9 => ?_) (fun c9 => absurd c9 (by omega))
      refine wa_bi F dX5_find_54 (by decide +kernel) ?_
      exact wa_ep F (by rw [← hr]; rfl) dX5_find_56
    | succ k ih3 =>
      intro lx hk hr ls hl
      refine lv_iload hx hb dX5_find_3 (lv_at hl 4 rfl) ?_
      refine lv_aload_n hx hb dX5_find_5 rfl (lv_at hl 0 rfl) ?_
      refine gX5_110 F hw rfl (v := .int (iI (T 12 0))) rfl dX5_find_6 ?_
      refine wa_ic_ge (tgt := 54) F dX5_find_9 (by decide) (by exact ⟨by omega, by omega⟩) (by have q0 := hB 12 0; exact ⟨by omega, by omega⟩) (fun c9 => absurd c9 (by omega)) (fun c9 => ?_)
      refine lv_aload_n hx hb dX5_find_12 rfl (lv_at hl 0 rfl) ?_
      refine gX5_28 F hw rfl (v := .ref (ad 6 9)) rfl dX5_find_13 ?_
      refine lv_iload hx hb dX5_find_16 (lv_at hl 4 rfl) ?_
      refine aM_9 F hw lx rfl (by omega) dX5_find_18 ?_
      refine lv_iload_n hx hb dX5_find_19 rfl (lv_at hl 1 rfl) ?_
      refine wa_ic_ne (tgt := 48) F dX5_find_20 (by decide) (by have q0 := hB 9 lx; exact ⟨by omega, by omega⟩) (by exact ⟨by omega, by omega⟩) (fun c20 => ?_) (fun c20 => ?_)
      · skip
        refine wa_inc (k := 4) (b := ((lx + 1) : Int)) (lv' := [(4, .int (iI ((lx + 1) : Int))), (0, .ref (ad 6 0)), (1, .int (iI lo)), (2, .int (iI inp)), (3, .int (iI ver))]) F dX5_find_48 hl rfl (by omega) (by decide) rfl (fun ls hl => ?_)
        refine wa_goto (tgt := 3) F dX5_find_51 (by decide) ?_
        exact ih3 (lx + 1) (by omega) (by rw [← hr]; simp [f_fnd, c9, c20]) ls (lv_sub hl [1, 2, 3, 4, 0] rfl)
      · skip
        refine lv_aload_n hx hb dX5_find_23 rfl (lv_at hl 0 rfl) ?_
        refine gX5_31 F hw rfl (v := .ref (ad 6 10)) rfl dX5_find_24 ?_
        refine lv_iload hx hb dX5_find_27 (lv_at hl 4 rfl) ?_
        refine aM_10 F hw lx rfl (by omega) dX5_find_29 ?_
        refine lv_iload_n hx hb dX5_find_30 rfl (lv_at hl 2 rfl) ?_
        refine wa_ic_ne (tgt := 48) F dX5_find_31 (by decide) (by have q0 := hB 10 lx; exact ⟨by omega, by omega⟩) (by exact ⟨by omega, by omega⟩) (fun c31 => ?_) (fun c31 => ?_)
        · skip
          refine wa_inc (k := 4) (b := ((lx + 1) : Int)) (lv' := [(4, .int (iI ((lx + 1) : Int))), (0, .ref (ad 6 0)), (1, .int (iI lo)), (2, .int (iI inp)), (3, .int (iI ver))]) F dX5_find_48 hl rfl (by omega) (by decide) rfl (fun ls hl => ?_)
          refine wa_goto (tgt := 3) F dX5_find_51 (by decide) ?_
          exact ih3 (lx + 1) (by omega) (by rw [← hr]; simp [f_fnd, c9, c20, c31]) ls (lv_sub hl [1, 2, 3, 4, 0] rfl)
        · skip
          refine lv_aload_n hx hb dX5_find_34 rfl (lv_at hl 0 rfl) ?_
          refine gX5_34 F hw rfl (v := .ref (ad 6 11)) rfl dX5_find_35 ?_
          refine lv_iload hx hb dX5_find_38 (lv_at hl 4 rfl) ?_
          refine aM_11 F hw lx rfl (by omega) dX5_find_40 ?_
          refine lv_iload_n hx hb dX5_find_41 rfl (lv_at hl 3 rfl) ?_
          refine wa_ic_ne (tgt := 48) F dX5_find_42 (by decide) (by have q0 := hB 11 lx; exact ⟨by omega, by omega⟩) (by exact ⟨by omega, by omega⟩) (fun c42 => ?_) (fun c42 => ?_)
          · skip
            refine wa_inc (k := 4) (b := ((lx + 1) : Int)) (lv' := [(4, .int (iI ((lx + 1) : Int))), (0, .ref (ad 6 0)), (1, .int (iI lo)), (2, .int (iI inp)), (3, .int (iI ver))]) F dX5_find_48 hl rfl (by omega) (by decide) rfl (fun ls hl => ?_)
            refine wa_goto (tgt := 3) F dX5_find_51 (by decide) ?_
            exact ih3 (lx + 1) (by omega) (by rw [← hr]; simp [f_fnd, c9, c20, c31, c42]) ls (lv_sub hl [1, 2, 3, 4, 0] rfl)
          · skip
            refine lv_iload hx hb dX5_find_45 (lv_at hl 4 rfl) ?_
            exact wa_ep F (by rw [← hr]; simp [f_fnd, c9, c20, c31, c42]) dX5_find_47
  exact loop3 ((T 12 0).toNat) 0 (by omega) rfl ls (lv_sub hl [1, 2, 3, 4, 0] rfl)
