/-! contracts of the reference, ninth part: bakeAll (laid by program) -/
set_option maxRecDepth 100000 in
set_option maxHeartbeats 4000000 in
/-- bakeAll -/
theorem c_X5_bakeAll (l : Launch) (D : va_G) (cy : Nat → ClassId) (ad : Nat → Nat → Nat) (S X T : wa_St) (o : Int64) (A : Nat → Prop) (hj : wa_wj A ad (wW cy ad S X T o)) (hwf : wf T) (hl5 : T 12 0 ≤ 5 * T 21 0) : Met l yX5_bakeAll wX5_bakeAll ({ frames := 4, cells := 0, slots := 0, locals := 91 } : Room) (wa_pc [.ref (ad 6 0)] D cy (fun H => wa_wd D ad (wW cy ad S X T o) H)) (wa_Qi A D ad (wW cy ad S X (s_all T) o) (v_all T)) 0 0 A := by
  refine wa_en (by decide +kernel) (Nat.le_of_ble_eq_true rfl) ?_
  intro p e s m args below meth c F hw ls hl
  have F : wa_fx p s m c meth args cX5_bakeAll 8 RX5 "bakeAll" (Option.some FieldType.int) D cy := F
  have hw : wa_wd D ad (wW cy ad S X T o) s.heap := hw
  have hl : lv_has ls 8 [(0, .ref (ad 6 0))] := hl
  obtain ⟨hx, hb, hml, hown, hts⟩ := id F.1
  obtain ⟨hB, w8, w21, w12, w29, w4, w7, w6, w5, w13, w25, w26, w28, w14, w3, wf17⟩ := id hwf
  have hS : va_S A s.heap s.heap [] := va_S.rf
  refine lv_aload_n hx hb dX5_bakeAll_0 rfl (lv_at hl 0 rfl) ?_
  refine gX5_100 F hw rfl (v := .int (iI (T 21 0))) rfl dX5_bakeAll_1 ?_
  refine lv_istore_n (lv' := [(1, .int (iI (T 21 0))), (0, .ref (ad 6 0))]) hx hb dX5_bakeAll_4 rfl hl (by decide) rfl (fun ls hl => ?_)
  refine lv_aload_n hx hb dX5_bakeAll_5 rfl (lv_at hl 1 rfl) ?_
  refine gX5_110 F hw rfl (v := .int (iI (T 12 0))) rfl dX5_bakeAll_6 ?_
  refine lv_istore_n (lv' := [(2, .int (iI (T 12 0))), (1, .int (iI (T 21 0))), (0, .ref (ad 6 0))]) hx hb dX5_bakeAll_9 rfl hl (by decide) rfl (fun ls hl => ?_)
  refine wa_const F dX5_bakeAll_10 ?_
  refine lv_istore_n (lv' := [(3, .int (iI 0)), (2, .int (iI (T 12 0))), (1, .int (iI (T 21 0))), (0, .ref (ad 6 0))]) hx hb dX5_bakeAll_11 rfl hl (by decide) rfl (fun ls hl => ?_)
  have loop12 : ∀ (k : Nat) (jx : Nat) (T1 : wa_St) (H : Heap) (locs : List Loc), (jx + k = (T 8 0).toNat) → (c_inv T T1) → (f_cp k jx T1 = f_cp (T 8 0).toNat 0 T) → wa_wd D ad (wW cy ad S X T1 o) H → va_S A s.heap H locs → ∀ ls : Array Slot, lv_has ls 8 [(0, .ref (ad 6 0)), (1, .int (iI (T 21 0))), (2, .int (iI (T 12 0))), (3, .int (iI (jx : Int)))] → W p l e ({ frames := 4, cells := 0, slots := 0, locals := 91 } : Room) s m args below meth c H locs 0 0 (MQ below (wa_Qi A D ad (wW cy ad S X (s_all T) o) (v_all T)) args s 0 0 A) (F0 m 12 ls []) := by
    intro k
    induction k with
    | zero =>
      intro jx T1 H locs hk hc1 hr hw hS ls hl
      have hB1 := hc1.2
      have e8 := hc1.1 8 0 (by decide)
      refine lv_iload_n hx hb dX5_bakeAll_12 rfl (lv_at hl 3 rfl) ?_
      refine lv_aload_n hx hb dX5_bakeAll_13 rfl (lv_at hl 0 rfl) ?_
      refine gX5_93 F hw rfl (v := .int (iI (T1 8 0))) rfl dX5_bakeAll_14 ?_
      refine wa_ic_ge (tgt := 38) F dX5_bakeAll_17 (by decide) (by exact ⟨by omega, by omega⟩) (by have q0 := hB1 8 0; exact ⟨by omega, by omega⟩) (fun c17 => ?_) (fun c17 => absurd c17 (by omega))
      refine lv_aload_n hx hb dX5_bakeAll_38 rfl (lv_at hl 0 rfl) ?_
      refine wa_const F dX5_bakeAll_39 ?_
      refine wa_const F dX5_bakeAll_40 ?_
      have hwf1 := wf_30 hwf (Or.inr rfl) hc1.1 hc1.2
      have hcp : f_cp (T 8 0).toNat 0 T = T1 := by rw [← hr]; rfl
      refine wa_ci (kX5_137 F (c_X5_joins l D cy ad S X T1 o A (wm_j hj _ _) hwf1 ((-1)) (0) (by decide) ⟨Int.le_refl 0, fun j hj => by omega, fun j j' hj => by omega⟩) ⟨by decide, by decide⟩ ⟨rfl, rfl⟩ hw hw rfl rfl rfl (Nat.le_of_ble_eq_true rfl) hl.1 dX5_bakeAll_41 ⟨Nat.le_refl _, Nat.le_refl _⟩) hS (fun H locs hw hS => ?_)
      change wa_wd D ad (wW cy ad S X (f_jn T1 (-1) 0).1 o) H at hw
      refine W.eq (g2 := F0 m 44 ls [.int (iI ((f_jn T1 (-1) 0).2))]) rfl ?_
      refine lv_istore_n (lv' := [(3, .int (iI ((f_jn T1 (-1) 0).2))), (0, .ref (ad 6 0)), (1, .int (iI (T 21 0))), (2, .int (iI (T 12 0)))]) hx hb dX5_bakeAll_44 rfl hl (by decide) rfl (fun ls hl => ?_)
      refine wa_const F dX5_bakeAll_45 ?_
      refine lv_istore (lv' := [(4, .int (iI 1)), (3, .int (iI ((f_jn T1 (-1) 0).2))), (0, .ref (ad 6 0)), (1, .int (iI (T 21 0))), (2, .int (iI (T 12 0)))]) hx hb dX5_bakeAll_46 hl (by decide) rfl (fun ls hl => ?_)
      refine wa_const F dX5_bakeAll_48 ?_
      refine lv_istore (lv' := [(5, .int (iI 0)), (4, .int (iI 1)), (3, .int (iI ((f_jn T1 (-1) 0).2))), (0, .ref (ad 6 0)), (1, .int (iI (T 21 0))), (2, .int (iI (T 12 0)))]) hx hb dX5_bakeAll_49 hl (by decide) rfl (fun ls hl => ?_)
      have loop51 : ∀ (k : Nat) (ax : Nat) (T2 : wa_St) (e2 : Int) (H : Heap) (locs : List Loc), (ax + k = 10) → (b_inv (T 8 0) ax T2 e2) → (f_bl k ax T2 e2 = f_all T) → wa_wd D ad (wW cy ad S X T2 o) H → va_S A s.heap H locs → ∀ ls : Array Slot, lv_has ls 8 [(0, .ref (ad 6 0)), (1, .int (iI (T 21 0))), (2, .int (iI (T 12 0))), (3, .int (iI e2)), (4, .int (iI 1)), (5, .int (iI (ax : Int)))] → W p l e ({ frames := 4, cells := 0, slots := 0, locals := 91 } : Room) s m args below meth c H locs 0 0 (MQ below (wa_Qi A D ad (wW cy ad S X (s_all T) o) (v_all T)) args s 0 0 A) (F0 m 51 ls []) := by
        intro k
        induction k with
        | zero =>
          intro ax T2 e2 H locs hk hbi hr hw hS ls hl
          have hwf2 := hbi.1
          have hB2 := hwf2.1
          have e82 := hbi.2.2.1
          have hal := hbi.2.2.2.1
          have hle := hbi.le
          have w21b := hwf2.2.2.1
          have h12b := hbi.2.1
          refine lv_iload hx hb dX5_bakeAll_51 (lv_at hl 5 rfl) ?_
          refine lv_iload_n hx hb dX5_bakeAll_53 rfl (lv_at hl 3 rfl) ?_
          refine wa_ic_ge (tgt := 130) F dX5_bakeAll_54 (by decide) (by exact ⟨by omega, by omega⟩) (by exact ⟨by omega, by omega⟩) (fun c54 => ?_) (fun c54 => absurd c54 (by omega))
          have hall : f_all T = (T2, true) := hr.symm.trans (by first | rfl | (simp only [f_bl]; rw [if_neg (Int.not_lt.mpr c54)]))
          refine lv_aload_n hx hb dX5_bakeAll_130 rfl (lv_at hl 0 rfl) ?_
          refine lv_iload hx hb dX5_bakeAll_131 (lv_at hl 4 rfl) ?_
          refine wa_if_eq (tgt := 140) F dX5_bakeAll_133 (by decide) (by decide) (fun c133 => absurd c133 (by decide)) (fun c133 => ?_)
          refine wa_const F dX5_bakeAll_136 ?_
          refine wa_goto (tgt := 141) F dX5_bakeAll_137 (by decide) ?_
          refine wa_ci (kX5_103 F (c_X5_isFine l D cy ad S X T2 o A (wm_j hj _ _) (0) (by decide)) ⟨by decide, by decide⟩ ⟨rfl, rfl⟩ hw hw rfl rfl rfl (Nat.le_of_ble_eq_true rfl) hl.1 dX5_bakeAll_141 ⟨Nat.le_refl _, Nat.le_refl _⟩) hS (fun H locs hw hS => ?_)
          refine wa_if_ne (tgt := 191) F dX5_bakeAll_144 (by decide) (by decide) (fun c144 => ?_) (fun c144 => absurd c144 (by decide))
          refine lv_aload_n hx hb dX5_bakeAll_191 rfl (lv_at hl 0 rfl) ?_
          refine gX5_100 F hw rfl (v := .int (iI (T2 21 0))) rfl dX5_bakeAll_192 ?_
          refine lv_iload_n hx hb dX5_bakeAll_195 rfl (lv_at hl 1 rfl) ?_
          refine wa_sub F dX5_bakeAll_196 ?_
          have es : s_all T = wa_s T2 0 0 0 := by unfold s_all; rw [hall]; rfl
          have ev : v_all T = T2 21 0 - T 21 0 := by unfold v_all; rw [hall]; rfl
          rw [es, ev]
          exact wa_ei F hw hS rfl dX5_bakeAll_197
        | succ k ih51 =>
          intro ax T2 e2 H locs hk hbi hr hw hS ls hl
          have hwf2 := hbi.1
          have hB2 := hwf2.1
          have e82 := hbi.2.2.1
          have hal := hbi.2.2.2.1
          have hle := hbi.le
          have w21b := hwf2.2.2.1
          have h12b := hbi.2.1
          refine lv_iload hx hb dX5_bakeAll_51 (lv_at hl 5 rfl) ?_
          refine lv_iload_n hx hb dX5_bakeAll_53 rfl (lv_at hl 3 rfl) ?_
          refine wa_ic_ge (tgt := 130) F dX5_bakeAll_54 (by decide) (by exact ⟨by omega, by omega⟩) (by exact ⟨by omega, by omega⟩) (fun c54 => ?_) (fun c54 => ?_)
          · skip
            have hall : f_all T = (T2, true) := hr.symm.trans (by first | rfl | (simp only [f_bl]; rw [if_neg (Int.not_lt.mpr c54)]))
            refine lv_aload_n hx hb dX5_bakeAll_130 rfl (lv_at hl 0 rfl) ?_
            refine lv_iload hx hb dX5_bakeAll_131 (lv_at hl 4 rfl) ?_
            refine wa_if_eq (tgt := 140) F dX5_bakeAll_133 (by decide) (by decide) (fun c133 => absurd c133 (by decide)) (fun c133 => ?_)
            refine wa_const F dX5_bakeAll_136 ?_
            refine wa_goto (tgt := 141) F dX5_bakeAll_137 (by decide) ?_
            refine wa_ci (kX5_103 F (c_X5_isFine l D cy ad S X T2 o A (wm_j hj _ _) (0) (by decide)) ⟨by decide, by decide⟩ ⟨rfl, rfl⟩ hw hw rfl rfl rfl (Nat.le_of_ble_eq_true rfl) hl.1 dX5_bakeAll_141 ⟨Nat.le_refl _, Nat.le_refl _⟩) hS (fun H locs hw hS => ?_)
            refine wa_if_ne (tgt := 191) F dX5_bakeAll_144 (by decide) (by decide) (fun c144 => ?_) (fun c144 => absurd c144 (by decide))
            refine lv_aload_n hx hb dX5_bakeAll_191 rfl (lv_at hl 0 rfl) ?_
            refine gX5_100 F hw rfl (v := .int (iI (T2 21 0))) rfl dX5_bakeAll_192 ?_
            refine lv_iload_n hx hb dX5_bakeAll_195 rfl (lv_at hl 1 rfl) ?_
            refine wa_sub F dX5_bakeAll_196 ?_
            have es : s_all T = wa_s T2 0 0 0 := by unfold s_all; rw [hall]; rfl
            have ev : v_all T = T2 21 0 - T 21 0 := by unfold v_all; rw [hall]; rfl
            rw [es, ev]
            exact wa_ei F hw hS rfl dX5_bakeAll_197
          · skip
            refine lv_iload hx hb dX5_bakeAll_57 (lv_at hl 4 rfl) ?_
            refine wa_if_eq (tgt := 130) F dX5_bakeAll_59 (by decide) (by decide) (fun c59 => absurd c59 (by decide)) (fun c59 => ?_)
            have h5i := hbi.2.2.2.2.1 ax c54
            have hfs := hbi.base c54
            refine lv_aload_n hx hb dX5_bakeAll_62 rfl (lv_at hl 0 rfl) ?_
            refine gX5_84 F hw rfl (v := .ref (ad 6 30)) rfl dX5_bakeAll_63 ?_
            refine lv_iload hx hb dX5_bakeAll_66 (lv_at hl 5 rfl) ?_
            refine aM_30 F hw ax rfl (by omega) dX5_bakeAll_68 ?_
            refine lv_istore (lv' := [(6, .int (iI (T2 30 ax))), (0, .ref (ad 6 0)), (1, .int (iI (T 21 0))), (2, .int (iI (T 12 0))), (3, .int (iI e2)), (4, .int (iI 1)), (5, .int (iI (ax : Int)))]) hx hb dX5_bakeAll_69 hl (by decide) rfl (fun ls hl => ?_)
            refine lv_aload_n hx hb dX5_bakeAll_71 rfl (lv_at hl 1 rfl) ?_
            refine lv_iload hx hb dX5_bakeAll_72 (lv_at hl 0 rfl) ?_
            refine wa_cp (kX5_141 F (c_X5_isFreshNow l D cy ad S X T2 o hwf2 ((T2 30 ax)) (((T2 30 ax)).toNat) (by have q0 := hB2 30 ax; omega) (by omega)) ⟨by decide, by decide⟩ ⟨rfl, rfl⟩ hw hw rfl rfl rfl (Nat.le_of_ble_eq_true rfl) hl.1 dX5_bakeAll_74 ⟨Nat.le_refl _, Nat.le_refl _⟩) ?_
            by_cases b74 : f_fresh T2 (((T2 30 ax)).toNat) = true
            · rw [bI_t b74]
              refine lv_istore (lv' := [(7, .int (iI 1)), (6, .int (iI (T2 30 ax))), (0, .ref (ad 6 0)), (1, .int (iI (T 21 0))), (2, .int (iI (T 12 0))), (3, .int (iI e2)), (4, .int (iI 1)), (5, .int (iI (ax : Int)))]) hx hb dX5_bakeAll_77 hl (by decide) rfl (fun ls hl => ?_)
              refine lv_iload hx hb dX5_bakeAll_79 (lv_at hl 0 rfl) ?_
              refine wa_if_ne (tgt := 93) F dX5_bakeAll_81 (by decide) (by decide) (fun c81 => ?_) (fun c81 => absurd c81 (by decide))
              refine wa_const F dX5_bakeAll_93 ?_
              refine wa_goto (tgt := 98) F dX5_bakeAll_94 (by decide) ?_
              refine lv_istore (lv' := [(4, .int (iI 1)), (7, .int (iI 1)), (6, .int (iI (T2 30 ax))), (0, .ref (ad 6 0)), (1, .int (iI (T 21 0))), (2, .int (iI (T 12 0))), (3, .int (iI e2)), (5, .int (iI (ax : Int)))]) hx hb dX5_bakeAll_98 hl (by decide) rfl (fun ls hl => ?_)
              refine lv_iload hx hb dX5_bakeAll_100 (lv_at hl 1 rfl) ?_
              refine wa_if_ne (tgt := 116) F dX5_bakeAll_102 (by decide) (by decide) (fun c102 => ?_) (fun c102 => absurd c102 (by decide))
              refine lv_aload_n hx hb dX5_bakeAll_116 rfl (lv_at hl 3 rfl) ?_
              refine lv_iload hx hb dX5_bakeAll_117 (lv_at hl 2 rfl) ?_
              refine lv_iload_n hx hb dX5_bakeAll_119 rfl (lv_at hl 6 rfl) ?_
              refine wa_ci (kX5_137 F (c_X5_joins l D cy ad S X T2 o A (wm_j hj _ _) hwf2 ((T2 30 ax)) (e2) (hB2 30 ax) (hbi.pre c54)) ⟨by decide, by decide⟩ ⟨rfl, rfl⟩ hw hw rfl rfl rfl (Nat.le_of_ble_eq_true rfl) hl.1 dX5_bakeAll_120 ⟨Nat.le_refl _, Nat.le_refl _⟩) hS (fun H locs hw hS => ?_)
              change wa_wd D ad (wW cy ad S X (f_jn T2 (T2 30 ax) e2).1 o) H at hw
              refine W.eq (g2 := F0 m 123 ls [.int (iI ((f_jn T2 (T2 30 ax) e2).2))]) rfl ?_
              have hbj := hbi.join c54 (f_fresh_7 b74)
              refine lv_istore_n (lv' := [(3, .int (iI ((f_jn T2 (T2 30 ax) e2).2))), (4, .int (iI 1)), (7, .int (iI 1)), (6, .int (iI (T2 30 ax))), (0, .ref (ad 6 0)), (1, .int (iI (T 21 0))), (2, .int (iI (T 12 0))), (5, .int (iI (ax : Int)))]) hx hb dX5_bakeAll_123 rfl hl (by decide) rfl (fun ls hl => ?_)
              refine wa_inc (k := 7) (b := ((ax + 1) : Int)) (lv' := [(5, .int (iI ((ax + 1) : Int))), (3, .int (iI ((f_jn T2 (T2 30 ax) e2).2))), (4, .int (iI 1)), (7, .int (iI 1)), (6, .int (iI (T2 30 ax))), (0, .ref (ad 6 0)), (1, .int (iI (T 21 0))), (2, .int (iI (T 12 0)))]) F dX5_bakeAll_124 hl rfl (by omega) (by decide) rfl (fun ls hl => ?_)
              refine wa_goto (tgt := 51) F dX5_bakeAll_127 (by decide) ?_
              exact ih51 (ax + 1) (f_jn T2 (T2 30 ax) e2).1 ((f_jn T2 (T2 30 ax) e2).2) _ _ (by omega) hbj (by rw [← hr]; simp only [f_bl]; rw [if_pos c54, if_pos b74]) hw hS ls (lv_sub hl [5, 6, 7, 1, 2, 0] rfl)
            · rw [bI_f b74]
              refine lv_istore (lv' := [(7, .int (iI 0)), (6, .int (iI (T2 30 ax))), (0, .ref (ad 6 0)), (1, .int (iI (T 21 0))), (2, .int (iI (T 12 0))), (3, .int (iI e2)), (4, .int (iI 1)), (5, .int (iI (ax : Int)))]) hx hb dX5_bakeAll_77 hl (by decide) rfl (fun ls hl => ?_)
              refine lv_iload hx hb dX5_bakeAll_79 (lv_at hl 0 rfl) ?_
              refine wa_if_ne (tgt := 93) F dX5_bakeAll_81 (by decide) (by decide) (fun c81 => absurd c81 (by decide)) (fun c81 => ?_)
              refine lv_aload_n hx hb dX5_bakeAll_84 rfl (lv_at hl 2 rfl) ?_
              refine gX5_100 F hw rfl (v := .int (iI (T2 21 0))) rfl dX5_bakeAll_85 ?_
              refine wa_bi F dX5_bakeAll_88 (by decide +kernel) ?_
              refine wa_ic_ge (tgt := 97) F dX5_bakeAll_90 (by decide) (by have q0 := hB2 21 0; exact ⟨by omega, by omega⟩) (by decide) (fun c90 => ?_) (fun c90 => ?_)
              · skip
                refine wa_const F dX5_bakeAll_97 ?_
                refine lv_istore (lv' := [(4, .int (iI 0)), (7, .int (iI 0)), (6, .int (iI (T2 30 ax))), (0, .ref (ad 6 0)), (1, .int (iI (T 21 0))), (2, .int (iI (T 12 0))), (3, .int (iI e2)), (5, .int (iI (ax : Int)))]) hx hb dX5_bakeAll_98 hl (by decide) rfl (fun ls hl => ?_)
                refine lv_iload hx hb dX5_bakeAll_100 (lv_at hl 1 rfl) ?_
                refine wa_if_ne (tgt := 116) F dX5_bakeAll_102 (by decide) (by decide) (fun c102 => absurd c102 (by decide)) (fun c102 => ?_)
                refine lv_iload hx hb dX5_bakeAll_105 (lv_at hl 0 rfl) ?_
                refine wa_if_eq (tgt := 116) F dX5_bakeAll_107 (by decide) (by decide) (fun c107 => ?_) (fun c107 => absurd c107 (by decide))
                refine lv_aload_n hx hb dX5_bakeAll_116 rfl (lv_at hl 3 rfl) ?_
                refine lv_iload hx hb dX5_bakeAll_117 (lv_at hl 2 rfl) ?_
                refine lv_iload_n hx hb dX5_bakeAll_119 rfl (lv_at hl 6 rfl) ?_
                refine wa_ci (kX5_137 F (c_X5_joins l D cy ad S X T2 o A (wm_j hj _ _) hwf2 ((T2 30 ax)) (e2) (hB2 30 ax) (hbi.pre c54)) ⟨by decide, by decide⟩ ⟨rfl, rfl⟩ hw hw rfl rfl rfl (Nat.le_of_ble_eq_true rfl) hl.1 dX5_bakeAll_120 ⟨Nat.le_refl _, Nat.le_refl _⟩) hS (fun H locs hw hS => ?_)
                change wa_wd D ad (wW cy ad S X (f_jn T2 (T2 30 ax) e2).1 o) H at hw
                refine W.eq (g2 := F0 m 123 ls [.int (iI ((f_jn T2 (T2 30 ax) e2).2))]) rfl ?_
                have hall : f_all T = ((f_jn T2 (T2 30 ax) e2).1, false) := by rw [← hr]; simp only [f_bl]; rw [if_pos c54, if_neg b74, if_neg (Int.not_lt.mpr c90)]
                have hjo := f_jo_post hbi.1 (hbi.pre c54)
                change j_inv T2 (T2 30 ax) e2 (T2 8 0).toNat (f_jn T2 (T2 30 ax) e2).1 (f_jn T2 (T2 30 ax) e2).2 at hjo
                have hje := hjo.le (by omega)
                have hjw := wf_30 hwf2 (Or.inl rfl) hjo.1 hjo.2.1
                have hje8 := hjo.1 8 0 (by decide)
                have hj3 := hjo.2.2.1
                refine lv_istore_n (lv' := [(3, .int (iI ((f_jn T2 (T2 30 ax) e2).2))), (4, .int (iI 0)), (7, .int (iI 0)), (6, .int (iI (T2 30 ax))), (0, .ref (ad 6 0)), (1, .int (iI (T 21 0))), (2, .int (iI (T 12 0))), (5, .int (iI (ax : Int)))]) hx hb dX5_bakeAll_123 rfl hl (by decide) rfl (fun ls hl => ?_)
                refine wa_inc (k := 7) (b := ((ax + 1) : Int)) (lv' := [(5, .int (iI ((ax + 1) : Int))), (3, .int (iI ((f_jn T2 (T2 30 ax) e2).2))), (4, .int (iI 0)), (7, .int (iI 0)), (6, .int (iI (T2 30 ax))), (0, .ref (ad 6 0)), (1, .int (iI (T 21 0))), (2, .int (iI (T 12 0)))]) F dX5_bakeAll_124 hl rfl (by omega) (by decide) rfl (fun ls hl => ?_)
                refine wa_goto (tgt := 51) F dX5_bakeAll_127 (by decide) ?_
                refine lv_iload hx hb dX5_bakeAll_51 (lv_at hl 0 rfl) ?_
                refine lv_iload_n hx hb dX5_bakeAll_53 rfl (lv_at hl 1 rfl) ?_
                refine wa_ic_ge (tgt := 130) F dX5_bakeAll_54 (by decide) (by exact ⟨by omega, by omega⟩) (by exact ⟨by omega, by omega⟩) (fun c54 => ?_) (fun c54 => ?_)
                · skip
                  refine lv_aload_n hx hb dX5_bakeAll_130 rfl (lv_at hl 5 rfl) ?_
                  refine lv_iload hx hb dX5_bakeAll_131 (lv_at hl 2 rfl) ?_
                  refine wa_if_eq (tgt := 140) F dX5_bakeAll_133 (by decide) (by decide) (fun c133 => ?_) (fun c133 => absurd c133 (by decide))
                  refine wa_const F dX5_bakeAll_140 ?_
                  refine wa_ci (kX5_103 F (c_X5_isFine l D cy ad S X (f_jn T2 (T2 30 ax) e2).1 o A (wm_j hj _ _) (1) (by decide)) ⟨by decide, by decide⟩ ⟨rfl, rfl⟩ hw hw rfl rfl rfl (Nat.le_of_ble_eq_true rfl) hl.1 dX5_bakeAll_141 ⟨Nat.le_refl _, Nat.le_refl _⟩) hS (fun H locs hw hS => ?_)
                  refine wa_if_ne (tgt := 191) F dX5_bakeAll_144 (by decide) (by decide) (fun c144 => absurd c144 (by decide)) (fun c144 => ?_)
                  refine lv_aload_n hx hb dX5_bakeAll_147 rfl (lv_at hl 5 rfl) ?_
                  refine lv_iload_n hx hb dX5_bakeAll_148 rfl (lv_at hl 6 rfl) ?_
                  refine pM_100 F hw (wm_j hj _ _) hS dX5_bakeAll_149 (fun H locs hw hS => ?_)
                  refine lv_aload_n hx hb dX5_bakeAll_152 rfl (lv_at hl 5 rfl) ?_
                  refine lv_iload_n hx hb dX5_bakeAll_153 rfl (lv_at hl 7 rfl) ?_
                  refine pM_110 F hw (wm_j hj _ _) hS dX5_bakeAll_154 (fun H locs hw hS => ?_)
                  have hstB : ∀ a b, -2 ≤ (wa_s (wa_s (wa_s (f_jn T2 (T2 30 ax) e2).1 0 0 1) 21 0 (T 21 0)) 12 0 (T 12 0)) a b ∧ (wa_s (wa_s (wa_s (f_jn T2 (T2 30 ax) e2).1 0 0 1) 21 0 (T 21 0)) 12 0 (T 12 0)) a b ≤ 100000 := wa_sB (wa_sB (wa_sB hjw.1 (by decide)) (hB 21 0)) (hB 12 0)
                  refine wa_const F dX5_bakeAll_157 ?_
                  refine lv_istore (lv' := [(5, .int (iI 0)), (3, .int (iI ((f_jn T2 (T2 30 ax) e2).2))), (4, .int (iI 0)), (7, .int (iI 0)), (6, .int (iI (T2 30 ax))), (0, .ref (ad 6 0)), (1, .int (iI (T 21 0))), (2, .int (iI (T 12 0)))]) hx hb dX5_bakeAll_158 hl (by decide) rfl (fun ls hl => ?_)
                  have loop160 : ∀ (k : Nat) (jx : Nat) (T3 : wa_St) (H : Heap) (locs : List Loc), (jx + k = (T 8 0).toNat) → (T3 8 0 = T 8 0) → (f_rs k jx T3 = f_rs (T 8 0).toNat 0 (wa_s (wa_s (wa_s (f_jn T2 (T2 30 ax) e2).1 0 0 1) 21 0 (T 21 0)) 12 0 (T 12 0))) → (∀ a b, -2 ≤ T3 a b ∧ T3 a b ≤ 100000) → wa_wd D ad (wW cy ad S X T3 o) H → va_S A s.heap H locs → ∀ ls : Array Slot, lv_has ls 8 [(0, .ref (ad 6 0)), (1, .int (iI (T 21 0))), (2, .int (iI (T 12 0))), (5, .int (iI (jx : Int)))] → W p l e ({ frames := 4, cells := 0, slots := 0, locals := 91 } : Room) s m args below meth c H locs 0 0 (MQ below (wa_Qi A D ad (wW cy ad S X (s_all T) o) (v_all T)) args s 0 0 A) (F0 m 160 ls []) := by
                    intro k
                    induction k with
                    | zero =>
                      intro jx T3 H locs hk3 h83 hr3 hB3 hw hS ls hl
                      refine lv_iload hx hb dX5_bakeAll_160 (lv_at hl 3 rfl) ?_
                      refine lv_aload_n hx hb dX5_bakeAll_162 rfl (lv_at hl 0 rfl) ?_
                      refine gX5_93 F hw rfl (v := .int (iI (T3 8 0))) rfl dX5_bakeAll_163 ?_
                      refine wa_ic_ge (tgt := 189) F dX5_bakeAll_166 (by decide) (by exact ⟨by omega, by omega⟩) (by have q0 := hB3 8 0; exact ⟨by omega, by omega⟩) (fun c166 => ?_) (fun c166 => absurd c166 (by omega))
                      refine wa_const F dX5_bakeAll_189 ?_
                      have es : s_all T = T3 := by unfold s_all; rw [hall]; exact hr3.symm
                      have ev : v_all T = 0 := by unfold v_all; rw [hall]; rfl
                      rw [es, ev]
                      exact wa_ei F hw hS rfl dX5_bakeAll_190
                    | succ k ih160 =>
                      intro jx T3 H locs hk3 h83 hr3 hB3 hw hS ls hl
                      refine lv_iload hx hb dX5_bakeAll_160 (lv_at hl 3 rfl) ?_
                      refine lv_aload_n hx hb dX5_bakeAll_162 rfl (lv_at hl 0 rfl) ?_
                      refine gX5_93 F hw rfl (v := .int (iI (T3 8 0))) rfl dX5_bakeAll_163 ?_
                      refine wa_ic_ge (tgt := 189) F dX5_bakeAll_166 (by decide) (by exact ⟨by omega, by omega⟩) (by have q0 := hB3 8 0; exact ⟨by omega, by omega⟩) (fun c166 => absurd c166 (by omega)) (fun c166 => ?_)
                      refine lv_aload_n hx hb dX5_bakeAll_169 rfl (lv_at hl 0 rfl) ?_
                      refine gX5_25 F hw rfl (v := .ref (ad 6 7)) rfl dX5_bakeAll_170 ?_
                      refine lv_iload hx hb dX5_bakeAll_173 (lv_at hl 3 rfl) ?_
                      refine lv_aload_n hx hb dX5_bakeAll_175 rfl (lv_at hl 0 rfl) ?_
                      refine gX5_87 F hw rfl (v := .ref (ad 6 31)) rfl dX5_bakeAll_176 ?_
                      refine lv_iload hx hb dX5_bakeAll_179 (lv_at hl 3 rfl) ?_
                      refine aM_31 F hw jx rfl (by omega) dX5_bakeAll_181 ?_
                      refine sM_7 F hw (wm_j hj _ _) hS jx rfl (by omega) dX5_bakeAll_182 (fun H locs hw hS => ?_)
                      refine wa_inc (k := 3) (b := ((jx + 1) : Int)) (lv' := [(5, .int (iI ((jx + 1) : Int))), (0, .ref (ad 6 0)), (1, .int (iI (T 21 0))), (2, .int (iI (T 12 0)))]) F dX5_bakeAll_183 hl rfl (by omega) (by decide) rfl (fun ls hl => ?_)
                      refine wa_goto (tgt := 160) F dX5_bakeAll_186 (by decide) ?_
                      exact ih160 (jx + 1) (wa_s T3 7 jx (T3 31 jx)) _ _ (by omega) h83 (by rw [← hr3]; rfl) (wa_sB hB3 (hB3 31 jx)) hw hS ls (lv_sub hl [1, 2, 3, 0] rfl)
                  exact loop160 ((T 8 0).toNat) 0 (wa_s (wa_s (wa_s (f_jn T2 (T2 30 ax) e2).1 0 0 1) 21 0 (T 21 0)) 12 0 (T 12 0)) _ _ (by omega) (show (wa_s (wa_s (wa_s (f_jn T2 (T2 30 ax) e2).1 0 0 1) 21 0 (T 21 0)) 12 0 (T 12 0)) 8 0 = T 8 0 by show (f_jn T2 (T2 30 ax) e2).1 8 0 = T 8 0; omega) rfl (show ∀ a b, -2 ≤ (wa_s (wa_s (wa_s (f_jn T2 (T2 30 ax) e2).1 0 0 1) 21 0 (T 21 0)) 12 0 (T 12 0)) a b ∧ (wa_s (wa_s (wa_s (f_jn T2 (T2 30 ax) e2).1 0 0 1) 21 0 (T 21 0)) 12 0 (T 12 0)) a b ≤ 100000 from hstB) hw hS ls (lv_sub hl [5, 6, 7, 0] rfl)
                · skip
                  refine lv_iload hx hb dX5_bakeAll_57 (lv_at hl 2 rfl) ?_
                  refine wa_if_eq (tgt := 130) F dX5_bakeAll_59 (by decide) (by decide) (fun c59 => ?_) (fun c59 => absurd c59 (by decide))
                  refine lv_aload_n hx hb dX5_bakeAll_130 rfl (lv_at hl 5 rfl) ?_
                  refine lv_iload hx hb dX5_bakeAll_131 (lv_at hl 2 rfl) ?_
                  refine wa_if_eq (tgt := 140) F dX5_bakeAll_133 (by decide) (by decide) (fun c133 => ?_) (fun c133 => absurd c133 (by decide))
                  refine wa_const F dX5_bakeAll_140 ?_
                  refine wa_ci (kX5_103 F (c_X5_isFine l D cy ad S X (f_jn T2 (T2 30 ax) e2).1 o A (wm_j hj _ _) (1) (by decide)) ⟨by decide, by decide⟩ ⟨rfl, rfl⟩ hw hw rfl rfl rfl (Nat.le_of_ble_eq_true rfl) hl.1 dX5_bakeAll_141 ⟨Nat.le_refl _, Nat.le_refl _⟩) hS (fun H locs hw hS => ?_)
                  refine wa_if_ne (tgt := 191) F dX5_bakeAll_144 (by decide) (by decide) (fun c144 => absurd c144 (by decide)) (fun c144 => ?_)
                  refine lv_aload_n hx hb dX5_bakeAll_147 rfl (lv_at hl 5 rfl) ?_
                  refine lv_iload_n hx hb dX5_bakeAll_148 rfl (lv_at hl 6 rfl) ?_
                  refine pM_100 F hw (wm_j hj _ _) hS dX5_bakeAll_149 (fun H locs hw hS => ?_)
                  refine lv_aload_n hx hb dX5_bakeAll_152 rfl (lv_at hl 5 rfl) ?_
                  refine lv_iload_n hx hb dX5_bakeAll_153 rfl (lv_at hl 7 rfl) ?_
                  refine pM_110 F hw (wm_j hj _ _) hS dX5_bakeAll_154 (fun H locs hw hS => ?_)
                  have hstB : ∀ a b, -2 ≤ (wa_s (wa_s (wa_s (f_jn T2 (T2 30 ax) e2).1 0 0 1) 21 0 (T 21 0)) 12 0 (T 12 0)) a b ∧ (wa_s (wa_s (wa_s (f_jn T2 (T2 30 ax) e2).1 0 0 1) 21 0 (T 21 0)) 12 0 (T 12 0)) a b ≤ 100000 := wa_sB (wa_sB (wa_sB hjw.1 (by decide)) (hB 21 0)) (hB 12 0)
                  refine wa_const F dX5_bakeAll_157 ?_
                  refine lv_istore (lv' := [(5, .int (iI 0)), (3, .int (iI ((f_jn T2 (T2 30 ax) e2).2))), (4, .int (iI 0)), (7, .int (iI 0)), (6, .int (iI (T2 30 ax))), (0, .ref (ad 6 0)), (1, .int (iI (T 21 0))), (2, .int (iI (T 12 0)))]) hx hb dX5_bakeAll_158 hl (by decide) rfl (fun ls hl => ?_)
                  have loop160 : ∀ (k : Nat) (jx : Nat) (T3 : wa_St) (H : Heap) (locs : List Loc), (jx + k = (T 8 0).toNat) → (T3 8 0 = T 8 0) → (f_rs k jx T3 = f_rs (T 8 0).toNat 0 (wa_s (wa_s (wa_s (f_jn T2 (T2 30 ax) e2).1 0 0 1) 21 0 (T 21 0)) 12 0 (T 12 0))) → (∀ a b, -2 ≤ T3 a b ∧ T3 a b ≤ 100000) → wa_wd D ad (wW cy ad S X T3 o) H → va_S A s.heap H locs → ∀ ls : Array Slot, lv_has ls 8 [(0, .ref (ad 6 0)), (1, .int (iI (T 21 0))), (2, .int (iI (T 12 0))), (5, .int (iI (jx : Int)))] → W p l e ({ frames := 4, cells := 0, slots := 0, locals := 91 } : Room) s m args below meth c H locs 0 0 (MQ below (wa_Qi A D ad (wW cy ad S X (s_all T) o) (v_all T)) args s 0 0 A) (F0 m 160 ls []) := by
                    intro k
                    induction k with
                    | zero =>
                      intro jx T3 H locs hk3 h83 hr3 hB3 hw hS ls hl
                      refine lv_iload hx hb dX5_bakeAll_160 (lv_at hl 3 rfl) ?_
                      refine lv_aload_n hx hb dX5_bakeAll_162 rfl (lv_at hl 0 rfl) ?_
                      refine gX5_93 F hw rfl (v := .int (iI (T3 8 0))) rfl dX5_bakeAll_163 ?_
                      refine wa_ic_ge (tgt := 189) F dX5_bakeAll_166 (by decide) (by exact ⟨by omega, by omega⟩) (by have q0 := hB3 8 0; exact ⟨by omega, by omega⟩) (fun c166 => ?_) (fun c166 => absurd c166 (by omega))
                      refine wa_const F dX5_bakeAll_189 ?_
                      have es : s_all T = T3 := by unfold s_all; rw [hall]; exact hr3.symm
                      have ev : v_all T = 0 := by unfold v_all; rw [hall]; rfl
                      rw [es, ev]
                      exact wa_ei F hw hS rfl dX5_bakeAll_190
                    | succ k ih160 =>
                      intro jx T3 H locs hk3 h83 hr3 hB3 hw hS ls hl
                      refine lv_iload hx hb dX5_bakeAll_160 (lv_at hl 3 rfl) ?_
                      refine lv_aload_n hx hb dX5_bakeAll_162 rfl (lv_at hl 0 rfl) ?_
                      refine gX5_93 F hw rfl (v := .int (iI (T3 8 0))) rfl dX5_bakeAll_163 ?_
                      refine wa_ic_ge (tgt := 189) F dX5_bakeAll_166 (by decide) (by exact ⟨by omega, by omega⟩) (by have q0 := hB3 8 0; exact ⟨by omega, by omega⟩) (fun c166 => absurd c166 (by omega)) (fun c166 => ?_)
                      refine lv_aload_n hx hb dX5_bakeAll_169 rfl (lv_at hl 0 rfl) ?_
                      refine gX5_25 F hw rfl (v := .ref (ad 6 7)) rfl dX5_bakeAll_170 ?_
                      refine lv_iload hx hb dX5_bakeAll_173 (lv_at hl 3 rfl) ?_
                      refine lv_aload_n hx hb dX5_bakeAll_175 rfl (lv_at hl 0 rfl) ?_
                      refine gX5_87 F hw rfl (v := .ref (ad 6 31)) rfl dX5_bakeAll_176 ?_
                      refine lv_iload hx hb dX5_bakeAll_179 (lv_at hl 3 rfl) ?_
                      refine aM_31 F hw jx rfl (by omega) dX5_bakeAll_181 ?_
                      refine sM_7 F hw (wm_j hj _ _) hS jx rfl (by omega) dX5_bakeAll_182 (fun H locs hw hS => ?_)
                      refine wa_inc (k := 3) (b := ((jx + 1) : Int)) (lv' := [(5, .int (iI ((jx + 1) : Int))), (0, .ref (ad 6 0)), (1, .int (iI (T 21 0))), (2, .int (iI (T 12 0)))]) F dX5_bakeAll_183 hl rfl (by omega) (by decide) rfl (fun ls hl => ?_)
                      refine wa_goto (tgt := 160) F dX5_bakeAll_186 (by decide) ?_
                      exact ih160 (jx + 1) (wa_s T3 7 jx (T3 31 jx)) _ _ (by omega) h83 (by rw [← hr3]; rfl) (wa_sB hB3 (hB3 31 jx)) hw hS ls (lv_sub hl [1, 2, 3, 0] rfl)
                  exact loop160 ((T 8 0).toNat) 0 (wa_s (wa_s (wa_s (f_jn T2 (T2 30 ax) e2).1 0 0 1) 21 0 (T 21 0)) 12 0 (T 12 0)) _ _ (by omega) (show (wa_s (wa_s (wa_s (f_jn T2 (T2 30 ax) e2).1 0 0 1) 21 0 (T 21 0)) 12 0 (T 12 0)) 8 0 = T 8 0 by show (f_jn T2 (T2 30 ax) e2).1 8 0 = T 8 0; omega) rfl (show ∀ a b, -2 ≤ (wa_s (wa_s (wa_s (f_jn T2 (T2 30 ax) e2).1 0 0 1) 21 0 (T 21 0)) 12 0 (T 12 0)) a b ∧ (wa_s (wa_s (wa_s (f_jn T2 (T2 30 ax) e2).1 0 0 1) 21 0 (T 21 0)) 12 0 (T 12 0)) a b ≤ 100000 from hstB) hw hS ls (lv_sub hl [5, 6, 7, 0] rfl)
              · skip
                refine wa_const F dX5_bakeAll_93 ?_
                refine wa_goto (tgt := 98) F dX5_bakeAll_94 (by decide) ?_
                refine lv_istore (lv' := [(4, .int (iI 1)), (7, .int (iI 0)), (6, .int (iI (T2 30 ax))), (0, .ref (ad 6 0)), (1, .int (iI (T 21 0))), (2, .int (iI (T 12 0))), (3, .int (iI e2)), (5, .int (iI (ax : Int)))]) hx hb dX5_bakeAll_98 hl (by decide) rfl (fun ls hl => ?_)
                refine lv_iload hx hb dX5_bakeAll_100 (lv_at hl 1 rfl) ?_
                refine wa_if_ne (tgt := 116) F dX5_bakeAll_102 (by decide) (by decide) (fun c102 => absurd c102 (by decide)) (fun c102 => ?_)
                refine lv_iload hx hb dX5_bakeAll_105 (lv_at hl 0 rfl) ?_
                refine wa_if_eq (tgt := 116) F dX5_bakeAll_107 (by decide) (by decide) (fun c107 => absurd c107 (by decide)) (fun c107 => ?_)
                refine lv_aload_n hx hb dX5_bakeAll_110 rfl (lv_at hl 3 rfl) ?_
                refine lv_iload hx hb dX5_bakeAll_111 (lv_at hl 2 rfl) ?_
                refine wa_cv (kX5_133 F (c_X5_makes l D cy ad S X T2 o A (wm_j hj _ _) hwf2 ((T2 30 ax)) ((T2 30 ax)).toNat (by have q0 := hB2 30 ax; omega) (by omega) hfs c90 (by omega)) ⟨by decide, by decide⟩ ⟨rfl, rfl⟩ hw hw rfl rfl rfl (Nat.le_of_ble_eq_true rfl) hl.1 dX5_bakeAll_113 ⟨Nat.le_refl _, Nat.le_refl _⟩) hS (fun H locs hw hS => ?_)
                have hmd := hbi.made c54 c90
                refine lv_aload_n hx hb dX5_bakeAll_116 rfl (lv_at hl 3 rfl) ?_
                refine lv_iload hx hb dX5_bakeAll_117 (lv_at hl 2 rfl) ?_
                refine lv_iload_n hx hb dX5_bakeAll_119 rfl (lv_at hl 6 rfl) ?_
                refine wa_ci (kX5_137 F (c_X5_joins l D cy ad S X (f_makes T2 (T2 30 ax).toNat) o A (wm_j hj _ _) hmd.1.1 ((T2 30 ax)) (e2) (hB2 30 ax) (by have := hmd.1.pre c54; rw [hmd.2.1] at this; exact this)) ⟨by decide, by decide⟩ ⟨rfl, rfl⟩ hw hw rfl rfl rfl (Nat.le_of_ble_eq_true rfl) hl.1 dX5_bakeAll_120 ⟨Nat.le_refl _, Nat.le_refl _⟩) hS (fun H locs hw hS => ?_)
                change wa_wd D ad (wW cy ad S X (f_jn (f_makes T2 (T2 30 ax).toNat) (T2 30 ax) e2).1 o) H at hw
                refine W.eq (g2 := F0 m 123 ls [.int (iI ((f_jn (f_makes T2 (T2 30 ax).toNat) (T2 30 ax) e2).2))]) rfl ?_
                have hbj := hmd.1.join c54 (by rw [hmd.2.1]; exact hmd.2.2)
                rw [hmd.2.1] at hbj
                refine lv_istore_n (lv' := [(3, .int (iI ((f_jn (f_makes T2 (T2 30 ax).toNat) (T2 30 ax) e2).2))), (4, .int (iI 1)), (7, .int (iI 0)), (6, .int (iI (T2 30 ax))), (0, .ref (ad 6 0)), (1, .int (iI (T 21 0))), (2, .int (iI (T 12 0))), (5, .int (iI (ax : Int)))]) hx hb dX5_bakeAll_123 rfl hl (by decide) rfl (fun ls hl => ?_)
                refine wa_inc (k := 7) (b := ((ax + 1) : Int)) (lv' := [(5, .int (iI ((ax + 1) : Int))), (3, .int (iI ((f_jn (f_makes T2 (T2 30 ax).toNat) (T2 30 ax) e2).2))), (4, .int (iI 1)), (7, .int (iI 0)), (6, .int (iI (T2 30 ax))), (0, .ref (ad 6 0)), (1, .int (iI (T 21 0))), (2, .int (iI (T 12 0)))]) F dX5_bakeAll_124 hl rfl (by omega) (by decide) rfl (fun ls hl => ?_)
                refine wa_goto (tgt := 51) F dX5_bakeAll_127 (by decide) ?_
                exact ih51 (ax + 1) (f_jn (f_makes T2 (T2 30 ax).toNat) (T2 30 ax) e2).1 ((f_jn (f_makes T2 (T2 30 ax).toNat) (T2 30 ax) e2).2) _ _ (by omega) hbj (by rw [← hr]; simp only [f_bl]; rw [if_pos c54, if_neg b74, if_pos c90]) hw hS ls (lv_sub hl [5, 6, 7, 1, 2, 0] rfl)
      exact loop51 (10) 0 (f_jn T1 (-1) 0).1 (f_jn T1 (-1) 0).2 _ _ (by omega) (by have := b_inv.first hwf1 (by rw [hc1.1 12 0 (by decide), hc1.1 21 0 (by decide)]; exact hl5); rw [hc1.1 8 0 (by decide)] at this; exact this) (by unfold f_all; rw [hcp]) hw hS ls (lv_sub hl [3, 4, 5, 2, 1, 0] rfl)
    | succ k ih12 =>
      intro jx T1 H locs hk hc1 hr hw hS ls hl
      have hB1 := hc1.2
      have e8 := hc1.1 8 0 (by decide)
      refine lv_iload_n hx hb dX5_bakeAll_12 rfl (lv_at hl 3 rfl) ?_
      refine lv_aload_n hx hb dX5_bakeAll_13 rfl (lv_at hl 0 rfl) ?_
      refine gX5_93 F hw rfl (v := .int (iI (T1 8 0))) rfl dX5_bakeAll_14 ?_
      refine wa_ic_ge (tgt := 38) F dX5_bakeAll_17 (by decide) (by exact ⟨by omega, by omega⟩) (by have q0 := hB1 8 0; exact ⟨by omega, by omega⟩) (fun c17 => absurd c17 (by omega)) (fun c17 => ?_)
      refine lv_aload_n hx hb dX5_bakeAll_20 rfl (lv_at hl 0 rfl) ?_
      refine gX5_87 F hw rfl (v := .ref (ad 6 31)) rfl dX5_bakeAll_21 ?_
      refine lv_iload_n hx hb dX5_bakeAll_24 rfl (lv_at hl 3 rfl) ?_
      refine lv_aload_n hx hb dX5_bakeAll_25 rfl (lv_at hl 0 rfl) ?_
      refine gX5_25 F hw rfl (v := .ref (ad 6 7)) rfl dX5_bakeAll_26 ?_
      refine lv_iload_n hx hb dX5_bakeAll_29 rfl (lv_at hl 3 rfl) ?_
      refine aM_7 F hw jx rfl (by omega) dX5_bakeAll_30 ?_
      refine sM_31 F hw (wm_j hj _ _) hS jx rfl (by omega) dX5_bakeAll_31 (fun H locs hw hS => ?_)
      refine wa_inc (k := 3) (b := ((jx + 1) : Int)) (lv' := [(3, .int (iI ((jx + 1) : Int))), (0, .ref (ad 6 0)), (1, .int (iI (T 21 0))), (2, .int (iI (T 12 0)))]) F dX5_bakeAll_32 hl rfl (by omega) (by decide) rfl (fun ls hl => ?_)
      refine wa_goto (tgt := 12) F dX5_bakeAll_35 (by decide) ?_
      exact ih12 (jx + 1) (wa_s T1 31 jx (T1 7 jx)) _ _ (by omega) (hc1.set jx) (by rw [← hr]; rfl) hw hS ls (lv_sub hl [1, 2, 3, 0] rfl)
  exact loop12 ((T 8 0).toNat) 0 T _ _ (by omega) ⟨fun _ _ _ => rfl, hB⟩ rfl hw hS ls (lv_sub hl [3, 2, 1, 0] rfl)
