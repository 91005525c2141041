/-! contracts of the reference, fourth part: joins, makes (laid by program) -/
set_option maxRecDepth 100000 in
set_option maxHeartbeats 4000000 in
/-- joins -/
theorem c_X5_joins (l : Launch) (D : va_G) (cy : Nat → ClassId) (ad : Nat → Nat → Nat) (S X T : wa_St) (o : Int64) (A : Nat → Prop) (hj : wa_wj A ad (wW cy ad S X T o)) (hwf : wf T) (ii e9 : Int) (rii : -2 ≤ ii ∧ ii ≤ 100000) (hjp : j_pre T ii e9) : Met l yX5_joins wX5_joins ({ frames := 0, cells := 0, slots := 0, locals := 0 } : Room) (wa_pc [.ref (ad 6 0), .int (iI ii), .int (iI e9)] D cy (fun H => wa_wd D ad (wW cy ad S X T o) H)) (wa_Qi A D ad (wW cy ad S X ((f_jo ii (T 8 0).toNat 0 T e9).1) o) ((f_jo ii (T 8 0).toNat 0 T e9).2)) 0 0 A := by
  refine wa_en (by decide +kernel) (Nat.le_of_ble_eq_true rfl) ?_
  intro p e s m args below meth c F hw ls hl
  have F : wa_fx p s m c meth args cX5_joins 5 RX5 "joins" (Option.some FieldType.int) D cy := F
  have hw : wa_wd D ad (wW cy ad S X T o) s.heap := hw
  have hl : lv_has ls 5 [(0, .ref (ad 6 0)), (1, .int (iI ii)), (2, .int (iI e9))] := hl
  obtain ⟨hx, hb, hml, hown, hts⟩ := id F.1
  obtain ⟨hB, w8, w21, w12, w29, w4, w7, w6, w5, w13, w25, w26, w28, w14, w3, wf17⟩ := id hwf
  have hS : va_S A s.heap s.heap [] := va_S.rf
  refine lv_iload_n hx hb dX5_joins_0 rfl (lv_at hl 2 rfl) ?_
  refine lv_istore_n (lv' := [(3, .int (iI e9)), (0, .ref (ad 6 0)), (1, .int (iI ii)), (2, .int (iI e9))]) hx hb dX5_joins_1 rfl hl (by decide) rfl (fun ls hl => ?_)
  refine wa_const F dX5_joins_2 ?_
  refine lv_istore (lv' := [(4, .int (iI 0)), (3, .int (iI e9)), (0, .ref (ad 6 0)), (1, .int (iI ii)), (2, .int (iI e9))]) hx hb dX5_joins_3 hl (by decide) rfl (fun ls hl => ?_)
  have loop5 : ∀ (k : Nat) (jx : Nat) (q : Int) (T1 : wa_St) (H : Heap) (locs : List Loc), (jx + k = (T 8 0).toNat) → (j_inv T ii e9 jx T1 q) → (f_jo ii k jx T1 q = f_jo ii (T 8 0).toNat 0 T e9) → wa_wd D ad (wW cy ad S X T1 o) H → va_S A s.heap H locs → ∀ ls : Array Slot, lv_has ls 5 [(0, .ref (ad 6 0)), (1, .int (iI ii)), (2, .int (iI e9)), (3, .int (iI q)), (4, .int (iI (jx : Int)))] → W p l e ({ frames := 0, cells := 0, slots := 0, locals := 0 } : Room) s m args below meth c H locs 0 0 (MQ below (wa_Qi A D ad (wW cy ad S X ((f_jo ii (T 8 0).toNat 0 T e9).1) o) ((f_jo ii (T 8 0).toNat 0 T e9).2)) args s 0 0 A) (F0 m 5 ls []) := by
    intro k
    induction k with
    | zero =>
      intro jx q T1 H locs hk hji hr hw hS ls hl
      have h4 := hji.1
      have hB1 := hji.2.1
      have e8 := h4 8 0 (by decide)
      refine lv_iload hx hb dX5_joins_5 (lv_at hl 4 rfl) ?_
      refine lv_aload_n hx hb dX5_joins_7 rfl (lv_at hl 0 rfl) ?_
      refine gX5_93 F hw rfl (v := .int (iI (T1 8 0))) rfl dX5_joins_8 ?_
      refine wa_ic_ge (tgt := 42) F dX5_joins_11 (by decide) (by exact ⟨by omega, by omega⟩) (by have q0 := hB1 8 0; exact ⟨by omega, by omega⟩) (fun c11 => ?_) (fun c11 => absurd c11 (by omega))
      refine lv_iload_n hx hb dX5_joins_42 rfl (lv_at hl 3 rfl) ?_
      rw [← hr]
      exact wa_ei F hw hS rfl dX5_joins_43
    | succ k ih5 =>
      intro jx q T1 H locs hk hji hr hw hS ls hl
      have h4 := hji.1
      have hB1 := hji.2.1
      have e8 := h4 8 0 (by decide)
      have hq0 := hji.2.2.1
      refine lv_iload hx hb dX5_joins_5 (lv_at hl 4 rfl) ?_
      refine lv_aload_n hx hb dX5_joins_7 rfl (lv_at hl 0 rfl) ?_
      refine gX5_93 F hw rfl (v := .int (iI (T1 8 0))) rfl dX5_joins_8 ?_
      refine wa_ic_ge (tgt := 42) F dX5_joins_11 (by decide) (by exact ⟨by omega, by omega⟩) (by have q0 := hB1 8 0; exact ⟨by omega, by omega⟩) (fun c11 => absurd c11 (by omega)) (fun c11 => ?_)
      refine lv_aload_n hx hb dX5_joins_14 rfl (lv_at hl 0 rfl) ?_
      refine gX5_16 F hw rfl (v := .ref (ad 6 4)) rfl dX5_joins_15 ?_
      refine lv_iload hx hb dX5_joins_18 (lv_at hl 4 rfl) ?_
      refine aM_4 F hw jx rfl (by omega) dX5_joins_20 ?_
      refine lv_iload_n hx hb dX5_joins_21 rfl (lv_at hl 1 rfl) ?_
      refine wa_ic_ne (tgt := 36) F dX5_joins_22 (by decide) (by have q0 := hB1 4 jx; exact ⟨by omega, by omega⟩) (by have q0 := rii; exact ⟨by omega, by omega⟩) (fun c22 => ?_) (fun c22 => ?_)
      · skip
        refine wa_inc (k := 4) (b := ((jx + 1) : Int)) (lv' := [(4, .int (iI ((jx + 1) : Int))), (0, .ref (ad 6 0)), (1, .int (iI ii)), (2, .int (iI e9)), (3, .int (iI q))]) F dX5_joins_36 hl rfl (by omega) (by decide) rfl (fun ls hl => ?_)
        refine wa_goto (tgt := 5) F dX5_joins_39 (by decide) ?_
        exact ih5 (jx + 1) q T1 _ _ (by omega) (hji.no (by rw [← h4 4 jx (by decide)]; exact c22)) (by rw [← hr]; simp [f_jo, c22]) hw hS ls (lv_sub hl [1, 2, 3, 4, 0] rfl)
      · skip
        refine lv_aload_n hx hb dX5_joins_25 rfl (lv_at hl 0 rfl) ?_
        refine gX5_84 F hw rfl (v := .ref (ad 6 30)) rfl dX5_joins_26 ?_
        refine lv_iload_n hx hb dX5_joins_29 rfl (lv_at hl 3 rfl) ?_
        refine lv_iload hx hb dX5_joins_30 (lv_at hl 4 rfl) ?_
        have hql := hji.lt (by rw [← h4 4 jx (by decide)]; exact c22) (by omega)
        refine sM_30 F hw (wm_j hj _ _) hS ((q).toNat) (by omega) (by omega) dX5_joins_32 (fun H locs hw hS => ?_)
        refine wa_inc (k := 3) (b := (q + 1)) (lv' := [(3, .int (iI (q + 1))), (0, .ref (ad 6 0)), (1, .int (iI ii)), (2, .int (iI e9)), (4, .int (iI (jx : Int)))]) F dX5_joins_33 hl rfl rfl (by decide) rfl (fun ls hl => ?_)
        refine wa_inc (k := 4) (b := ((jx + 1) : Int)) (lv' := [(4, .int (iI ((jx + 1) : Int))), (3, .int (iI (q + 1))), (0, .ref (ad 6 0)), (1, .int (iI ii)), (2, .int (iI e9))]) F dX5_joins_36 hl rfl (by omega) (by decide) rfl (fun ls hl => ?_)
        refine wa_goto (tgt := 5) F dX5_joins_39 (by decide) ?_
        exact ih5 (jx + 1) (q + 1) (wa_s T1 30 ((q).toNat) (jx : Int)) _ _ (by omega) (hji.yes (by rw [← h4 4 jx (by decide)]; exact c22) (by omega) (by omega)) (by rw [← hr]; simp [f_jo, c22]) hw hS ls (lv_sub hl [2, 3, 4, 1, 0] rfl)
  exact loop5 ((T 8 0).toNat) 0 e9 T _ _ (by omega) (hjp.inv hB) rfl hw hS ls (lv_sub hl [2, 3, 4, 1, 0] rfl)
set_option maxRecDepth 100000 in
set_option maxHeartbeats 4000000 in
/-- makes -/
theorem c_X5_makes (l : Launch) (D : va_G) (cy : Nat → ClassId) (ad : Nat → Nat → Nat) (S X T : wa_St) (o : Int64) (A : Nat → Prop) (hj : wa_wj A ad (wW cy ad S X T o)) (hwf : wf T) (z : Int) (i : Nat) (hzi : z = (i : Int)) (hi : (i : Int) < T 8 0) (hbs : f_hasBase T i) (hb60 : T 21 0 < 60) (hl295 : T 12 0 ≤ 295) : Met l yX5_makes wX5_makes ({ frames := 1, cells := 0, slots := 0, locals := 24 } : Room) (wa_pc [.ref (ad 6 0), .int (iI z)] D cy (fun H => wa_wd D ad (wW cy ad S X T o) H)) (wa_Qv A D ad (wW cy ad S X (f_makes T i) o)) 0 0 A := by
  refine wa_en (by decide +kernel) (Nat.le_of_ble_eq_true rfl) ?_
  intro p e s m args below meth c F hw ls hl
  have F : wa_fx p s m c meth args cX5_makes 5 RX5 "makes" (none) D cy := F
  have hw : wa_wd D ad (wW cy ad S X T o) s.heap := hw
  have hl : lv_has ls 5 [(0, .ref (ad 6 0)), (1, .int (iI z))] := hl
  obtain ⟨hx, hb, hml, hown, hts⟩ := id F.1
  obtain ⟨hB, w8, w21, w12, w29, w4, w7, w6, w5, w13, w25, w26, w28, w14, w3, wf17⟩ := id hwf
  have hS : va_S A s.heap s.heap [] := va_S.rf
  have w4i := w4 i hi
  have w6i := w6 i
  subst hzi
  refine lv_aload_n hx hb dX5_makes_0 rfl (lv_at hl 0 rfl) ?_
  refine lv_iload_n hx hb dX5_makes_1 rfl (lv_at hl 1 rfl) ?_
  refine wa_cp (kX5_113 F (c_X5_baseOf l D cy ad S X T o hwf ((i : Int)) (i) rfl (by omega) hbs) ⟨by decide, by decide⟩ ⟨rfl, rfl⟩ hw hw rfl rfl rfl (Nat.le_of_ble_eq_true rfl) hl.1 dX5_makes_2 ⟨Nat.le_refl _, Nat.le_refl _⟩) ?_
  refine lv_istore_n (lv' := [(2, .int (iI (f_base T i))), (0, .ref (ad 6 0)), (1, .int (iI (i : Int)))]) hx hb dX5_makes_5 rfl hl (by decide) rfl (fun ls hl => ?_)
  refine wa_const F dX5_makes_6 ?_
  refine lv_iload_n hx hb dX5_makes_7 rfl (lv_at hl 2 rfl) ?_
  refine wa_mul F dX5_makes_8 ?_
  refine lv_istore_n (lv' := [(3, .int (iI (5 * (i : Int)))), (2, .int (iI (f_base T i))), (0, .ref (ad 6 0)), (1, .int (iI (i : Int)))]) hx hb dX5_makes_9 rfl hl (by decide) rfl (fun ls hl => ?_)
  have loop10 : ∀ (k : Nat) (sx : Nat) (zz : Int) (T1 : wa_St) (H : Heap) (locs : List Loc), (sx + k = 5 * i + (T 6 i).toNat) → (m_inv T k T1 zz) → (f_mk k sx T1 zz = f_mk (T 6 i).toNat (5 * i) T (f_base T i)) → wa_wd D ad (wW cy ad S X T1 o) H → va_S A s.heap H locs → ∀ ls : Array Slot, lv_has ls 5 [(0, .ref (ad 6 0)), (1, .int (iI (i : Int))), (2, .int (iI zz)), (3, .int (iI (sx : Int)))] → W p l e ({ frames := 1, cells := 0, slots := 0, locals := 24 } : Room) s m args below meth c H locs 0 0 (MQ below (wa_Qv A D ad (wW cy ad S X (f_makes T i) o)) args s 0 0 A) (F0 m 10 ls []) := by
    intro k
    induction k with
    | zero =>
      intro sx zz T1 H locs hk hmi hr hw hS ls hl
      have h9 := hmi.1
      have hwf1 := hmi.2.1
      have hB1 := hwf1.1
      have e6 := h9 6 i (by decide) (by decide) (by decide) (by decide)
      have e21 := h9 21 0 (by decide) (by decide) (by decide) (by decide)
      have hm3 := hmi.2.2.1
      have w12b := hwf1.2.2.2.1
      have hm4 := hmi.2.2.2
      refine lv_iload_n hx hb dX5_makes_10 rfl (lv_at hl 3 rfl) ?_
      refine wa_const F dX5_makes_11 ?_
      refine lv_iload_n hx hb dX5_makes_12 rfl (lv_at hl 1 rfl) ?_
      refine wa_mul F dX5_makes_13 ?_
      refine lv_aload_n hx hb dX5_makes_14 rfl (lv_at hl 0 rfl) ?_
      refine gX5_22 F hw rfl (v := .ref (ad 6 6)) rfl dX5_makes_15 ?_
      refine lv_iload_n hx hb dX5_makes_18 rfl (lv_at hl 1 rfl) ?_
      refine aM_6 F hw i rfl (by have q0 := w6i; omega) dX5_makes_19 ?_
      refine wa_add F dX5_makes_20 ?_
      refine wa_ic_ge (tgt := 125) F dX5_makes_21 (by decide) (by exact ⟨by omega, by omega⟩) (by have q0 := hB1 6 i; exact ⟨by omega, by omega⟩) (fun c21 => ?_) (fun c21 => absurd c21 (by omega))
      refine lv_aload_n hx hb dX5_makes_125 rfl (lv_at hl 0 rfl) ?_
      refine gX5_37 F hw rfl (v := .ref (ad 6 13)) rfl dX5_makes_126 ?_
      refine lv_aload_n hx hb dX5_makes_129 rfl (lv_at hl 0 rfl) ?_
      refine gX5_100 F hw rfl (v := .int (iI (T1 21 0))) rfl dX5_makes_130 ?_
      refine lv_iload_n hx hb dX5_makes_133 rfl (lv_at hl 1 rfl) ?_
      refine sM_13 F hw (wm_j hj _ _) hS (((T1 21 0)).toNat) (by have q0 := hB1 21 0; omega) (by have q0 := hB1 21 0; omega) dX5_makes_134 (fun H locs hw hS => ?_)
      refine lv_aload_n hx hb dX5_makes_135 rfl (lv_at hl 0 rfl) ?_
      refine gX5_40 F hw rfl (v := .ref (ad 6 14)) rfl dX5_makes_136 ?_
      refine lv_aload_n hx hb dX5_makes_139 rfl (lv_at hl 0 rfl) ?_
      refine gX5_100 F hw rfl (v := .int (iI (T1 21 0))) rfl dX5_makes_140 ?_
      refine lv_iload_n hx hb dX5_makes_143 rfl (lv_at hl 2 rfl) ?_
      refine sM_14 F hw (wm_j hj _ _) hS (((T1 21 0)).toNat) (by have q0 := hB1 21 0; omega) (by have q0 := hB1 21 0; omega) dX5_makes_144 (fun H locs hw hS => ?_)
      refine lv_aload_n hx hb dX5_makes_145 rfl (lv_at hl 0 rfl) ?_
      refine gX5_43 F hw rfl (v := .ref (ad 6 15)) rfl dX5_makes_146 ?_
      refine lv_aload_n hx hb dX5_makes_149 rfl (lv_at hl 0 rfl) ?_
      refine gX5_100 F hw rfl (v := .int (iI (T1 21 0))) rfl dX5_makes_150 ?_
      refine lv_aload_n hx hb dX5_makes_153 rfl (lv_at hl 0 rfl) ?_
      refine gX5_130 F hw rfl (v := .int (iI (T1 1 0))) rfl dX5_makes_154 ?_
      refine sM_15 F hw (wm_j hj _ _) hS (((T1 21 0)).toNat) (by have q0 := hB1 21 0; omega) (by have q0 := hB1 21 0; omega) dX5_makes_157 (fun H locs hw hS => ?_)
      refine lv_aload_n hx hb dX5_makes_158 rfl (lv_at hl 0 rfl) ?_
      refine gX5_46 F hw rfl (v := .ref (ad 6 16)) rfl dX5_makes_159 ?_
      refine lv_aload_n hx hb dX5_makes_162 rfl (lv_at hl 0 rfl) ?_
      refine gX5_100 F hw rfl (v := .int (iI (T1 21 0))) rfl dX5_makes_163 ?_
      refine wa_const F dX5_makes_166 ?_
      refine sM_16 F hw (wm_j hj _ _) hS (((T1 21 0)).toNat) (by have q0 := hB1 21 0; omega) (by have q0 := hB1 21 0; omega) dX5_makes_167 (fun H locs hw hS => ?_)
      refine lv_aload_n hx hb dX5_makes_168 rfl (lv_at hl 0 rfl) ?_
      refine gX5_49 F hw rfl (v := .ref (ad 6 17)) rfl dX5_makes_169 ?_
      refine lv_aload_n hx hb dX5_makes_172 rfl (lv_at hl 0 rfl) ?_
      refine gX5_100 F hw rfl (v := .int (iI (T1 21 0))) rfl dX5_makes_173 ?_
      refine wa_const F dX5_makes_176 ?_
      refine sM_17 F hw (wm_j hj _ _) hS (by decide) (((T1 21 0)).toNat) (by have q0 := hB1 21 0; omega) (by have q0 := hB1 21 0; omega) dX5_makes_177 (fun H locs hw hS => ?_)
      refine lv_aload_n hx hb dX5_makes_178 rfl (lv_at hl 0 rfl) ?_
      refine gX5_53 F hw rfl (v := .ref (ad 6 18)) rfl dX5_makes_179 ?_
      refine lv_aload_n hx hb dX5_makes_182 rfl (lv_at hl 0 rfl) ?_
      refine gX5_100 F hw rfl (v := .int (iI (T1 21 0))) rfl dX5_makes_183 ?_
      refine wa_const F dX5_makes_186 ?_
      refine sM_18 F hw (wm_j hj _ _) hS (by decide) (((T1 21 0)).toNat) (by have q0 := hB1 21 0; omega) (by have q0 := hB1 21 0; omega) dX5_makes_187 (fun H locs hw hS => ?_)
      refine lv_aload_n hx hb dX5_makes_188 rfl (lv_at hl 0 rfl) ?_
      refine gX5_56 F hw rfl (v := .ref (ad 6 19)) rfl dX5_makes_189 ?_
      refine lv_aload_n hx hb dX5_makes_192 rfl (lv_at hl 0 rfl) ?_
      refine gX5_100 F hw rfl (v := .int (iI (T1 21 0))) rfl dX5_makes_193 ?_
      refine wa_const F dX5_makes_196 ?_
      refine sM_19 F hw (wm_j hj _ _) hS (by decide) (((T1 21 0)).toNat) (by have q0 := hB1 21 0; omega) (by have q0 := hB1 21 0; omega) dX5_makes_197 (fun H locs hw hS => ?_)
      refine wa_const F dX5_makes_198 ?_
      refine lv_istore_n (lv' := [(3, .int (iI 0)), (0, .ref (ad 6 0)), (1, .int (iI (i : Int))), (2, .int (iI zz))]) hx hb dX5_makes_199 rfl hl (by decide) rfl (fun ls hl => ?_)
      refine lv_iload_n hx hb dX5_makes_200 rfl (lv_at hl 0 rfl) ?_
      refine wa_const F dX5_makes_201 ?_
      refine wa_ic_ge (tgt := 225) F dX5_makes_202 (by decide) (by decide) (by decide) (fun c202 => absurd c202 (by decide)) (fun c202 => ?_)
      refine lv_aload_n hx hb dX5_makes_205 rfl (lv_at hl 1 rfl) ?_
      refine gX5_59 F hw rfl (v := .ref (ad 6 20)) rfl dX5_makes_206 ?_
      refine wa_const F dX5_makes_209 ?_
      refine lv_aload_n hx hb dX5_makes_210 rfl (lv_at hl 1 rfl) ?_
      refine gX5_100 F hw rfl (v := .int (iI (T1 21 0))) rfl dX5_makes_211 ?_
      refine wa_mul F dX5_makes_214 ?_
      refine lv_iload_n hx hb dX5_makes_215 rfl (lv_at hl 0 rfl) ?_
      refine wa_add F dX5_makes_216 ?_
      refine wa_const F dX5_makes_217 ?_
      refine sM_20 F hw (wm_j hj _ _) hS (3 * (T1 21 0).toNat) (by omega) (by have q0 := hB1 21 0; omega) dX5_makes_218 (fun H locs hw hS => ?_)
      refine wa_inc (k := 0) (b := 1) (lv' := [(3, .int (iI 1)), (0, .ref (ad 6 0)), (1, .int (iI (i : Int))), (2, .int (iI zz))]) F dX5_makes_219 hl rfl (by decide) (by decide) rfl (fun ls hl => ?_)
      refine wa_goto (tgt := 200) F dX5_makes_222 (by decide) ?_
      refine lv_iload_n hx hb dX5_makes_200 rfl (lv_at hl 0 rfl) ?_
      refine wa_const F dX5_makes_201 ?_
      refine wa_ic_ge (tgt := 225) F dX5_makes_202 (by decide) (by decide) (by decide) (fun c202 => absurd c202 (by decide)) (fun c202 => ?_)
      refine lv_aload_n hx hb dX5_makes_205 rfl (lv_at hl 1 rfl) ?_
      refine gX5_59 F hw rfl (v := .ref (ad 6 20)) rfl dX5_makes_206 ?_
      refine wa_const F dX5_makes_209 ?_
      refine lv_aload_n hx hb dX5_makes_210 rfl (lv_at hl 1 rfl) ?_
      refine gX5_100 F hw rfl (v := .int (iI (T1 21 0))) rfl dX5_makes_211 ?_
      refine wa_mul F dX5_makes_214 ?_
      refine lv_iload_n hx hb dX5_makes_215 rfl (lv_at hl 0 rfl) ?_
      refine wa_add F dX5_makes_216 ?_
      refine wa_const F dX5_makes_217 ?_
      refine sM_20 F hw (wm_j hj _ _) hS (3 * (T1 21 0).toNat + 1) (by omega) (by have q0 := hB1 21 0; omega) dX5_makes_218 (fun H locs hw hS => ?_)
      refine wa_inc (k := 0) (b := 2) (lv' := [(3, .int (iI 2)), (0, .ref (ad 6 0)), (1, .int (iI (i : Int))), (2, .int (iI zz))]) F dX5_makes_219 hl rfl (by decide) (by decide) rfl (fun ls hl => ?_)
      refine wa_goto (tgt := 200) F dX5_makes_222 (by decide) ?_
      refine lv_iload_n hx hb dX5_makes_200 rfl (lv_at hl 0 rfl) ?_
      refine wa_const F dX5_makes_201 ?_
      refine wa_ic_ge (tgt := 225) F dX5_makes_202 (by decide) (by decide) (by decide) (fun c202 => absurd c202 (by decide)) (fun c202 => ?_)
      refine lv_aload_n hx hb dX5_makes_205 rfl (lv_at hl 1 rfl) ?_
      refine gX5_59 F hw rfl (v := .ref (ad 6 20)) rfl dX5_makes_206 ?_
      refine wa_const F dX5_makes_209 ?_
      refine lv_aload_n hx hb dX5_makes_210 rfl (lv_at hl 1 rfl) ?_
      refine gX5_100 F hw rfl (v := .int (iI (T1 21 0))) rfl dX5_makes_211 ?_
      refine wa_mul F dX5_makes_214 ?_
      refine lv_iload_n hx hb dX5_makes_215 rfl (lv_at hl 0 rfl) ?_
      refine wa_add F dX5_makes_216 ?_
      refine wa_const F dX5_makes_217 ?_
      refine sM_20 F hw (wm_j hj _ _) hS (3 * (T1 21 0).toNat + 2) (by omega) (by have q0 := hB1 21 0; omega) dX5_makes_218 (fun H locs hw hS => ?_)
      refine wa_inc (k := 0) (b := 3) (lv' := [(3, .int (iI 3)), (0, .ref (ad 6 0)), (1, .int (iI (i : Int))), (2, .int (iI zz))]) F dX5_makes_219 hl rfl (by decide) (by decide) rfl (fun ls hl => ?_)
      refine wa_goto (tgt := 200) F dX5_makes_222 (by decide) ?_
      refine lv_iload_n hx hb dX5_makes_200 rfl (lv_at hl 0 rfl) ?_
      refine wa_const F dX5_makes_201 ?_
      refine wa_ic_ge (tgt := 225) F dX5_makes_202 (by decide) (by decide) (by decide) (fun c202 => ?_) (fun c202 => absurd c202 (by decide))
      refine lv_aload_n hx hb dX5_makes_225 rfl (lv_at hl 1 rfl) ?_
      refine gX5_25 F hw rfl (v := .ref (ad 6 7)) rfl dX5_makes_226 ?_
      refine lv_iload_n hx hb dX5_makes_229 rfl (lv_at hl 2 rfl) ?_
      refine lv_aload_n hx hb dX5_makes_230 rfl (lv_at hl 1 rfl) ?_
      refine gX5_100 F hw rfl (v := .int (iI (T1 21 0))) rfl dX5_makes_231 ?_
      refine sM_7 F hw (wm_j hj _ _) hS i rfl (by omega) dX5_makes_234 (fun H locs hw hS => ?_)
      refine lv_aload_n hx hb dX5_makes_235 rfl (lv_at hl 1 rfl) ?_
      refine lv_dup hx hb dX5_makes_236 rfl ?_
      refine gX5_100 F hw rfl (v := .int (iI (T1 21 0))) rfl dX5_makes_237 ?_
      refine wa_const F dX5_makes_240 ?_
      refine wa_add F dX5_makes_241 ?_
      refine pM_100 F hw (wm_j hj _ _) hS dX5_makes_242 (fun H locs hw hS => ?_)
      rw [show f_makes T i = f_newB T1 i zz by unfold f_makes; rw [← hr]; rfl]
      exact wa_ev F hw hS dX5_makes_245
    | succ k ih10 =>
      intro sx zz T1 H locs hk hmi hr hw hS ls hl
      have h9 := hmi.1
      have hwf1 := hmi.2.1
      have hB1 := hwf1.1
      have e6 := h9 6 i (by decide) (by decide) (by decide) (by decide)
      have e21 := h9 21 0 (by decide) (by decide) (by decide) (by decide)
      have hm3 := hmi.2.2.1
      have w12b := hwf1.2.2.2.1
      have hm4 := hmi.2.2.2
      have w5s := hwf1.2.2.2.2.2.2.2.2.1 sx
      refine lv_iload_n hx hb dX5_makes_10 rfl (lv_at hl 3 rfl) ?_
      refine wa_const F dX5_makes_11 ?_
      refine lv_iload_n hx hb dX5_makes_12 rfl (lv_at hl 1 rfl) ?_
      refine wa_mul F dX5_makes_13 ?_
      refine lv_aload_n hx hb dX5_makes_14 rfl (lv_at hl 0 rfl) ?_
      refine gX5_22 F hw rfl (v := .ref (ad 6 6)) rfl dX5_makes_15 ?_
      refine lv_iload_n hx hb dX5_makes_18 rfl (lv_at hl 1 rfl) ?_
      refine aM_6 F hw i rfl (by have q0 := w6i; omega) dX5_makes_19 ?_
      refine wa_add F dX5_makes_20 ?_
      refine wa_ic_ge (tgt := 125) F dX5_makes_21 (by decide) (by exact ⟨by omega, by omega⟩) (by have q0 := hB1 6 i; exact ⟨by omega, by omega⟩) (fun c21 => absurd c21 (by omega)) (fun c21 => ?_)
      refine lv_aload_n hx hb dX5_makes_24 rfl (lv_at hl 0 rfl) ?_
      refine lv_iload_n hx hb dX5_makes_25 rfl (lv_at hl 2 rfl) ?_
      refine lv_aload_n hx hb dX5_makes_26 rfl (lv_at hl 0 rfl) ?_
      refine gX5_19 F hw rfl (v := .ref (ad 6 5)) rfl dX5_makes_27 ?_
      refine lv_iload_n hx hb dX5_makes_30 rfl (lv_at hl 3 rfl) ?_
      refine aM_5 F hw sx rfl (by have q0 := w6i; omega) dX5_makes_31 ?_
      refine lv_aload_n hx hb dX5_makes_32 rfl (lv_at hl 0 rfl) ?_
      refine gX5_7 F hw rfl (v := .ref (ad 6 2)) rfl dX5_makes_33 ?_
      refine lv_aload_n hx hb dX5_makes_36 rfl (lv_at hl 0 rfl) ?_
      refine gX5_19 F hw rfl (v := .ref (ad 6 5)) rfl dX5_makes_37 ?_
      refine lv_iload_n hx hb dX5_makes_40 rfl (lv_at hl 3 rfl) ?_
      refine aM_5 F hw sx rfl (by have q0 := w6i; omega) dX5_makes_41 ?_
      refine aM_2 F hw (((T1 5 sx)).toNat) (by have q0 := hB1 5 sx; omega) (by have q0 := hB1 5 sx; have q1 := w6i; omega) dX5_makes_42 ?_
      refine wa_cp (kX5_117 F (c_X5_find l D cy ad S X T1 o hwf1 zz ((T1 5 sx)) ((T1 2 (((T1 5 sx)).toNat))) (by exact ⟨by omega, by omega⟩) (by have q0 := hB1 5 sx; exact ⟨by omega, by omega⟩) (by have q0 := hB1 2 (((T1 5 sx)).toNat); exact ⟨by omega, by omega⟩)) ⟨by decide, by decide⟩ ⟨rfl, rfl⟩ hw hw rfl rfl rfl (Nat.le_of_ble_eq_true rfl) hl.1 dX5_makes_43 ⟨Nat.le_refl _, Nat.le_refl _⟩) ?_
      refine lv_istore (lv' := [(4, .int (iI (f_find T1 (zz) ((T1 5 sx)) ((T1 2 (((T1 5 sx)).toNat)))))), (0, .ref (ad 6 0)), (1, .int (iI (i : Int))), (2, .int (iI zz)), (3, .int (iI (sx : Int)))]) hx hb dX5_makes_46 hl (by decide) rfl (fun ls hl => ?_)
      refine lv_iload hx hb dX5_makes_48 (lv_at hl 0 rfl) ?_
      refine wa_bi F dX5_makes_50 (by decide +kernel) ?_
      refine wa_ic_ne (tgt := 116) F dX5_makes_52 (by decide) (by have q0 := f_find_rng hwf1 (zz) ((T1 5 sx)) ((T1 2 (((T1 5 sx)).toNat))); exact ⟨by omega, by omega⟩) (by decide) (fun c52 => ?_) (fun c52 => ?_)
      · skip
        refine lv_iload hx hb dX5_makes_116 (lv_at hl 0 rfl) ?_
        refine lv_istore_n (lv' := [(2, .int (iI (f_find T1 (zz) ((T1 5 sx)) ((T1 2 (((T1 5 sx)).toNat)))))), (4, .int (iI (f_find T1 (zz) ((T1 5 sx)) ((T1 2 (((T1 5 sx)).toNat)))))), (0, .ref (ad 6 0)), (1, .int (iI (i : Int))), (3, .int (iI (sx : Int)))]) hx hb dX5_makes_118 rfl hl (by decide) rfl (fun ls hl => ?_)
        refine wa_inc (k := 4) (b := ((sx + 1) : Int)) (lv' := [(3, .int (iI ((sx + 1) : Int))), (2, .int (iI (f_find T1 (zz) ((T1 5 sx)) ((T1 2 (((T1 5 sx)).toNat)))))), (4, .int (iI (f_find T1 (zz) ((T1 5 sx)) ((T1 2 (((T1 5 sx)).toNat)))))), (0, .ref (ad 6 0)), (1, .int (iI (i : Int)))]) F dX5_makes_119 hl rfl (by omega) (by decide) rfl (fun ls hl => ?_)
        refine wa_goto (tgt := 10) F dX5_makes_122 (by decide) ?_
        exact ih10 (sx + 1) (f_find T1 (zz) ((T1 5 sx)) ((T1 2 (((T1 5 sx)).toNat)))) T1 _ _ (by omega) (hmi.found (by have := f_find_lt hwf1 zz (T1 5 sx) (T1 2 (T1 5 sx).toNat); omega)) (by rw [← hr]; simp only [f_mk]; rw [if_neg c52]) hw hS ls (lv_sub hl [3, 4, 1, 0] rfl)
      · skip
        refine lv_aload_n hx hb dX5_makes_55 rfl (lv_at hl 1 rfl) ?_
        refine gX5_28 F hw rfl (v := .ref (ad 6 9)) rfl dX5_makes_56 ?_
        refine lv_aload_n hx hb dX5_makes_59 rfl (lv_at hl 1 rfl) ?_
        refine gX5_110 F hw rfl (v := .int (iI (T1 12 0))) rfl dX5_makes_60 ?_
        refine lv_iload_n hx hb dX5_makes_63 rfl (lv_at hl 3 rfl) ?_
        refine sM_9 F hw (wm_j hj _ _) hS (((T1 12 0)).toNat) (by have q0 := hB1 12 0; omega) (by have q0 := hB1 12 0; omega) dX5_makes_64 (fun H locs hw hS => ?_)
        refine lv_aload_n hx hb dX5_makes_65 rfl (lv_at hl 1 rfl) ?_
        refine gX5_31 F hw rfl (v := .ref (ad 6 10)) rfl dX5_makes_66 ?_
        refine lv_aload_n hx hb dX5_makes_69 rfl (lv_at hl 1 rfl) ?_
        refine gX5_110 F hw rfl (v := .int (iI (T1 12 0))) rfl dX5_makes_70 ?_
        refine lv_aload_n hx hb dX5_makes_73 rfl (lv_at hl 1 rfl) ?_
        refine gX5_19 F hw rfl (v := .ref (ad 6 5)) rfl dX5_makes_74 ?_
        refine lv_iload_n hx hb dX5_makes_77 rfl (lv_at hl 4 rfl) ?_
        refine aM_5 F hw sx rfl (by have q0 := w6i; omega) dX5_makes_78 ?_
        refine W.eq (g2 := F0 m 79 ls [.int (iI (T1 5 sx)), .int (iI (T1 12 0)), .ref (ad 6 10)]) rfl ?_
        refine sM_10 F hw (wm_j hj _ _) hS (((T1 12 0)).toNat) (by have q0 := hB1 12 0; omega) (by have q0 := hB1 12 0; omega) dX5_makes_79 (fun H locs hw hS => ?_)
        refine lv_aload_n hx hb dX5_makes_80 rfl (lv_at hl 1 rfl) ?_
        refine gX5_34 F hw rfl (v := .ref (ad 6 11)) rfl dX5_makes_81 ?_
        refine lv_aload_n hx hb dX5_makes_84 rfl (lv_at hl 1 rfl) ?_
        refine gX5_110 F hw rfl (v := .int (iI (T1 12 0))) rfl dX5_makes_85 ?_
        refine lv_aload_n hx hb dX5_makes_88 rfl (lv_at hl 1 rfl) ?_
        refine gX5_7 F hw rfl (v := .ref (ad 6 2)) rfl dX5_makes_89 ?_
        refine lv_aload_n hx hb dX5_makes_92 rfl (lv_at hl 1 rfl) ?_
        refine gX5_19 F hw rfl (v := .ref (ad 6 5)) rfl dX5_makes_93 ?_
        refine lv_iload_n hx hb dX5_makes_96 rfl (lv_at hl 4 rfl) ?_
        refine aM_5 F hw sx rfl (by have q0 := w6i; omega) dX5_makes_97 ?_
        refine W.eq (g2 := F0 m 98 ls [.int (iI (T1 5 sx)), .ref (ad 6 2), .int (iI (T1 12 0)), .ref (ad 6 11)]) rfl ?_
        refine aM_2 F hw (((T1 5 sx)).toNat) (by have q0 := hB1 5 sx; omega) (by have q0 := hB1 5 sx; have q1 := w6i; omega) dX5_makes_98 ?_
        refine W.eq (g2 := F0 m 99 ls [.int (iI (T1 2 (((T1 5 sx)).toNat))), .int (iI (T1 12 0)), .ref (ad 6 11)]) rfl ?_
        refine sM_11 F hw (wm_j hj _ _) hS (((T1 12 0)).toNat) (by have q0 := hB1 12 0; omega) (by have q0 := hB1 12 0; omega) dX5_makes_99 (fun H locs hw hS => ?_)
        refine lv_aload_n hx hb dX5_makes_100 rfl (lv_at hl 1 rfl) ?_
        refine gX5_110 F hw rfl (v := .int (iI (T1 12 0))) rfl dX5_makes_101 ?_
        refine lv_istore (lv' := [(4, .int (iI (T1 12 0))), (0, .ref (ad 6 0)), (1, .int (iI (i : Int))), (2, .int (iI zz)), (3, .int (iI (sx : Int)))]) hx hb dX5_makes_104 hl (by decide) rfl (fun ls hl => ?_)
        refine lv_aload_n hx hb dX5_makes_106 rfl (lv_at hl 1 rfl) ?_
        refine lv_dup hx hb dX5_makes_107 rfl ?_
        refine gX5_110 F hw rfl (v := .int (iI (T1 12 0))) rfl dX5_makes_108 ?_
        refine wa_const F dX5_makes_111 ?_
        refine wa_add F dX5_makes_112 ?_
        refine pM_110 F hw (wm_j hj _ _) hS dX5_makes_113 (fun H locs hw hS => ?_)
        refine lv_iload hx hb dX5_makes_116 (lv_at hl 0 rfl) ?_
        refine lv_istore_n (lv' := [(2, .int (iI (T1 12 0))), (4, .int (iI (T1 12 0))), (0, .ref (ad 6 0)), (1, .int (iI (i : Int))), (3, .int (iI (sx : Int)))]) hx hb dX5_makes_118 rfl hl (by decide) rfl (fun ls hl => ?_)
        refine wa_inc (k := 4) (b := ((sx + 1) : Int)) (lv' := [(3, .int (iI ((sx + 1) : Int))), (2, .int (iI (T1 12 0))), (4, .int (iI (T1 12 0))), (0, .ref (ad 6 0)), (1, .int (iI (i : Int)))]) F dX5_makes_119 hl rfl (by omega) (by decide) rfl (fun ls hl => ?_)
        refine wa_goto (tgt := 10) F dX5_makes_122 (by decide) ?_
        exact ih10 (sx + 1) (T1 12 0) (wa_s (wa_s (wa_s (wa_s T1 9 (((T1 12 0)).toNat) zz) 10 (((T1 12 0)).toNat) (T1 5 sx)) 11 (((T1 12 0)).toNat) (T1 2 (((T1 5 sx)).toNat))) 12 0 ((T1 12 0) + 1)) _ _ (by omega) (hmi.made (hB1 5 sx) (hB1 2 (T1 5 sx).toNat)) (by rw [← hr]; simp only [f_mk]; rw [if_pos c52]; rfl) hw hS ls (lv_sub hl [3, 4, 1, 0] rfl)
  exact loop10 ((T 6 i).toNat) (5 * i) (f_base T i) T _ _ (by omega) ⟨fun _ _ _ _ _ _ => rfl, hwf, by omega, f_base_lt hwf hi hbs⟩ rfl hw hS ls (lv_sub hl [2, 3, 1, 0] rfl)
