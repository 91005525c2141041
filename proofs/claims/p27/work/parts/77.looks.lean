/-! the law: its looks at images and machines (laid by program; bt and the five rows behind it are the kit's to paste) -/
def bt (x : Int32) (i : Nat) : Bool := x.toBitVec.getLsbD i
theorem b_ext {x y : Int32} (h : ∀ i, i < 32 → bt x i = bt y i) : x = y := Int32.toBitVec_inj.mp (BitVec.eq_of_getLsbD_eq (fun i hi => h i hi))
theorem b_or (x y : Int32) (i : Nat) : bt (x ||| y) i = (bt x i || bt y i) := by unfold bt; rw [Int32.toBitVec_or, BitVec.getLsbD_or]
theorem b_and (x y : Int32) (i : Nat) : bt (x &&& y) i = (bt x i && bt y i) := by unfold bt; rw [Int32.toBitVec_and, BitVec.getLsbD_and]
theorem s_l : ∀ n, n < 32 → ((nI n &&& 31).toBitVec.smod 32).toNat = n := by decide +kernel
theorem b_shl (n : Nat) (hn : n < 32) (x : Int32) {i : Nat} (hi : i < 32) : bt (x <<< (nI n &&& 31)) i = (decide (n ≤ i) && bt x (i - n)) := by
  unfold bt
  rw [Int32.toBitVec_shiftLeft]
  show (x.toBitVec <<< ((nI n &&& 31).toBitVec.smod 32).toNat).getLsbD i = _
  rw [s_l n hn, BitVec.getLsbD_shiftLeft]
  rcases Nat.lt_or_ge i n with h | h
  · simp [h, Nat.not_le.mpr h]
  · simp [hi, h, Nat.not_lt.mpr h]
theorem b_sshr (n : Nat) (hn : n < 32) (x : Int32) {i : Nat} (hi : i < 32) : bt (x >>> (nI n &&& 31)) i = if n + i < 32 then bt x (n + i) else bt x 31 := by
  unfold bt
  rw [Int32.toBitVec_shiftRight]
  show (x.toBitVec.sshiftRight ((nI n &&& 31).toBitVec.smod 32).toNat).getLsbD i = _
  rw [s_l n hn, BitVec.getLsbD_sshiftRight, BitVec.msb_eq_getLsbD_last]
  simp [hi]
theorem b_one : ∀ i, i < 32 → bt (iI 1) i = decide (i = 0) := by decide +kernel
theorem b_zer : ∀ i, i < 32 → bt (iI 0) i = false := by decide +kernel
theorem sb_get (w : Int32) {u : Nat} (hu : u < 32) : (w >>> (iI (u : Int) &&& 31)) &&& iI 1 = iI (bI (bt w u = true)) := by
  apply b_ext
  intro i hi
  rw [b_and, b_one i hi, ← iI_len u (by omega)]
  show (bt (w >>> (nI u &&& 31)) i && decide (i = 0)) = _
  rw [b_sshr u hu w hi]
  by_cases q : i = 0
  · subst q
    rw [decide_eq_true rfl, Bool.and_true, if_pos (by omega), Nat.add_zero]
    by_cases g : bt w u = true
    · rw [bI_t g, b_one 0 hi, g]; rfl
    · rw [bI_f g, b_zer 0 hi, Bool.eq_false_iff.mpr g]
  · rw [decide_eq_false q, Bool.and_false]
    by_cases g : bt w u = true
    · rw [bI_t g, b_one i hi, decide_eq_false q]
    · rw [bI_f g, b_zer i hi]
theorem sb_set (w : Int32) {u : Nat} (hu : u < 32) {i : Nat} (hi : i < 32) : bt (w ||| (iI 1 <<< (iI (u : Int) &&& 31))) i = true ↔ bt w i = true ∨ i = u := by
  rw [b_or, ← iI_len u (by omega)]
  show (bt w i || bt (iI 1 <<< (nI u &&& 31)) i) = true ↔ _
  rw [b_shl u hu (iI 1) hi, Bool.or_eq_true, Bool.and_eq_true]
  refine or_congr Iff.rfl ?_
  constructor
  · intro h
    have h1 := of_decide_eq_true h.1
    have h2 := h.2
    rw [b_one (i - u) (by omega)] at h2
    have := of_decide_eq_true h2
    omega
  · intro h
    subst h
    refine ⟨decide_eq_true (Nat.le_refl _), ?_⟩
    rw [b_one (i - i) (by omega)]
    exact decide_eq_true (by omega)
theorem old_of {n : Nat} {T : wa_St} (hg : gi n T) (hm : mg T) {u : Nat} (hu : (u : Int) < T 29 0) (h28 : 0 ≤ T 28 u) (hz : 10 ≤ v_state T (T 28 u).toNat) : f_isOld T u = true := by
  have vs := vs_t hg (T 28 u).toNat
  have g := hm u hu (by omega)
  refine decide_eq_true ⟨by omega, ?_⟩
  by_cases a : T 17 (T 28 u).toNat ≠ 0
  · exact Or.inl a
  · refine Or.inr (Or.inl ?_)
    by_cases b : f_old T (T 28 u).toNat
    · exact b
    · have := vs.2.2.2.2.1.mpr ⟨Decidable.not_not.mp a, b, g⟩
      omega
set_option maxRecDepth 100000 in
set_option maxHeartbeats 4000000 in
theorem c_L_areImages (l : Launch) (hlt : l.stackTraces = false) (D : va_G) (cy : Nat → ClassId) (ad : Nat → Nat → Nat) {n : Nat} (T X G : wa_St) (o : Int64) (A : Nat → Prop) (hj : wa_wj A ad (wW cy ad T X G o)) (hA : wa_Up A) (hg : gi n T) (hxr : xr T X) (hG : LG T G) : Met l yL_areImages wL_areImages ({ frames := 8, cells := 220, slots := 1320, locals := 136 } : Room) (wx_pc [.ref (ad 0 0), .ref (ad 6 0), .int (iI (T 8 0))] D cy A (fun H => wa_wd D ad (wW cy ad T X G o) H)) (wx_Qi A D cy ad G o T (fun u => xr T u) 1) 220 1320 A := by
  refine wl_en0 (by decide +kernel) (Nat.le_of_ble_eq_true rfl) ?_
  intro p e s m args below meth c F hTB hw ls hl
  have F : wa_fx p s m c meth args cL_areImages 7 RL "areImages" (Option.some FieldType.boolean) D cy := F
  have hw : wa_wd D ad (wW cy ad T X G o) s.heap := hw
  have hl : lv_has ls 7 [(0, .ref (ad 0 0)), (1, .ref (ad 6 0)), (2, .int (iI (T 8 0)))] := hl
  have hx := F.1.1
  have hb := F.1.2.1
  have hS : va_S A s.heap s.heap [] := va_S.rf
  obtain ⟨hB, w8, w21, w12, w29, w4, w7, w6, w5, w13, w25, w26, w28, w14, w3, wf17⟩ := id hg.1
  refine lv_aload_n hx hb dL_areImages_0 rfl (lv_at hl 0 rfl) ?_
  refine ql_bakes F hg.1 hxr hj hw ⟨by decide, by decide⟩ (Nat.le_of_ble_eq_true rfl) hl.1 dL_areImages_1 ⟨(show _ ≤ (220 : Nat) by omega), (show _ ≤ (1320 : Nat) by omega)⟩ ?_
  refine wa_bi F dL_areImages_4 (by decide +kernel) ?_
  refine wa_ic_gt (tgt := 13) F dL_areImages_6 (by decide) (by have q0 := hB 21 0; exact ⟨by omega, by omega⟩) (by decide) (fun c6 => absurd c6 (by omega)) (fun c6 => ?_)
  refine wa_const F dL_areImages_9 ?_
  refine wa_goto (tgt := 14) F dL_areImages_10 (by decide) ?_
  refine lv_istore_n (lv' := [(3, .int (iI 1)), (0, .ref (ad 0 0)), (1, .ref (ad 6 0)), (2, .int (iI (T 8 0)))]) hx hb dL_areImages_14 rfl hl (by decide) rfl (fun ls hl => ?_)
  refine wa_const F dL_areImages_15 ?_
  refine lv_istore (lv' := [(4, .int (iI 0)), (3, .int (iI 1)), (0, .ref (ad 0 0)), (1, .ref (ad 6 0)), (2, .int (iI (T 8 0)))]) hx hb dL_areImages_16 hl (by decide) rfl (fun ls hl => ?_)
  have loop18 : ∀ (k : Nat) (ix : Nat) (X : wa_St) (H : Heap) (locs : List Loc), (ix + k = (T 8 0).toNat) → xr T X → wa_wj A ad (wW cy ad T X G o) → wa_wd D ad (wW cy ad T X G o) H → va_S A s.heap H locs → ∀ ls : Array Slot, lv_has ls 7 [(0, .ref (ad 0 0)), (1, .ref (ad 6 0)), (2, .int (iI (T 8 0))), (3, .int (iI 1)), (4, .int (iI (ix : Int)))] → W p l e ({ frames := 8, cells := 220, slots := 1320, locals := 136 } : Room) s m args below meth c H locs (4 * ix) (24 * ix) (MQ below (wx_Qi A D cy ad G o T (fun u => xr T u) 1) args s 220 1320 A) (F0 m 18 ls []) := by
    intro k
    induction k with
    | zero =>
      intro ix X H locs hk hxr hj hw hS ls hl
      refine lv_iload hx hb dL_areImages_18 (lv_at hl 4 rfl) ?_
      refine lv_iload_n hx hb dL_areImages_20 rfl (lv_at hl 2 rfl) ?_
      refine wa_ic_ge (tgt := 110) F dL_areImages_21 (by decide) (by exact ⟨by omega, by omega⟩) (by have q0 := hB 8 0; exact ⟨by omega, by omega⟩) (fun c21 => ?_) (fun c21 => absurd c21 (by omega))
      refine wa_const F dL_areImages_110 ?_
      refine lv_istore (lv' := [(4, .int (iI 0)), (0, .ref (ad 0 0)), (1, .ref (ad 6 0)), (2, .int (iI (T 8 0))), (3, .int (iI 1))]) hx hb dL_areImages_111 hl (by decide) rfl (fun ls hl => ?_)
      have loop113 : ∀ (k : Nat) (bx : Nat) (X : wa_St) (H : Heap) (locs : List Loc), (bx + k = (T 21 0).toNat) → xr T X → wa_wj A ad (wW cy ad T X G o) → wa_wd D ad (wW cy ad T X G o) H → va_S A s.heap H locs → ∀ ls : Array Slot, lv_has ls 7 [(0, .ref (ad 0 0)), (1, .ref (ad 6 0)), (2, .int (iI (T 8 0))), (3, .int (iI 1)), (4, .int (iI (bx : Int)))] → W p l e ({ frames := 8, cells := 220, slots := 1320, locals := 136 } : Room) s m args below meth c H locs (40 + 3 * bx) (240 + 18 * bx) (MQ below (wx_Qi A D cy ad G o T (fun u => xr T u) 1) args s 220 1320 A) (F0 m 113 ls []) := by
        intro k
        induction k with
        | zero =>
          intro bx X H locs hk hxr hj hw hS ls hl
          refine lv_iload hx hb dL_areImages_113 (lv_at hl 4 rfl) ?_
          refine lv_aload_n hx hb dL_areImages_115 rfl (lv_at hl 0 rfl) ?_
          refine ql_bakes F hg.1 hxr hj hw ⟨by decide, by decide⟩ (Nat.le_of_ble_eq_true rfl) hl.1 dL_areImages_116 ⟨(show _ ≤ (220 : Nat) by omega), (show _ ≤ (1320 : Nat) by omega)⟩ ?_
          refine wa_ic_ge (tgt := 190) F dL_areImages_119 (by decide) (by exact ⟨by omega, by omega⟩) (by have q0 := hB 21 0; exact ⟨by omega, by omega⟩) (fun c119 => ?_) (fun c119 => absurd c119 (by omega))
          refine lv_iload_n hx hb dL_areImages_190 rfl (lv_at hl 3 rfl) ?_
          refine W.widen (k := 220) (n := 1320) (by omega) (by omega) ?_
          exact wx_eiz F hw hS rfl hxr (by decide) dL_areImages_191
        | succ k ih113 =>
          intro bx X H locs hk hxr hj hw hS ls hl
          have p14 := w14 bx (by omega)
          have vs := vs_t hg bx
          refine lv_iload hx hb dL_areImages_113 (lv_at hl 4 rfl) ?_
          refine lv_aload_n hx hb dL_areImages_115 rfl (lv_at hl 0 rfl) ?_
          refine ql_bakes F hg.1 hxr hj hw ⟨by decide, by decide⟩ (Nat.le_of_ble_eq_true rfl) hl.1 dL_areImages_116 ⟨(show _ ≤ (220 : Nat) by omega), (show _ ≤ (1320 : Nat) by omega)⟩ ?_
          refine wa_ic_ge (tgt := 190) F dL_areImages_119 (by decide) (by exact ⟨by omega, by omega⟩) (by have q0 := hB 21 0; exact ⟨by omega, by omega⟩) (fun c119 => absurd c119 (by omega)) (fun c119 => ?_)
          refine lv_iload_n hx hb dL_areImages_122 rfl (lv_at hl 3 rfl) ?_
          refine wa_if_eq (tgt := 190) F dL_areImages_123 (by decide) (by decide) (fun c123 => absurd c123 (by decide)) (fun c123 => ?_)
          refine lv_aload_n hx hb dL_areImages_126 rfl (lv_at hl 0 rfl) ?_
          refine lv_iload hx hb dL_areImages_127 (lv_at hl 4 rfl) ?_
          refine ql_state (i := (bx : Int)) hlt F hTB hA hg.1 hxr hj hw hS (show (0 : Int) ≤ (bx : Int) ∧ (bx : Int) < T 21 0 by omega) ⟨by decide, by decide⟩ (Nat.le_of_ble_eq_true rfl) hl.1 dL_areImages_129 ⟨(show _ ≤ (220 : Nat) by omega), (show _ ≤ (1320 : Nat) by omega)⟩ (fun X H locs hxr hj hw hS => ?_)
          refine W.eq (g2 := F0 m 132 ls [.int (iI (v_state T bx))]) rfl ?_
          refine lv_istore (lv' := [(5, .int (iI (v_state T bx))), (0, .ref (ad 0 0)), (1, .ref (ad 6 0)), (2, .int (iI (T 8 0))), (3, .int (iI 1)), (4, .int (iI (bx : Int)))]) hx hb dL_areImages_132 hl (by decide) rfl (fun ls hl => ?_)
          refine lv_aload_n hx hb dL_areImages_134 rfl (lv_at hl 1 rfl) ?_
          refine lv_iload hx hb dL_areImages_135 (lv_at hl 5 rfl) ?_
          refine ql_top (i := (bx : Int)) hlt F hTB hA hg.1 hxr hj hw hS (show (0 : Int) ≤ (bx : Int) ∧ (bx : Int) < T 21 0 by omega) ⟨by decide, by decide⟩ (Nat.le_of_ble_eq_true rfl) hl.1 dL_areImages_137 ⟨(show _ ≤ (220 : Nat) by omega), (show _ ≤ (1320 : Nat) by omega)⟩ (fun X H locs hxr hj hw hS => ?_)
          refine W.eq (g2 := F0 m 140 ls [.int (iI (T 14 bx))]) rfl ?_
          refine wa_const F dL_areImages_140 ?_
          refine wa_ic_lt (tgt := 182) F dL_areImages_141 (by decide) (by have q0 := hB 14 bx; exact ⟨by omega, by omega⟩) (by decide) (fun c141 => absurd c141 (by omega)) (fun c141 => ?_)
          refine lv_aload_n hx hb dL_areImages_144 rfl (lv_at hl 1 rfl) ?_
          refine lv_iload hx hb dL_areImages_145 (lv_at hl 5 rfl) ?_
          refine ql_top (i := (bx : Int)) hlt F hTB hA hg.1 hxr hj hw hS (show (0 : Int) ≤ (bx : Int) ∧ (bx : Int) < T 21 0 by omega) ⟨by decide, by decide⟩ (Nat.le_of_ble_eq_true rfl) hl.1 dL_areImages_147 ⟨(show _ ≤ (220 : Nat) by omega), (show _ ≤ (1320 : Nat) by omega)⟩ (fun X H locs hxr hj hw hS => ?_)
          refine W.eq (g2 := F0 m 150 ls [.int (iI (T 14 bx))]) rfl ?_
          refine lv_aload_n hx hb dL_areImages_150 rfl (lv_at hl 1 rfl) ?_
          refine ql_layers F hg.1 hxr hj hw ⟨by decide, by decide⟩ (Nat.le_of_ble_eq_true rfl) hl.1 dL_areImages_151 ⟨(show _ ≤ (220 : Nat) by omega), (show _ ≤ (1320 : Nat) by omega)⟩ ?_
          refine wa_ic_ge (tgt := 182) F dL_areImages_154 (by decide) (by have q0 := hB 14 bx; exact ⟨by omega, by omega⟩) (by have q0 := hB 12 0; exact ⟨by omega, by omega⟩) (fun c154 => absurd c154 (by omega)) (fun c154 => ?_)
          refine lv_iload hx hb dL_areImages_157 (lv_at hl 0 rfl) ?_
          refine wa_if_lt (tgt := 182) F dL_areImages_159 (by decide) (by have q0 := (vs_t hg bx).1; exact ⟨by omega, by omega⟩) (fun c159 => absurd c159 (by omega)) (fun c159 => ?_)
          refine lv_iload hx hb dL_areImages_162 (lv_at hl 0 rfl) ?_
          refine wa_bi F dL_areImages_164 (by decide +kernel) ?_
          refine wl_rem F (by have q0 := (vs_t hg bx).1; omega) (by decide) dL_areImages_166 ?_
          refine wa_const F dL_areImages_167 ?_
          refine wa_ic_ge (tgt := 182) F dL_areImages_168 (by decide) (by have q0 := (vs_t hg bx).1; exact ⟨by omega, by omega⟩) (by decide) (fun c168 => absurd c168 (by omega)) (fun c168 => ?_)
          refine lv_iload hx hb dL_areImages_171 (lv_at hl 0 rfl) ?_
          refine wa_bi F dL_areImages_173 (by decide +kernel) ?_
          refine wa_ic_ge (tgt := 182) F dL_areImages_175 (by decide) (by have q0 := (vs_t hg bx).1; exact ⟨by omega, by omega⟩) (by decide) (fun c175 => absurd c175 (by omega)) (fun c175 => ?_)
          refine wa_const F dL_areImages_178 ?_
          refine wa_goto (tgt := 183) F dL_areImages_179 (by decide) ?_
          refine lv_istore_n (lv' := [(3, .int (iI 1)), (5, .int (iI (v_state T bx))), (0, .ref (ad 0 0)), (1, .ref (ad 6 0)), (2, .int (iI (T 8 0))), (4, .int (iI (bx : Int)))]) hx hb dL_areImages_183 rfl hl (by decide) rfl (fun ls hl => ?_)
          refine wa_inc (k := 5) (b := ((bx + 1) : Int)) (lv' := [(4, .int (iI ((bx + 1) : Int))), (3, .int (iI 1)), (5, .int (iI (v_state T bx))), (0, .ref (ad 0 0)), (1, .ref (ad 6 0)), (2, .int (iI (T 8 0)))]) F dL_areImages_184 hl rfl (by omega) (by decide) rfl (fun ls hl => ?_)
          refine wa_goto (tgt := 113) F dL_areImages_187 (by decide) ?_
          refine W.widen (k := 40 + 3 * (bx + 1)) (n := 240 + 18 * (bx + 1)) (by omega) (by omega) ?_
          exact ih113 (bx + 1) X _ _ (by omega) hxr hj hw hS ls (lv_sub hl [3, 4, 5, 1, 0] rfl)
      refine W.widen (k := 40 + 3 * (0)) (n := 240 + 18 * (0)) (by omega) (by omega) ?_
      exact loop113 ((T 21 0).toNat) 0 X _ _ (by omega) hxr hj hw hS ls (lv_sub hl [1, 2, 3, 4, 0] rfl)
    | succ k ih18 =>
      intro ix X H locs hk hxr hj hw hS ls hl
      have p7 := w7 ix (by omega)
      have p4 := w4 ix (by omega)
      have e0 := hG.2.1 ix (by omega)
      have efr := im_fr hg (i := (ix : Int)) (by omega) (by omega)
      have emd := im_md hg (i := (ix : Int)) (by omega) (by omega)
      refine lv_iload hx hb dL_areImages_18 (lv_at hl 4 rfl) ?_
      refine lv_iload_n hx hb dL_areImages_20 rfl (lv_at hl 2 rfl) ?_
      refine wa_ic_ge (tgt := 110) F dL_areImages_21 (by decide) (by exact ⟨by omega, by omega⟩) (by have q0 := hB 8 0; exact ⟨by omega, by omega⟩) (fun c21 => absurd c21 (by omega)) (fun c21 => ?_)
      refine lv_iload_n hx hb dL_areImages_24 rfl (lv_at hl 3 rfl) ?_
      refine wa_if_eq (tgt := 110) F dL_areImages_25 (by decide) (by decide) (fun c25 => absurd c25 (by decide)) (fun c25 => ?_)
      refine lv_aload_n hx hb dL_areImages_28 rfl (lv_at hl 0 rfl) ?_
      refine lv_iload hx hb dL_areImages_29 (lv_at hl 4 rfl) ?_
      refine ql_latest (i := (ix : Int)) hlt F hTB hA hg.1 hxr hj hw hS (show (0 : Int) ≤ (ix : Int) ∧ (ix : Int) < T 8 0 by omega) ⟨by decide, by decide⟩ (Nat.le_of_ble_eq_true rfl) hl.1 dL_areImages_31 ⟨(show _ ≤ (220 : Nat) by omega), (show _ ≤ (1320 : Nat) by omega)⟩ (fun X H locs hxr hj hw hS => ?_)
      refine W.eq (g2 := F0 m 34 ls [.int (iI (T 7 ix))]) rfl ?_
      refine lv_istore (lv' := [(5, .int (iI (T 7 ix))), (0, .ref (ad 0 0)), (1, .ref (ad 6 0)), (2, .int (iI (T 8 0))), (3, .int (iI 1)), (4, .int (iI (ix : Int)))]) hx hb dL_areImages_34 hl (by decide) rfl (fun ls hl => ?_)
      refine lv_aload_n hx hb dL_areImages_36 rfl (lv_at hl 1 rfl) ?_
      refine lv_iload hx hb dL_areImages_37 (lv_at hl 5 rfl) ?_
      refine ql_isFresh (i := (ix : Int)) hlt F hTB hA hg.1 hxr hj hw hS (show (0 : Int) ≤ (ix : Int) ∧ (ix : Int) < T 8 0 by omega) ⟨by decide, by decide⟩ (Nat.le_of_ble_eq_true rfl) hl.1 dL_areImages_39 ⟨(show _ ≤ (220 : Nat) by omega), (show _ ≤ (1320 : Nat) by omega)⟩ (fun X H locs hxr hj hw hS => ?_)
      by_cases b39 : x_frs T 10 (ix : Int) = true
      · rw [bI_t b39]
        have hip := im_par hg (i := ix) (by omega) b39
        refine lv_istore (lv' := [(6, .int (iI 1)), (5, .int (iI (T 7 ix))), (0, .ref (ad 0 0)), (1, .ref (ad 6 0)), (2, .int (iI (T 8 0))), (3, .int (iI 1)), (4, .int (iI (ix : Int)))]) hx hb dL_areImages_42 hl (by decide) rfl (fun ls hl => ?_)
        refine lv_aload_n hx hb dL_areImages_44 rfl (lv_at hl 2 rfl) ?_
        refine lv_iload hx hb dL_areImages_45 (lv_at hl 6 rfl) ?_
        refine ql_isFreshAnew (i := (ix : Int)) hlt F hTB hA hg.1 hxr hj hw hS (show (0 : Int) ≤ (ix : Int) ∧ (ix : Int) < T 8 0 by omega) ⟨by decide, by decide⟩ (Nat.le_of_ble_eq_true rfl) hl.1 dL_areImages_47 ⟨(show _ ≤ (220 : Nat) by omega), (show _ ≤ (1320 : Nat) by omega)⟩ (fun X H locs hxr hj hw hS => ?_)
        rw [bI_t (emd.mpr (efr.mp b39))]
        refine lv_iload hx hb dL_areImages_50 (lv_at hl 0 rfl) ?_
        refine wa_ic_ne (tgt := 102) F dL_areImages_52 (by decide) (by decide) (by decide) (fun c52 => absurd c52 (by decide)) (fun c52 => ?_)
        refine lv_iload hx hb dL_areImages_55 (lv_at hl 1 rfl) ?_
        refine wa_const F dL_areImages_57 ?_
        refine wa_ic_lt (tgt := 102) F dL_areImages_58 (by decide) (by have q0 := hB 7 ix; exact ⟨by omega, by omega⟩) (by decide) (fun c58 => absurd c58 (by omega)) (fun c58 => ?_)
        refine lv_iload hx hb dL_areImages_61 (lv_at hl 1 rfl) ?_
        refine lv_aload_n hx hb dL_areImages_63 rfl (lv_at hl 2 rfl) ?_
        refine ql_bakes F hg.1 hxr hj hw ⟨by decide, by decide⟩ (Nat.le_of_ble_eq_true rfl) hl.1 dL_areImages_64 ⟨(show _ ≤ (220 : Nat) by omega), (show _ ≤ (1320 : Nat) by omega)⟩ ?_
        refine wa_ic_ge (tgt := 102) F dL_areImages_67 (by decide) (by have q0 := hB 7 ix; exact ⟨by omega, by omega⟩) (by have q0 := hB 21 0; exact ⟨by omega, by omega⟩) (fun c67 => absurd c67 (by omega)) (fun c67 => ?_)
        refine lv_iload hx hb dL_areImages_70 (lv_at hl 0 rfl) ?_
        refine wa_if_eq (tgt := 98) F dL_areImages_72 (by decide) (by decide) (fun c72 => absurd c72 (by decide)) (fun c72 => ?_)
        refine lv_iload hx hb dL_areImages_75 (lv_at hl 1 rfl) ?_
        refine wa_if_lt (tgt := 102) F dL_areImages_77 (by decide) (by have q0 := hB 7 ix; exact ⟨by omega, by omega⟩) (fun c77 => absurd c77 (by have := hip.1; omega)) (fun c77 => ?_)
        refine lv_aload_n hx hb dL_areImages_80 rfl (lv_at hl 3 rfl) ?_
        refine lv_iload hx hb dL_areImages_81 (lv_at hl 6 rfl) ?_
        refine wl_gld F hw 0 (by decide) ix rfl (by omega) dL_areImages_83 ?_
        refine wa_if_lt (tgt := 98) F dL_areImages_84 (by decide) (by have q0 := hG.1 0 ix; exact ⟨by omega, by omega⟩) (fun c84 => ?_) (fun c84 => ?_)
        · skip
          refine wa_const F dL_areImages_98 ?_
          refine wa_goto (tgt := 103) F dL_areImages_99 (by decide) ?_
          refine lv_istore_n (lv' := [(3, .int (iI 1)), (6, .int (iI 1)), (5, .int (iI (T 7 ix))), (0, .ref (ad 0 0)), (1, .ref (ad 6 0)), (2, .int (iI (T 8 0))), (4, .int (iI (ix : Int)))]) hx hb dL_areImages_103 rfl hl (by decide) rfl (fun ls hl => ?_)
          refine wa_inc (k := 6) (b := ((ix + 1) : Int)) (lv' := [(4, .int (iI ((ix + 1) : Int))), (3, .int (iI 1)), (6, .int (iI 1)), (5, .int (iI (T 7 ix))), (0, .ref (ad 0 0)), (1, .ref (ad 6 0)), (2, .int (iI (T 8 0)))]) F dL_areImages_104 hl rfl (by omega) (by decide) rfl (fun ls hl => ?_)
          refine wa_goto (tgt := 18) F dL_areImages_107 (by decide) ?_
          refine W.widen (k := 4 * (ix + 1)) (n := 24 * (ix + 1)) (by omega) (by omega) ?_
          exact ih18 (ix + 1) X _ _ (by omega) hxr hj hw hS ls (lv_sub hl [4, 5, 6, 1, 0] rfl)
        · skip
          refine lv_aload_n hx hb dL_areImages_87 rfl (lv_at hl 2 rfl) ?_
          refine lv_aload_n hx hb dL_areImages_88 rfl (lv_at hl 3 rfl) ?_
          refine lv_iload hx hb dL_areImages_89 (lv_at hl 6 rfl) ?_
          refine wl_gld F hw 0 (by decide) ix rfl (by omega) dL_areImages_91 ?_
          refine ql_isFresh (i := (G 0 ix)) hlt F hTB hA hg.1 hxr hj hw hS (show 0 ≤ G 0 ix ∧ G 0 ix < T 8 0 by omega) ⟨by decide, by decide⟩ (Nat.le_of_ble_eq_true rfl) hl.1 dL_areImages_92 ⟨(show _ ≤ (220 : Nat) by omega), (show _ ≤ (1320 : Nat) by omega)⟩ (fun X H locs hxr hj hw hS => ?_)
          rw [bI_t (by rw [e0]; exact hip.2)]
          refine wa_if_eq (tgt := 102) F dL_areImages_95 (by decide) (by decide) (fun c95 => absurd c95 (by decide)) (fun c95 => ?_)
          refine wa_const F dL_areImages_98 ?_
          refine wa_goto (tgt := 103) F dL_areImages_99 (by decide) ?_
          refine lv_istore_n (lv' := [(3, .int (iI 1)), (6, .int (iI 1)), (5, .int (iI (T 7 ix))), (0, .ref (ad 0 0)), (1, .ref (ad 6 0)), (2, .int (iI (T 8 0))), (4, .int (iI (ix : Int)))]) hx hb dL_areImages_103 rfl hl (by decide) rfl (fun ls hl => ?_)
          refine wa_inc (k := 6) (b := ((ix + 1) : Int)) (lv' := [(4, .int (iI ((ix + 1) : Int))), (3, .int (iI 1)), (6, .int (iI 1)), (5, .int (iI (T 7 ix))), (0, .ref (ad 0 0)), (1, .ref (ad 6 0)), (2, .int (iI (T 8 0)))]) F dL_areImages_104 hl rfl (by omega) (by decide) rfl (fun ls hl => ?_)
          refine wa_goto (tgt := 18) F dL_areImages_107 (by decide) ?_
          refine W.widen (k := 4 * (ix + 1)) (n := 24 * (ix + 1)) (by omega) (by omega) ?_
          exact ih18 (ix + 1) X _ _ (by omega) hxr hj hw hS ls (lv_sub hl [4, 5, 6, 1, 0] rfl)
      · rw [bI_f b39]
        refine lv_istore (lv' := [(6, .int (iI 0)), (5, .int (iI (T 7 ix))), (0, .ref (ad 0 0)), (1, .ref (ad 6 0)), (2, .int (iI (T 8 0))), (3, .int (iI 1)), (4, .int (iI (ix : Int)))]) hx hb dL_areImages_42 hl (by decide) rfl (fun ls hl => ?_)
        refine lv_aload_n hx hb dL_areImages_44 rfl (lv_at hl 2 rfl) ?_
        refine lv_iload hx hb dL_areImages_45 (lv_at hl 6 rfl) ?_
        refine ql_isFreshAnew (i := (ix : Int)) hlt F hTB hA hg.1 hxr hj hw hS (show (0 : Int) ≤ (ix : Int) ∧ (ix : Int) < T 8 0 by omega) ⟨by decide, by decide⟩ (Nat.le_of_ble_eq_true rfl) hl.1 dL_areImages_47 ⟨(show _ ≤ (220 : Nat) by omega), (show _ ≤ (1320 : Nat) by omega)⟩ (fun X H locs hxr hj hw hS => ?_)
        rw [bI_f (fun z => b39 (efr.mpr (emd.mp z)))]
        refine lv_iload hx hb dL_areImages_50 (lv_at hl 0 rfl) ?_
        refine wa_ic_ne (tgt := 102) F dL_areImages_52 (by decide) (by decide) (by decide) (fun c52 => absurd c52 (by decide)) (fun c52 => ?_)
        refine lv_iload hx hb dL_areImages_55 (lv_at hl 1 rfl) ?_
        refine wa_const F dL_areImages_57 ?_
        refine wa_ic_lt (tgt := 102) F dL_areImages_58 (by decide) (by have q0 := hB 7 ix; exact ⟨by omega, by omega⟩) (by decide) (fun c58 => absurd c58 (by omega)) (fun c58 => ?_)
        refine lv_iload hx hb dL_areImages_61 (lv_at hl 1 rfl) ?_
        refine lv_aload_n hx hb dL_areImages_63 rfl (lv_at hl 2 rfl) ?_
        refine ql_bakes F hg.1 hxr hj hw ⟨by decide, by decide⟩ (Nat.le_of_ble_eq_true rfl) hl.1 dL_areImages_64 ⟨(show _ ≤ (220 : Nat) by omega), (show _ ≤ (1320 : Nat) by omega)⟩ ?_
        refine wa_ic_ge (tgt := 102) F dL_areImages_67 (by decide) (by have q0 := hB 7 ix; exact ⟨by omega, by omega⟩) (by have q0 := hB 21 0; exact ⟨by omega, by omega⟩) (fun c67 => absurd c67 (by omega)) (fun c67 => ?_)
        refine lv_iload hx hb dL_areImages_70 (lv_at hl 0 rfl) ?_
        refine wa_if_eq (tgt := 98) F dL_areImages_72 (by decide) (by decide) (fun c72 => ?_) (fun c72 => absurd c72 (by decide))
        refine wa_const F dL_areImages_98 ?_
        refine wa_goto (tgt := 103) F dL_areImages_99 (by decide) ?_
        refine lv_istore_n (lv' := [(3, .int (iI 1)), (6, .int (iI 0)), (5, .int (iI (T 7 ix))), (0, .ref (ad 0 0)), (1, .ref (ad 6 0)), (2, .int (iI (T 8 0))), (4, .int (iI (ix : Int)))]) hx hb dL_areImages_103 rfl hl (by decide) rfl (fun ls hl => ?_)
        refine wa_inc (k := 6) (b := ((ix + 1) : Int)) (lv' := [(4, .int (iI ((ix + 1) : Int))), (3, .int (iI 1)), (6, .int (iI 0)), (5, .int (iI (T 7 ix))), (0, .ref (ad 0 0)), (1, .ref (ad 6 0)), (2, .int (iI (T 8 0)))]) F dL_areImages_104 hl rfl (by omega) (by decide) rfl (fun ls hl => ?_)
        refine wa_goto (tgt := 18) F dL_areImages_107 (by decide) ?_
        refine W.widen (k := 4 * (ix + 1)) (n := 24 * (ix + 1)) (by omega) (by omega) ?_
        exact ih18 (ix + 1) X _ _ (by omega) hxr hj hw hS ls (lv_sub hl [4, 5, 6, 1, 0] rfl)
  refine W.widen (k := 4 * (0)) (n := 24 * (0)) (by omega) (by omega) ?_
  exact loop18 ((T 8 0).toNat) 0 X _ _ (by omega) hxr hj hw hS ls (lv_sub hl [2, 3, 4, 1, 0] rfl)
set_option maxRecDepth 100000 in
set_option maxHeartbeats 4000000 in
theorem c_L_areMachines (l : Launch) (hlt : l.stackTraces = false) (D : va_G) (cy : Nat → ClassId) (ad : Nat → Nat → Nat) {n : Nat} (T X G : wa_St) (o : Int64) (A : Nat → Prop) (hj : wa_wj A ad (wW cy ad T X G o)) (hA : wa_Up A) (hg : gi n T) (hxr : xr T X) (hm : mg T) : Met l yL_areMachines wL_areMachines ({ frames := 8, cells := 270, slots := 1620, locals := 162 } : Room) (wx_pc [.ref (ad 0 0), .int (iI (T 29 0))] D cy A (fun H => wa_wd D ad (wW cy ad T X G o) H)) (wx_Qi A D cy ad G o T (fun u => xr T u) 1) 270 1620 A := by
  refine wl_en0 (by decide +kernel) (Nat.le_of_ble_eq_true rfl) ?_
  intro p e s m args below meth c F hTB hw ls hl
  have F : wa_fx p s m c meth args cL_areMachines 9 RL "areMachines" (Option.some FieldType.boolean) D cy := F
  have hw : wa_wd D ad (wW cy ad T X G o) s.heap := hw
  have hl : lv_has ls 9 [(0, .ref (ad 0 0)), (1, .int (iI (T 29 0)))] := hl
  have hx := F.1.1
  have hb := F.1.2.1
  have hS : va_S A s.heap s.heap [] := va_S.rf
  obtain ⟨hB, w8, w21, w12, w29, w4, w7, w6, w5, w13, w25, w26, w28, w14, w3, wf17⟩ := id hg.1
  obtain ⟨cN, V, hol⟩ := ol_ex hg.1
  have hle := hol.le hg.1
  refine lv_aload_n hx hb dL_areMachines_0 rfl (lv_at hl 0 rfl) ?_
  refine ql_old F hg.1 hxr hj hw hS ⟨by decide, by decide⟩ (Nat.le_of_ble_eq_true rfl) hl.1 dL_areMachines_1 ⟨(show _ ≤ (270 : Nat) by omega), (show _ ≤ (1620 : Nat) by omega)⟩ (fun X H locs hxr hj hw hS => ?_)
  rw [← hol.1]
  refine lv_istore_n (lv' := [(2, .int (iI (cN : Int))), (0, .ref (ad 0 0)), (1, .int (iI (T 29 0)))]) hx hb dL_areMachines_4 rfl hl (by decide) rfl (fun ls hl => ?_)
  refine wa_const F dL_areMachines_5 ?_
  refine lv_istore_n (lv' := [(3, .int (iI 0)), (2, .int (iI (cN : Int))), (0, .ref (ad 0 0)), (1, .int (iI (T 29 0)))]) hx hb dL_areMachines_6 rfl hl (by decide) rfl (fun ls hl => ?_)
  refine lv_iload_n hx hb dL_areMachines_7 rfl (lv_at hl 1 rfl) ?_
  refine lv_iload_n hx hb dL_areMachines_8 rfl (lv_at hl 3 rfl) ?_
  refine wa_ic_gt (tgt := 16) F dL_areMachines_9 (by decide) (by exact ⟨by omega, by omega⟩) (by have q0 := hB 29 0; exact ⟨by omega, by omega⟩) (fun c9 => absurd c9 (by omega)) (fun c9 => ?_)
  refine wa_const F dL_areMachines_12 ?_
  refine wa_goto (tgt := 17) F dL_areMachines_13 (by decide) ?_
  refine lv_istore (lv' := [(4, .int (iI 1)), (3, .int (iI 0)), (2, .int (iI (cN : Int))), (0, .ref (ad 0 0)), (1, .int (iI (T 29 0)))]) hx hb dL_areMachines_17 hl (by decide) rfl (fun ls hl => ?_)
  refine wa_const F dL_areMachines_19 ?_
  refine lv_istore (lv' := [(5, .int (iI 1)), (4, .int (iI 1)), (3, .int (iI 0)), (2, .int (iI (cN : Int))), (0, .ref (ad 0 0)), (1, .int (iI (T 29 0)))]) hx hb dL_areMachines_20 hl (by decide) rfl (fun ls hl => ?_)
  refine wa_const F dL_areMachines_22 ?_
  refine lv_istore (lv' := [(6, .int (iI 0)), (5, .int (iI 1)), (4, .int (iI 1)), (3, .int (iI 0)), (2, .int (iI (cN : Int))), (0, .ref (ad 0 0)), (1, .int (iI (T 29 0)))]) hx hb dL_areMachines_23 hl (by decide) rfl (fun ls hl => ?_)
  have loop25 : ∀ (k : Nat) (qx : Nat) (w : Int32) (hv : Int) (X : wa_St) (H : Heap) (locs : List Loc), (qx + k = cN) → (∀ u, u < 32 → (bt w u = true ↔ ∃ q, q < qx ∧ V q = u)) → (hv = 0 ∨ hv = 1) → (qx = 0 → hv = 1) → (∀ q, q + 1 = qx → (hv = 1 ↔ T 17 (T 28 (V q)).toNat ≠ 0)) → xr T X → wa_wj A ad (wW cy ad T X G o) → wa_wd D ad (wW cy ad T X G o) H → va_S A s.heap H locs → ∀ ls : Array Slot, lv_has ls 9 [(0, .ref (ad 0 0)), (1, .int (iI (T 29 0))), (2, .int (iI (cN : Int))), (3, .int (w)), (4, .int (iI 1)), (5, .int (iI hv)), (6, .int (iI (qx : Int)))] → W p l e ({ frames := 8, cells := 270, slots := 1620, locals := 162 } : Room) s m args below meth c H locs (6 * qx) (36 * qx) (MQ below (wx_Qi A D cy ad G o T (fun u => xr T u) 1) args s 270 1620 A) (F0 m 25 ls []) := by
    intro k
    induction k with
    | zero =>
      intro qx w hv X H locs hk hbits hh hh2 hh3 hxr hj hw hS ls hl
      refine lv_iload hx hb dL_areMachines_25 (lv_at hl 6 rfl) ?_
      refine lv_iload_n hx hb dL_areMachines_27 rfl (lv_at hl 2 rfl) ?_
      refine wa_ic_ge (tgt := 137) F dL_areMachines_28 (by decide) (by exact ⟨by omega, by omega⟩) (by exact ⟨by omega, by omega⟩) (fun c28 => ?_) (fun c28 => absurd c28 (by omega))
      refine wa_const F dL_areMachines_137 ?_
      refine lv_istore (lv' := [(6, .int (iI 0)), (0, .ref (ad 0 0)), (1, .int (iI (T 29 0))), (2, .int (iI (cN : Int))), (3, .int (w)), (4, .int (iI 1)), (5, .int (iI hv))]) hx hb dL_areMachines_138 hl (by decide) rfl (fun ls hl => ?_)
      have loop140 : ∀ (k : Nat) (ux : Nat) (X : wa_St) (H : Heap) (locs : List Loc), (ux + k = (T 29 0).toNat) → xr T X → wa_wj A ad (wW cy ad T X G o) → wa_wd D ad (wW cy ad T X G o) H → va_S A s.heap H locs → ∀ ls : Array Slot, lv_has ls 9 [(0, .ref (ad 0 0)), (1, .int (iI (T 29 0))), (3, .int (w)), (4, .int (iI 1)), (6, .int (iI (ux : Int)))] → W p l e ({ frames := 8, cells := 270, slots := 1620, locals := 162 } : Room) s m args below meth c H locs (180 + 3 * ux) (1080 + 18 * ux) (MQ below (wx_Qi A D cy ad G o T (fun u => xr T u) 1) args s 270 1620 A) (F0 m 140 ls []) := by
        intro k
        induction k with
        | zero =>
          intro ux X H locs hk hxr hj hw hS ls hl
          refine lv_iload hx hb dL_areMachines_140 (lv_at hl 4 rfl) ?_
          refine lv_iload_n hx hb dL_areMachines_142 rfl (lv_at hl 1 rfl) ?_
          refine wa_ic_ge (tgt := 234) F dL_areMachines_143 (by decide) (by exact ⟨by omega, by omega⟩) (by have q0 := hB 29 0; exact ⟨by omega, by omega⟩) (fun c143 => ?_) (fun c143 => absurd c143 (by omega))
          refine lv_iload hx hb dL_areMachines_234 (lv_at hl 3 rfl) ?_
          refine W.widen (k := 270) (n := 1620) (by omega) (by omega) ?_
          exact wx_eiz F hw hS rfl hxr (by decide) dL_areMachines_236
        | succ k ih140 =>
          intro ux X H locs hk hxr hj hw hS ls hl
          have p28 := w28 ux (by omega)
          have vs := vs_t hg (T 28 ux).toNat
          have hbu : bt w ux = true ↔ ∃ q, q < cN ∧ V q = ux := by rw [hbits ux (by omega), show qx = cN by omega]
          refine lv_iload hx hb dL_areMachines_140 (lv_at hl 4 rfl) ?_
          refine lv_iload_n hx hb dL_areMachines_142 rfl (lv_at hl 1 rfl) ?_
          refine wa_ic_ge (tgt := 234) F dL_areMachines_143 (by decide) (by exact ⟨by omega, by omega⟩) (by have q0 := hB 29 0; exact ⟨by omega, by omega⟩) (fun c143 => absurd c143 (by omega)) (fun c143 => ?_)
          refine lv_iload hx hb dL_areMachines_146 (lv_at hl 3 rfl) ?_
          refine wa_if_eq (tgt := 234) F dL_areMachines_148 (by decide) (by decide) (fun c148 => absurd c148 (by decide)) (fun c148 => ?_)
          refine lv_aload_n hx hb dL_areMachines_151 rfl (lv_at hl 0 rfl) ?_
          refine lv_iload hx hb dL_areMachines_152 (lv_at hl 4 rfl) ?_
          refine ql_runsFrom (i := (ux : Int)) hlt F hTB hA hg.1 hxr hj hw hS (show (0 : Int) ≤ (ux : Int) ∧ (ux : Int) < T 29 0 by omega) ⟨by decide, by decide⟩ (Nat.le_of_ble_eq_true rfl) hl.1 dL_areMachines_154 ⟨(show _ ≤ (270 : Nat) by omega), (show _ ≤ (1620 : Nat) by omega)⟩ (fun X H locs hxr hj hw hS => ?_)
          refine W.eq (g2 := F0 m 157 ls [.int (iI (T 28 ux))]) rfl ?_
          refine lv_istore (lv' := [(7, .int (iI (T 28 ux))), (0, .ref (ad 0 0)), (1, .int (iI (T 29 0))), (3, .int (w)), (4, .int (iI 1)), (6, .int (iI (ux : Int)))]) hx hb dL_areMachines_157 hl (by decide) rfl (fun ls hl => ?_)
          refine lv_iload_n hx hb dL_areMachines_159 rfl (lv_at hl 3 rfl) ?_
          refine lv_iload hx hb dL_areMachines_160 (lv_at hl 5 rfl) ?_
          refine lv_ishr hx hb dL_areMachines_162 ?_
          refine wa_const F dL_areMachines_163 ?_
          refine lv_iand hx hb dL_areMachines_164 ?_
          rw [sb_get w (u := ux) (by omega)]
          by_cases b164 : bt w ux = true
          · rw [bI_t b164]
            obtain ⟨q9, q91, q92⟩ := hbu.mp b164
            have hq := hol.2.1 q9 q91
            have hne := ho28 T hq.2.2
            rw [q92] at hne
            have g18 := hm ux (by omega) hne
            refine wa_const F dL_areMachines_165 ?_
            refine wa_ic_ne (tgt := 173) F dL_areMachines_166 (by decide) (by decide) (by decide) (fun c166 => absurd c166 (by decide)) (fun c166 => ?_)
            refine wa_const F dL_areMachines_169 ?_
            refine wa_goto (tgt := 174) F dL_areMachines_170 (by decide) ?_
            refine lv_istore (lv' := [(8, .int (iI 1)), (7, .int (iI (T 28 ux))), (0, .ref (ad 0 0)), (1, .int (iI (T 29 0))), (3, .int (w)), (4, .int (iI 1)), (6, .int (iI (ux : Int)))]) hx hb dL_areMachines_174 hl (by decide) rfl (fun ls hl => ?_)
            refine lv_iload hx hb dL_areMachines_176 (lv_at hl 1 rfl) ?_
            refine wa_if_ge (tgt := 194) F dL_areMachines_178 (by decide) (by have q0 := hB 28 ux; exact ⟨by omega, by omega⟩) (fun c178 => ?_) (fun c178 => absurd c178 (by omega))
            refine lv_aload_n hx hb dL_areMachines_194 rfl (lv_at hl 2 rfl) ?_
            refine lv_iload hx hb dL_areMachines_195 (lv_at hl 1 rfl) ?_
            refine ql_state (i := (T 28 ux)) hlt F hTB hA hg.1 hxr hj hw hS (show 0 ≤ T 28 ux ∧ T 28 ux < T 21 0 by omega) ⟨by decide, by decide⟩ (Nat.le_of_ble_eq_true rfl) hl.1 dL_areMachines_197 ⟨(show _ ≤ (270 : Nat) by omega), (show _ ≤ (1620 : Nat) by omega)⟩ (fun X H locs hxr hj hw hS => ?_)
            refine W.eq (g2 := F0 m 200 ls [.int (iI (v_state T ((T 28 ux).toNat)))]) rfl ?_
            refine wa_bi F dL_areMachines_200 (by decide +kernel) ?_
            refine wa_ic_ge (tgt := 225) F dL_areMachines_202 (by decide) (by have q0 := (vs_t hg ((T 28 ux).toNat)).1; exact ⟨by omega, by omega⟩) (by decide) (fun c202 => absurd c202 (by omega)) (fun c202 => ?_)
            refine lv_aload_n hx hb dL_areMachines_205 rfl (lv_at hl 2 rfl) ?_
            refine lv_iload hx hb dL_areMachines_206 (lv_at hl 1 rfl) ?_
            refine ql_state (i := (T 28 ux)) hlt F hTB hA hg.1 hxr hj hw hS (show 0 ≤ T 28 ux ∧ T 28 ux < T 21 0 by omega) ⟨by decide, by decide⟩ (Nat.le_of_ble_eq_true rfl) hl.1 dL_areMachines_208 ⟨(show _ ≤ (270 : Nat) by omega), (show _ ≤ (1620 : Nat) by omega)⟩ (fun X H locs hxr hj hw hS => ?_)
            refine W.eq (g2 := F0 m 211 ls [.int (iI (v_state T ((T 28 ux).toNat)))]) rfl ?_
            refine wa_bi F dL_areMachines_211 (by decide +kernel) ?_
            refine wa_ic_lt (tgt := 221) F dL_areMachines_213 (by decide) (by have q0 := (vs_t hg ((T 28 ux).toNat)).1; exact ⟨by omega, by omega⟩) (by decide) (fun c213 => ?_) (fun c213 => ?_)
            · skip
              refine wa_const F dL_areMachines_221 ?_
              refine wa_goto (tgt := 226) F dL_areMachines_222 (by decide) ?_
              refine lv_istore (lv' := [(4, .int (iI 1)), (8, .int (iI 1)), (7, .int (iI (T 28 ux))), (0, .ref (ad 0 0)), (1, .int (iI (T 29 0))), (3, .int (w)), (6, .int (iI (ux : Int)))]) hx hb dL_areMachines_226 hl (by decide) rfl (fun ls hl => ?_)
              refine wa_inc (k := 6) (b := ((ux + 1) : Int)) (lv' := [(6, .int (iI ((ux + 1) : Int))), (4, .int (iI 1)), (8, .int (iI 1)), (7, .int (iI (T 28 ux))), (0, .ref (ad 0 0)), (1, .int (iI (T 29 0))), (3, .int (w))]) F dL_areMachines_228 hl rfl (by omega) (by decide) rfl (fun ls hl => ?_)
              refine wa_goto (tgt := 140) F dL_areMachines_231 (by decide) ?_
              refine W.widen (k := 180 + 3 * (ux + 1)) (n := 1080 + 18 * (ux + 1)) (by omega) (by omega) ?_
              exact ih140 (ux + 1) X _ _ (by omega) hxr hj hw hS ls (lv_sub hl [4, 5, 6, 1, 0] rfl)
            · skip
              refine lv_iload hx hb dL_areMachines_216 (lv_at hl 0 rfl) ?_
              refine wa_if_eq (tgt := 225) F dL_areMachines_218 (by decide) (by decide) (fun c218 => absurd c218 (by decide)) (fun c218 => ?_)
              refine wa_const F dL_areMachines_221 ?_
              refine wa_goto (tgt := 226) F dL_areMachines_222 (by decide) ?_
              refine lv_istore (lv' := [(4, .int (iI 1)), (8, .int (iI 1)), (7, .int (iI (T 28 ux))), (0, .ref (ad 0 0)), (1, .int (iI (T 29 0))), (3, .int (w)), (6, .int (iI (ux : Int)))]) hx hb dL_areMachines_226 hl (by decide) rfl (fun ls hl => ?_)
              refine wa_inc (k := 6) (b := ((ux + 1) : Int)) (lv' := [(6, .int (iI ((ux + 1) : Int))), (4, .int (iI 1)), (8, .int (iI 1)), (7, .int (iI (T 28 ux))), (0, .ref (ad 0 0)), (1, .int (iI (T 29 0))), (3, .int (w))]) F dL_areMachines_228 hl rfl (by omega) (by decide) rfl (fun ls hl => ?_)
              refine wa_goto (tgt := 140) F dL_areMachines_231 (by decide) ?_
              refine W.widen (k := 180 + 3 * (ux + 1)) (n := 1080 + 18 * (ux + 1)) (by omega) (by omega) ?_
              exact ih140 (ux + 1) X _ _ (by omega) hxr hj hw hS ls (lv_sub hl [4, 5, 6, 1, 0] rfl)
          · rw [bI_f b164]
            refine wa_const F dL_areMachines_165 ?_
            refine wa_ic_ne (tgt := 173) F dL_areMachines_166 (by decide) (by decide) (by decide) (fun c166 => ?_) (fun c166 => absurd c166 (by decide))
            refine wa_const F dL_areMachines_173 ?_
            refine lv_istore (lv' := [(8, .int (iI 0)), (7, .int (iI (T 28 ux))), (0, .ref (ad 0 0)), (1, .int (iI (T 29 0))), (3, .int (w)), (4, .int (iI 1)), (6, .int (iI (ux : Int)))]) hx hb dL_areMachines_174 hl (by decide) rfl (fun ls hl => ?_)
            refine lv_iload hx hb dL_areMachines_176 (lv_at hl 1 rfl) ?_
            refine wa_if_ge (tgt := 194) F dL_areMachines_178 (by decide) (by have q0 := hB 28 ux; exact ⟨by omega, by omega⟩) (fun c178 => ?_) (fun c178 => ?_)
            · skip
              have g18 := hm ux (by omega) (by omega)
              refine lv_aload_n hx hb dL_areMachines_194 rfl (lv_at hl 2 rfl) ?_
              refine lv_iload hx hb dL_areMachines_195 (lv_at hl 1 rfl) ?_
              refine ql_state (i := (T 28 ux)) hlt F hTB hA hg.1 hxr hj hw hS (show 0 ≤ T 28 ux ∧ T 28 ux < T 21 0 by omega) ⟨by decide, by decide⟩ (Nat.le_of_ble_eq_true rfl) hl.1 dL_areMachines_197 ⟨(show _ ≤ (270 : Nat) by omega), (show _ ≤ (1620 : Nat) by omega)⟩ (fun X H locs hxr hj hw hS => ?_)
              refine W.eq (g2 := F0 m 200 ls [.int (iI (v_state T ((T 28 ux).toNat)))]) rfl ?_
              refine wa_bi F dL_areMachines_200 (by decide +kernel) ?_
              refine wa_ic_ge (tgt := 225) F dL_areMachines_202 (by decide) (by have q0 := (vs_t hg ((T 28 ux).toNat)).1; exact ⟨by omega, by omega⟩) (by decide) (fun c202 => absurd c202 (by omega)) (fun c202 => ?_)
              refine lv_aload_n hx hb dL_areMachines_205 rfl (lv_at hl 2 rfl) ?_
              refine lv_iload hx hb dL_areMachines_206 (lv_at hl 1 rfl) ?_
              refine ql_state (i := (T 28 ux)) hlt F hTB hA hg.1 hxr hj hw hS (show 0 ≤ T 28 ux ∧ T 28 ux < T 21 0 by omega) ⟨by decide, by decide⟩ (Nat.le_of_ble_eq_true rfl) hl.1 dL_areMachines_208 ⟨(show _ ≤ (270 : Nat) by omega), (show _ ≤ (1620 : Nat) by omega)⟩ (fun X H locs hxr hj hw hS => ?_)
              refine W.eq (g2 := F0 m 211 ls [.int (iI (v_state T ((T 28 ux).toNat)))]) rfl ?_
              refine wa_bi F dL_areMachines_211 (by decide +kernel) ?_
              refine wa_ic_lt (tgt := 221) F dL_areMachines_213 (by decide) (by have q0 := (vs_t hg ((T 28 ux).toNat)).1; exact ⟨by omega, by omega⟩) (by decide) (fun c213 => ?_) (fun c213 => absurd c213 (fun z => b164 (hbu.mpr (hol.2.2.2 ux (by omega) (old_of hg hm (by omega) (by omega) z)))))
              refine wa_const F dL_areMachines_221 ?_
              refine wa_goto (tgt := 226) F dL_areMachines_222 (by decide) ?_
              refine lv_istore (lv' := [(4, .int (iI 1)), (8, .int (iI 0)), (7, .int (iI (T 28 ux))), (0, .ref (ad 0 0)), (1, .int (iI (T 29 0))), (3, .int (w)), (6, .int (iI (ux : Int)))]) hx hb dL_areMachines_226 hl (by decide) rfl (fun ls hl => ?_)
              refine wa_inc (k := 6) (b := ((ux + 1) : Int)) (lv' := [(6, .int (iI ((ux + 1) : Int))), (4, .int (iI 1)), (8, .int (iI 0)), (7, .int (iI (T 28 ux))), (0, .ref (ad 0 0)), (1, .int (iI (T 29 0))), (3, .int (w))]) F dL_areMachines_228 hl rfl (by omega) (by decide) rfl (fun ls hl => ?_)
              refine wa_goto (tgt := 140) F dL_areMachines_231 (by decide) ?_
              refine W.widen (k := 180 + 3 * (ux + 1)) (n := 1080 + 18 * (ux + 1)) (by omega) (by omega) ?_
              exact ih140 (ux + 1) X _ _ (by omega) hxr hj hw hS ls (lv_sub hl [4, 5, 6, 1, 0] rfl)
            · skip
              refine lv_iload hx hb dL_areMachines_181 (lv_at hl 0 rfl) ?_
              refine wa_if_ne (tgt := 190) F dL_areMachines_183 (by decide) (by decide) (fun c183 => absurd c183 (by decide)) (fun c183 => ?_)
              refine wa_const F dL_areMachines_186 ?_
              refine wa_goto (tgt := 226) F dL_areMachines_187 (by decide) ?_
              refine lv_istore (lv' := [(4, .int (iI 1)), (8, .int (iI 0)), (7, .int (iI (T 28 ux))), (0, .ref (ad 0 0)), (1, .int (iI (T 29 0))), (3, .int (w)), (6, .int (iI (ux : Int)))]) hx hb dL_areMachines_226 hl (by decide) rfl (fun ls hl => ?_)
              refine wa_inc (k := 6) (b := ((ux + 1) : Int)) (lv' := [(6, .int (iI ((ux + 1) : Int))), (4, .int (iI 1)), (8, .int (iI 0)), (7, .int (iI (T 28 ux))), (0, .ref (ad 0 0)), (1, .int (iI (T 29 0))), (3, .int (w))]) F dL_areMachines_228 hl rfl (by omega) (by decide) rfl (fun ls hl => ?_)
              refine wa_goto (tgt := 140) F dL_areMachines_231 (by decide) ?_
              refine W.widen (k := 180 + 3 * (ux + 1)) (n := 1080 + 18 * (ux + 1)) (by omega) (by omega) ?_
              exact ih140 (ux + 1) X _ _ (by omega) hxr hj hw hS ls (lv_sub hl [4, 5, 6, 1, 0] rfl)
      refine W.widen (k := 180 + 3 * (0)) (n := 1080 + 18 * (0)) (by omega) (by omega) ?_
      exact loop140 ((T 29 0).toNat) 0 X _ _ (by omega) hxr hj hw hS ls (lv_sub hl [1, 2, 4, 5, 0] rfl)
    | succ k ih25 =>
      intro qx w hv X H locs hk hbits hh hh2 hh3 hxr hj hw hS ls hl
      have hq := hol.2.1 qx (by omega)
      have hne := ho28 T hq.2.2
      have p28 := w28 (V qx) hq.2.1
      have vs := vs_t hg (T 28 (V qx)).toNat
      have g18 := hm (V qx) hq.2.1 hne
      refine lv_iload hx hb dL_areMachines_25 (lv_at hl 6 rfl) ?_
      refine lv_iload_n hx hb dL_areMachines_27 rfl (lv_at hl 2 rfl) ?_
      refine wa_ic_ge (tgt := 137) F dL_areMachines_28 (by decide) (by exact ⟨by omega, by omega⟩) (by exact ⟨by omega, by omega⟩) (fun c28 => absurd c28 (by omega)) (fun c28 => ?_)
      refine lv_iload hx hb dL_areMachines_31 (lv_at hl 4 rfl) ?_
      refine wa_if_eq (tgt := 137) F dL_areMachines_33 (by decide) (by decide) (fun c33 => absurd c33 (by decide)) (fun c33 => ?_)
      refine lv_aload_n hx hb dL_areMachines_36 rfl (lv_at hl 0 rfl) ?_
      refine lv_iload hx hb dL_areMachines_37 (lv_at hl 6 rfl) ?_
      refine ql_oldAt (i := (qx : Int)) hlt F hTB hA hg.1 hxr hj hw hS ⟨(show (0 : Int) ≤ (qx : Int) ∧ (qx : Int) < 100 by omega), k_oldAt_0 hol (by omega)⟩ ⟨by decide, by decide⟩ (Nat.le_of_ble_eq_true rfl) hl.1 dL_areMachines_39 ⟨(show _ ≤ (270 : Nat) by omega), (show _ ≤ (1620 : Nat) by omega)⟩ (fun X H locs hxr hj hw hS => ?_)
      refine W.eq (g2 := F0 m 42 ls [.int (iI (f_oldAt T (qx : Int)))]) rfl ?_
      rw [hq.1]
      refine lv_istore (lv' := [(7, .int (iI ((V qx) : Int))), (0, .ref (ad 0 0)), (1, .int (iI (T 29 0))), (2, .int (iI (cN : Int))), (3, .int (w)), (4, .int (iI 1)), (5, .int (iI hv)), (6, .int (iI (qx : Int)))]) hx hb dL_areMachines_42 hl (by decide) rfl (fun ls hl => ?_)
      refine lv_aload_n hx hb dL_areMachines_44 rfl (lv_at hl 1 rfl) ?_
      refine lv_aload_n hx hb dL_areMachines_45 rfl (lv_at hl 1 rfl) ?_
      refine lv_iload hx hb dL_areMachines_46 (lv_at hl 0 rfl) ?_
      refine ql_runsFrom (i := ((V qx) : Int)) hlt F hTB hA hg.1 hxr hj hw hS (show (0 : Int) ≤ ((V qx : Nat) : Int) ∧ ((V qx : Nat) : Int) < T 29 0 by omega) ⟨by decide, by decide⟩ (Nat.le_of_ble_eq_true rfl) hl.1 dL_areMachines_48 ⟨(show _ ≤ (270 : Nat) by omega), (show _ ≤ (1620 : Nat) by omega)⟩ (fun X H locs hxr hj hw hS => ?_)
      refine W.eq (g2 := F0 m 51 ls [.int (iI (T 28 ((V qx)))), .ref (ad 0 0)]) rfl ?_
      refine ql_state (i := (T 28 ((V qx)))) hlt F hTB hA hg.1 hxr hj hw hS (show 0 ≤ T 28 (V qx) ∧ T 28 (V qx) < T 21 0 by omega) ⟨by decide, by decide⟩ (Nat.le_of_ble_eq_true rfl) hl.1 dL_areMachines_51 ⟨(show _ ≤ (270 : Nat) by omega), (show _ ≤ (1620 : Nat) by omega)⟩ (fun X H locs hxr hj hw hS => ?_)
      refine W.eq (g2 := F0 m 54 ls [.int (iI (v_state T ((T 28 ((V qx))).toNat)))]) rfl ?_
      refine wa_bi F dL_areMachines_54 (by decide +kernel) ?_
      refine wl_div F (by have q0 := (vs_t hg ((T 28 ((V qx))).toNat)).1; omega) (by decide) dL_areMachines_56 ?_
      refine wa_const F dL_areMachines_57 ?_
      refine wl_rem F (by have q0 := (vs_t hg ((T 28 ((V qx))).toNat)).1; omega) (by decide) dL_areMachines_58 ?_
      refine wa_const F dL_areMachines_59 ?_
      refine wa_ic_ne (tgt := 67) F dL_areMachines_60 (by decide) (by have q0 := (vs_t hg ((T 28 ((V qx))).toNat)).1; exact ⟨by omega, by omega⟩) (by decide) (fun c60 => ?_) (fun c60 => ?_)
      · skip
        refine wa_const F dL_areMachines_67 ?_
        refine lv_istore (lv' := [(8, .int (iI 0)), (7, .int (iI ((V qx) : Int))), (0, .ref (ad 0 0)), (1, .int (iI (T 29 0))), (2, .int (iI (cN : Int))), (3, .int (w)), (4, .int (iI 1)), (5, .int (iI hv)), (6, .int (iI (qx : Int)))]) hx hb dL_areMachines_68 hl (by decide) rfl (fun ls hl => ?_)
        refine lv_iload_n hx hb dL_areMachines_70 rfl (lv_at hl 5 rfl) ?_
        refine lv_iload hx hb dL_areMachines_71 (lv_at hl 1 rfl) ?_
        refine lv_ishr hx hb dL_areMachines_73 ?_
        refine wa_const F dL_areMachines_74 ?_
        refine lv_iand hx hb dL_areMachines_75 ?_
        rw [sb_get w (u := (V qx)) (by omega)]
        rw [bI_f (fun z => by obtain ⟨q, q1, q2⟩ := (hbits (V qx) (by omega)).mp z; have := hol.inj (q := q) (q' := qx) (by omega) (by omega) q2; omega)]
        refine wa_if_ne (tgt := 117) F dL_areMachines_76 (by decide) (by decide) (fun c76 => absurd c76 (by decide)) (fun c76 => ?_)
        refine lv_aload_n hx hb dL_areMachines_79 rfl (lv_at hl 2 rfl) ?_
        refine lv_iload hx hb dL_areMachines_80 (lv_at hl 1 rfl) ?_
        refine ql_runsFrom (i := ((V qx) : Int)) hlt F hTB hA hg.1 hxr hj hw hS (show (0 : Int) ≤ ((V qx : Nat) : Int) ∧ ((V qx : Nat) : Int) < T 29 0 by omega) ⟨by decide, by decide⟩ (Nat.le_of_ble_eq_true rfl) hl.1 dL_areMachines_82 ⟨(show _ ≤ (270 : Nat) by omega), (show _ ≤ (1620 : Nat) by omega)⟩ (fun X H locs hxr hj hw hS => ?_)
        refine W.eq (g2 := F0 m 85 ls [.int (iI (T 28 ((V qx))))]) rfl ?_
        refine wa_if_lt (tgt := 117) F dL_areMachines_85 (by decide) (by have q0 := hB 28 ((V qx)); exact ⟨by omega, by omega⟩) (fun c85 => absurd c85 (by omega)) (fun c85 => ?_)
        refine lv_iload hx hb dL_areMachines_88 (lv_at hl 7 rfl) ?_
        refine wa_if_ne (tgt := 98) F dL_areMachines_90 (by decide) (by have q0 := (show wa_r hv from ⟨by omega, by omega⟩); exact ⟨by omega, by omega⟩) (fun c90 => ?_) (fun c90 => ?_)
        · skip
          refine lv_aload_n hx hb dL_areMachines_98 rfl (lv_at hl 2 rfl) ?_
          refine lv_aload_n hx hb dL_areMachines_99 rfl (lv_at hl 2 rfl) ?_
          refine lv_iload hx hb dL_areMachines_100 (lv_at hl 1 rfl) ?_
          refine ql_runsFrom (i := ((V qx) : Int)) hlt F hTB hA hg.1 hxr hj hw hS (show (0 : Int) ≤ ((V qx : Nat) : Int) ∧ ((V qx : Nat) : Int) < T 29 0 by omega) ⟨by decide, by decide⟩ (Nat.le_of_ble_eq_true rfl) hl.1 dL_areMachines_102 ⟨(show _ ≤ (270 : Nat) by omega), (show _ ≤ (1620 : Nat) by omega)⟩ (fun X H locs hxr hj hw hS => ?_)
          refine W.eq (g2 := F0 m 105 ls [.int (iI (T 28 ((V qx)))), .ref (ad 0 0)]) rfl ?_
          refine ql_state (i := (T 28 ((V qx)))) hlt F hTB hA hg.1 hxr hj hw hS (show 0 ≤ T 28 (V qx) ∧ T 28 (V qx) < T 21 0 by omega) ⟨by decide, by decide⟩ (Nat.le_of_ble_eq_true rfl) hl.1 dL_areMachines_105 ⟨(show _ ≤ (270 : Nat) by omega), (show _ ≤ (1620 : Nat) by omega)⟩ (fun X H locs hxr hj hw hS => ?_)
          refine W.eq (g2 := F0 m 108 ls [.int (iI (v_state T ((T 28 ((V qx))).toNat)))]) rfl ?_
          refine wa_bi F dL_areMachines_108 (by decide +kernel) ?_
          refine wa_ic_ge (tgt := 117) F dL_areMachines_110 (by decide) (by have q0 := (vs_t hg ((T 28 ((V qx))).toNat)).1; exact ⟨by omega, by omega⟩) (by decide) (fun c110 => absurd c110 (by omega)) (fun c110 => ?_)
          refine wa_const F dL_areMachines_113 ?_
          refine wa_goto (tgt := 118) F dL_areMachines_114 (by decide) ?_
          refine lv_istore (lv' := [(4, .int (iI 1)), (8, .int (iI 0)), (7, .int (iI ((V qx) : Int))), (0, .ref (ad 0 0)), (1, .int (iI (T 29 0))), (2, .int (iI (cN : Int))), (3, .int (w)), (5, .int (iI hv)), (6, .int (iI (qx : Int)))]) hx hb dL_areMachines_118 hl (by decide) rfl (fun ls hl => ?_)
          refine lv_iload_n hx hb dL_areMachines_120 rfl (lv_at hl 6 rfl) ?_
          refine wa_const F dL_areMachines_121 ?_
          refine lv_iload hx hb dL_areMachines_122 (lv_at hl 2 rfl) ?_
          refine lv_ishl hx hb dL_areMachines_124 ?_
          refine lv_ior hx hb dL_areMachines_125 ?_
          refine lv_istore_n (lv' := [(3, .int (w ||| (iI 1 <<< (iI ((V qx) : Int) &&& 31)))), (4, .int (iI 1)), (8, .int (iI 0)), (7, .int (iI ((V qx) : Int))), (0, .ref (ad 0 0)), (1, .int (iI (T 29 0))), (2, .int (iI (cN : Int))), (5, .int (iI hv)), (6, .int (iI (qx : Int)))]) hx hb dL_areMachines_126 rfl hl (by decide) rfl (fun ls hl => ?_)
          refine lv_iload hx hb dL_areMachines_127 (lv_at hl 2 rfl) ?_
          refine lv_istore (lv' := [(5, .int (iI 0)), (3, .int (w ||| (iI 1 <<< (iI ((V qx) : Int) &&& 31)))), (4, .int (iI 1)), (8, .int (iI 0)), (7, .int (iI ((V qx) : Int))), (0, .ref (ad 0 0)), (1, .int (iI (T 29 0))), (2, .int (iI (cN : Int))), (6, .int (iI (qx : Int)))]) hx hb dL_areMachines_129 hl (by decide) rfl (fun ls hl => ?_)
          refine wa_inc (k := 8) (b := ((qx + 1) : Int)) (lv' := [(6, .int (iI ((qx + 1) : Int))), (5, .int (iI 0)), (3, .int (w ||| (iI 1 <<< (iI ((V qx) : Int) &&& 31)))), (4, .int (iI 1)), (8, .int (iI 0)), (7, .int (iI ((V qx) : Int))), (0, .ref (ad 0 0)), (1, .int (iI (T 29 0))), (2, .int (iI (cN : Int)))]) F dL_areMachines_131 hl rfl (by omega) (by decide) rfl (fun ls hl => ?_)
          refine wa_goto (tgt := 25) F dL_areMachines_134 (by decide) ?_
          refine W.widen (k := 6 * (qx + 1)) (n := 36 * (qx + 1)) (by omega) (by omega) ?_
          exact ih25 (qx + 1) (w ||| (iI 1 <<< (iI ((V qx) : Int) &&& 31))) 0 X _ _ (by omega) (fun u hu => by rw [sb_set w (u := V qx) (by omega) hu, hbits u hu]; exact ⟨fun z => z.elim (fun ⟨q, q1, q2⟩ => ⟨q, by omega, q2⟩) (fun z => ⟨qx, by omega, z.symm⟩), fun ⟨q, q1, q2⟩ => if z : q = qx then Or.inr (by rw [← q2, z]) else Or.inl ⟨q, by omega, q2⟩⟩) (by decide) (fun z => by omega) (fun q z => by have e : q = qx := (by omega); subst e; have c0 := c60; have c1 := vs.2.2.1; constructor <;> intro z2 <;> omega) hxr hj hw hS ls (lv_sub hl [6, 7, 8, 2, 3, 1, 0] rfl)
        · skip
          refine lv_iload hx hb dL_areMachines_93 (lv_at hl 0 rfl) ?_
          refine wa_if_ne (tgt := 117) F dL_areMachines_95 (by decide) (by decide) (fun c95 => absurd c95 (by decide)) (fun c95 => ?_)
          refine lv_aload_n hx hb dL_areMachines_98 rfl (lv_at hl 2 rfl) ?_
          refine lv_aload_n hx hb dL_areMachines_99 rfl (lv_at hl 2 rfl) ?_
          refine lv_iload hx hb dL_areMachines_100 (lv_at hl 1 rfl) ?_
          refine ql_runsFrom (i := ((V qx) : Int)) hlt F hTB hA hg.1 hxr hj hw hS (show (0 : Int) ≤ ((V qx : Nat) : Int) ∧ ((V qx : Nat) : Int) < T 29 0 by omega) ⟨by decide, by decide⟩ (Nat.le_of_ble_eq_true rfl) hl.1 dL_areMachines_102 ⟨(show _ ≤ (270 : Nat) by omega), (show _ ≤ (1620 : Nat) by omega)⟩ (fun X H locs hxr hj hw hS => ?_)
          refine W.eq (g2 := F0 m 105 ls [.int (iI (T 28 ((V qx)))), .ref (ad 0 0)]) rfl ?_
          refine ql_state (i := (T 28 ((V qx)))) hlt F hTB hA hg.1 hxr hj hw hS (show 0 ≤ T 28 (V qx) ∧ T 28 (V qx) < T 21 0 by omega) ⟨by decide, by decide⟩ (Nat.le_of_ble_eq_true rfl) hl.1 dL_areMachines_105 ⟨(show _ ≤ (270 : Nat) by omega), (show _ ≤ (1620 : Nat) by omega)⟩ (fun X H locs hxr hj hw hS => ?_)
          refine W.eq (g2 := F0 m 108 ls [.int (iI (v_state T ((T 28 ((V qx))).toNat)))]) rfl ?_
          refine wa_bi F dL_areMachines_108 (by decide +kernel) ?_
          refine wa_ic_ge (tgt := 117) F dL_areMachines_110 (by decide) (by have q0 := (vs_t hg ((T 28 ((V qx))).toNat)).1; exact ⟨by omega, by omega⟩) (by decide) (fun c110 => absurd c110 (by omega)) (fun c110 => ?_)
          refine wa_const F dL_areMachines_113 ?_
          refine wa_goto (tgt := 118) F dL_areMachines_114 (by decide) ?_
          refine lv_istore (lv' := [(4, .int (iI 1)), (8, .int (iI 0)), (7, .int (iI ((V qx) : Int))), (0, .ref (ad 0 0)), (1, .int (iI (T 29 0))), (2, .int (iI (cN : Int))), (3, .int (w)), (5, .int (iI hv)), (6, .int (iI (qx : Int)))]) hx hb dL_areMachines_118 hl (by decide) rfl (fun ls hl => ?_)
          refine lv_iload_n hx hb dL_areMachines_120 rfl (lv_at hl 6 rfl) ?_
          refine wa_const F dL_areMachines_121 ?_
          refine lv_iload hx hb dL_areMachines_122 (lv_at hl 2 rfl) ?_
          refine lv_ishl hx hb dL_areMachines_124 ?_
          refine lv_ior hx hb dL_areMachines_125 ?_
          refine lv_istore_n (lv' := [(3, .int (w ||| (iI 1 <<< (iI ((V qx) : Int) &&& 31)))), (4, .int (iI 1)), (8, .int (iI 0)), (7, .int (iI ((V qx) : Int))), (0, .ref (ad 0 0)), (1, .int (iI (T 29 0))), (2, .int (iI (cN : Int))), (5, .int (iI hv)), (6, .int (iI (qx : Int)))]) hx hb dL_areMachines_126 rfl hl (by decide) rfl (fun ls hl => ?_)
          refine lv_iload hx hb dL_areMachines_127 (lv_at hl 2 rfl) ?_
          refine lv_istore (lv' := [(5, .int (iI 0)), (3, .int (w ||| (iI 1 <<< (iI ((V qx) : Int) &&& 31)))), (4, .int (iI 1)), (8, .int (iI 0)), (7, .int (iI ((V qx) : Int))), (0, .ref (ad 0 0)), (1, .int (iI (T 29 0))), (2, .int (iI (cN : Int))), (6, .int (iI (qx : Int)))]) hx hb dL_areMachines_129 hl (by decide) rfl (fun ls hl => ?_)
          refine wa_inc (k := 8) (b := ((qx + 1) : Int)) (lv' := [(6, .int (iI ((qx + 1) : Int))), (5, .int (iI 0)), (3, .int (w ||| (iI 1 <<< (iI ((V qx) : Int) &&& 31)))), (4, .int (iI 1)), (8, .int (iI 0)), (7, .int (iI ((V qx) : Int))), (0, .ref (ad 0 0)), (1, .int (iI (T 29 0))), (2, .int (iI (cN : Int)))]) F dL_areMachines_131 hl rfl (by omega) (by decide) rfl (fun ls hl => ?_)
          refine wa_goto (tgt := 25) F dL_areMachines_134 (by decide) ?_
          refine W.widen (k := 6 * (qx + 1)) (n := 36 * (qx + 1)) (by omega) (by omega) ?_
          exact ih25 (qx + 1) (w ||| (iI 1 <<< (iI ((V qx) : Int) &&& 31))) 0 X _ _ (by omega) (fun u hu => by rw [sb_set w (u := V qx) (by omega) hu, hbits u hu]; exact ⟨fun z => z.elim (fun ⟨q, q1, q2⟩ => ⟨q, by omega, q2⟩) (fun z => ⟨qx, by omega, z.symm⟩), fun ⟨q, q1, q2⟩ => if z : q = qx then Or.inr (by rw [← q2, z]) else Or.inl ⟨q, by omega, q2⟩⟩) (by decide) (fun z => by omega) (fun q z => by have e : q = qx := (by omega); subst e; have c0 := c60; have c1 := vs.2.2.1; constructor <;> intro z2 <;> omega) hxr hj hw hS ls (lv_sub hl [6, 7, 8, 2, 3, 1, 0] rfl)
      · skip
        refine wa_const F dL_areMachines_63 ?_
        refine wa_goto (tgt := 68) F dL_areMachines_64 (by decide) ?_
        refine lv_istore (lv' := [(8, .int (iI 1)), (7, .int (iI ((V qx) : Int))), (0, .ref (ad 0 0)), (1, .int (iI (T 29 0))), (2, .int (iI (cN : Int))), (3, .int (w)), (4, .int (iI 1)), (5, .int (iI hv)), (6, .int (iI (qx : Int)))]) hx hb dL_areMachines_68 hl (by decide) rfl (fun ls hl => ?_)
        refine lv_iload_n hx hb dL_areMachines_70 rfl (lv_at hl 5 rfl) ?_
        refine lv_iload hx hb dL_areMachines_71 (lv_at hl 1 rfl) ?_
        refine lv_ishr hx hb dL_areMachines_73 ?_
        refine wa_const F dL_areMachines_74 ?_
        refine lv_iand hx hb dL_areMachines_75 ?_
        rw [sb_get w (u := (V qx)) (by omega)]
        rw [bI_f (fun z => by obtain ⟨q, q1, q2⟩ := (hbits (V qx) (by omega)).mp z; have := hol.inj (q := q) (q' := qx) (by omega) (by omega) q2; omega)]
        refine wa_if_ne (tgt := 117) F dL_areMachines_76 (by decide) (by decide) (fun c76 => absurd c76 (by decide)) (fun c76 => ?_)
        refine lv_aload_n hx hb dL_areMachines_79 rfl (lv_at hl 2 rfl) ?_
        refine lv_iload hx hb dL_areMachines_80 (lv_at hl 1 rfl) ?_
        refine ql_runsFrom (i := ((V qx) : Int)) hlt F hTB hA hg.1 hxr hj hw hS (show (0 : Int) ≤ ((V qx : Nat) : Int) ∧ ((V qx : Nat) : Int) < T 29 0 by omega) ⟨by decide, by decide⟩ (Nat.le_of_ble_eq_true rfl) hl.1 dL_areMachines_82 ⟨(show _ ≤ (270 : Nat) by omega), (show _ ≤ (1620 : Nat) by omega)⟩ (fun X H locs hxr hj hw hS => ?_)
        refine W.eq (g2 := F0 m 85 ls [.int (iI (T 28 ((V qx))))]) rfl ?_
        refine wa_if_lt (tgt := 117) F dL_areMachines_85 (by decide) (by have q0 := hB 28 ((V qx)); exact ⟨by omega, by omega⟩) (fun c85 => absurd c85 (by omega)) (fun c85 => ?_)
        refine lv_iload hx hb dL_areMachines_88 (lv_at hl 7 rfl) ?_
        refine wa_if_ne (tgt := 98) F dL_areMachines_90 (by decide) (by have q0 := (show wa_r hv from ⟨by omega, by omega⟩); exact ⟨by omega, by omega⟩) (fun c90 => ?_) (fun c90 => absurd c90 (fun z => by rcases Nat.eq_zero_or_pos qx with e | e; (have := hh2 e; omega); (have e2 := hol.held (q := qx - 1) (by omega) (by rw [show qx - 1 + 1 = qx by omega]; have := vs.2.2.1; omega); have := (hh3 (qx - 1) (by omega)).mpr e2; omega)))
        refine lv_aload_n hx hb dL_areMachines_98 rfl (lv_at hl 2 rfl) ?_
        refine lv_aload_n hx hb dL_areMachines_99 rfl (lv_at hl 2 rfl) ?_
        refine lv_iload hx hb dL_areMachines_100 (lv_at hl 1 rfl) ?_
        refine ql_runsFrom (i := ((V qx) : Int)) hlt F hTB hA hg.1 hxr hj hw hS (show (0 : Int) ≤ ((V qx : Nat) : Int) ∧ ((V qx : Nat) : Int) < T 29 0 by omega) ⟨by decide, by decide⟩ (Nat.le_of_ble_eq_true rfl) hl.1 dL_areMachines_102 ⟨(show _ ≤ (270 : Nat) by omega), (show _ ≤ (1620 : Nat) by omega)⟩ (fun X H locs hxr hj hw hS => ?_)
        refine W.eq (g2 := F0 m 105 ls [.int (iI (T 28 ((V qx)))), .ref (ad 0 0)]) rfl ?_
        refine ql_state (i := (T 28 ((V qx)))) hlt F hTB hA hg.1 hxr hj hw hS (show 0 ≤ T 28 (V qx) ∧ T 28 (V qx) < T 21 0 by omega) ⟨by decide, by decide⟩ (Nat.le_of_ble_eq_true rfl) hl.1 dL_areMachines_105 ⟨(show _ ≤ (270 : Nat) by omega), (show _ ≤ (1620 : Nat) by omega)⟩ (fun X H locs hxr hj hw hS => ?_)
        refine W.eq (g2 := F0 m 108 ls [.int (iI (v_state T ((T 28 ((V qx))).toNat)))]) rfl ?_
        refine wa_bi F dL_areMachines_108 (by decide +kernel) ?_
        refine wa_ic_ge (tgt := 117) F dL_areMachines_110 (by decide) (by have q0 := (vs_t hg ((T 28 ((V qx))).toNat)).1; exact ⟨by omega, by omega⟩) (by decide) (fun c110 => absurd c110 (by omega)) (fun c110 => ?_)
        refine wa_const F dL_areMachines_113 ?_
        refine wa_goto (tgt := 118) F dL_areMachines_114 (by decide) ?_
        refine lv_istore (lv' := [(4, .int (iI 1)), (8, .int (iI 1)), (7, .int (iI ((V qx) : Int))), (0, .ref (ad 0 0)), (1, .int (iI (T 29 0))), (2, .int (iI (cN : Int))), (3, .int (w)), (5, .int (iI hv)), (6, .int (iI (qx : Int)))]) hx hb dL_areMachines_118 hl (by decide) rfl (fun ls hl => ?_)
        refine lv_iload_n hx hb dL_areMachines_120 rfl (lv_at hl 6 rfl) ?_
        refine wa_const F dL_areMachines_121 ?_
        refine lv_iload hx hb dL_areMachines_122 (lv_at hl 2 rfl) ?_
        refine lv_ishl hx hb dL_areMachines_124 ?_
        refine lv_ior hx hb dL_areMachines_125 ?_
        refine lv_istore_n (lv' := [(3, .int (w ||| (iI 1 <<< (iI ((V qx) : Int) &&& 31)))), (4, .int (iI 1)), (8, .int (iI 1)), (7, .int (iI ((V qx) : Int))), (0, .ref (ad 0 0)), (1, .int (iI (T 29 0))), (2, .int (iI (cN : Int))), (5, .int (iI hv)), (6, .int (iI (qx : Int)))]) hx hb dL_areMachines_126 rfl hl (by decide) rfl (fun ls hl => ?_)
        refine lv_iload hx hb dL_areMachines_127 (lv_at hl 2 rfl) ?_
        refine lv_istore (lv' := [(5, .int (iI 1)), (3, .int (w ||| (iI 1 <<< (iI ((V qx) : Int) &&& 31)))), (4, .int (iI 1)), (8, .int (iI 1)), (7, .int (iI ((V qx) : Int))), (0, .ref (ad 0 0)), (1, .int (iI (T 29 0))), (2, .int (iI (cN : Int))), (6, .int (iI (qx : Int)))]) hx hb dL_areMachines_129 hl (by decide) rfl (fun ls hl => ?_)
        refine wa_inc (k := 8) (b := ((qx + 1) : Int)) (lv' := [(6, .int (iI ((qx + 1) : Int))), (5, .int (iI 1)), (3, .int (w ||| (iI 1 <<< (iI ((V qx) : Int) &&& 31)))), (4, .int (iI 1)), (8, .int (iI 1)), (7, .int (iI ((V qx) : Int))), (0, .ref (ad 0 0)), (1, .int (iI (T 29 0))), (2, .int (iI (cN : Int)))]) F dL_areMachines_131 hl rfl (by omega) (by decide) rfl (fun ls hl => ?_)
        refine wa_goto (tgt := 25) F dL_areMachines_134 (by decide) ?_
        refine W.widen (k := 6 * (qx + 1)) (n := 36 * (qx + 1)) (by omega) (by omega) ?_
        exact ih25 (qx + 1) (w ||| (iI 1 <<< (iI ((V qx) : Int) &&& 31))) 1 X _ _ (by omega) (fun u hu => by rw [sb_set w (u := V qx) (by omega) hu, hbits u hu]; exact ⟨fun z => z.elim (fun ⟨q, q1, q2⟩ => ⟨q, by omega, q2⟩) (fun z => ⟨qx, by omega, z.symm⟩), fun ⟨q, q1, q2⟩ => if z : q = qx then Or.inr (by rw [← q2, z]) else Or.inl ⟨q, by omega, q2⟩⟩) (by decide) (fun z => by omega) (fun q z => by have e : q = qx := (by omega); subst e; have c0 := c60; have c1 := vs.2.2.1; constructor <;> intro z2 <;> omega) hxr hj hw hS ls (lv_sub hl [6, 7, 8, 2, 3, 1, 0] rfl)
  refine W.widen (k := 6 * (0)) (n := 36 * (0)) (by omega) (by omega) ?_
  exact loop25 cN 0 (iI 0) 1 X _ _ (by omega) (fun u hu => by rw [b_zer u hu]; exact ⟨fun z => (by cases z), fun ⟨q, q1, q2⟩ => (by omega)⟩) (by decide) (fun _ => rfl) (fun q z => by omega) hxr hj hw hS ls (lv_sub hl [5, 6, 4, 3, 2, 1, 0] rfl)
