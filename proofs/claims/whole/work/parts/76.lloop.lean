/-! THE CLAIM OUT OF ONE WALK OF THE LAW'S BODY. Your part is whole_start (and what it stands on); all else here is the same for every law, but numbers. -/
def R_law : String := "ImageBakerLaw"
def lw_P (b : Addr) (xs : List Int32) (args : Array Value) (s : State) : Prop := args = #[.ref b] ∧ s.IntsAt b xs ∧ xs.length ≤ 2560 ∧ (Jvm.Cond.and given_1 narrow_1).before args s = true
def lw_Q (_ : Array Value) (s : State) (o : Outcome) (t : State) : Prop := o = .returned (some (.int 1)) ∧ Framed s o t [] room_1.cells room_1.slots
def lw_Z (below : List Frame) (a : Array Value) (s : State) : State → Prop := fun t => ∃ o, t.status = .running ∧ Ended t below o ∧ lw_Q a s o t
/-- the law's own end, with 1 on the stack, nothing written that was there before, its room as the claim has it -/
theorem lw_ret {p : Program} {l : Launch} {e : Env} {s : State} {m : MethodId} {below : List Frame} {meth : Method} {c : Code} {b : Nat} (hx : p.tables.exec = Jvm.exec) (hb : c.code = code) (hr : meth.sig.returnType = ret) (hlocks : meth.locks = false) {pc : Nat} {H : Heap} {ls : Array Slot} (hdg : decode code pc = .ok (.ireturn, 1)) : W p l e room_1 s m #[Value.ref b] below meth c H [] room_1.cells room_1.slots (lw_Z below #[Value.ref b] s) (F0 m pc ls [.int 1]) := by
  intro T hT X
  obtain ⟨fs, hret, hrun, hended, hW, hframe⟩ := X.leave (v := some (.int 1)) (hlocks := hlocks) (fun h => by rw [hr] at h; cases h)
  have hmeth' : T.vm.method? m = some meth := X.method'
  refine ⟨T.setFrames fs, ?_, .returned (some (.int 1)), hrun, hended, rfl, ⟨_, rfl⟩, hW, hframe⟩
  jvm_step X.here [X.here.top, hx, hb, hdg, hmeth', hr, ret, narrow_b1]
  (try refine ⟨rfl, ?_⟩); (try refine ⟨rfl, ?_⟩)
  first | (intro acts; rw [hret _ acts rfl rfl rfl]) | rw [hret _ _ rfl rfl rfl]
  exact Steps.refl _
/-- what holds at the law's entry: the machine, the code, the tables' words (any of lw_tbl by 'hts w (by decide +kernel)'), the script of L ints xs at the cell b, what the Statement gives of the start (any of its parts by flat_of_before) -/
def lw_At (p : Program) (s : State) (m : MethodId) (meth : Method) (c : Code) (b L : Nat) (xs : Nat → Int32) : Prop :=
  p.tables.exec = Jvm.exec ∧ c.code = code ∧ meth.sig.returnType = ret ∧ c.maxLocals = 7 ∧ s.vm.findClass R_law = some m.cls ∧ (∀ w ∈ lw_tbl, w.before #[Value.ref b] s = true) ∧ va_X b L xs s s.heap ∧ b < s.heap.size ∧ meth.locks = false ∧ (Jvm.Cond.and given_1 narrow_1).before #[Value.ref b] s = true
theorem law_31 (x : Int32) : ∃ k : Nat, k < 32 ∧ x &&& iI 31 = iI (k : Int) := by
  refine ⟨x.toBitVec.toNat % 32, Nat.mod_lt _ (by decide), ?_⟩
  apply Int32.toBitVec_inj.1
  rw [Int32.toBitVec_and]
  have e31 : (iI 31).toBitVec = BitVec.ofNat 32 31 := by decide +kernel
  have ek : (iI ((x.toBitVec.toNat % 32 : Nat) : Int)).toBitVec = BitVec.ofNat 32 (x.toBitVec.toNat % 32) := by
    show (Int32.ofInt ((x.toBitVec.toNat % 32 : Nat) : Int)).toBitVec = _
    rw [Int32.toBitVec_ofInt]
    exact BitVec.ofInt_natCast _ _
  rw [e31, ek]
  apply BitVec.eq_of_toNat_eq
  rw [BitVec.toNat_and, BitVec.toNat_ofNat, BitVec.toNat_ofNat, show (31 % 2 ^ 32 : Nat) = 2 ^ 5 - 1 from rfl, Nat.and_two_pow_sub_one_eq_mod]
  show x.toBitVec.toNat % 32 = x.toBitVec.toNat % 32 % 2 ^ 32
  omega
section WLO
variable {p : Program} {l : Launch} {e : Env} {s : State} {m : MethodId} {below : List Frame} {meth : Method} {c : Code}
variable {D : va_G} {cy : Nat → ClassId} {b L : Nat} {xs : Nat → Int32}
set_option maxRecDepth 100000 in
set_option maxHeartbeats 4000000 in
/-- the law's loop: at its head, with n calls behind -/
theorem law_loop (hF : law_F p l s m meth c D cy (fun q : Nat => s.heap.size ≤ q) b L xs) : ∀ (f n : Nat), n + f = 513 → 5 * n ≤ L → law_K p l e s m below meth c D cy (fun q : Nat => s.heap.size ≤ q) b (lw_Z below #[Value.ref b] s) n n 23 := by
  obtain ⟨F, hTB, hN, hA, hlt, hX, hbl, hbA, hL⟩ := id hF
  have hx := F.1.1
  have hb := F.1.2.1
  intro f
  induction f with
  | zero => intro n hn h5; omega
  | succ f ih =>
    intro n hn h5 ad X T o H locs ls hg hxr hj hw hS hl
    refine lv_iload hx hb dL_law_23 (lv_at hl 4 rfl) ?_
    refine lv_aload_n hx hb dL_law_25 rfl (lv_at hl 0 rfl) ?_
    refine va_slen hx hb hX hbl hbA hS dL_law_26 ?_
    rw [iI_len L (by omega)]
    refine wa_const F dL_law_27 ?_
    refine wa_sub F dL_law_28 ?_
    refine wa_ic_gt (tgt := 1482) F dL_law_29 (by decide) ⟨by omega, by omega⟩ ⟨by omega, by omega⟩ (fun c1 => ?_) (fun c1 => ?_)
    · refine lv_iconst (v := 1) hx hb dL_law_1482 (by decide) ?_
      refine va_forget (fun q hq => hS.2.2 q hq) ?_
      refine W.widen (k := room_1.cells) (n := room_1.slots) (Nat.le_trans (show _ ≤ 100000 by omega) (Nat.le_of_ble_eq_true rfl)) (Nat.le_trans (show _ ≤ 1000000 by omega) (Nat.le_of_ble_eq_true rfl)) ?_
      exact lw_ret hx hb F.2.2.1 F.2.2.2.1 dL_law_1483
    · have h55 : 5 * n + 5 ≤ L := by omega
      have hn9 : n ≤ 511 := by omega
      have hK : law_K p l e s m below meth c D cy (fun q : Nat => s.heap.size ≤ q) b (lw_Z below #[Value.ref b] s) (n + 1) n 1476 := by
        intro ad X T o H locs ls hg hxr hj hw hS hl
        refine wa_inc (k := 4) (b := ((5 * (n + 1) : Nat) : Int)) (lv' := [(4, .int (iI ((5 * (n + 1) : Nat) : Int))), (0, .ref b), (1, .ref (ad 0 0)), (2, .ref (ad 6 0)), (3, .ref (ad 7 0))]) F dL_law_1476 hl rfl (by omega) (by decide) rfl (fun ls hl => ?_)
        refine wa_goto (tgt := 23) F dL_law_1479 (by decide) ?_
        exact ih (n + 1) (by omega) (by omega) ad X T o H locs ls hg hxr hj hw hS (lv_sub hl [1, 2, 3, 4, 0] rfl)
      refine lv_aload_n hx hb dL_law_32 rfl (lv_at hl 0 rfl) ?_
      refine lv_iload hx hb dL_law_33 (lv_at hl 4 rfl) ?_
      refine wl_sld (j := 5 * n) hF hS rfl rfl (by omega) dL_law_35 ?_
      refine wa_bi F dL_law_36 (by decide +kernel) ?_
      refine lv_iand hx hb dL_law_38 ?_
      obtain ⟨k, hk, ek⟩ := law_31 (iI (xs (5 * n)).toInt)
      rw [ek]
      have et : (iI (k : Int)).toInt = (k : Int) := iI_t ⟨by omega, by omega⟩
      by_cases h24 : 24 ≤ k
      · refine lv_tableOut (tgt := 1476) hx hb dL_law_39 (by rw [et]; omega) (by decide) ?_
        have hpk : gi (n + 1) T := by
          obtain ⟨g0, g1, g2, g3, g4, g5, g6, g7, g8, g9, g10⟩ := id hg
          exact ⟨g0, g1, g2, g3, g4, g5, g6, g7, g8, ⟨g9.1, by omega⟩, fun j => by have := g10 j; omega⟩
        refine W.widen (k := 60 + 20 * (n + 1)) (n := 4000 + 120 * (n + 1)) (by omega) (by omega) ?_
        exact hK ad X T o H locs ls hpk hxr hj hw hS hl
      · have hcase : ∀ (j : Nat) (off : Int) (tg : Nat), k = j → (#[109, 165, 233, 301, 357, 401, 464, 527, 540, 553, 609, 665, 756, 812, 868, 936, 1008, 1064, 1120, 1200, 1256, 1312, 1368, 1381] : Array Int)[j]? = some off → ((39 : Nat) : Int) + off = (tg : Int) → law_K p l e s m below meth c D cy (fun q : Nat => s.heap.size ≤ q) b (lw_Z below #[Value.ref b] s) n n tg → W p l e room_1 s m #[Value.ref b] below meth c H locs (60 + 20 * n) (4000 + 120 * n) (lw_Z below #[Value.ref b] s) (F0 m 39 ls [.int (iI (k : Int))]) := by
          intro j off tg hkj ho ht hc
          refine lv_tableIn (off := off) (tgt := tg) hx hb dL_law_39 (by rw [et]; omega) (by rw [et]; omega) (by rw [et, show ((k : Int) - 0).toNat = j by omega]; exact ho) ht ?_
          exact hc ad X T o H locs ls hg hxr hj hw hS hl
        rcases (show k = 0 ∨ k = 1 ∨ k = 2 ∨ k = 3 ∨ k = 4 ∨ k = 5 ∨ k = 6 ∨ k = 7 ∨ k = 8 ∨ k = 9 ∨ k = 10 ∨ k = 11 ∨ k = 12 ∨ k = 13 ∨ k = 14 ∨ k = 15 ∨ k = 16 ∨ k = 17 ∨ k = 18 ∨ k = 19 ∨ k = 20 ∨ k = 21 ∨ k = 22 ∨ k = 23 by omega) with h | h | h | h | h | h | h | h | h | h | h | h | h | h | h | h | h | h | h | h | h | h | h | h
        · exact hcase 0 109 148 h rfl (by decide) (law_c_add hF hn9 h55 hK)
        · exact hcase 1 165 204 h rfl (by decide) (law_c_step hF hn9 h55 hK)
        · exact hcase 2 233 272 h rfl (by decide) (law_c_change hF hn9 h55 hK)
        · exact hcase 3 301 340 h rfl (by decide) (law_c_bake hF hn9 h55 hK)
        · exact hcase 4 357 396 h rfl (by decide) (law_c_bakeAll hF hn9 h55 hK)
        · exact hcase 5 401 440 h rfl (by decide) (law_c_isFresh hF hn9 h55 hK)
        · exact hcase 6 464 503 h rfl (by decide) (law_c_isFreshAnew hF hn9 h55 hK)
        · exact hcase 7 527 566 h rfl (by decide) (law_c_layers hF hn9 h55 hK)
        · exact hcase 8 540 579 h rfl (by decide) (law_c_bakes hF hn9 h55 hK)
        · exact hcase 9 553 592 h rfl (by decide) (law_c_latest hF hn9 h55 hK)
        · exact hcase 10 609 648 h rfl (by decide) (law_c_top hF hn9 h55 hK)
        · exact hcase 11 665 704 h rfl (by decide) (law_c_test hF hn9 h55 hK)
        · exact hcase 12 756 795 h rfl (by decide) (law_c_hold hF hn9 h55 hK)
        · exact hcase 13 812 851 h rfl (by decide) (law_c_raise hF hn9 h55 hK)
        · exact hcase 14 868 907 h rfl (by decide) (law_c_copy hF hn9 h55 hK)
        · exact hcase 15 936 975 h rfl (by decide) (law_c_setRules hF hn9 h55 hK)
        · exact hcase 16 1008 1047 h rfl (by decide) (law_c_pass hF hn9 h55 hK)
        · exact hcase 17 1064 1103 h rfl (by decide) (law_c_state hF hn9 h55 hK)
        · exact hcase 18 1120 1159 h rfl (by decide) (law_c_start hF hn9 h55 hK)
        · exact hcase 19 1200 1239 h rfl (by decide) (law_c_renew hF hn9 h55 hK)
        · exact hcase 20 1256 1295 h rfl (by decide) (law_c_stop hF hn9 h55 hK)
        · exact hcase 21 1312 1351 h rfl (by decide) (law_c_runsFrom hF hn9 h55 hK)
        · exact hcase 22 1368 1407 h rfl (by decide) (law_c_old hF hn9 h55 hK)
        · exact hcase 23 1381 1420 h rfl (by decide) (law_c_oldAt hF hn9 h55 hK)
end WLO
