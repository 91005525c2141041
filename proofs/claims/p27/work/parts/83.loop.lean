/-! THE CLAIM OUT OF ONE WALK OF THE LAW'S BODY. Your part is whole_start (and what it stands on); all else here is the same for every law, but numbers. -/
def R_law : String := "ImageBakerLaw"
def lw_P (b : Addr) (xs : List Int32) (args : Array Value) (s : State) : Prop := args = #[.ref b] ∧ s.IntsAt b xs ∧ xs.length ≤ 260 ∧ (Jvm.Cond.and given_1 narrow_1).before args s = true
def lw_Q (_ : Array Value) (s : State) (o : Outcome) (t : State) : Prop := o = .returned (some (.int 1)) ∧ Framed s o t [] room_1.cells room_1.slots
def lw_Z (below : List Frame) (a : Array Value) (s : State) : State → Prop := fun t => ∃ o, t.status = .running ∧ Ended t below o ∧ lw_Q a s o t
/-- the law's own end, with 1 on the stack, nothing written that was there before, its room as the claim has it -/
theorem lw_ret {p : Program} {l : Launch} {e : Env} {s : State} {m : MethodId} {below : List Frame} {meth : Method} {c : Code} {b : Nat} (hx : p.tables.exec = Jvm.exec) (hb : c.code = code) (hr : meth.sig.returnType = ret) (hlocks : meth.locks = false) {pc : Nat} {H : Heap} {ls : Array Slot} (hdg : decode code pc = .ok (.ireturn, 1)) : W p l e room_1 s m #[Value.ref b] below meth c H [] room_1.cells room_1.slots (lw_Z below #[Value.ref b] s) (F0 m pc ls [.int 1]) := by
  intro T hT X
  obtain ⟨fs, hret, hrun, hended, hW, hframe⟩ := X.leave (v := some (.int 1)) (hlocks := hlocks) (fun h => by rw [hr] at h; cases h)
  have hmeth' : T.vm.method? m = some meth := X.method'
  refine ⟨T.setFrames fs, ?_, .returned (some (.int 1)), hrun, hended, rfl, ⟨_, rfl⟩, hW, hframe⟩
  jvm_step X.here [X.here.top, hx, hb, hdg, hmeth', hr, ret, narrow_b1]
  (try refine ⟨rfl, ?_⟩); (try refine ⟨rfl, ?_⟩)
  first | (intro acts; rw [hret _ acts rfl rfl rfl]) | rw [hret _ _ rfl rfl rfl]
  exact Steps.refl _
/-- what holds at the law's entry: the machine, the code, the tables' words (any of lw_tbl by 'hts w (by decide +kernel)'), the script of L ints xs at the cell b, what the Statement gives of the start (any of its parts by flat_of_before) -/
def lw_At (p : Program) (s : State) (m : MethodId) (meth : Method) (c : Code) (b L : Nat) (xs : Nat → Int32) : Prop :=
  p.tables.exec = Jvm.exec ∧ c.code = code ∧ meth.sig.returnType = ret ∧ c.maxLocals = 21 ∧ s.vm.findClass R_law = some m.cls ∧ (∀ w ∈ lw_tbl, w.before #[Value.ref b] s = true) ∧ va_X b L xs s s.heap ∧ b < s.heap.size ∧ meth.locks = false ∧ (Jvm.Cond.and given_1 narrow_1).before #[Value.ref b] s = true
theorem wl_sld {p : Program} {l : Launch} {e : Env} {s : State} {m : MethodId} {below : List Frame} {meth : Method} {c : Code} {H : Heap} {locs : List Loc} {cells slots : Nat} {Q : State → Prop} {pc : Nat} {ls : Array Slot} {rest : List Value} {D : va_G} {A : Nat → Prop} {cy : Nat → ClassId} {b L : Nat} {xs : Nat → Int32} {z v : Int} {j : Nat} (hF : law_F p l s m meth c D cy A b L xs) (hS : va_S A s.heap H locs) (hv : v = (xs j).toInt) (hz : z = (j : Int)) (hj : j < L) (hdg : decode cL_law pc = .ok (.iaload, 1))
    (kk : W p l e room_1 s m #[Value.ref b] below meth c H locs cells slots Q (F0 m (pc + 1) ls (.int (iI v) :: rest))) : W p l e room_1 s m #[Value.ref b] below meth c H locs cells slots Q (F0 m pc ls (.int (iI z) :: .ref b :: rest)) := by
  obtain ⟨F, -, -, -, -, hX, hbl, hbA, hL⟩ := hF
  exact va_sld F.1.1 F.1.2.1 hX hbl hbA hS (iI_in hz hj (by omega)) hdg (by rw [iI_cl hz (by omega), ← iI_as (xs j), ← hv]; exact kk)
section WLO
variable {p : Program} {l : Launch} {e : Env} {s : State} {m : MethodId} {below : List Frame} {meth : Method} {c : Code}
variable {D : va_G} {cy : Nat → ClassId} {b L : Nat} {xs : Nat → Int32} {o : Int64} {tn : Int}
set_option maxRecDepth 100000 in
set_option maxHeartbeats 4000000 in
/-- the law's loop, at the head of turn t -/
theorem law_loop (hF : law_F p l s m meth c D cy (fun q : Nat => s.heap.size ≤ q) b L xs) (htn9 : 0 ≤ tn ∧ tn ≤ 280) : ∀ (f t : Nat), ((t + f : Nat) : Int) = tn → ∀ (ad : Nat → Nat → Nat) (X T G : wa_St) (H : Heap) (locs : List Loc) (ls : Array Slot), gi (2 * t) T → mg T → LG T G → ic t T → xr T X → wa_wj (fun q : Nat => s.heap.size ≤ q) ad (wW cy ad T X G o) → wa_wd D ad (wW cy ad T X G o) H → va_S (fun q : Nat => s.heap.size ≤ q) s.heap H locs → lv_has ls 21 [(0, .ref b), (1, .ref (ad 0 0)), (2, .ref (ad 6 0)), (3, .ref (ad 6 1)), (4, .ref (ad 6 2)), (5, .int (iI (T 8 0))), (6, .int (iI (T 29 0))), (7, .int (iI 1)), (8, .int (iI tn)), (9, .int (iI (t : Int)))] → W p l e room_1 s m #[Value.ref b] below meth c H locs (400 + 700 * t) (4000 + 4200 * t) ((lw_Z below #[Value.ref b] s)) (F0 m 73 ls []) := by
  obtain ⟨F, hTB, hN, hA, hlt, hX, hbl, hbA, hL⟩ := id hF
  obtain ⟨hx, hb, hml, hown, hts⟩ := id F.1
  have htn : -100000 ≤ tn ∧ tn ≤ 100000 := ⟨by omega, by omega⟩
  intro f
  induction f with
  | zero =>
    intro t htf ad X T G H locs ls hg hm hG h3 hxr hj hw hS hl
    obtain ⟨hB, w8, w21, w12, w29, w4, w7, w6, w5, w13, w25, w26, w28, w14, w3, wf17⟩ := id hg.1
    refine lv_iload hx hb dL_law_73 (lv_at hl 9 rfl) ?_
    refine lv_iload hx hb dL_law_75 (lv_at hl 8 rfl) ?_
    refine wa_ic_ge (tgt := 1836) F dL_law_77 (by decide) (by exact ⟨by omega, by omega⟩) (by have q0 := htn; exact ⟨by omega, by omega⟩) (fun c77 => ?_) (fun c77 => absurd c77 (by omega))
    refine lv_iload hx hb dL_law_1836 (lv_at hl 7 rfl) ?_
    rw [show iI 1 = (1 : Int32) from by decide +kernel]
    refine va_forget (fun q hq => hS.2.2 q hq) ?_
    refine W.widen (k := room_1.cells) (n := room_1.slots) (Nat.le_trans (show _ ≤ 300000 by omega) (Nat.le_of_ble_eq_true rfl)) (Nat.le_trans (show _ ≤ 2000000 by omega) (Nat.le_of_ble_eq_true rfl)) ?_
    exact lw_ret hx hb F.2.2.1 F.2.2.2.1 dL_law_1838
  | succ f ih =>
    intro t htf ad X T G H locs ls hg hm hG h3 hxr hj hw hS hl
    obtain ⟨hB, w8, w21, w12, w29, w4, w7, w6, w5, w13, w25, w26, w28, w14, w3, wf17⟩ := id hg.1
    have ht : t < 280 := by omega
    have hE : law_E p l e s m below meth c D cy (fun q : Nat => s.heap.size ≤ q) b (lw_Z below #[Value.ref b] s) o tn t := by
      intro ad X T G H locs ls hg hm hG h3 hxr hj hw hS hl
      obtain ⟨hB, w8, w21, w12, w29, w4, w7, w6, w5, w13, w25, w26, w28, w14, w3, wf17⟩ := id hg.1
      refine lv_iload hx hb dL_law_1799 (lv_at hl 7 rfl) ?_
      refine wa_if_eq (tgt := 1827) F dL_law_1801 (by decide) (by decide) (fun c1801 => absurd c1801 (by decide)) (fun c1801 => ?_)
      refine lv_aload_n hx hb dL_law_1804 rfl (lv_at hl 1 rfl) ?_
      refine lv_aload_n hx hb dL_law_1805 rfl (lv_at hl 2 rfl) ?_
      refine lv_iload hx hb dL_law_1806 (lv_at hl 5 rfl) ?_
      refine wx_ci (wl_runS0 F hTB hS (c_L_areImages l hlt D cy ad T X G o _ hj hA hg hxr hG) (wa_wS qw_540 qw_541 qw_30 qw_542) rfl ⟨by decide, by decide, rfl⟩ ⟨by decide, by decide⟩ ⟨rfl, rfl⟩ hw rfl rfl (Nat.le_of_ble_eq_true rfl) hl.1 dL_law_1808 ⟨Nat.le_trans (show _ ≤ 300000 by omega) (Nat.le_of_ble_eq_true rfl), Nat.le_trans (show _ ≤ 2000000 by omega) (Nat.le_of_ble_eq_true rfl)⟩) hS (fun X H locs hxr hw hS => ?_)
      have hj : wa_wj (fun q : Nat => s.heap.size ≤ q) ad (wW cy ad T X G o) := wj_of hj rfl rfl rfl
      refine wa_if_eq (tgt := 1827) F dL_law_1811 (by decide) (by decide) (fun c1811 => absurd c1811 (by decide)) (fun c1811 => ?_)
      refine lv_aload_n hx hb dL_law_1814 rfl (lv_at hl 1 rfl) ?_
      refine lv_iload hx hb dL_law_1815 (lv_at hl 6 rfl) ?_
      refine wx_ci (wl_runS0 F hTB hS (c_L_areMachines l hlt D cy ad T X G o _ hj hA hg hxr hm) (wa_wS qw_568 qw_569 qw_30 qw_570) rfl ⟨by decide, by decide, rfl⟩ ⟨by decide, by decide⟩ ⟨rfl, rfl⟩ hw rfl rfl (Nat.le_of_ble_eq_true rfl) hl.1 dL_law_1817 ⟨Nat.le_trans (show _ ≤ 300000 by omega) (Nat.le_of_ble_eq_true rfl), Nat.le_trans (show _ ≤ 2000000 by omega) (Nat.le_of_ble_eq_true rfl)⟩) hS (fun X H locs hxr hw hS => ?_)
      have hj : wa_wj (fun q : Nat => s.heap.size ≤ q) ad (wW cy ad T X G o) := wj_of hj rfl rfl rfl
      refine wa_if_eq (tgt := 1827) F dL_law_1820 (by decide) (by decide) (fun c1820 => absurd c1820 (by decide)) (fun c1820 => ?_)
      refine wa_const F dL_law_1823 ?_
      refine wa_goto (tgt := 1828) F dL_law_1824 (by decide) ?_
      refine lv_istore (lv' := [(7, .int (iI 1)), (0, .ref b), (1, .ref (ad 0 0)), (2, .ref (ad 6 0)), (3, .ref (ad 6 1)), (4, .ref (ad 6 2)), (5, .int (iI (T 8 0))), (6, .int (iI (T 29 0))), (8, .int (iI tn)), (9, .int (iI (t : Int)))]) hx hb dL_law_1828 hl (by decide) rfl (fun ls hl => ?_)
      refine wa_inc (k := 9) (b := ((t + 1) : Int)) (lv' := [(9, .int (iI ((t + 1) : Int))), (7, .int (iI 1)), (0, .ref b), (1, .ref (ad 0 0)), (2, .ref (ad 6 0)), (3, .ref (ad 6 1)), (4, .ref (ad 6 2)), (5, .int (iI (T 8 0))), (6, .int (iI (T 29 0))), (8, .int (iI tn))]) F dL_law_1830 hl rfl (by omega) (by decide) rfl (fun ls hl => ?_)
      refine wa_goto (tgt := 73) F dL_law_1833 (by decide) ?_
      refine W.widen (k := 400 + 700 * (t + 1)) (n := 4000 + 4200 * (t + 1)) (by omega) (by omega) ?_
      exact ih (t + 1) (by omega) ad X T G _ _ ls (hg.le (by omega)) hm hG h3 hxr hj hw hS (lv_sub hl [2, 3, 4, 5, 6, 7, 8, 1, 9, 0] rfl)
    refine lv_iload hx hb dL_law_73 (lv_at hl 9 rfl) ?_
    refine lv_iload hx hb dL_law_75 (lv_at hl 8 rfl) ?_
    refine wa_ic_ge (tgt := 1836) F dL_law_77 (by decide) (by exact ⟨by omega, by omega⟩) (by have q0 := htn; exact ⟨by omega, by omega⟩) (fun c77 => absurd c77 (by omega)) (fun c77 => ?_)
    refine lv_iload hx hb dL_law_80 (lv_at hl 7 rfl) ?_
    refine wa_if_eq (tgt := 1836) F dL_law_82 (by decide) (by decide) (fun c82 => absurd c82 (by decide)) (fun c82 => ?_)
    refine lv_iload hx hb dL_law_85 (lv_at hl 9 rfl) ?_
    refine lv_aload_n hx hb dL_law_87 rfl (lv_at hl 0 rfl) ?_
    refine va_slen hx hb hX hbl hbA hS dL_law_88 ?_
    rw [iI_len L (by omega)]
    refine wa_ic_ge (tgt := 99) F dL_law_89 (by decide) (by exact ⟨by omega, by omega⟩) (by exact ⟨by omega, by omega⟩) (fun c89 => ?_) (fun c89 => ?_)
    · skip
      refine lv_ldc (own := "ImageBakerLaw") hx hb hown (hts _ qw_595) dL_law_99 ?_
      rw [show (1590017 : Int32) = iI 1590017 from by decide +kernel]
      refine lv_iload hx hb dL_law_101 (lv_at hl 9 rfl) ?_
      refine wa_mul F dL_law_103 ?_
      refine lv_iload hx hb dL_law_104 (lv_at hl 9 rfl) ?_
      refine wa_mul F dL_law_106 ?_
      refine lv_ldc (own := "ImageBakerLaw") hx hb hown (hts _ qw_596) dL_law_107 ?_
      rw [show (53017 : Int32) = iI 53017 from by decide +kernel]
      refine lv_iload hx hb dL_law_109 (lv_at hl 9 rfl) ?_
      refine wa_mul F dL_law_111 ?_
      refine wa_add F dL_law_112 ?_
      refine wa_bi F dL_law_113 (by decide +kernel) ?_
      refine wa_add F dL_law_115 ?_
      obtain ⟨x, ex, rx⟩ : ∃ x : Int, iI ((((1590017 * (t : Int)) * (t : Int)) + (53017 * (t : Int))) + 78) = iI x ∧ wa_r x := ⟨(iI ((((1590017 * (t : Int)) * (t : Int)) + (53017 * (t : Int))) + 78)).toInt, (iI_as _).symm, iI_rng _⟩
      rw [ex]
      exact law_116 hF hE ht htn hg hm hG h3 hxr hj hw hS rx (lv_sub hl [0, 1, 2, 3, 4, 5, 6, 7, 8, 9] rfl)
    · skip
      refine lv_aload_n hx hb dL_law_92 rfl (lv_at hl 0 rfl) ?_
      refine lv_iload hx hb dL_law_93 (lv_at hl 9 rfl) ?_
      obtain ⟨x, hx9⟩ : ∃ x : Int, x = (xs t).toInt := ⟨_, rfl⟩
      have rx : wa_r x := by rw [hx9]; exact iI_rng _
      refine wl_sld (j := t) hF hS hx9 rfl (by omega) dL_law_95 ?_
      refine wa_goto (tgt := 116) F dL_law_96 (by decide) ?_
      exact law_116 hF hE ht htn hg hm hG h3 hxr hj hw hS rx (lv_sub hl [0, 1, 2, 3, 4, 5, 6, 7, 8, 9] rfl)
end WLO
