/-! the law: from its entry to the loop (laid by program) -/
section WLN2
variable {p : Program} {l : Launch} {e : Env} {R : Room} {s : State} {m : MethodId} {args : Array Value} {below : List Frame} {meth : Method} {c : Code} {H : Heap} {locs : List Loc} {cells slots : Nat} {Q : State → Prop}
variable {cc : ByteArray} {pc : Nat} {ls : Array Slot} {rest st0 : List Value} {D : va_G} {A : Nat → Prop} {H0 : Heap} {cy : Nat → ClassId} {ad : Nat → Nat → Nat} {C : wa_C} {nL : Nat} {own nm : String} {ret : Option FieldType}
variable {y : MethodName} {bytes : ByteArray} {maxL n index : Nat} {rm : Room} {Pre : Heap → Prop} {Qc : Array Value → State → Outcome → State → Prop} {free : Addr → Prop} {As : List Value} {mc ms : Nat}
theorem nL_8 (kd i : Nat) (F : wa_fx p s m c meth args cc nL "ImageBakerLaw" nm ret D cy) (hw : wa_wd D ad C H) (hj : wa_wj A ad C) (hS : va_S A H0 H locs) (hA : A H.size) (hn : C kd i = none) (hcells : cells + 1 ≤ R.cells) (hslots : slots + 17 ≤ R.slots) (hdg : decode cc pc = .ok (.new 8, 3)) (kk : ∀ (q : Nat) (H1 : Heap), wa_wd D (wa_ad ad kd i q) (wa_up C kd i (.inr (4, [.null, .null, .null, .null, .int 0, .null, .int 0, .null, .int 0, .int 0, .null, .int 0, .int 0, .null, .null, .null, .null]))) H1 → wa_wj A (wa_ad ad kd i q) (wa_up C kd i (.inr (4, [.null, .null, .null, .null, .int 0, .null, .int 0, .null, .int 0, .int 0, .null, .int 0, .int 0, .null, .null, .null, .null]))) → va_S A H0 H1 locs → W p l e R s m args below meth c H1 locs (cells + 1) (slots + 17) Q (F0 m (pc + 3) ls (.ref q :: rest))) : W p l e R s m args below meth c H locs cells slots Q (F0 m pc ls (rest)) := wa_newO kd i F hw hj hS hA hn inF4 tyX4 tyX4_ok rfl qw_42 qw_43 qw_31 (by decide) hcells hslots hdg kk
theorem kL_84 {rm : Room} {Pre : Heap → Prop} {Qc : Array Value → State → Outcome → State → Prop} {free : Addr → Prop} {As : List Value} {mc ms : Nat} {b : Nat} (F : wa_fx p s m c meth args cc nL "ImageBakerLaw" nm ret D cy) (hM : Met l yX4_init wX4_init rm (wa_pc (.ref b :: As) D cy Pre) Qc mc ms free) (hR : wa_rm rm R 2) (hz : rm.cells = mc ∧ rm.slots = ms) (hP : Pre H) (hn : As.length = 0) (hst : st0 = As.reverse ++ .ref b :: rest) (hW : (rest.map fun v => v.category).sum ≤ 8) (hls : ls.size = nL) (hdg : decode cc pc = .ok (.invokespecial 84, 3)) (hf : cells + mc ≤ R.cells ∧ slots + ms ≤ R.slots) : va_Run p l e R s m args below meth c H locs cells slots mc ms (F0 m pc ls st0) rest (Qc (Value.ref b :: As).toArray) free := wa_runI F hM (wa_w1 qw_46) qw_44 qw_31 qw_45 rfl ⟨by decide, by decide, rfl⟩ hR hz hP hn hst hW hls hdg hf
end WLN2
theorem law_flag (l : Launch) (h : l.flags = flags0) : l.stackTraces = false := by
  unfold Launch.stackTraces
  rw [h]
  decide +kernel
theorem law_SB {s : State} {b : Nat} (hts : ∀ w ∈ lw_tbl, w.before #[Value.ref b] s = true) : ∃ (D : va_G) (cy : Nat → ClassId), wa_SB D cy s := by
  have hts' : ∀ w ∈ wa_ALL, w.before #[Value.ref b] s = true := fun w hw => hts w (List.mem_filter.mp hw).1
  have hN : ∀ w ∈ wa_NST, va_Nw w s := by
    intro w hw
    obtain ⟨h1, hn⟩ := List.mem_filter.mp hw
    have h : w.before #[Value.ref b] s = true := hts w (List.mem_append_right _ h1)
    cases w <;> first | exact va_Nw.of rfl h | exact h | (simp [wa_isNest] at hn; done)
  obtain ⟨c0, i0, k0⟩ := u_known (C := RX0) (T := TX0) (N := 9) (n := 9) hts' inF0 (hts' _ qw_371)
  obtain ⟨c1, i1, k1⟩ := u_known (C := RX1) (T := TX1) (N := 6) (n := 6) hts' inF1 (hts' _ qw_221)
  obtain ⟨c2, i2, k2⟩ := u_known (C := RX2) (T := TX2) (N := 4) (n := 4) hts' inF2 (hts' _ qw_51)
  obtain ⟨c3, i3, k3⟩ := u_known (C := RX3) (T := TX3) (N := 5) (n := 5) hts' inF3 (hts' _ qw_493)
  obtain ⟨c4, i4, k4⟩ := u_known (C := RX4) (T := TX4) (N := 17) (n := 17) hts' inF4 (hts' _ qw_43)
  obtain ⟨a0, f0, p0, u0, v0, w0⟩ := Cond.arrayClass_spec (hts' _ qw_70)
  obtain ⟨p2, a2, f2, u2, t2, v2, w2, x2⟩ := Cond.arrayOver_spec (va_AO.use (A := #[]) (hN _ qn_44))
  obtain ⟨p3, a3, f3, u3, t3, v3, w3, x3⟩ := Cond.arrayOver_spec (va_AO.use (A := #[]) (hN _ qn_42))
  obtain ⟨p4, a4, f4, u4, t4, v4, w4, x4⟩ := Cond.arrayOver_spec (va_AO.use (A := #[]) (hN _ qn_46))
  refine ⟨(fun k => if k = 0 then c0 else if k = 1 then c1 else if k = 2 then c2 else if k = 3 then c3 else c4, fun k => if k = 0 then i0 else if k = 1 then i1 else if k = 2 then i2 else if k = 3 then i3 else i4), fun k => if k = 0 then a0 else if k = 1 then a0 else if k = 2 then a2 else if k = 3 then a3 else a4, fun w hw => pay_in hts' wa_good w hw #[] s (State.WarmedH.refl s), hN, ?_, ?_⟩
  · intro k q hq
    match k, hq with
    | 0, hq => cases hq; exact k0
    | 1, hq => cases hq; exact k1
    | 2, hq => cases hq; exact k2
    | 3, hq => cases hq; exact k3
    | 4, hq => cases hq; exact k4
    | k + 5, hq => cases hq
  · intro k q hq
    match k, hq with
    | 0, hq => cases hq; exact ⟨fun n z => ⟨fun k h => (by cases h), f0, v0, p0, w0⟩, u0⟩
    | 1, hq => cases hq; exact ⟨fun n z => ⟨fun k h => (by cases h), f0, v0, p0, w0⟩, u0⟩
    | 2, hq => cases hq; exact ⟨fun n z => ⟨fun k h => (by cases h), f2, v2, p2, w2⟩, f2, p2, v2, w2, u2, x2⟩
    | 3, hq => cases hq; exact ⟨fun n z => ⟨fun k h => (by cases h), f3, v3, p3, w3⟩, f3, p3, v3, w3, u3, x3⟩
    | 4, hq => cases hq; exact ⟨fun n z => ⟨fun k h => (by cases h), f4, v4, p4, w4⟩, f4, p4, v4, w4, u4, x4⟩
    | k + 5, hq => cases hq
theorem law_N {s : State} {b : Nat} (hgv : (Jvm.Cond.and given_1 narrow_1).before #[Value.ref b] s = true) : wl_N s := by
  have hs := flat_of_before _ hgv
  exact va_Nc.of (hs _ (by decide +kernel))
theorem law_TB {s : State} {b : Nat} (hts : ∀ w ∈ lw_tbl, w.before #[Value.ref b] s = true) (hgv : (Jvm.Cond.and given_1 narrow_1).before #[Value.ref b] s = true) : wx_TB (fun q : Nat => s.heap.size ≤ q) s s.heap := by
  have hs := flat_of_before _ hgv
  have hA : ∀ a : Nat, a < s.heap.size → ¬ (fun q : Nat => s.heap.size ≤ q) a := fun a h => Nat.not_le.mpr h
  have key : ∀ (k : Nat) (tx : String), (Cond.stringRef "ImageBaker" k tx).before #[Value.ref b] s = true → (Cond.exactly (.string "ImageBaker" k) "java/lang/String").before #[Value.ref b] s = true → ∃ sa : Nat, vk_R "ImageBaker" k tx sa s := by
    intro k tx h1 h2
    obtain ⟨a, c, cA, kA, q1, -⟩ := Cond.exactly_spec (args := #[Value.ref b]) (first := s) (o := none) (s := s) (idx := []) (t := .string "ImageBaker" k) (cls := "java/lang/String") h2
    exact ⟨a, vk_R.of h1 q1⟩
  refine ⟨vx_Zqof (hts _ (List.mem_of_getElem? (i := 164) (by decide +kernel))) (hts _ (List.mem_of_getElem? (i := 33) (by decide +kernel))) (hs _ (by decide +kernel)) hA, vx_Zqof (hts _ (List.mem_of_getElem? (i := 166) (by decide +kernel))) (hts _ (List.mem_of_getElem? (i := 33) (by decide +kernel))) (hs _ (by decide +kernel)) hA, ?_⟩
  exact List.forall_mem_cons.mpr ⟨key 72 "there are 10 images" (hts _ (List.mem_of_getElem? (i := 214) (by decide +kernel))) (hs _ (by decide +kernel)), List.forall_mem_cons.mpr ⟨key 85 "input is out of range" (hts _ (List.mem_of_getElem? (i := 461) (by decide +kernel))) (hs _ (by decide +kernel)), List.forall_mem_cons.mpr ⟨key 92 "the image has 5 steps" (hts _ (List.mem_of_getElem? (i := 466) (by decide +kernel))) (hs _ (by decide +kernel)), List.forall_mem_cons.mpr ⟨key 97 "version is neither new nor an earlier one" (hts _ (List.mem_of_getElem? (i := 475) (by decide +kernel))) (hs _ (by decide +kernel)), List.forall_mem_cons.mpr ⟨key 107 "the parent was not baked" (hts _ (List.mem_of_getElem? (i := 356) (by decide +kernel))) (hs _ (by decide +kernel)), List.forall_mem_cons.mpr ⟨key 116 "there were 60 bakes" (hts _ (List.mem_of_getElem? (i := 357) (by decide +kernel))) (hs _ (by decide +kernel)), List.forall_mem_cons.mpr ⟨key 130 "there would be more than 60 bakes" (hts _ (List.mem_of_getElem? (i := 440) (by decide +kernel))) (hs _ (by decide +kernel)), List.forall_mem_cons.mpr ⟨key 152 "the bake is gone" (hts _ (List.mem_of_getElem? (i := 453) (by decide +kernel))) (hs _ (by decide +kernel)), List.forall_mem_cons.mpr ⟨key 160 "the bake is gone or held" (hts _ (List.mem_of_getElem? (i := 412) (by decide +kernel))) (hs _ (by decide +kernel)), List.forall_mem_cons.mpr ⟨key 168 "the bake cannot be raised" (hts _ (List.mem_of_getElem? (i := 417) (by decide +kernel))) (hs _ (by decide +kernel)), List.forall_mem_cons.mpr ⟨key 170 "place is out of range" (hts _ (List.mem_of_getElem? (i := 304) (by decide +kernel))) (hs _ (by decide +kernel)), List.forall_mem_cons.mpr ⟨key 176 "the bake is gone or was copied there" (hts _ (List.mem_of_getElem? (i := 427) (by decide +kernel))) (hs _ (by decide +kernel)), List.forall_mem_cons.mpr ⟨key 189 "delay is out of range" (hts _ (List.mem_of_getElem? (i := 311) (by decide +kernel))) (hs _ (by decide +kernel)), List.forall_mem_cons.mpr ⟨key 191 "an age is out of range" (hts _ (List.mem_of_getElem? (i := 312) (by decide +kernel))) (hs _ (by decide +kernel)), List.forall_mem_cons.mpr ⟨key 193 "days is out of range" (hts _ (List.mem_of_getElem? (i := 317) (by decide +kernel))) (hs _ (by decide +kernel)), List.forall_mem_cons.mpr ⟨key 202 "place or ring is out of range" (hts _ (List.mem_of_getElem? (i := 483) (by decide +kernel))) (hs _ (by decide +kernel)), List.forall_mem_cons.mpr ⟨key 211 "there is no bake for it, or there were 30 machines" (hts _ (List.mem_of_getElem? (i := 492) (by decide +kernel))) (hs _ (by decide +kernel)), List.forall_mem_cons.mpr ⟨key 228 "there is no bake for it" (hts _ (List.mem_of_getElem? (i := 532) (by decide +kernel))) (hs _ (by decide +kernel)), List.forall_mem_cons.mpr ⟨key 242 "there are not so many" (hts _ (List.mem_of_getElem? (i := 594) (by decide +kernel))) (hs _ (by decide +kernel)), List.forall_mem_cons.mpr ⟨key 245 "there is no such image" (hts _ (List.mem_of_getElem? (i := 178) (by decide +kernel))) (hs _ (by decide +kernel)), List.forall_mem_cons.mpr ⟨key 293 "there never was such a bake" (hts _ (List.mem_of_getElem? (i := 334) (by decide +kernel))) (hs _ (by decide +kernel)), List.forall_mem_cons.mpr ⟨key 298 "there never was such a machine" (hts _ (List.mem_of_getElem? (i := 347) (by decide +kernel))) (hs _ (by decide +kernel)), List.forall_mem_cons.mpr ⟨key 300 "the machine was stopped" (hts _ (List.mem_of_getElem? (i := 531) (by decide +kernel))) (hs _ (by decide +kernel)), fun _ h => absurd h List.not_mem_nil⟩⟩⟩⟩⟩⟩⟩⟩⟩⟩⟩⟩⟩⟩⟩⟩⟩⟩⟩⟩⟩⟩⟩
theorem wf_0 : wf x_S0 := by
  have e : ∀ k j, k ≠ 22 → k ≠ 23 → k ≠ 24 → x_S0 k j = 0 := fun k j h1 h2 h3 => by unfold x_S0; rw [if_neg h1, if_neg h2, if_neg h3]
  refine ⟨fun k j => ?_, ?_, ?_, ?_, ?_, fun i hi => ?_, fun i hi => ?_, fun i => ?_, fun j => ?_, fun b hb => ?_, fun m hm => ?_, fun m hm => ?_, fun m hm => ?_, fun b hb => ?_, fun j => ?_, fun b => ?_⟩
  · unfold x_S0
    (repeat' split) <;> omega
  all_goals try rw [e _ _ (by decide) (by decide) (by decide)] at hi
  all_goals try rw [e _ _ (by decide) (by decide) (by decide)] at hb
  all_goals try rw [e _ _ (by decide) (by decide) (by decide)] at hm
  all_goals (try simp only [e _ _ (by decide : (8 : Nat) ≠ 22) (by decide) (by decide), e _ _ (by decide : (21 : Nat) ≠ 22) (by decide) (by decide), e _ _ (by decide : (12 : Nat) ≠ 22) (by decide) (by decide), e _ _ (by decide : (29 : Nat) ≠ 22) (by decide) (by decide), e 6 _ (by decide) (by decide) (by decide), e 5 _ (by decide) (by decide) (by decide), e 3 _ (by decide) (by decide) (by decide), e 17 _ (by decide) (by decide) (by decide), e 18 _ (by decide) (by decide) (by decide), e 19 _ (by decide) (by decide) (by decide)])
  all_goals omega
theorem gi_0 : gi 0 x_S0 := by
  have e : ∀ k j, k ≠ 22 → k ≠ 23 → k ≠ 24 → x_S0 k j = 0 := fun k j h1 h2 h3 => by unfold x_S0; rw [if_neg h1, if_neg h2, if_neg h3]
  have e8 : x_S0 8 0 = 0 := e 8 0 (by decide) (by decide) (by decide)
  have e12 : x_S0 12 0 = 0 := e 12 0 (by decide) (by decide) (by decide)
  have e21 : x_S0 21 0 = 0 := e 21 0 (by decide) (by decide) (by decide)
  refine ⟨wf_0, ⟨fun j hj => by omega, fun j k hj => by omega⟩, by omega, fun i hi => by omega, fun j _ => e 6 j (by decide) (by decide) (by decide), fun j _ => e 5 j (by decide) (by decide) (by decide), fun b => ?_, fun u => ?_, fun j => ?_, ?_, fun j => ?_⟩
  · rw [e 16 b (by decide) (by decide) (by decide)]; omega
  · rw [e 27 u (by decide) (by decide) (by decide)]; omega
  · show 0 ≤ (1 : Int) ∧ (1 : Int) ≤ 9; omega
  · rw [e 1 0 (by decide) (by decide) (by decide)]; omega
  · rw [e 3 j (by decide) (by decide) (by decide)]; omega
theorem xr_0 : xr x_S0 x_X0 := by
  have e : ∀ k j, k ≠ 22 → k ≠ 23 → k ≠ 24 → x_S0 k j = 0 := fun k j h1 h2 h3 => by unfold x_S0; rw [if_neg h1, if_neg h2, if_neg h3]
  have e8 : x_S0 8 0 = 0 := e 8 0 (by decide) (by decide) (by decide)
  have e12 : x_S0 12 0 = 0 := e 12 0 (by decide) (by decide) (by decide)
  have e29 : x_S0 29 0 = 0 := e 29 0 (by decide) (by decide) (by decide)
  refine ⟨fun j hj => by omega, fun k j => ?_, fun j => ?_, fun j _ => rfl, fun j => ?_, fun j => ?_, fun j => ?_, fun j hj => by omega⟩
  · unfold x_X0
    split <;> omega
  · rw [e8]; show -1 ≤ (-1 : Int) ∧ (-1 : Int) < 0; omega
  · rw [e 9 j (by decide) (by decide) (by decide)]; omega
  · rw [e8]; show -1 ≤ (-1 : Int) ∧ (-1 : Int) < 0; omega
  · rw [e29]; show -1 ≤ (-1 : Int) ∧ (-1 : Int) < 0; omega
theorem wx_C0_ad {cy : Nat → ClassId} {ad ad' : Nat → Nat → Nat} (h : ∀ i, ad' 0 i = ad 0 i) (i : Nat) : wx_C0 cy ad x_S0 x_X0 i = wx_C0 cy ad' x_S0 x_X0 i := by
  have hin : ∀ (kd : Nat) (n : Int), n = 0 → wx_in ad kd n = wx_in ad' kd n := fun kd n hn => funext (fun j => (wx_in_n (by omega)).trans (wx_in_n (by omega)).symm)
  match i with
  | 0 =>
    show (some (.inr (4, wx_fs ad x_S0)) : Option va_E) = some (.inr (4, wx_fs ad' x_S0))
    unfold wx_fs
    simp only [h]
  | 1 =>
    show (some (.inr (2, wx_ls ad x_S0)) : Option va_E) = some (.inr (2, wx_ls ad' x_S0))
    unfold wx_ls
    simp only [h]
  | 2 => rfl
  | 3 => rfl
  | 4 => rfl
  | 5 => rfl
  | 6 => rfl
  | 7 => show some (wa_aR (cy 3) 10 _) = some (wa_aR (cy 3) 10 _); rw [hin 1 (x_S0 8 0) rfl]
  | 8 => show some (wa_aR (cy 2) 60 _) = some (wa_aR (cy 2) 60 _); rw [hin 3 (x_S0 21 0) rfl]
  | 9 => show some (wa_aR (cy 4) 30 _) = some (wa_aR (cy 4) 30 _); rw [hin 5 (x_S0 29 0) rfl]
  | 10 => rfl
  | 11 => rfl
  | 12 => rfl
  | 13 => rfl
  | 14 => rfl
  | n + 15 => rfl
theorem wW_z1 {cy : Nat → ClassId} {ad : Nat → Nat → Nat} {S X T : wa_St} {o : Int64} {i : Nat} (h : ¬ (i : Int) < S 8 0) : wW cy ad S X T o 1 i = none := if_neg h
theorem wW_z2 {cy : Nat → ClassId} {ad : Nat → Nat → Nat} {S X T : wa_St} {o : Int64} {i : Nat} (h : ¬ (i : Int) < S 8 0) : wW cy ad S X T o 2 i = none := if_neg h
theorem wW_z3 {cy : Nat → ClassId} {ad : Nat → Nat → Nat} {S X T : wa_St} {o : Int64} {i : Nat} (h : ¬ (i : Int) < S 21 0) : wW cy ad S X T o 3 i = none := if_neg h
theorem wW_z4 {cy : Nat → ClassId} {ad : Nat → Nat → Nat} {S X T : wa_St} {o : Int64} {i : Nat} (h : ¬ (i : Int) < S 21 0) : wW cy ad S X T o 4 i = none := if_neg h
theorem wW_z5 {cy : Nat → ClassId} {ad : Nat → Nat → Nat} {S X T : wa_St} {o : Int64} {i : Nat} (h : ¬ (i : Int) < S 29 0) : wW cy ad S X T o 5 i = none := if_neg h
/-- the law's rows at the start -/
def g_0 : wa_St := fun _ _ => 0
theorem law_w0 {cy : Nat → ClassId} {ad2 : Nat → Nat → Nat} {r0 r1 r2 : Nat} : (wa_up (wa_up (wa_up (wx_oK 0 (wa_up (fun _ _ => none) 0 0 (.inr (4, [.null, .null, .null, .null, .int 0, .null, .int 0, .null, .int 0, .int 0, .null, .int 0, .int 0, .null, .null, .null, .null]))) (wx_C0 cy ad2 x_S0 x_X0)) 6 0 (wa_aI (cy 0) 10 (fun _ => 0))) 6 1 (wa_aI (cy 0) 10 (fun _ => 0))) 6 2 (wa_aI (cy 0) 10 (fun _ => 0))) = wW cy (wa_ad (wa_ad (wa_ad ad2 6 0 r0) 6 1 r1) 6 2 r2) x_S0 x_X0 g_0 0 := by
  have e8 : x_S0 8 0 = 0 := rfl
  have e21 : x_S0 21 0 = 0 := rfl
  have e29 : x_S0 29 0 = 0 := rfl
  funext kd i
  match kd with
  | 0 =>
    show wx_C0 cy ad2 x_S0 x_X0 i = wx_C0 cy (wa_ad (wa_ad (wa_ad ad2 6 0 r0) 6 1 r1) 6 2 r2) x_S0 x_X0 i
    exact wx_C0_ad (fun i => rfl) i
  | 1 => exact (wW_z1 (S := x_S0) (by rw [e8]; omega)).symm
  | 2 => exact (wW_z2 (S := x_S0) (by rw [e8]; omega)).symm
  | 3 => exact (wW_z3 (S := x_S0) (by rw [e21]; omega)).symm
  | 4 => exact (wW_z4 (S := x_S0) (by rw [e21]; omega)).symm
  | 5 => exact (wW_z5 (S := x_S0) (by rw [e29]; omega)).symm
  | 6 =>
    match i with
    | 0 => rfl
    | 1 => rfl
    | 2 => rfl
    | n + 3 => rfl
  | n + 7 => rfl
theorem LG_0 : LG x_S0 g_0 := by
  have e : ∀ k j, k ≠ 22 → k ≠ 23 → k ≠ 24 → x_S0 k j = 0 := fun k j h1 h2 h3 => by unfold x_S0; rw [if_neg h1, if_neg h2, if_neg h3]
  refine ⟨fun k j => ?_, fun j hj => ?_, fun j hj => ?_, fun j hj => ?_⟩
  · show -2 ≤ (0 : Int) ∧ (0 : Int) ≤ 100000; omega
  · rw [e 4 j (by decide) (by decide) (by decide)]; rfl
  · rw [e 6 j (by decide) (by decide) (by decide)]; rfl
  · rw [e 3 j (by decide) (by decide) (by decide)]; rfl
theorem mg_0 : mg x_S0 := by
  intro m hm
  have e29 : x_S0 29 0 = 0 := rfl
  omega
set_option maxRecDepth 100000 in
set_option maxHeartbeats 4000000 in
theorem whole_start {p : Program} {e : Env} {s : State} {m : MethodId} {below : List Frame} {meth : Method} {c : Code} (l : Launch) (hflags : l.flags = flags0) {b L : Nat} {xs : Nat → Int32} (hL : L ≤ 260) (C0 : lw_At p s m meth c b L xs) : W p l e room_1 s m #[Value.ref b] below meth c s.heap [] 0 0 (lw_Z below #[Value.ref b] s) (entryFrame m ([Value.ref b] : List Value).toArray 21) := by
  obtain ⟨hx, hb, hr, hml, hown, hts, hX, hbl, hlocks, hgv⟩ := id C0
  obtain ⟨D, cy, hSB⟩ := law_SB hts
  have F : wa_fx p s m c meth #[Value.ref b] cL_law 21 RL meth.name ret D cy := ⟨⟨hx, hb, hml, hown, fun w hw => hts w (List.mem_filter.mp hw).1⟩, hSB, hr, hlocks, rfl⟩
  have hA : wa_Up (fun q : Nat => s.heap.size ≤ q) := fun a b h1 h2 => Nat.le_trans h1 h2
  have hTB := law_TB hts hgv
  have hlt := law_flag l hflags
  have hbA : ¬ (fun q : Nat => s.heap.size ≤ q) b := Nat.not_le.mpr hbl
  have hF : law_F p l s m meth c D cy (fun q : Nat => s.heap.size ≤ q) b L xs := ⟨F, hTB, law_N hgv, hA, hlt, hX, hbl, hbA, hL⟩
  have hS : va_S (fun q : Nat => s.heap.size ≤ q) s.heap s.heap [] := va_S.rf
  have hw : wa_wd D (fun _ _ => 0) (fun _ _ => none) s.heap := fun kd i e h => by cases h
  have hj : wa_wj (fun q : Nat => s.heap.size ≤ q) (fun _ _ => 0) (fun _ _ => none) := ⟨fun _ _ _ _ _ _ h => (by cases h), fun _ _ _ h => (by cases h)⟩
  have hl := lv_entry ([.ref b]) (n := 21) (Nat.le_of_ble_eq_true rfl)
  rw [lg_entry_eq]
  generalize (lg_sl ([.ref b]) ++ List.replicate (21 - (lg_sl ([.ref b])).length) Slot.unset).toArray = ls at hl ⊢
  have hl : lv_has ls 21 [(0, .ref b)] := hl
  refine nL_8 0 0 F hw hj hS (Nat.le_refl _) rfl (Nat.le_trans (show _ ≤ 300000 by omega) (Nat.le_of_ble_eq_true rfl)) (Nat.le_trans (show _ ≤ 2000000 by omega) (Nat.le_of_ble_eq_true rfl)) dL_law_0 (fun q8 H hw hj hS => ?_)
  refine lv_dup hx hb dL_law_3 rfl ?_
  refine wa_cV (kL_84 F (c_X4_init l D cy (wa_ad (fun _ _ => 0) 0 0 q8) (wa_up (fun _ _ => none) 0 0 (.inr (4, [.null, .null, .null, .null, .int 0, .null, .int 0, .null, .int 0, .int 0, .null, .int 0, .int 0, .null, .null, .null, .null]))) _ hj hA rfl (fun j => wa_up_n (by omega))) ⟨by decide, by decide⟩ ⟨rfl, rfl⟩ hw rfl rfl (Nat.le_of_ble_eq_true rfl) hl.1 dL_law_4 ⟨Nat.le_trans (show _ ≤ 300000 by omega) (Nat.le_of_ble_eq_true rfl), Nat.le_trans (show _ ≤ 2000000 by omega) (Nat.le_of_ble_eq_true rfl)⟩) hS (fun ad2 H locs hq hw hS hz => ?_)
  obtain ⟨hj, h20, h2k⟩ := hq
  have hw : wa_wd D ad2 (wx_oK 0 (wa_up (fun _ _ => none) 0 0 (.inr (4, [.null, .null, .null, .null, .int 0, .null, .int 0, .null, .int 0, .int 0, .null, .int 0, .int 0, .null, .null, .null, .null]))) (wx_C0 cy ad2 x_S0 x_X0)) H := hw
  have hj : wa_wj (fun q : Nat => s.heap.size ≤ q) ad2 (wx_oK 0 (wa_up (fun _ _ => none) 0 0 (.inr (4, [.null, .null, .null, .null, .int 0, .null, .int 0, .null, .int 0, .int 0, .null, .int 0, .int 0, .null, .null, .null, .null]))) (wx_C0 cy ad2 x_S0 x_X0)) := hj
  refine lv_astore_n (lv' := [(1, .ref q8), (0, .ref b)]) hx hb dL_law_7 rfl hl (by decide) rfl (fun ls hl => ?_)
  refine wa_bi F dL_law_8 (by decide +kernel) ?_
  refine wa_newI (N := 10) 6 0 F hw hj hS hS.1 rfl qw_70 rfl (by decide) (Nat.le_trans (show _ ≤ 300000 by omega) (Nat.le_of_ble_eq_true rfl)) (Nat.le_trans (show _ ≤ 2000000 by omega) (Nat.le_of_ble_eq_true rfl)) dL_law_10 (fun r0 H hw hj hS => ?_)
  refine lv_astore_n (lv' := [(2, .ref r0), (1, .ref q8), (0, .ref b)]) hx hb dL_law_12 rfl hl (by decide) rfl (fun ls hl => ?_)
  refine wa_bi F dL_law_13 (by decide +kernel) ?_
  refine wa_newI (N := 10) 6 1 F hw hj hS hS.1 rfl qw_70 rfl (by decide) (Nat.le_trans (show _ ≤ 300000 by omega) (Nat.le_of_ble_eq_true rfl)) (Nat.le_trans (show _ ≤ 2000000 by omega) (Nat.le_of_ble_eq_true rfl)) dL_law_15 (fun r1 H hw hj hS => ?_)
  refine lv_astore_n (lv' := [(3, .ref r1), (2, .ref r0), (1, .ref q8), (0, .ref b)]) hx hb dL_law_17 rfl hl (by decide) rfl (fun ls hl => ?_)
  refine wa_bi F dL_law_18 (by decide +kernel) ?_
  refine wa_newI (N := 10) 6 2 F hw hj hS hS.1 rfl qw_70 rfl (by decide) (Nat.le_trans (show _ ≤ 300000 by omega) (Nat.le_of_ble_eq_true rfl)) (Nat.le_trans (show _ ≤ 2000000 by omega) (Nat.le_of_ble_eq_true rfl)) dL_law_20 (fun r2 H hw hj hS => ?_)
  refine lv_astore (lv' := [(4, .ref r2), (3, .ref r1), (2, .ref r0), (1, .ref q8), (0, .ref b)]) hx hb dL_law_22 hl (by decide) rfl (fun ls hl => ?_)
  rw [law_w0] at hw hj
  have f0 : (wa_ad (wa_ad (wa_ad ad2 6 0 r0) 6 1 r1) 6 2 r2) 0 0 = q8 := h20
  have f1 : (wa_ad (wa_ad (wa_ad ad2 6 0 r0) 6 1 r1) 6 2 r2) 6 0 = r0 := rfl
  have f2 : (wa_ad (wa_ad (wa_ad ad2 6 0 r0) 6 1 r1) 6 2 r2) 6 1 = r1 := rfl
  have f3 : (wa_ad (wa_ad (wa_ad ad2 6 0 r0) 6 1 r1) 6 2 r2) 6 2 = r2 := rfl
  generalize (wa_ad (wa_ad (wa_ad ad2 6 0 r0) 6 1 r1) 6 2 r2) = ad at *
  have hl : lv_has ls 21 [(4, .ref (ad 6 2)), (3, .ref (ad 6 1)), (2, .ref (ad 6 0)), (1, .ref (ad 0 0)), (0, .ref b)] := by rw [f0, f1, f2, f3]; exact hl
  have hg := gi_0
  have hm := mg_0
  have hG := LG_0
  have hxr := xr_0
  refine wa_const F dL_law_24 ?_
  refine lv_istore (lv' := [(5, .int (iI 0)), (4, .ref (ad 6 2)), (3, .ref (ad 6 1)), (2, .ref (ad 6 0)), (1, .ref (ad 0 0)), (0, .ref b)]) hx hb dL_law_25 hl (by decide) rfl (fun ls hl => ?_)
  refine wa_const F dL_law_27 ?_
  refine lv_istore (lv' := [(6, .int (iI 0)), (5, .int (iI 0)), (4, .ref (ad 6 2)), (3, .ref (ad 6 1)), (2, .ref (ad 6 0)), (1, .ref (ad 0 0)), (0, .ref b)]) hx hb dL_law_28 hl (by decide) rfl (fun ls hl => ?_)
  refine lv_aload_n hx hb dL_law_30 rfl (lv_at hl 5 rfl) ?_
  refine lv_aload_n hx hb dL_law_31 rfl (lv_at hl 4 rfl) ?_
  refine wa_const F dL_law_32 ?_
  refine wx_ci (wl_runS0 F hTB hS (c_L_areImages l hlt D cy ad x_S0 x_X0 g_0 0 _ hj hA hg hxr hG) (wa_wS qw_540 qw_541 qw_30 qw_542) rfl ⟨by decide, by decide, rfl⟩ ⟨by decide, by decide⟩ ⟨rfl, rfl⟩ hw rfl rfl (Nat.le_of_ble_eq_true rfl) hl.1 dL_law_33 ⟨Nat.le_trans (show _ ≤ 300000 by omega) (Nat.le_of_ble_eq_true rfl), Nat.le_trans (show _ ≤ 2000000 by omega) (Nat.le_of_ble_eq_true rfl)⟩) hS (fun X H locs hxr hw hS => ?_)
  have hj : wa_wj (fun q : Nat => s.heap.size ≤ q) ad (wW cy ad x_S0 X g_0 0) := wj_of hj rfl rfl rfl
  refine lv_istore (lv' := [(7, .int (iI 1)), (6, .int (iI 0)), (5, .int (iI 0)), (4, .ref (ad 6 2)), (3, .ref (ad 6 1)), (2, .ref (ad 6 0)), (1, .ref (ad 0 0)), (0, .ref b)]) hx hb dL_law_36 hl (by decide) rfl (fun ls hl => ?_)
  have fin : ∀ tn : Int, 0 ≤ tn ∧ tn ≤ 280 → W p l e room_1 s m #[Value.ref b] below meth c H locs (400 + 700 * 0) (4000 + 4200 * 0) (lw_Z below #[Value.ref b] s) (F0 m 68 ls [.int (iI tn)]) := by
    intro tn htn
    refine lv_istore (lv' := [(8, .int (iI tn)), (7, .int (iI 1)), (6, .int (iI 0)), (5, .int (iI 0)), (4, .ref (ad 6 2)), (3, .ref (ad 6 1)), (2, .ref (ad 6 0)), (1, .ref (ad 0 0)), (0, .ref b)]) hx hb dL_law_68 hl (by decide) rfl (fun ls hl => ?_)
    refine wa_const F dL_law_70 ?_
    refine lv_istore (lv' := [(9, .int (iI 0)), (8, .int (iI tn)), (7, .int (iI 1)), (6, .int (iI 0)), (5, .int (iI 0)), (4, .ref (ad 6 2)), (3, .ref (ad 6 1)), (2, .ref (ad 6 0)), (1, .ref (ad 0 0)), (0, .ref b)]) hx hb dL_law_71 hl (by decide) rfl (fun ls hl => ?_)
    exact law_loop (o := 0) hF htn tn.toNat 0 (by omega) ad X x_S0 g_0 H locs ls hg hm hG ⟨fun _ => rfl, fun z => absurd z (by decide)⟩ hxr hj hw hS (lv_sub hl [9, 8, 7, 6, 5, 4, 3, 2, 1, 0] rfl)
  refine lv_aload_n hx hb dL_law_38 rfl (lv_at hl 7 rfl) ?_
  refine va_slen hx hb hX hbl hbA hS dL_law_39 ?_
  rw [iI_len L (by omega)]
  refine wa_bi F dL_law_40 (by decide +kernel) ?_
  refine wa_ic_ge (tgt := 51) F dL_law_42 (by decide) ⟨by omega, by omega⟩ (by decide) (fun c1 => ?_) (fun c1 => ?_)
  · refine lv_aload_n hx hb dL_law_51 rfl (lv_at hl 7 rfl) ?_
    refine va_slen hx hb hX hbl hbA hS dL_law_52 ?_
    rw [iI_len L (by omega)]
    refine wa_bi F dL_law_53 (by decide +kernel) ?_
    refine wa_ic_ge (tgt := 65) F dL_law_55 (by decide) ⟨by omega, by omega⟩ (by decide) (fun c2 => ?_) (fun c2 => ?_)
    · refine wa_si F dL_law_65 (by decide +kernel) ?_
      refine W.widen (k := 400 + 700 * 0) (n := 4000 + 4200 * 0) (by decide) (by decide) ?_
      exact fin 280 (by decide)
    · refine wa_const F dL_law_58 ?_
      refine lv_aload_n hx hb dL_law_59 rfl (lv_at hl 7 rfl) ?_
      refine va_slen hx hb hX hbl hbA hS dL_law_60 ?_
      rw [iI_len L (by omega)]
      refine wa_mul F dL_law_61 ?_
      refine wa_goto (tgt := 68) F dL_law_62 (by decide) ?_
      refine W.widen (k := 400 + 700 * 0) (n := 4000 + 4200 * 0) (by decide) (by decide) ?_
      exact fin (3 * (L : Int)) ⟨by omega, by omega⟩
  · refine wa_si F dL_law_45 (by decide +kernel) ?_
    refine wa_goto (tgt := 68) F dL_law_48 (by decide) ?_
    refine W.widen (k := 400 + 700 * 0) (n := 4000 + 4200 * 0) (by decide) (by decide) ?_
    exact fin 170 (by decide)
