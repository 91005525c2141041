/-! MY ROWS: calls and ends -/
section WAC
variable {p : Program} {l : Launch} {e : Env} {R : Room} {s : State} {m : MethodId} {args : Array Value} {below : List Frame} {meth : Method} {c : Code} {H : Heap} {locs : List Loc} {cells slots : Nat} {Q : State → Prop}
variable {cc : ByteArray} {pc : Nat} {ls : Array Slot} {rest st0 : List Value} {D : va_G} {A : Nat → Prop} {H0 : Heap} {cy : Nat → ClassId} {ad : Nat → Nat → Nat} {C : wa_C} {nL : Nat} {own nm : String} {ret : Option FieldType}
variable {y : MethodName} {bytes : ByteArray} {maxL n index : Nat} {rety : Option FieldType} {rm : Room} {Pre : Heap → Prop} {Qc : Array Value → State → Outcome → State → Prop} {free : Addr → Prop} {As : List Value} {mc ms : Nat}
/-- a call's words -/
theorem wa_wV {own Cn : String} {idx : Nat} {y : MethodName} {w : Cond} (h1 : Cond.methodLink own idx y ∈ wa_ALL) (h2 : Cond.instanceMethod y ∈ wa_ALL) (h3 : Cond.selects Cn y y ∈ wa_ALL) (h4 : Cond.initialized Cn ∈ wa_ALL) (h5 : w ∈ wa_ALL) : GoodIn wa_ALL (wsV own idx Cn y [w]) := by
  intro x hx
  have : x ∈ wa_ALL := by
    simp only [wsV, List.mem_append, List.mem_cons, List.not_mem_nil, or_false] at hx
    rcases hx with (rfl | rfl | rfl | rfl) | rfl <;> assumption
  exact wa_good x this
theorem wa_wS {own : String} {idx : Nat} {y : MethodName} {w : Cond} (h1 : Cond.methodLink own idx y ∈ wa_ALL) (h2 : Cond.static y ∈ wa_ALL) (h4 : Cond.initialized own ∈ wa_ALL) (h5 : w ∈ wa_ALL) : GoodIn wa_ALL (wsS own idx y [w]) := by
  intro x hx
  have : x ∈ wa_ALL := by
    simp only [wsS, List.mem_append, List.mem_cons, List.not_mem_nil, or_false] at hx
    rcases hx with (rfl | rfl | rfl) | rfl <;> assumption
  exact wa_good x this
theorem wa_w1 {w : Cond} (h5 : w ∈ wa_ALL) : GoodIn wa_ALL [w] := fun x hx => by rw [List.mem_singleton.mp hx]; exact wa_good w h5
abbrev wa_na (y : MethodName) (n : Nat) : Prop := y.cls ≠ "java/lang/invoke/MethodHandle" ∧ y.cls ≠ "java/lang/invoke/VarHandle" ∧ (parseMethodDescriptor y.desc).map (fun d => d.parameters.length) = some n
abbrev wa_rm (rm R : Room) (maxL : Nat) : Prop := rm.frames + 1 ≤ R.frames ∧ 8 + (maxL + 11) + rm.locals ≤ R.locals
theorem wa_runS (F : wa_fx p s m c meth args cc nL own nm ret D cy) (hM : Met l y [.code y bytes maxL rety] rm (wa_pc As D cy Pre) Qc mc ms free) (hG : GoodIn wa_ALL (wsS own index y [.code y bytes maxL rety])) (hc : y.cls = own) (ha : wa_na y n) (hR : wa_rm rm R maxL) (hz : rm.cells = mc ∧ rm.slots = ms) (hP : Pre H) (hn : As.length = n) (hst : st0 = As.reverse ++ rest) (hW : (rest.map fun v => v.category).sum ≤ 8) (hls : ls.size = nL) (hdg : decode cc pc = .ok (.invokestatic index, 3)) (hf : cells + mc ≤ R.cells ∧ slots + ms ≤ R.slots) :
    va_Run p l e R s m args below meth c H locs cells slots mc ms (F0 m pc ls st0) rest (Qc As.toArray) free :=
  va_runS F.1 hM (cwS n F.1.2.2.2.2 hG rfl hz.1 hz.2 ⟨hc, ha⟩ hR) (wa_pre F.2.1 hP) rfl hn hls hst (lv_room hW) hdg hf
theorem wa_runSN {host : String} (F : wa_fx p s m c meth args cc nL own nm ret D cy) (hM : Met l y [.code y bytes maxL rety] rm (wa_pc As D cy Pre) Qc mc ms free) (hG : GoodIn wa_ALL [.code y bytes maxL rety]) (hl : Cond.methodLinkNest own index y host ∈ wa_NST) (hini : Cond.initialized y.cls ∈ wa_ALL) (hsta : Cond.static y ∈ wa_ALL) (ha : wa_na y n) (hR : wa_rm rm R maxL) (hz : rm.cells = mc ∧ rm.slots = ms) (hP : Pre H) (hn : As.length = n) (hst : st0 = As.reverse ++ rest) (hW : (rest.map fun v => v.category).sum ≤ 8) (hls : ls.size = nL) (hdg : decode cc pc = .ok (.invokestatic index, 3)) (hf : cells + mc ≤ R.cells ∧ slots + ms ≤ R.slots) :
    va_Run p l e R s m args below meth c H locs cells slots mc ms (F0 m pc ls st0) rest (Qc As.toArray) free :=
  va_runSN F.1 hM ⟨va_cnB n F.1.2.2.2.2 hG rfl hz.1 hz.2 (F.2.1.2.1 _ hl) (F.1.2.2.2.2 _ hini) ha hR, F.1.2.2.2.2 _ hsta, trivial⟩ (wa_pre F.2.1 hP) rfl hn hls hst (lv_room hW) hdg hf
theorem wa_rcv {kd i ci : Nat} {fs : List Value} {q : vw_C} (hSB : wa_SB D cy s) (hw : wa_wd D ad C H) (he : C kd i = some (.inr (ci, fs))) (hc : vwCl[ci]? = some q) : ∃ cell : Cell, H[ad kd i]? = some cell ∧ cell.vm.isStatics = false ∧ s.vm.findClass q.1 = some cell.cls :=
  va_recv hSB.2.2 (wa_one hw he) (q0 := 0) hc rfl
theorem wa_runV {b : Nat} (F : wa_fx p s m c meth args cc nL own nm ret D cy) (hM : Met l y [.code y bytes maxL rety] rm (wa_pc (.ref b :: As) D cy Pre) Qc mc ms free) (hG : GoodIn wa_ALL (wsV own index y.cls y [.code y bytes maxL rety])) (ha : wa_na y n) (hR : wa_rm rm R maxL) (hz : rm.cells = mc ∧ rm.slots = ms) (hP : Pre H) (hrc : ∃ cell : Cell, H[b]? = some cell ∧ cell.vm.isStatics = false ∧ s.vm.findClass y.cls = some cell.cls) (hn : As.length = n) (hst : st0 = As.reverse ++ .ref b :: rest) (hW : (rest.map fun v => v.category).sum ≤ 8) (hls : ls.size = nL) (hdg : decode cc pc = .ok (.invokevirtual index, 3)) (hf : cells + mc ≤ R.cells ∧ slots + ms ≤ R.slots) :
    va_Run p l e R s m args below meth c H locs cells slots mc ms (F0 m pc ls st0) rest (Qc (Value.ref b :: As).toArray) free :=
  va_runV F.1 hM (cwV n F.1.2.2.2.2 hG rfl hz.1 hz.2 ⟨rfl, ha⟩ hR) ⟨wa_blind, hrc, (wa_pre F.2.1 hP).2⟩ rfl hn hls hst (lv_room hW) hdg hf
theorem wa_runVN {b : Nat} {host : String} (F : wa_fx p s m c meth args cc nL own nm ret D cy) (hM : Met l y [.code y bytes maxL rety] rm (wa_pc (.ref b :: As) D cy Pre) Qc mc ms free) (hG : GoodIn wa_ALL [.code y bytes maxL rety]) (hl : Cond.methodLinkNest own index y host ∈ wa_NST) (hini : Cond.initialized y.cls ∈ wa_ALL) (hin : Cond.instanceMethod y ∈ wa_ALL) (hsl : Cond.selects y.cls y y ∈ wa_ALL) (ha : wa_na y n) (hR : wa_rm rm R maxL) (hz : rm.cells = mc ∧ rm.slots = ms) (hP : Pre H) (hrc : ∃ cell : Cell, H[b]? = some cell ∧ cell.vm.isStatics = false ∧ s.vm.findClass y.cls = some cell.cls) (hn : As.length = n) (hst : st0 = As.reverse ++ .ref b :: rest) (hW : (rest.map fun v => v.category).sum ≤ 8) (hls : ls.size = nL) (hdg : decode cc pc = .ok (.invokevirtual index, 3)) (hf : cells + mc ≤ R.cells ∧ slots + ms ≤ R.slots) :
    va_Run p l e R s m args below meth c H locs cells slots mc ms (F0 m pc ls st0) rest (Qc (Value.ref b :: As).toArray) free :=
  va_runVN (C := y.cls) F.1 hM ⟨va_cnB n F.1.2.2.2.2 hG rfl hz.1 hz.2 (F.2.1.2.1 _ hl) (F.1.2.2.2.2 _ hini) ha hR, F.1.2.2.2.2 _ hin, F.1.2.2.2.2 _ hsl⟩ ⟨wa_blind, hrc, (wa_pre F.2.1 hP).2⟩ rfl hn hls hst (lv_room hW) hdg hf
/-- an answer that is known; nothing written -/
abbrev wa_Qp (v : Int) : Array Value → State → Outcome → State → Prop := vp_Si (fun r => r = iI v)
/-- an answer that is a reference, or null; nothing written -/
abbrev wa_Qq (r : Option Nat) : Array Value → State → Outcome → State → Prop := va_Sq (fun x => x = r)
/-- an answer that is known, and the world behind it -/
abbrev wa_Qi (A : Nat → Prop) (D : va_G) (ad : Nat → Nat → Nat) (C : wa_C) (v : Int) : Array Value → State → Outcome → State → Prop := va_Qi (fun r (_ : Unit) => r = iI v) (fun _ t => wa_wd D ad C t.heap) A
abbrev wa_Qv (A : Nat → Prop) (D : va_G) (ad : Nat → Nat → Nat) (C : wa_C) : Array Value → State → Outcome → State → Prop := va_Qv (fun (_ : Unit) => True) (fun _ t => wa_wd D ad C t.heap) A
theorem wa_cp {v : Int} {a : Array Value} (hr : va_Run p l e R s m args below meth c H locs cells slots 0 0 (F0 m pc ls st0) rest (wa_Qp v a) (fun _ => False)) (kk : W p l e R s m args below meth c H locs cells slots Q (F0 m (pc + 3) ls (.int (iI v) :: rest))) : W p l e R s m args below meth c H locs cells slots Q (F0 m pc ls st0) :=
  vp_callSi hr.run (fun r h => by rw [h]; exact kk)
theorem wa_cq {v : Option Nat} {a : Array Value} (hr : va_Run p l e R s m args below meth c H locs cells slots 0 0 (F0 m pc ls st0) rest (wa_Qq v a) (fun _ => False)) (kk : W p l e R s m args below meth c H locs cells slots Q (F0 m (pc + 3) ls (va_rf v :: rest))) : W p l e R s m args below meth c H locs cells slots Q (F0 m pc ls st0) :=
  va_csq hr.run (fun r h => by rw [h]; exact kk)
theorem wa_ci {v : Int} {a : Array Value} (hr : va_Run p l e R s m args below meth c H locs cells slots mc ms (F0 m pc ls st0) rest (wa_Qi A D ad C v a) A) (hS : va_S A H0 H locs) (kk : ∀ (H1 : Heap) (locs1 : List Loc), wa_wd D ad C H1 → va_S A H0 H1 locs1 → W p l e R s m args below meth c H1 locs1 (cells + mc) (slots + ms) Q (F0 m (pc + 3) ls (.int (iI v) :: rest))) : W p l e R s m args below meth c H locs cells slots Q (F0 m pc ls st0) :=
  va_calli hr hS (fun q _ h => h) (fun q h => h) (fun r u t H1 locs1 ht hvm hw hB hz hk hS => by rw [hw]; exact kk H1 locs1 (by rw [← ht]; exact hB) hS)
theorem wa_cv {a : Array Value} (hr : va_Run p l e R s m args below meth c H locs cells slots mc ms (F0 m pc ls st0) rest (wa_Qv A D ad C a) A) (hS : va_S A H0 H locs) (kk : ∀ (H1 : Heap) (locs1 : List Loc), wa_wd D ad C H1 → va_S A H0 H1 locs1 → W p l e R s m args below meth c H1 locs1 (cells + mc) (slots + ms) Q (F0 m (pc + 3) ls rest)) : W p l e R s m args below meth c H locs cells slots Q (F0 m pc ls st0) :=
  va_callv hr hS (fun q _ h => h) (fun q h => h) (fun u t H1 locs1 ht hvm hw hB hz hk hS => kk H1 locs1 (by rw [← ht]; exact hB) hS)
-- ends
theorem wa_ep {v x : Int} (F : wa_fx p s m c meth args cc nL own nm (some .int) D cy) (hv : x = v) (hdg : decode cc pc = .ok (.ireturn, 1)) : W p l e R s m args below meth c s.heap [] cells slots (MQ below (wa_Qp v) args s cells slots (fun _ => False)) (F0 m pc ls [.int (iI x)]) :=
  W.iret F.1.1 F.1.2.1 F.2.2.1 (fun t ht _ => ⟨iI x, rfl, by rw [hv], ht⟩) (fun q h => by cases h) hdg F.2.2.2.1
theorem wa_epz {v x : Int} (F : wa_fx p s m c meth args cc nL own nm (some .boolean) D cy) (hv : x = v) (h01 : x = 0 ∨ x = 1) (hdg : decode cc pc = .ok (.ireturn, 1)) : W p l e R s m args below meth c s.heap [] cells slots (MQ below (wa_Qp v) args s cells slots (fun _ => False)) (F0 m pc ls [.int (iI x)]) :=
  W.zret F.1.1 F.1.2.1 F.2.2.1 (by rcases h01 with rfl | rfl <;> decide +kernel) (fun t ht _ => ⟨iI x, rfl, by rw [hv], ht⟩) (fun q h => by cases h) hdg F.2.2.2.1
theorem wa_eq {v x : Option Nat} {cn : String} (F : wa_fx p s m c meth args cc nL own nm (some (.object cn)) D cy) (hv : x = v) (hdg : decode cc pc = .ok (.areturn, 1)) : W p l e R s m args below meth c s.heap [] cells slots (MQ below (wa_Qq v) args s cells slots (fun _ => False)) (F0 m pc ls [va_rf x]) :=
  W.aret F.1.1 F.1.2.1 F.2.2.1 (Or.inl ⟨_, rfl⟩) (va_rf_or x) (fun t ht _ => ⟨x, rfl, hv, ht⟩) (fun q h => by cases h) hdg F.2.2.2.1
theorem wa_ei {v x : Int} (F : wa_fx p s m c meth args cc nL own nm (some .int) D cy) (hw : wa_wd D ad C H) (hS : va_S A s.heap H locs) (hv : x = v) (hdg : decode cc pc = .ok (.ireturn, 1)) : W p l e R s m args below meth c H locs cells slots (MQ below (wa_Qi A D ad C v) args s cells slots A) (F0 m pc ls [.int (iI x)]) :=
  W.iret F.1.1 F.1.2.1 F.2.2.1 (fun t ht _ => ⟨⟨iI x, (), rfl, by rw [hv], by show wa_wd D ad C t.heap; rw [ht]; exact hw⟩, hS.F ht⟩) hS.2.2 hdg F.2.2.2.1
theorem wa_eiz {v x : Int} (F : wa_fx p s m c meth args cc nL own nm (some .boolean) D cy) (hw : wa_wd D ad C H) (hS : va_S A s.heap H locs) (hv : x = v) (h01 : x = 0 ∨ x = 1) (hdg : decode cc pc = .ok (.ireturn, 1)) : W p l e R s m args below meth c H locs cells slots (MQ below (wa_Qi A D ad C v) args s cells slots A) (F0 m pc ls [.int (iI x)]) :=
  W.zret F.1.1 F.1.2.1 F.2.2.1 (by rcases h01 with rfl | rfl <;> decide +kernel) (fun t ht _ => ⟨⟨iI x, (), rfl, by rw [hv], by show wa_wd D ad C t.heap; rw [ht]; exact hw⟩, hS.F ht⟩) hS.2.2 hdg F.2.2.2.1
theorem wa_ev (F : wa_fx p s m c meth args cc nL own nm none D cy) (hw : wa_wd D ad C H) (hS : va_S A s.heap H locs) (hdg : decode cc pc = .ok (.return_, 1)) : W p l e R s m args below meth c H locs cells slots (MQ below (wa_Qv A D ad C) args s cells slots A) (F0 m pc ls []) :=
  W.vret F.1.1 F.1.2.1 F.2.2.1 (fun t ht _ => ⟨⟨(), rfl, trivial, by show wa_wd D ad C t.heap; rw [ht]; exact hw⟩, hS.F ht⟩) hS.2.2 hdg F.2.2.2.1
end WAC
