/-! MY ROWS: ints by their numbers -/
def iI (z : Int) : Int32 := Int32.ofInt z
abbrev wa_r (z : Int) : Prop := -2147483648 ≤ z ∧ z < 2147483648
theorem iI_t {z : Int} (h : wa_r z) : (iI z).toInt = z := by
  have h2 : z.bmod (2 ^ 32) = z := by rw [Int.bmod_eq_of_le (by omega) (by omega)]
  show (Int32.ofInt z).toInt = z
  rw [Int32.toInt_ofInt]
  exact h2
theorem iI_as (x : Int32) : iI x.toInt = x := Int32.ofInt_toInt x
theorem iI_rng (x : Int32) : wa_r x.toInt := by
  have h1 := Int32.le_toInt x
  have h2 := Int32.toInt_lt x
  exact ⟨by omega, by omega⟩
theorem iI_add (a b : Int) : iI a + iI b = iI (a + b) := (Int32.ofInt_add a b).symm
theorem iI_sub (a b : Int) : iI a - iI b = iI (a - b) := (Int32.ofInt_sub a b).symm
theorem iI_mul (a b : Int) : iI a * iI b = iI (a * b) := (Int32.ofInt_mul a b).symm
theorem iI_lt {a b : Int} (ha : wa_r a) (hb : wa_r b) : iI a < iI b ↔ a < b := by rw [Int32.lt_iff_toInt_lt, iI_t ha, iI_t hb]
theorem iI_le {a b : Int} (ha : wa_r a) (hb : wa_r b) : iI a ≤ iI b ↔ a ≤ b := by rw [Int32.le_iff_toInt_le, iI_t ha, iI_t hb]
theorem iI_eq {a b : Int} (ha : wa_r a) (hb : wa_r b) : iI a = iI b ↔ a = b := by rw [← Int32.toInt_inj, iI_t ha, iI_t hb]
theorem iI_0 : (0 : Int32) = iI 0 := by decide +kernel
theorem iI_cl {z : Int} {j : Nat} (hz : z = (j : Int)) (hj : j < 2147483648) : (iI z).toNatClampNeg = j := by
  show (iI z).toInt.toNat = j
  rw [iI_t ⟨by omega, by omega⟩]
  omega
theorem iI_in {z : Int} {j n : Nat} (hz : z = (j : Int)) (hj : j < n) (hn : n < 2147483648) : vp_in (iI z) n := by
  rw [vp_in_iff, iI_t ⟨by omega, by omega⟩]
  omega
theorem iI_len (n : Nat) (hn : n < 2147483648) : Int32.ofNat n = iI (n : Int) := by
  rw [← Int32.toInt_inj, iI_t ⟨by omega, by omega⟩]
  exact nI_toInt hn
section WAR
variable {p : Program} {l : Launch} {e : Env} {R : Room} {s : State} {m : MethodId} {args : Array Value} {below : List Frame} {meth : Method} {c : Code} {H : Heap} {locs : List Loc} {cells slots : Nat} {Q : State → Prop}
variable {cc : ByteArray} {pc : Nat} {ls : Array Slot} {rest : List Value} {D : va_G} {A : Nat → Prop} {H0 : Heap} {cy : Nat → ClassId} {ad : Nat → Nat → Nat} {C : wa_C} {nL : Nat} {own nm : String} {ret : Option FieldType}
/-- what holds all along a method's body -/
def wa_fx (p : Program) (s : State) (m : MethodId) (c : Code) (meth : Method) (args : Array Value) (cc : ByteArray) (nL : Nat) (own nm : String) (ret : Option FieldType) (D : va_G) (cy : Nat → ClassId) : Prop :=
  CallFix p m c cc nL s args wa_ALL own ∧ wa_SB D cy s ∧ meth.sig.returnType = ret ∧ meth.locks = false ∧ meth.name = nm
theorem wa_en {l : Launch} {y : MethodName} {cc : ByteArray} {maxL : Nat} {ret : Option FieldType} {rm : Room} {av : List Value} {D : va_G} {cy : Nat → ClassId} {Pre : Heap → Prop} {Qc : Array Value → State → Outcome → State → Prop} {mc ms : Nat} {free : Addr → Prop} (hy : plainName y.cls = true) (hl : (lg_sl av).length ≤ maxL)
    (body : ∀ (p : Program) (e : Env) (s : State) (m : MethodId) (args : Array Value) (below : List Frame) (meth : Method) (c : Code), wa_fx p s m c meth args cc maxL y.cls y.name ret D cy → Pre s.heap → ∀ ls : Array Slot, lv_has ls maxL (lv_args 0 av) → W p l e rm s m args below meth c s.heap [] 0 0 (MQ below Qc args s mc ms free) (F0 m 0 ls [])) :
    Met l y [.code y cc maxL ret] rm (wa_pc av D cy Pre) Qc mc ms free := by
  refine Met.ofW (cc := cc) (maxL := maxL) (ret := ret) hy rfl ?_
  intro p e s m args below meth c s₁ B hml hv
  obtain ⟨rfl, hSB, hP⟩ := hv
  have F : wa_fx p s m c meth av.toArray cc maxL y.cls y.name ret D cy := ⟨⟨B.exec, B.bytes, hml, findClass_of_methodNamed B.named, hSB.all _⟩, hSB, B.returns, B.notSynchronized, (name_of_methodNamed B.named B.method).1⟩
  rw [lg_entry_eq]
  exact body p e s m _ below meth c F hP _ (lv_entry av hl)
-- branches
theorem wa_goto {off : Int} {tgt : Nat} (F : wa_fx p s m c meth args cc nL own nm ret D cy) (hdg : decode cc pc = .ok (.goto off, 3)) (ht : (pc : Int) + off = (tgt : Int)) (k : W p l e R s m args below meth c H locs cells slots Q (F0 m tgt ls rest)) : W p l e R s m args below meth c H locs cells slots Q (F0 m pc ls rest) := lv_goto F.1.1 F.1.2.1 hdg ht k
theorem wa_const {n : Int} (F : wa_fx p s m c meth args cc nL own nm ret D cy) (hdg : decode cc pc = .ok (.iconst n, 1)) (k : W p l e R s m args below meth c H locs cells slots Q (F0 m (pc + 1) ls (.int (iI n) :: rest))) : W p l e R s m args below meth c H locs cells slots Q (F0 m pc ls rest) := lv_iconst F.1.1 F.1.2.1 hdg rfl k
theorem wa_bi {n : Int} (F : wa_fx p s m c meth args cc nL own nm ret D cy) (hdg : decode cc pc = .ok (.bipush n, 2)) (hn : (Int8.ofInt n).toInt32 = iI n) (k : W p l e R s m args below meth c H locs cells slots Q (F0 m (pc + 2) ls (.int (iI n) :: rest))) : W p l e R s m args below meth c H locs cells slots Q (F0 m pc ls rest) := lv_bipush F.1.1 F.1.2.1 hdg hn k
theorem wa_si {n : Int} (F : wa_fx p s m c meth args cc nL own nm ret D cy) (hdg : decode cc pc = .ok (.sipush n, 3)) (hn : (Int16.ofInt n).toInt32 = iI n) (k : W p l e R s m args below meth c H locs cells slots Q (F0 m (pc + 3) ls (.int (iI n) :: rest))) : W p l e R s m args below meth c H locs cells slots Q (F0 m pc ls rest) := lv_sipush F.1.1 F.1.2.1 hdg hn k
theorem wa_add {a b : Int} (F : wa_fx p s m c meth args cc nL own nm ret D cy) (hdg : decode cc pc = .ok (.iadd, 1)) (k : W p l e R s m args below meth c H locs cells slots Q (F0 m (pc + 1) ls (.int (iI (a + b)) :: rest))) : W p l e R s m args below meth c H locs cells slots Q (F0 m pc ls (.int (iI b) :: .int (iI a) :: rest)) := lv_iadd F.1.1 F.1.2.1 hdg (by rw [iI_add]; exact k)
theorem wa_sub {a b : Int} (F : wa_fx p s m c meth args cc nL own nm ret D cy) (hdg : decode cc pc = .ok (.isub, 1)) (k : W p l e R s m args below meth c H locs cells slots Q (F0 m (pc + 1) ls (.int (iI (a - b)) :: rest))) : W p l e R s m args below meth c H locs cells slots Q (F0 m pc ls (.int (iI b) :: .int (iI a) :: rest)) := lv_isub F.1.1 F.1.2.1 hdg (by rw [iI_sub]; exact k)
theorem wa_mul {a b : Int} (F : wa_fx p s m c meth args cc nL own nm ret D cy) (hdg : decode cc pc = .ok (.imul, 1)) (k : W p l e R s m args below meth c H locs cells slots Q (F0 m (pc + 1) ls (.int (iI (a * b)) :: rest))) : W p l e R s m args below meth c H locs cells slots Q (F0 m pc ls (.int (iI b) :: .int (iI a) :: rest)) := lv_imul F.1.1 F.1.2.1 hdg (by rw [iI_mul]; exact k)
theorem wa_inc {i nLl k : Nat} {n a b : Int} {lv lv' : List (Nat × Value)} (F : wa_fx p s m c meth args cc nL own nm ret D cy) (hdg : decode cc pc = .ok (.iinc i n, 3)) (h : lv_has ls nLl lv) (hk : lv[k]? = some (i, .int (iI a))) (hb : a + n = b) (hn : i < nLl) (hl : (i, Value.int (iI b)) :: lv.filter (fun q => !(q.1 == i) && !(q.1 + 1 == i && q.2.category == 2)) = lv')
    (kk : ∀ ls' : Array Slot, lv_has ls' nLl lv' → W p l e R s m args below meth c H locs cells slots Q (F0 m (pc + 3) ls' rest)) : W p l e R s m args below meth c H locs cells slots Q (F0 m pc ls rest) :=
  lv_iinc F.1.1 F.1.2.1 hdg h hk (by subst hb; exact iI_add a n) hn hl kk
theorem wa_ic_eq {a b : Int} {off : Int} {tgt : Nat} (F : wa_fx p s m c meth args cc nL own nm ret D cy) (hdg : decode cc pc = .ok (.if_icmp .eq off, 3)) (ht : (pc : Int) + off = (tgt : Int)) (ra : wa_r a) (rb : wa_r b) (kt : a = b → W p l e R s m args below meth c H locs cells slots Q (F0 m tgt ls (rest))) (kf : a ≠ b → W p l e R s m args below meth c H locs cells slots Q (F0 m (pc + 3) ls (rest))) : W p l e R s m args below meth c H locs cells slots Q (F0 m pc ls (.int (iI b) :: .int (iI a) :: rest)) := lv_icmp_eq F.1.1 F.1.2.1 hdg ht (fun h => kt ((iI_eq ra rb).mp h)) (fun h => kf (fun g => h ((iI_eq ra rb).mpr g)))
theorem wa_if_eq {a : Int} {off : Int} {tgt : Nat} (F : wa_fx p s m c meth args cc nL own nm ret D cy) (hdg : decode cc pc = .ok (.ifCond .eq off, 3)) (ht : (pc : Int) + off = (tgt : Int)) (ra : wa_r a) (kt : a = 0 → W p l e R s m args below meth c H locs cells slots Q (F0 m tgt ls (rest))) (kf : a ≠ 0 → W p l e R s m args below meth c H locs cells slots Q (F0 m (pc + 3) ls (rest))) : W p l e R s m args below meth c H locs cells slots Q (F0 m pc ls (.int (iI a) :: rest)) := by
  have wa_r0 : wa_r 0 := ⟨by omega, by omega⟩
  refine lv_if_eq F.1.1 F.1.2.1 hdg ht (fun h => kt ?_) (fun h => kf ?_)
  · rw [iI_0] at h
    exact (iI_eq ra wa_r0).mp h
  · rw [iI_0] at h
    exact fun g => h ((iI_eq ra wa_r0).mpr g)
theorem wa_ic_ne {a b : Int} {off : Int} {tgt : Nat} (F : wa_fx p s m c meth args cc nL own nm ret D cy) (hdg : decode cc pc = .ok (.if_icmp .ne off, 3)) (ht : (pc : Int) + off = (tgt : Int)) (ra : wa_r a) (rb : wa_r b) (kt : a ≠ b → W p l e R s m args below meth c H locs cells slots Q (F0 m tgt ls (rest))) (kf : a = b → W p l e R s m args below meth c H locs cells slots Q (F0 m (pc + 3) ls (rest))) : W p l e R s m args below meth c H locs cells slots Q (F0 m pc ls (.int (iI b) :: .int (iI a) :: rest)) := lv_icmp_ne F.1.1 F.1.2.1 hdg ht (fun h => kt (fun g => h ((iI_eq ra rb).mpr g))) (fun h => kf ((iI_eq ra rb).mp h))
theorem wa_if_ne {a : Int} {off : Int} {tgt : Nat} (F : wa_fx p s m c meth args cc nL own nm ret D cy) (hdg : decode cc pc = .ok (.ifCond .ne off, 3)) (ht : (pc : Int) + off = (tgt : Int)) (ra : wa_r a) (kt : a ≠ 0 → W p l e R s m args below meth c H locs cells slots Q (F0 m tgt ls (rest))) (kf : a = 0 → W p l e R s m args below meth c H locs cells slots Q (F0 m (pc + 3) ls (rest))) : W p l e R s m args below meth c H locs cells slots Q (F0 m pc ls (.int (iI a) :: rest)) := by
  have wa_r0 : wa_r 0 := ⟨by omega, by omega⟩
  refine lv_if_ne F.1.1 F.1.2.1 hdg ht (fun h => kt ?_) (fun h => kf ?_)
  · rw [iI_0] at h
    exact fun g => h ((iI_eq ra wa_r0).mpr g)
  · rw [iI_0] at h
    exact (iI_eq ra wa_r0).mp h
theorem wa_ic_lt {a b : Int} {off : Int} {tgt : Nat} (F : wa_fx p s m c meth args cc nL own nm ret D cy) (hdg : decode cc pc = .ok (.if_icmp .lt off, 3)) (ht : (pc : Int) + off = (tgt : Int)) (ra : wa_r a) (rb : wa_r b) (kt : a < b → W p l e R s m args below meth c H locs cells slots Q (F0 m tgt ls (rest))) (kf : b ≤ a → W p l e R s m args below meth c H locs cells slots Q (F0 m (pc + 3) ls (rest))) : W p l e R s m args below meth c H locs cells slots Q (F0 m pc ls (.int (iI b) :: .int (iI a) :: rest)) := lv_icmp_lt F.1.1 F.1.2.1 hdg ht (fun h => kt ((iI_lt ra rb).mp h)) (fun h => kf (Int.not_lt.mp (fun g => h ((iI_lt ra rb).mpr g))))
theorem wa_if_lt {a : Int} {off : Int} {tgt : Nat} (F : wa_fx p s m c meth args cc nL own nm ret D cy) (hdg : decode cc pc = .ok (.ifCond .lt off, 3)) (ht : (pc : Int) + off = (tgt : Int)) (ra : wa_r a) (kt : a < 0 → W p l e R s m args below meth c H locs cells slots Q (F0 m tgt ls (rest))) (kf : 0 ≤ a → W p l e R s m args below meth c H locs cells slots Q (F0 m (pc + 3) ls (rest))) : W p l e R s m args below meth c H locs cells slots Q (F0 m pc ls (.int (iI a) :: rest)) := by
  have wa_r0 : wa_r 0 := ⟨by omega, by omega⟩
  refine lv_if_lt F.1.1 F.1.2.1 hdg ht (fun h => kt ?_) (fun h => kf ?_)
  · rw [iI_0] at h
    exact (iI_lt ra wa_r0).mp h
  · rw [iI_0] at h
    exact Int.not_lt.mp (fun g => h ((iI_lt ra wa_r0).mpr g))
theorem wa_ic_ge {a b : Int} {off : Int} {tgt : Nat} (F : wa_fx p s m c meth args cc nL own nm ret D cy) (hdg : decode cc pc = .ok (.if_icmp .ge off, 3)) (ht : (pc : Int) + off = (tgt : Int)) (ra : wa_r a) (rb : wa_r b) (kt : b ≤ a → W p l e R s m args below meth c H locs cells slots Q (F0 m tgt ls (rest))) (kf : a < b → W p l e R s m args below meth c H locs cells slots Q (F0 m (pc + 3) ls (rest))) : W p l e R s m args below meth c H locs cells slots Q (F0 m pc ls (.int (iI b) :: .int (iI a) :: rest)) := lv_icmp_ge F.1.1 F.1.2.1 hdg ht (fun h => kt ((iI_le rb ra).mp h)) (fun h => kf (Int.not_le.mp (fun g => h ((iI_le rb ra).mpr g))))
theorem wa_if_ge {a : Int} {off : Int} {tgt : Nat} (F : wa_fx p s m c meth args cc nL own nm ret D cy) (hdg : decode cc pc = .ok (.ifCond .ge off, 3)) (ht : (pc : Int) + off = (tgt : Int)) (ra : wa_r a) (kt : 0 ≤ a → W p l e R s m args below meth c H locs cells slots Q (F0 m tgt ls (rest))) (kf : a < 0 → W p l e R s m args below meth c H locs cells slots Q (F0 m (pc + 3) ls (rest))) : W p l e R s m args below meth c H locs cells slots Q (F0 m pc ls (.int (iI a) :: rest)) := by
  have wa_r0 : wa_r 0 := ⟨by omega, by omega⟩
  refine lv_if_ge F.1.1 F.1.2.1 hdg ht (fun h => kt ?_) (fun h => kf ?_)
  · rw [iI_0] at h
    exact (iI_le wa_r0 ra).mp h
  · rw [iI_0] at h
    exact Int.not_le.mp (fun g => h ((iI_le wa_r0 ra).mpr g))
theorem wa_ic_gt {a b : Int} {off : Int} {tgt : Nat} (F : wa_fx p s m c meth args cc nL own nm ret D cy) (hdg : decode cc pc = .ok (.if_icmp .gt off, 3)) (ht : (pc : Int) + off = (tgt : Int)) (ra : wa_r a) (rb : wa_r b) (kt : b < a → W p l e R s m args below meth c H locs cells slots Q (F0 m tgt ls (rest))) (kf : a ≤ b → W p l e R s m args below meth c H locs cells slots Q (F0 m (pc + 3) ls (rest))) : W p l e R s m args below meth c H locs cells slots Q (F0 m pc ls (.int (iI b) :: .int (iI a) :: rest)) := lv_icmp_gt F.1.1 F.1.2.1 hdg ht (fun h => kt ((iI_lt rb ra).mp h)) (fun h => kf (Int.not_lt.mp (fun g => h ((iI_lt rb ra).mpr g))))
theorem wa_if_gt {a : Int} {off : Int} {tgt : Nat} (F : wa_fx p s m c meth args cc nL own nm ret D cy) (hdg : decode cc pc = .ok (.ifCond .gt off, 3)) (ht : (pc : Int) + off = (tgt : Int)) (ra : wa_r a) (kt : 0 < a → W p l e R s m args below meth c H locs cells slots Q (F0 m tgt ls (rest))) (kf : a ≤ 0 → W p l e R s m args below meth c H locs cells slots Q (F0 m (pc + 3) ls (rest))) : W p l e R s m args below meth c H locs cells slots Q (F0 m pc ls (.int (iI a) :: rest)) := by
  have wa_r0 : wa_r 0 := ⟨by omega, by omega⟩
  refine lv_if_gt F.1.1 F.1.2.1 hdg ht (fun h => kt ?_) (fun h => kf ?_)
  · rw [iI_0] at h
    exact (iI_lt wa_r0 ra).mp h
  · rw [iI_0] at h
    exact Int.not_lt.mp (fun g => h ((iI_lt wa_r0 ra).mpr g))
theorem wa_ic_le {a b : Int} {off : Int} {tgt : Nat} (F : wa_fx p s m c meth args cc nL own nm ret D cy) (hdg : decode cc pc = .ok (.if_icmp .le off, 3)) (ht : (pc : Int) + off = (tgt : Int)) (ra : wa_r a) (rb : wa_r b) (kt : a ≤ b → W p l e R s m args below meth c H locs cells slots Q (F0 m tgt ls (rest))) (kf : b < a → W p l e R s m args below meth c H locs cells slots Q (F0 m (pc + 3) ls (rest))) : W p l e R s m args below meth c H locs cells slots Q (F0 m pc ls (.int (iI b) :: .int (iI a) :: rest)) := lv_icmp_le F.1.1 F.1.2.1 hdg ht (fun h => kt ((iI_le ra rb).mp h)) (fun h => kf (Int.not_le.mp (fun g => h ((iI_le ra rb).mpr g))))
theorem wa_if_le {a : Int} {off : Int} {tgt : Nat} (F : wa_fx p s m c meth args cc nL own nm ret D cy) (hdg : decode cc pc = .ok (.ifCond .le off, 3)) (ht : (pc : Int) + off = (tgt : Int)) (ra : wa_r a) (kt : a ≤ 0 → W p l e R s m args below meth c H locs cells slots Q (F0 m tgt ls (rest))) (kf : 0 < a → W p l e R s m args below meth c H locs cells slots Q (F0 m (pc + 3) ls (rest))) : W p l e R s m args below meth c H locs cells slots Q (F0 m pc ls (.int (iI a) :: rest)) := by
  have wa_r0 : wa_r 0 := ⟨by omega, by omega⟩
  refine lv_if_le F.1.1 F.1.2.1 hdg ht (fun h => kt ?_) (fun h => kf ?_)
  · rw [iI_0] at h
    exact (iI_le ra wa_r0).mp h
  · rw [iI_0] at h
    exact Int.not_le.mp (fun g => h ((iI_le ra wa_r0).mpr g))
-- values that are references or null, loaded and stored
theorem wa_ldq_n {kf : Fin 4} {i : Nat} {r : Option Nat} (F : wa_fx p s m c meth args cc nL own nm ret D cy) (hdg : decode cc pc = .ok (.aload_n kf, 1)) (hi : (kf : Nat) = i) (hl : ls[i]? = some (.val (va_rf r))) (k : W p l e R s m args below meth c H locs cells slots Q (F0 m (pc + 1) ls (va_rf r :: rest))) : W p l e R s m args below meth c H locs cells slots Q (F0 m pc ls rest) := by
  cases r with
  | none => exact lv_aload_nN F.1.1 F.1.2.1 hdg hi hl k
  | some a => exact lv_aload_n F.1.1 F.1.2.1 hdg hi hl k
theorem wa_ldq {i : Nat} {r : Option Nat} (F : wa_fx p s m c meth args cc nL own nm ret D cy) (hdg : decode cc pc = .ok (.aload i, 2)) (hl : ls[i]? = some (.val (va_rf r))) (k : W p l e R s m args below meth c H locs cells slots Q (F0 m (pc + 2) ls (va_rf r :: rest))) : W p l e R s m args below meth c H locs cells slots Q (F0 m pc ls rest) := by
  cases r with
  | none => exact lv_aloadN F.1.1 F.1.2.1 hdg hl k
  | some a => exact lv_aload F.1.1 F.1.2.1 hdg hl k
theorem wa_stq_n {kf : Fin 4} {i nl : Nat} {r : Option Nat} {lv lv' : List (Nat × Value)} (F : wa_fx p s m c meth args cc nL own nm ret D cy) (hdg : decode cc pc = .ok (.astore_n kf, 1)) (hi : (kf : Nat) = i) (h : lv_has ls nl lv) (hn : i < nl) (hl : (i, va_rf r) :: lv.filter (fun q => !(q.1 == i) && !(q.1 + 1 == i && q.2.category == 2)) = lv')
    (kk : ∀ ls' : Array Slot, lv_has ls' nl lv' → W p l e R s m args below meth c H locs cells slots Q (F0 m (pc + 1) ls' rest)) : W p l e R s m args below meth c H locs cells slots Q (F0 m pc ls (va_rf r :: rest)) := by
  cases r with
  | none => exact lv_astore_nN F.1.1 F.1.2.1 hdg hi h hn hl kk
  | some a => exact lv_astore_n F.1.1 F.1.2.1 hdg hi h hn hl kk
theorem wa_stq {i nl : Nat} {r : Option Nat} {lv lv' : List (Nat × Value)} (F : wa_fx p s m c meth args cc nL own nm ret D cy) (hdg : decode cc pc = .ok (.astore i, 2)) (h : lv_has ls nl lv) (hn : i < nl) (hl : (i, va_rf r) :: lv.filter (fun q => !(q.1 == i) && !(q.1 + 1 == i && q.2.category == 2)) = lv')
    (kk : ∀ ls' : Array Slot, lv_has ls' nl lv' → W p l e R s m args below meth c H locs cells slots Q (F0 m (pc + 2) ls' rest)) : W p l e R s m args below meth c H locs cells slots Q (F0 m pc ls (va_rf r :: rest)) := by
  cases r with
  | none => exact lv_astoreN F.1.1 F.1.2.1 hdg h hn hl kk
  | some a => exact lv_astore F.1.1 F.1.2.1 hdg h hn hl kk
theorem wa_ifnull {r : Option Nat} {off : Int} {tgt : Nat} (F : wa_fx p s m c meth args cc nL own nm ret D cy) (hdg : decode cc pc = .ok (.ifnull off, 3)) (ht : (pc : Int) + off = (tgt : Int)) (kt : r = none → W p l e R s m args below meth c H locs cells slots Q (F0 m tgt ls rest)) (kf : ∀ a : Nat, r = some a → W p l e R s m args below meth c H locs cells slots Q (F0 m (pc + 3) ls rest)) : W p l e R s m args below meth c H locs cells slots Q (F0 m pc ls (va_rf r :: rest)) := by
  cases r with
  | none => exact lv_ifnullN F.1.1 F.1.2.1 hdg ht (kt rfl)
  | some a => exact lv_ifnull F.1.1 F.1.2.1 hdg (kf a rfl)
theorem wa_ifnonnull {r : Option Nat} {off : Int} {tgt : Nat} (F : wa_fx p s m c meth args cc nL own nm ret D cy) (hdg : decode cc pc = .ok (.ifnonnull off, 3)) (ht : (pc : Int) + off = (tgt : Int)) (kt : ∀ a : Nat, r = some a → W p l e R s m args below meth c H locs cells slots Q (F0 m tgt ls rest)) (kf : r = none → W p l e R s m args below meth c H locs cells slots Q (F0 m (pc + 3) ls rest)) : W p l e R s m args below meth c H locs cells slots Q (F0 m pc ls (va_rf r :: rest)) := by
  cases r with
  | none => exact lv_ifnonnullN F.1.1 F.1.2.1 hdg (kf rfl)
  | some a => exact lv_ifnonnull F.1.1 F.1.2.1 hdg ht (kt a rfl)
-- fields
theorem wa_get {ref Cn : String} {T : u_T} {N ci index kd i : Nat} (F : wa_fx p s m c meth args cc nL own nm ret D cy) (hw : wa_wd D ad C H) {fs : List Value} (he : C kd i = some (.inr (ci, fs))) (hin : ∀ w ∈ u_ws Cn T N, w ∈ wa_ALL) (hc : vwCl[ci]? = some (Cn, T, N)) (k : Nat) (hk : k < N) (hlink : Cond.fieldLink own index ref (T k).2.1 (T k).2.2.1 ∈ wa_ALL) (hsame : (T k).1 = ref) {v : Value} (hv : fs[k]? = some v) (hdg : decode cc pc = .ok (.getfield index, 3))
    (kk : W p l e R s m args below meth c H locs cells slots Q (F0 m (pc + 3) ls (v :: rest))) : W p l e R s m args below meth c H locs cells slots Q (F0 m pc ls (.ref (ad kd i) :: rest)) :=
  va_get F.1.1 F.1.2.1 F.1.2.2.2.2 hin F.1.2.2.2.1 F.2.1.2.2 (wa_one hw he) 0 rfl hc k hk (F.1.2.2.2.2 _ hlink) (fun x h => by rw [hsame] at h; exact h) hv hdg kk
theorem wa_getN {ref Cn host : String} {T : u_T} {N ci index kd i : Nat} (F : wa_fx p s m c meth args cc nL own nm ret D cy) (hw : wa_wd D ad C H) {fs : List Value} (he : C kd i = some (.inr (ci, fs))) (hin : ∀ w ∈ u_ws Cn T N, w ∈ wa_ALL) (hc : vwCl[ci]? = some (Cn, T, N)) (k : Nat) (hk : k < N) (hlink : Cond.fieldLinkNest own index ref (T k).2.1 (T k).2.2.1 host ∈ wa_NST) (hsame : (T k).1 = ref) {v : Value} (hv : fs[k]? = some v) (hdg : decode cc pc = .ok (.getfield index, 3))
    (kk : W p l e R s m args below meth c H locs cells slots Q (F0 m (pc + 3) ls (v :: rest))) : W p l e R s m args below meth c H locs cells slots Q (F0 m pc ls (.ref (ad kd i) :: rest)) :=
  va_getN F.1.1 F.1.2.1 F.1.2.2.2.2 hin F.1.2.2.2.1 F.2.1.2.2 (wa_one hw he) 0 rfl hc k hk (va_Nw.use rfl (F.2.1.2.1 _ hlink)) (fun x h => by rw [hsame] at h; exact h) hv hdg kk
theorem wa_put {ref Cn : String} {T : u_T} {N ci index kd i : Nat} (F : wa_fx p s m c meth args cc nL own nm ret D cy) (hw : wa_wd D ad C H) (hj : wa_wj A ad C) (hS0 : va_S A H0 H locs) {fs : List Value} (he : C kd i = some (.inr (ci, fs))) (hin : ∀ w ∈ u_ws Cn T N, w ∈ wa_ALL) (ty0 : Nat → FieldType) (hty : ∀ k, k < N → parseFieldDescriptor (T k).2.2.1 = some (ty0 k)) (hnm : ∀ a, a < N → ∀ b, b < N → a ≠ b → (T a).2.1 ≠ (T b).2.1) (hc : vwCl[ci]? = some (Cn, T, N)) (k : Nat) (hk : k < N) (hlink : Cond.fieldLink own index ref (T k).2.1 (T k).2.2.1 ∈ wa_ALL) (hsame : (T k).1 = ref) (hfin : (T k).2.2.2 = false) {v : Value} (hn : narrow (ty0 k) v = v) (hfit : fits (ty0 k) v = true) (hl : k < fs.length)
    (hdg : decode cc pc = .ok (.putfield index, 3)) (kk : ∀ (H1 : Heap) (locs1 : List Loc), wa_wd D ad (wa_up C kd i (.inr (ci, fs.set k v))) H1 → va_S A H0 H1 locs1 → W p l e R s m args below meth c H1 locs1 cells slots Q (F0 m (pc + 3) ls rest)) : W p l e R s m args below meth c H locs cells slots Q (F0 m pc ls (v :: .ref (ad kd i) :: rest)) := by
  have hts := F.1.2.2.2.2
  have hown := F.1.2.2.2.1
  have hK := F.2.1.2.2
  have hap := va_apart (own := own) hts hin ty0 hty hnm hK hc
  have hat := hw kd i _ he
  obtain ⟨r, h1, cell, q1, q2, q3, q4⟩ := hat
  have hr : r = (Cn, T, N) := Option.some.inj (h1.symm.trans hc)
  subst hr
  obtain ⟨hS, hfc, kC, hkC, hkind⟩ := hK.1 ci _ hc
  obtain ⟨cf, kf, fi, f, hi, hsl⟩ := hS k hk
  have hlay := hts _ (hin _ (u_in_lay hk))
  unfold u_lay at hlay
  rw [if_neg (by rw [hfin]; decide)] at hlay
  have hst := (u_facts hfc hkC (u_lays hts hin hk) hi).1
  have h6 := u_store hfc hkC hkind hlay hi (hty k hk) hn hfit
  have hi2 : s.fieldFound? ref (T k).2.1 (T k).2.2.1 = some (cf, kf, fi, f) := by rw [← hsame]; exact hi
  refine W.putK F.1.1 F.1.2.1 (f := f) ⟨hown, hts _ hlink, ⟨_, _, _, hi2⟩, hst⟩ (by rw [q2]; exact h6) q1 q3 (by rw [hsl]; exact k2_hasslot (q4 k hk)) rfl rfl hdg fun H' e1 e2 e3 => ?_
  rw [hsl] at e1 ⊢
  exact kk H' _ (hw.put hj he ⟨_, hc, t_OB.to (V := updV (vp_V fs) k v) ⟨_, e1, q2, q3, t_set q4 hap hk v⟩ (fun j _ => vp_updV_set hl v j)⟩ e3) (hS0.put e2 e3 (hj.2 _ _ _ he))
theorem wa_putN {ref Cn host : String} {T : u_T} {N ci index kd i : Nat} (F : wa_fx p s m c meth args cc nL own nm ret D cy) (hw : wa_wd D ad C H) (hj : wa_wj A ad C) (hS0 : va_S A H0 H locs) {fs : List Value} (he : C kd i = some (.inr (ci, fs))) (hin : ∀ w ∈ u_ws Cn T N, w ∈ wa_ALL) (ty0 : Nat → FieldType) (hty : ∀ k, k < N → parseFieldDescriptor (T k).2.2.1 = some (ty0 k)) (hnm : ∀ a, a < N → ∀ b, b < N → a ≠ b → (T a).2.1 ≠ (T b).2.1) (hc : vwCl[ci]? = some (Cn, T, N)) (k : Nat) (hk : k < N) (hlink : Cond.fieldLinkNest own index ref (T k).2.1 (T k).2.2.1 host ∈ wa_NST) (hsame : (T k).1 = ref) (hfin : (T k).2.2.2 = false) {v : Value} (hn : narrow (ty0 k) v = v) (hfit : fits (ty0 k) v = true) (hl : k < fs.length)
    (hdg : decode cc pc = .ok (.putfield index, 3)) (kk : ∀ (H1 : Heap) (locs1 : List Loc), wa_wd D ad (wa_up C kd i (.inr (ci, fs.set k v))) H1 → va_S A H0 H1 locs1 → W p l e R s m args below meth c H1 locs1 cells slots Q (F0 m (pc + 3) ls rest)) : W p l e R s m args below meth c H locs cells slots Q (F0 m pc ls (v :: .ref (ad kd i) :: rest)) := by
  have hts := F.1.2.2.2.2
  have hown := F.1.2.2.2.1
  have hK := F.2.1.2.2
  have hap := va_apart (own := own) hts hin ty0 hty hnm hK hc
  have hat := hw kd i _ he
  obtain ⟨r, h1, cell, q1, q2, q3, q4⟩ := hat
  have hr : r = (Cn, T, N) := Option.some.inj (h1.symm.trans hc)
  subst hr
  obtain ⟨hS, hfc, kC, hkC, hkind⟩ := hK.1 ci _ hc
  obtain ⟨cf, kf, fi, f, hi, hsl⟩ := hS k hk
  have hlay := hts _ (hin _ (u_in_lay hk))
  unfold u_lay at hlay
  rw [if_neg (by rw [hfin]; decide)] at hlay
  have hst := (u_facts hfc hkC (u_lays hts hin hk) hi).1
  have h6 := u_store hfc hkC hkind hlay hi (hty k hk) hn hfit
  have hi2 : s.fieldFound? ref (T k).2.1 (T k).2.2.1 = some (cf, kf, fi, f) := by rw [← hsame]; exact hi
  refine va_WputK F.1.1 F.1.2.1 (f := f) hown (va_Nw.use rfl (F.2.1.2.1 _ hlink)) hi2 hst (by rw [q2]; exact h6) q1 q3 (by rw [hsl]; exact k2_hasslot (q4 k hk)) rfl rfl hdg fun H' e1 e2 e3 => ?_
  rw [hsl] at e1 ⊢
  exact kk H' _ (hw.put hj he ⟨_, hc, t_OB.to (V := updV (vp_V fs) k v) ⟨_, e1, q2, q3, t_set q4 hap hk v⟩ (fun j _ => vp_updV_set hl v j)⟩ e3) (hS0.put e2 e3 (hj.2 _ _ _ he))
theorem wa_putF {ref Cn : String} {T : u_T} {N ci index kd i : Nat} (F : wa_fx p s m c meth args cc nL own nm ret D cy) (hin2 : nm = "<init>") (hw : wa_wd D ad C H) (hj : wa_wj A ad C) (hS0 : va_S A H0 H locs) {fs : List Value} (he : C kd i = some (.inr (ci, fs))) (hin : ∀ w ∈ u_ws Cn T N, w ∈ wa_ALL) (ty0 : Nat → FieldType) (hty : ∀ k, k < N → parseFieldDescriptor (T k).2.2.1 = some (ty0 k)) (hnm : ∀ a, a < N → ∀ b, b < N → a ≠ b → (T a).2.1 ≠ (T b).2.1) (hc : vwCl[ci]? = some (Cn, T, N)) (k : Nat) (hk : k < N) (hlink : Cond.fieldLink own index ref (T k).2.1 (T k).2.2.1 ∈ wa_ALL) (hsame : (T k).1 = ref) (hdecl : (T k).1 = own) (hfin : (T k).2.2.2 = true) {v : Value} (hn : narrow (ty0 k) v = v) (hfit : fits (ty0 k) v = true) (hl : k < fs.length)
    (hdg : decode cc pc = .ok (.putfield index, 3)) (kk : ∀ (H1 : Heap) (locs1 : List Loc), wa_wd D ad (wa_up C kd i (.inr (ci, fs.set k v))) H1 → va_S A H0 H1 locs1 → W p l e R s m args below meth c H1 locs1 cells slots Q (F0 m (pc + 3) ls rest)) : W p l e R s m args below meth c H locs cells slots Q (F0 m pc ls (v :: .ref (ad kd i) :: rest)) := by
  have hts := F.1.2.2.2.2
  have hown := F.1.2.2.2.1
  have hK := F.2.1.2.2
  have hap := va_apart (own := own) hts hin ty0 hty hnm hK hc
  have hat := hw kd i _ he
  obtain ⟨r, h1, cell, q1, q2, q3, q4⟩ := hat
  have hr : r = (Cn, T, N) := Option.some.inj (h1.symm.trans hc)
  subst hr
  obtain ⟨hS, hfc, kC, hkC, hkind⟩ := hK.1 ci _ hc
  obtain ⟨cf, kf, fi, f, hi, hsl⟩ := hS k hk
  have hlay := hts _ (hin _ (u_in_lay hk))
  unfold u_lay at hlay
  rw [if_pos hfin] at hlay
  have hst := (u_facts hfc hkC (u_lays hts hin hk) hi).1
  have hcf : m.cls = cf := by
    obtain ⟨_, _, c', _, _, _, -, -, hf', -, -, -, hown2, -⟩ := Cond.laysFinal_spec hlay
    have e1 : c' = cf := by have := hi.symm.trans hf'; simp at this; exact this.1.symm
    rw [hdecl] at hown2
    rw [← e1]; exact Option.some.inj (hown.symm.trans hown2)
  have h6 := u_fits hfc hkC hkind (Or.inr hlay) hi (hty k hk) hn hfit
  have hi2 : s.fieldFound? ref (T k).2.1 (T k).2.2.1 = some (cf, kf, fi, f) := by rw [← hsame]; exact hi
  refine W.putFinK F.1.1 F.1.2.1 hown (hts _ hlink) hi2 hst hcf (F.2.2.2.2.trans hin2) (by rw [q2]; exact h6) q1 q3 (by rw [hsl]; exact k2_hasslot (q4 k hk)) rfl rfl hdg fun H' e1 e2 e3 => ?_
  rw [hsl] at e1 ⊢
  exact kk H' _ (hw.put hj he ⟨_, hc, t_OB.to (V := updV (vp_V fs) k v) ⟨_, e1, q2, q3, t_set q4 hap hk v⟩ (fun j _ => vp_updV_set hl v j)⟩ e3) (hS0.put e2 e3 (hj.2 _ _ _ he))
-- arrays
/-- an array of ints, or of booleans -/
def wa_aI (cA : ClassId) (n : Nat) (g : Nat → Int) : va_E := .inl (cA, n, .inl (fun j => iI (g j)))
/-- an array of references -/
def wa_aR (cA : ClassId) (n : Nat) (g : Nat → Option Nat) : va_E := .inl (cA, n, .inr (.inr (.inr (.inr g))))
/-- an array of longs -/
def wa_aL (cA : ClassId) (n : Nat) (g : Nat → Int64) : va_E := .inl (cA, n, .inr (.inl g))
def wa_g (g : Nat → Int) (k : Nat) (v : Int) : Nat → Int := fun j => if j = k then v else g j
theorem wa_iald {kd i n : Nat} {g : Nat → Int} (F : wa_fx p s m c meth args cc nL own nm ret D cy) (hw : wa_wd D ad C H) (he : C kd i = some (wa_aI (cy 0) n g)) {z : Int} (j : Nat) (hz : z = (j : Int)) (hj : j < n) (hn : n < 2147483648) (hdg : decode cc pc = .ok (.iaload, 1))
    (kk : W p l e R s m args below meth c H locs cells slots Q (F0 m (pc + 1) ls (.int (iI (g j)) :: rest))) : W p l e R s m args below meth c H locs cells slots Q (F0 m pc ls (.int (iI z) :: .ref (ad kd i) :: rest)) :=
  va_iald F.1.1 F.1.2.1 F.2.1.2.2 (wa_one hw he) 0 0 rfl rfl (iI_in hz hj hn) hdg (by rw [iI_cl hz (by omega)]; exact kk)
theorem wa_aald {kd i n t0 : Nat} {g : Nat → Option Nat} {cA : ClassId} {Cn : String} (F : wa_fx p s m c meth args cc nL own nm ret D cy) (hw : wa_wd D ad C H) (he : C kd i = some (wa_aR cA n g)) (ht : (wa_ty cy)[t0]? = some (cA, .object Cn)) {z : Int} (j : Nat) (hz : z = (j : Int)) (hj : j < n) (hn : n < 2147483648) (hdg : decode cc pc = .ok (.aaload, 1))
    (kk : W p l e R s m args below meth c H locs cells slots Q (F0 m (pc + 1) ls (va_rf (g j) :: rest))) : W p l e R s m args below meth c H locs cells slots Q (F0 m pc ls (.int (iI z) :: .ref (ad kd i) :: rest)) :=
  va_aldq F.1.1 F.1.2.1 F.2.1.2.2 (wa_one hw he) 0 t0 rfl ht (iI_in hz hj hn) hdg (by rw [iI_cl hz (by omega)]; exact kk)
theorem wa_alen {kd i t0 : Nat} {cA : ClassId} {x : vp_A} {ty : FieldType} (F : wa_fx p s m c meth args cc nL own nm ret D cy) (hw : wa_wd D ad C H) (he : C kd i = some (.inl (cA, x))) (ht : (wa_ty cy)[t0]? = some (cA, ty)) (n : Nat) (hn : x.1 = n) (hn2 : n < 2147483648) (hdg : decode cc pc = .ok (.arraylength, 1))
    (kk : W p l e R s m args below meth c H locs cells slots Q (F0 m (pc + 1) ls (.int (iI (n : Int)) :: rest))) : W p l e R s m args below meth c H locs cells slots Q (F0 m pc ls (.ref (ad kd i) :: rest)) :=
  va_alen F.1.1 F.1.2.1 F.2.1.2.2 (wa_one hw he) 0 t0 rfl ht (by rw [hn]; exact iI_len n hn2) hdg kk
theorem wa_iast {kd i n : Nat} {g : Nat → Int} (F : wa_fx p s m c meth args cc nL own nm ret D cy) (hw : wa_wd D ad C H) (hj : wa_wj A ad C) (hS : va_S A H0 H locs) (he : C kd i = some (wa_aI (cy 0) n g)) {z v : Int} (j : Nat) (hz : z = (j : Int)) (hjn : j < n) (hn : n < 2147483648) (hdg : decode cc pc = .ok (.iastore, 1))
    (kk : ∀ (H1 : Heap) (locs1 : List Loc), wa_wd D ad (wa_up C kd i (wa_aI (cy 0) n (wa_g g j v))) H1 → va_S A H0 H1 locs1 → W p l e R s m args below meth c H1 locs1 cells slots Q (F0 m (pc + 1) ls rest)) : W p l e R s m args below meth c H locs cells slots Q (F0 m pc ls (.int (iI v) :: .int (iI z) :: .ref (ad kd i) :: rest)) := by
  have hin := iI_in hz hjn hn
  refine W.iast F.1.1 F.1.2.1 (wa_one hw he 0 _ rfl) ((F.2.1.2.2.2 0 _ rfl).1 n (fun j => .int (iI (g j)))) (fun q => by cases q) (by show ¬ (iI z < 0 ∨ (arrV _ _ _).slots.size ≤ _); rw [arrV_size]; exact hin) rfl rfl hdg fun H1 e z2 oq => ?_
  refine kk H1 _ (hw.put hj he ?_ oq) (hS.put z2 oq (hj.2 _ _ _ he))
  show H1[ad kd i]? = some (vp_cell _ _)
  rw [e, vp_cell_i, vp_cell_i, arrV_store, iI_cl hz (by omega)]
  congr 2
  funext q
  by_cases hq : q = j
  · subst hq; simp [updV, wa_g]
  · simp [updV, wa_g, hq]
end WAR
