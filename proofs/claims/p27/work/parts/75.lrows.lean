/-! the law: numbers, its own rows, its helpers' starts, calls, catches (laid by program) -/
theorem qw_351 : Cond.classLink "ImageBakerLaw" 31 "java/lang/IllegalStateException" ∈ wa_ALL := wa_in 351 (by decide +kernel) rfl
theorem qw_470 : Cond.classLink "ImageBakerLaw" 39 "java/lang/IllegalArgumentException" ∈ wa_ALL := wa_in 470 (by decide +kernel) rfl
theorem qw_522 : Cond.classLink "ImageBakerLaw" 48 "java/lang/IndexOutOfBoundsException" ∈ wa_ALL := wa_in 522 (by decide +kernel) rfl
theorem qn_267 : Cond.castable "java/lang/IllegalArgumentException" "java/lang/IllegalArgumentException" ∈ wa_NST := wa_inN 267 (by decide +kernel) rfl
theorem qn_109 : Cond.castable "java/lang/IndexOutOfBoundsException" "java/lang/IndexOutOfBoundsException" ∈ wa_NST := wa_inN 109 (by decide +kernel) rfl
theorem qn_177 : Cond.castable "java/lang/IllegalStateException" "java/lang/IllegalStateException" ∈ wa_NST := wa_inN 177 (by decide +kernel) rfl
theorem qw_350 : Cond.codeWith ⟨"ImageBakerLaw", "tried", "(LImageBaker;III)I"⟩ method_2_code 5 (Option.some FieldType.int) [(0, 86, 87, 31)] ∈ wa_ALL := wa_in 350 (by decide +kernel) rfl
theorem qw_349 : Cond.static ⟨"ImageBakerLaw", "tried", "(LImageBaker;III)I"⟩ ∈ wa_ALL := wa_in 349 (by decide +kernel) rfl
theorem qw_456 : Cond.codeWith ⟨"ImageBakerLaw", "stepped", "(LImageBaker;II)I"⟩ method_3_code 4 (Option.some FieldType.int) [(0, 6, 7, 31)] ∈ wa_ALL := wa_in 456 (by decide +kernel) rfl
theorem qw_455 : Cond.static ⟨"ImageBakerLaw", "stepped", "(LImageBaker;II)I"⟩ ∈ wa_ALL := wa_in 455 (by decide +kernel) rfl
theorem qw_469 : Cond.codeWith ⟨"ImageBakerLaw", "changed", "(LImageBaker;II)I"⟩ method_4_code 4 (Option.some FieldType.int) [(0, 6, 7, 39)] ∈ wa_ALL := wa_in 469 (by decide +kernel) rfl
theorem qw_468 : Cond.static ⟨"ImageBakerLaw", "changed", "(LImageBaker;II)I"⟩ ∈ wa_ALL := wa_in 468 (by decide +kernel) rfl
theorem qw_478 : Cond.codeWith ⟨"ImageBakerLaw", "started", "(LImageBaker;III)I"⟩ method_5_code 5 (Option.some FieldType.int) [(0, 7, 8, 31)] ∈ wa_ALL := wa_in 478 (by decide +kernel) rfl
theorem qw_477 : Cond.static ⟨"ImageBakerLaw", "started", "(LImageBaker;III)I"⟩ ∈ wa_ALL := wa_in 477 (by decide +kernel) rfl
theorem qw_521 : Cond.codeWith ⟨"ImageBakerLaw", "renewed", "(LImageBaker;I)I"⟩ method_6_code 3 (Option.some FieldType.int) [(0, 5, 6, 48), (0, 5, 9, 31)] ∈ wa_ALL := wa_in 521 (by decide +kernel) rfl
theorem qw_520 : Cond.static ⟨"ImageBakerLaw", "renewed", "(LImageBaker;I)I"⟩ ∈ wa_ALL := wa_in 520 (by decide +kernel) rfl
theorem qw_535 : Cond.codeWith ⟨"ImageBakerLaw", "stopped", "(LImageBaker;I)I"⟩ method_7_code 3 (Option.some FieldType.int) [(0, 5, 6, 48)] ∈ wa_ALL := wa_in 535 (by decide +kernel) rfl
theorem qw_534 : Cond.static ⟨"ImageBakerLaw", "stopped", "(LImageBaker;I)I"⟩ ∈ wa_ALL := wa_in 534 (by decide +kernel) rfl
theorem qw_44 : Cond.methodLink "ImageBakerLaw" 84 ⟨"ImageBaker", "<init>", "()V"⟩ ∈ wa_ALL := wa_in 44 (by decide +kernel) rfl
theorem qw_348 : Cond.methodLink "ImageBakerLaw" 104 ⟨"ImageBakerLaw", "tried", "(LImageBaker;III)I"⟩ ∈ wa_ALL := wa_in 348 (by decide +kernel) rfl
theorem qw_454 : Cond.methodLink "ImageBakerLaw" 97 ⟨"ImageBakerLaw", "stepped", "(LImageBaker;II)I"⟩ ∈ wa_ALL := wa_in 454 (by decide +kernel) rfl
theorem qw_467 : Cond.methodLink "ImageBakerLaw" 101 ⟨"ImageBakerLaw", "changed", "(LImageBaker;II)I"⟩ ∈ wa_ALL := wa_in 467 (by decide +kernel) rfl
theorem qw_476 : Cond.methodLink "ImageBakerLaw" 112 ⟨"ImageBakerLaw", "started", "(LImageBaker;III)I"⟩ ∈ wa_ALL := wa_in 476 (by decide +kernel) rfl
theorem qw_519 : Cond.methodLink "ImageBakerLaw" 119 ⟨"ImageBakerLaw", "renewed", "(LImageBaker;I)I"⟩ ∈ wa_ALL := wa_in 519 (by decide +kernel) rfl
theorem qw_533 : Cond.methodLink "ImageBakerLaw" 115 ⟨"ImageBakerLaw", "stopped", "(LImageBaker;I)I"⟩ ∈ wa_ALL := wa_in 533 (by decide +kernel) rfl
theorem qw_595 : Cond.constant "ImageBakerLaw" 91 (1590017 : Int32) ∈ wa_ALL := wa_in 595 (by decide +kernel) rfl
theorem qw_596 : Cond.constant "ImageBakerLaw" 92 (53017 : Int32) ∈ wa_ALL := wa_in 596 (by decide +kernel) rfl
theorem qw_597 : Cond.constant "ImageBakerLaw" 93 (268435455 : Int32) ∈ wa_ALL := wa_in 597 (by decide +kernel) rfl
-- numbers
theorem iI_rem {a b : Int} (ha : 0 ≤ a ∧ a < 2147483648) (hb : 0 < b ∧ b < 2147483648) : iI a - iI a / iI b * iI b = iI (a % b) := by
  obtain ⟨x, rfl⟩ : ∃ x : Nat, a = (x : Int) := ⟨a.toNat, by omega⟩
  obtain ⟨y, rfl⟩ : ∃ y : Nat, b = (y : Int) := ⟨b.toNat, by omega⟩
  have hm := Nat.mod_lt x (y := y) (by omega)
  have h := pk_rem (a := x) (d := y) (by omega) (by omega) (by omega)
  rw [show nI x = iI (x : Int) from iI_len x (by omega), show nI y = iI (y : Int) from iI_len y (by omega), show nI (x % y) = iI ((x % y : Nat) : Int) from iI_len _ (by omega)] at h
  exact h
theorem iI_div {a b : Int} (ha : 0 ≤ a ∧ a < 2147483648) (hb : 0 < b ∧ b < 2147483648) : iI a / iI b = iI (a / b) := by
  obtain ⟨x, rfl⟩ : ∃ x : Nat, a = (x : Int) := ⟨a.toNat, by omega⟩
  obtain ⟨y, rfl⟩ : ∃ y : Nat, b = (y : Int) := ⟨b.toNat, by omega⟩
  have hm := Nat.div_le_self x y
  have h := pk_div (a := x) (d := y) (by omega) (by omega) (by omega)
  rw [show nI x = iI (x : Int) from iI_len x (by omega), show nI y = iI (y : Int) from iI_len y (by omega), show nI (x / y) = iI ((x / y : Nat) : Int) from iI_len _ (by omega)] at h
  exact h
theorem iI_shr {a w d : Int} (ra : wa_r a) (k : Nat) (hs : ((iI w &&& 31).toBitVec.smod 32).toNat = k) (hd : ((2 ^ k : Nat) : Int) = d) : iI a >>> (iI w &&& 31) = iI (a / d) := by
  have h := pk_shr (iI a) (iI w &&& 31) k hs
  rw [iI_t ra, Int.shiftRight_eq_div_pow, hd] at h
  rw [← iI_as (iI a >>> (iI w &&& 31)), h]
theorem iI_bv (a : Int) : (iI a).toBitVec.toNat = (a % 4294967296).toNat := by
  show (Int32.ofInt a).toBitVec.toNat = _
  rw [Int32.toBitVec_ofInt, BitVec.toNat_ofInt]
  rfl
theorem iI_and {a w d : Int} (k : Nat) (hk : k ≤ 30) (hw : (iI w).toBitVec.toNat = 2 ^ k - 1) (hd : ((2 ^ k : Nat) : Int) = d) (hdv : d ∣ 4294967296) : iI a &&& iI w = iI (a % d) := by
  have h := pk_and (iI a) k hw
  have h2 : 2 ^ k ≤ 2 ^ 30 := Nat.pow_le_pow_right (by decide) hk
  have h0 : 0 < 2 ^ k := Nat.pow_pos (by decide)
  have hm := Nat.mod_lt (iI a).toBitVec.toNat (y := 2 ^ k) h0
  have h2' : (2 : Nat) ^ k ≤ 1073741824 := h2
  rw [h, show nI ((iI a).toBitVec.toNat % 2 ^ k) = iI (((iI a).toBitVec.toNat % 2 ^ k : Nat) : Int) from iI_len _ (by omega)]
  congr 1
  rw [Int.natCast_emod, hd, iI_bv, Int.toNat_of_nonneg (Int.emod_nonneg a (by decide)), Int.emod_emod_of_dvd a hdv]
theorem md_r {a b : Int} (hb : 0 < b) : 0 ≤ a % b ∧ a % b < b := ⟨Int.emod_nonneg a (by omega), Int.emod_lt_of_pos a hb⟩
section WLN
variable {p : Program} {l : Launch} {e : Env} {R : Room} {s : State} {m : MethodId} {args : Array Value} {below : List Frame} {meth : Method} {c : Code} {H : Heap} {locs : List Loc} {cells slots : Nat} {Q : State → Prop}
variable {cc : ByteArray} {pc : Nat} {ls : Array Slot} {rest : List Value} {D : va_G} {A : Nat → Prop} {H0 : Heap} {cy : Nat → ClassId} {ad : Nat → Nat → Nat} {nL : Nat} {own nm : String} {ret : Option FieldType} {T X G : wa_St} {o : Int64}
theorem wl_rem {a b : Int} (F : wa_fx p s m c meth args cc nL own nm ret D cy) (ha : 0 ≤ a ∧ a < 2147483648) (hb : 0 < b ∧ b < 2147483648) (hdg : decode cc pc = .ok (.irem, 1)) (k : W p l e R s m args below meth c H locs cells slots Q (F0 m (pc + 1) ls (.int (iI (a % b)) :: rest))) : W p l e R s m args below meth c H locs cells slots Q (F0 m pc ls (.int (iI b) :: .int (iI a) :: rest)) :=
  lv_irem F.1.1 F.1.2.1 hdg (by rw [iI_0, iI_eq ⟨by omega, by omega⟩ ⟨by omega, by omega⟩]; omega) (by rw [iI_rem ha hb]; exact k)
theorem wl_div {a b : Int} (F : wa_fx p s m c meth args cc nL own nm ret D cy) (ha : 0 ≤ a ∧ a < 2147483648) (hb : 0 < b ∧ b < 2147483648) (hdg : decode cc pc = .ok (.idiv, 1)) (k : W p l e R s m args below meth c H locs cells slots Q (F0 m (pc + 1) ls (.int (iI (a / b)) :: rest))) : W p l e R s m args below meth c H locs cells slots Q (F0 m pc ls (.int (iI b) :: .int (iI a) :: rest)) :=
  lv_idiv F.1.1 F.1.2.1 hdg (by rw [iI_0, iI_eq ⟨by omega, by omega⟩ ⟨by omega, by omega⟩]; omega) (by rw [iI_div ha hb]; exact k)
theorem wl_shr {a w : Int} (kk : Nat) (d : Int) (F : wa_fx p s m c meth args cc nL own nm ret D cy) (ra : wa_r a) (hs : ((iI w &&& 31).toBitVec.smod 32).toNat = kk) (hd : ((2 ^ kk : Nat) : Int) = d) (hdg : decode cc pc = .ok (.ishr, 1)) (k : W p l e R s m args below meth c H locs cells slots Q (F0 m (pc + 1) ls (.int (iI (a / d)) :: rest))) : W p l e R s m args below meth c H locs cells slots Q (F0 m pc ls (.int (iI w) :: .int (iI a) :: rest)) :=
  lv_ishr F.1.1 F.1.2.1 hdg (by rw [iI_shr ra kk hs hd]; exact k)
theorem wl_and {a w : Int} (kk : Nat) (d : Int) (F : wa_fx p s m c meth args cc nL own nm ret D cy) (hk : kk ≤ 30) (hw : (iI w).toBitVec.toNat = 2 ^ kk - 1) (hd : ((2 ^ kk : Nat) : Int) = d) (hdv : d ∣ 4294967296) (hdg : decode cc pc = .ok (.iand, 1)) (k : W p l e R s m args below meth c H locs cells slots Q (F0 m (pc + 1) ls (.int (iI (a % d)) :: rest))) : W p l e R s m args below meth c H locs cells slots Q (F0 m pc ls (.int (iI w) :: .int (iI a) :: rest)) :=
  lv_iand F.1.1 F.1.2.1 hdg (by rw [iI_and kk hk hw hd hdv]; exact k)
-- the law's own rows
theorem wl_g (k j : Nat) (v : Int) (hk : k < 3) : wa_up (wW cy ad T X G o) 6 k (wa_aI (cy 0) 10 (wa_g (G k) j v)) = wW cy ad T X (wa_s G k j v) o := by
  have key : ∀ a : Nat, a ≠ k → wa_s G k j v a = G a := fun a h => funext fun b => wa_s_nk h
  have same : wa_s G k j v k = wa_g (G k) j v := by
    funext b
    simp [wa_s, wa_g]
  funext a b
  by_cases h : a = 6 ∧ b = k
  · obtain ⟨rfl, rfl⟩ := h
    rw [wa_up_s]
    match b, hk with
    | 0, _ => show _ = some (wa_aI (cy 0) 10 (wa_s G 0 j v 0)); rw [same]
    | 1, _ => show _ = some (wa_aI (cy 0) 10 (wa_s G 1 j v 1)); rw [same]
    | 2, _ => show _ = some (wa_aI (cy 0) 10 (wa_s G 2 j v 2)); rw [same]
  · rw [wa_up_n h]
    match a, b, h with
    | 6, 0, h => show some (wa_aI (cy 0) 10 (G 0)) = some (wa_aI (cy 0) 10 (wa_s G k j v 0)); rw [key 0 (fun z => h ⟨rfl, z⟩)]
    | 6, 1, h => show some (wa_aI (cy 0) 10 (G 1)) = some (wa_aI (cy 0) 10 (wa_s G k j v 1)); rw [key 1 (fun z => h ⟨rfl, z⟩)]
    | 6, 2, h => show some (wa_aI (cy 0) 10 (G 2)) = some (wa_aI (cy 0) 10 (wa_s G k j v 2)); rw [key 2 (fun z => h ⟨rfl, z⟩)]
    | 6, n + 3, _ => rfl
    | 0, _, _ => rfl
    | 1, _, _ => rfl
    | 2, _, _ => rfl
    | 3, _, _ => rfl
    | 4, _, _ => rfl
    | 5, _, _ => rfl
    | n + 7, _, _ => rfl
theorem wl_he (k : Nat) (hk : k < 3) : wW cy ad T X G o 6 k = some (wa_aI (cy 0) 10 (G k)) := by
  match k, hk with
  | 0, _ => rfl
  | 1, _ => rfl
  | 2, _ => rfl
theorem wl_dom {S S' X' G' : wa_St} {o' : Int64} {kd i : Nat} {e' : va_E} (h : wW cy ad S X G' o' kd i = some e') : ∃ e : va_E, wW cy ad S X G o kd i = some e := by
  match kd, h with
  | 0, h => exact ⟨_, h⟩
  | 1, h => exact ⟨_, h⟩
  | 2, h => exact ⟨_, h⟩
  | 3, h => exact ⟨_, h⟩
  | 4, h => exact ⟨_, h⟩
  | 5, h => exact ⟨_, h⟩
  | 6, h =>
    match i, h with
    | 0, _ => exact ⟨_, rfl⟩
    | 1, _ => exact ⟨_, rfl⟩
    | 2, _ => exact ⟨_, rfl⟩
    | n + 3, h => cases h
  | n + 7, h => cases h
theorem wl_wj {S S' X' G' : wa_St} {o' : Int64} (h : wa_wj A ad (wW cy ad S X G o)) (h8 : S' 8 0 = S 8 0) (h21 : S' 21 0 = S 21 0) (h29 : S' 29 0 = S 29 0) : wa_wj A ad (wW cy ad S' X' G' o') := by
  have h1 : wa_wj A ad (wW cy ad S' X' G o) := wj_of h h8 h21 h29
  refine ⟨fun kd i kd' i' e e' he he' q => ?_, fun kd i e he => ?_⟩
  · obtain ⟨y, hy⟩ := wl_dom (S' := S) (X' := X) (G := G) (o := o) he
    obtain ⟨y', hy'⟩ := wl_dom (S' := S) (X' := X) (G := G) (o := o) he'
    exact h1.1 _ _ _ _ _ _ hy hy' q
  · obtain ⟨y, hy⟩ := wl_dom (S' := S) (X' := X) (G := G) (o := o) he
    exact h1.2 _ _ _ hy
theorem wl_gld {z : Int} (F : wa_fx p s m c meth args cc nL own nm ret D cy) (hw : wa_wd D ad (wW cy ad T X G o) H) (kk : Nat) (hk : kk < 3) (j : Nat) (hz : z = (j : Int)) (hj : j < 10) (hdg : decode cc pc = .ok (.iaload, 1)) (k : W p l e R s m args below meth c H locs cells slots Q (F0 m (pc + 1) ls (.int (iI (G kk j)) :: rest))) : W p l e R s m args below meth c H locs cells slots Q (F0 m pc ls (.int (iI z) :: .ref (ad 6 kk) :: rest)) :=
  wa_iald (g := G kk) F hw (wl_he kk hk) j hz hj (by decide) hdg k
theorem wl_gst {z v : Int} (F : wa_fx p s m c meth args cc nL own nm ret D cy) (hw : wa_wd D ad (wW cy ad T X G o) H) (hjj : wa_wj A ad (wW cy ad T X G o)) (hS : va_S A H0 H locs) (kk : Nat) (hk : kk < 3) (j : Nat) (hz : z = (j : Int)) (hj : j < 10) (hdg : decode cc pc = .ok (.iastore, 1)) (k : ∀ (H1 : Heap) (locs1 : List Loc), wa_wd D ad (wW cy ad T X (wa_s G kk j v) o) H1 → wa_wj A ad (wW cy ad T X (wa_s G kk j v) o) → va_S A H0 H1 locs1 → W p l e R s m args below meth c H1 locs1 cells slots Q (F0 m (pc + 1) ls rest)) : W p l e R s m args below meth c H locs cells slots Q (F0 m pc ls (.int (iI v) :: .int (iI z) :: .ref (ad 6 kk) :: rest)) := by
  refine wa_iast (g := G kk) F hw hjj hS (wl_he kk hk) j hz hj (by decide) hdg (fun H1 locs1 hw1 hS1 => ?_)
  rw [wl_g kk j v hk] at hw1
  exact k H1 locs1 hw1 (wl_wj hjj rfl rfl rfl) hS1
end WLN
theorem wl_rl {D : va_G} {cy : Nat → ClassId} {ad : Nat → Nat → Nat} {S X T S' : wa_St} {o : Int64} {H : Heap} (hw : wa_wd D ad (wW cy ad S X T o) H) (h : rl S S') : wa_wd D ad (wW cy ad S' X T o) H := by
  obtain ⟨r1, r2, r3, r4, r5⟩ := h
  have f : ∀ a, a = 2 ∨ a = 3 ∨ a = 22 → S a = S' a := fun a ha => funext (fun b => r1 a b (by omega))
  have e8 := r1 8 0 (by omega)
  have e29 := r1 29 0 (by omega)
  refine hw.cg (fun kd i e' he => ⟨rfl, ?_⟩)
  match kd, he with
  | 0, he =>
    match i, he with
    | 0, he =>
      refine ⟨_, rfl, Or.inl ?_⟩
      cases he
      show (Sum.inr (4, wx_fs ad S) : va_E) = Sum.inr (4, wx_fs ad S')
      unfold wx_fs
      rw [e8, r3, e29, r1 1 0 (by omega), r1 23 0 (by omega), r1 24 0 (by omega)]
    | 1, he =>
      refine ⟨_, rfl, Or.inl ?_⟩
      cases he
      show (Sum.inr (2, wx_ls ad S) : va_E) = Sum.inr (2, wx_ls ad S')
      unfold wx_ls
      rw [r2]
    | 2, he => exact ⟨_, rfl, Or.inl (Option.some.inj he)⟩
    | 3, he => exact ⟨_, rfl, Or.inl (Option.some.inj he)⟩
    | 4, he => exact ⟨_, rfl, Or.inl (Option.some.inj he)⟩
    | 5, he => exact ⟨_, rfl, Or.inl (by rw [f 2 (by omega)]; exact Option.some.inj he)⟩
    | 6, he => exact ⟨_, rfl, Or.inl (by rw [f 3 (by omega)]; exact Option.some.inj he)⟩
    | 7, he => exact ⟨_, rfl, Or.inl (by rw [e8]; exact Option.some.inj he)⟩
    | 8, he => exact ⟨_, rfl, Or.inl (by rw [r3]; exact Option.some.inj he)⟩
    | 9, he => exact ⟨_, rfl, Or.inl (by rw [e29]; exact Option.some.inj he)⟩
    | 10, he => exact ⟨_, rfl, Or.inl (by rw [f 22 (by omega)]; exact Option.some.inj he)⟩
    | 11, he => exact ⟨_, rfl, Or.inl (Option.some.inj he)⟩
    | 12, he => exact ⟨_, rfl, Or.inl (Option.some.inj he)⟩
    | 13, he => exact ⟨_, rfl, Or.inl (Option.some.inj he)⟩
    | 14, he => exact ⟨_, rfl, Or.inl (Option.some.inj he)⟩
    | n + 15, he => cases he
  | 1, he =>
    obtain ⟨hi, rfl⟩ := wx_lt he
    refine ⟨_, wW_1 (by rw [e8]; exact hi), Or.inl ?_⟩
    unfold wx_fI
    rw [r1 4 i (by omega), r1 6 i (by omega), r1 7 i (by omega)]
  | 2, he =>
    obtain ⟨hi, rfl⟩ := wx_lt he
    refine ⟨_, wW_2 (by rw [e8]; exact hi), Or.inl ?_⟩
    rw [show (fun j => S 5 (5 * i + j)) = (fun j => S' 5 (5 * i + j)) from funext (fun j => r1 5 _ (by omega))]
  | 3, he =>
    obtain ⟨hi, rfl⟩ := wx_lt he
    refine ⟨_, wW_3 (by rw [r3]; exact hi), Or.inl ?_⟩
    unfold wx_fB
    have hi2 : (i : Int) < S 21 0 := by rw [r3]; exact hi
    rw [r4 13 i (by omega) (by omega) hi2, r4 14 i (by omega) (by omega) hi2, r4 15 i (by omega) (by omega) hi2, r4 16 i (by omega) (by omega) hi2, r4 17 i (by omega) (by omega) hi2, r4 18 i (by omega) (by omega) hi2, r4 19 i (by omega) (by omega) hi2]
  | 4, he =>
    obtain ⟨hi, rfl⟩ := wx_lt he
    have hi2 : (i : Int) < S 21 0 := by rw [r3]; exact hi
    exact ⟨_, wW_4 hi2, Or.inr (Or.inl ⟨cy 0, 3, _, _, rfl, rfl, fun j hj => r5 _ (by omega)⟩)⟩
  | 5, he =>
    obtain ⟨hi, rfl⟩ := wx_lt he
    refine ⟨_, wW_5 (by rw [e29]; exact hi), Or.inl ?_⟩
    unfold wx_fM
    rw [r1 25 i (by omega), r1 26 i (by omega), r1 27 i (by omega), r1 28 i (by omega)]
  | 6, he => exact ⟨e', he, Or.inl rfl⟩
  | n + 7, he => cases he
/-- a world told by other addresses that are the same ones where it has cells -/
theorem wa_op_x {ad ad1 : Nat → Nat → Nat} {kd : Nat} {z n : Int} (h : ∀ i : Nat, (i : Int) < n → ad1 kd i = ad kd i) (hz : z < n) : wa_op ad1 kd z = wa_op ad kd z := by
  unfold wa_op
  split
  · rfl
  · rw [h z.toNat (by omega)]
theorem wl_back {D : va_G} {cy : Nat → ClassId} {ad ad1 : Nat → Nat → Nat} {T X G : wa_St} {o : Int64} {H : Heap} (hwf : wf T) (hxr : xr T X) (he : x_ext T ad ad1) (hw : wa_wd D ad1 (wW cy ad1 T X G o) H) : wa_wd D ad (wW cy ad T X G o) H := by
  obtain ⟨hB, w8, w21, w12, w29, w4, w7, w6, w5, w13, w25, w26, w28, w14, w3, wf17⟩ := id hwf
  obtain ⟨hx1, hXB, hx11, hx12, hx13, hx14, hx15, hx16⟩ := id hxr
  obtain ⟨e0, e1, e2, e3, e6, e7⟩ := he
  have key : ∀ (kd i : Nat) (e : va_E), wW cy ad T X G o kd i = some e → ad1 kd i = ad kd i ∧ wW cy ad1 T X G o kd i = some e := by
    intro kd i e h
    match kd, h with
    | 0, h =>
      refine ⟨e0 i, ?_⟩
      rw [← h]
      match i with
      | 0 => show (some (Sum.inr (4, wx_fs ad1 T)) : Option va_E) = some (Sum.inr (4, wx_fs ad T)); unfold wx_fs; simp only [e0]
      | 1 => show (some (Sum.inr (2, wx_ls ad1 T)) : Option va_E) = some (Sum.inr (2, wx_ls ad T)); unfold wx_ls; simp only [e0]
      | 2 => rfl
      | 3 => rfl
      | 4 => rfl
      | 5 => rfl
      | 6 => rfl
      | 7 => show some (wa_aR (cy 3) 10 (wx_in ad1 1 (T 8 0))) = some (wa_aR (cy 3) 10 (wx_in ad 1 (T 8 0))); congr 2; funext j; unfold wx_in; split; (rename_i q; rw [(e1 j q).1]); rfl
      | 8 => show some (wa_aR (cy 2) 60 (wx_in ad1 3 (T 21 0))) = some (wa_aR (cy 2) 60 (wx_in ad 3 (T 21 0))); congr 2; funext j; unfold wx_in; split; (rename_i q; rw [(e2 j q).1]); rfl
      | 9 => show some (wa_aR (cy 4) 30 (wx_in ad1 5 (T 29 0))) = some (wa_aR (cy 4) 30 (wx_in ad 5 (T 29 0))); congr 2; funext j; unfold wx_in; split; (rename_i q; rw [e3 j q]); rfl
      | 10 => rfl
      | 11 => show some (wa_aR (cy 3) 10 (fun j => wa_op ad1 1 (X 11 j))) = some (wa_aR (cy 3) 10 (fun j => wa_op ad 1 (X 11 j))); congr 2; funext j; exact wa_op_x (fun i q => (e1 i q).1) (hx11 j).2
      | 12 => show some (wa_aR (cy 3) 10 (fun j => wa_op ad1 1 (X 12 j))) = some (wa_aR (cy 3) 10 (fun j => wa_op ad 1 (X 12 j))); congr 2; funext j; exact wa_op_x (fun i q => (e1 i q).1) (hx14 j).2
      | 13 => rfl
      | 14 => show some (wa_aR (cy 4) 30 (fun j => wa_op ad1 5 (X 14 j))) = some (wa_aR (cy 4) 30 (fun j => wa_op ad 5 (X 14 j))); congr 2; funext j; exact wa_op_x e3 (hx15 j).2
      | n + 15 => rfl
    | 1, h =>
      obtain ⟨hi, rfl⟩ := wx_lt h
      refine ⟨(e1 i hi).1, (wW_1 hi).trans ?_⟩
      have q4 := w4 i hi
      have q7 := w7 i hi
      unfold wx_fI
      rw [wa_op_x (fun i q => (e1 i q).1) (show T 4 i < T 8 0 by omega), wa_op_x (fun i q => (e2 i q).1) q7.2, (e1 i hi).2]
    | 2, h =>
      obtain ⟨hi, rfl⟩ := wx_lt h
      exact ⟨(e1 i hi).2, wW_2 hi⟩
    | 3, h =>
      obtain ⟨hi, rfl⟩ := wx_lt h
      refine ⟨(e2 i hi).1, (wW_3 hi).trans ?_⟩
      have q13 := w13 i hi
      unfold wx_fB
      rw [(e1 (T 13 i).toNat (by omega)).1, (e2 i hi).2]
    | 4, h =>
      obtain ⟨hi, rfl⟩ := wx_lt h
      exact ⟨(e2 i hi).2, wW_4 hi⟩
    | 5, h =>
      obtain ⟨hi, rfl⟩ := wx_lt h
      refine ⟨e3 i hi, (wW_5 hi).trans ?_⟩
      have q25 := w25 i hi
      have q28 := w28 i hi
      unfold wx_fM
      rw [(e1 (T 25 i).toNat (by omega)).1, wa_op_x (fun i q => (e2 i q).1) q28.2]
    | 6, h => exact ⟨e6 i, h⟩
    | n + 7, h => cases h
  intro kd i e h
  obtain ⟨k1, k2⟩ := key kd i e h
  have := hw kd i e k2
  rw [k1] at this
  exact this
/-- an exception of one class isn't of another's -/
def wl_N (U : State) : Prop := va_Nc "java/lang/IllegalStateException" "java/lang/IndexOutOfBoundsException" U
theorem wl_N.moved {u U : State} (hvm : u.vm.Alike U.vm) (h : wl_N u) : wl_N U := va_Nc.moved hvm h
/-- a start of one of the law's helpers -/
def wl_pc (av : List Value) (D : va_G) (cy : Nat → ClassId) (A : Nat → Prop) (Pre : Heap → Prop) : Array Value → State → Prop := fun v U => v = av.toArray ∧ wa_SB D cy U ∧ wx_TB A U U.heap ∧ wl_N U ∧ Pre U.heap
theorem wl_blind {av : List Value} {D : va_G} {cy : Nat → ClassId} {A : Nat → Prop} {Pre : Heap → Prop} : FrameBlind (wl_pc av D cy A Pre) := by
  intro a U g mk h
  exact ⟨h.1, wa_SB.warm h.2.1 (State.WarmedH.refl U), wx_TB.moved h.2.2.1 (State.WarmedH.refl U) (fun _ _ _ => rfl), wl_N.moved (State.WarmedH.refl U).alike h.2.2.2.1, h.2.2.2.2⟩
theorem wl_pre {av : List Value} {D : va_G} {cy : Nat → ClassId} {A : Nat → Prop} {Pre : Heap → Prop} {s : State} {H : Heap} {locs : List Loc} (hs : wa_SB D cy s) (hT : wx_TB A s s.heap) (hN : wl_N s) (hS : va_S A s.heap H locs) (hP : Pre H) : PreS s H (wl_pc av D cy A Pre) av :=
  ⟨wl_blind, fun U hU hW => ⟨rfl, hs.warm hW, by rw [hU]; exact hT.moved hW hS.2.1, hN.moved hW.alike, by rw [hU]; exact hP⟩⟩
/-- what a helper answers and leaves: v its answer, T1 the state behind it -/
abbrev wl_Q (A : Nat → Prop) (D : va_G) (cy : Nat → ClassId) (ad : Nat → Nat → Nat) (G : wa_St) (o : Int64) (T T1 : wa_St) (v : Int) : Array Value → State → Outcome → State → Prop := va_Qi (fun r (u : (Nat → Nat → Nat) × wa_St) => r = iI v ∧ wx_P A cy ad G o T T1 u) (fun u t => wx_B D cy G o T1 u t.heap) A
/-- what the class shows is what the state says -/
theorem wl_go {n : Nat} {A : Nat → Prop} {D : va_G} {cy : Nat → ClassId} {ad ad1 : Nat → Nat → Nat} {T S1 T1 X1 G : wa_St} {o : Int64} {k : Int} {H : Heap} (hpk : pk n S1 T1 k) (hp : wx_P A cy ad G o T S1 (ad1, X1)) (hB : wa_wd D ad1 (wW cy ad1 S1 X1 G o) H) : wx_P A cy ad G o T T1 (ad1, X1) ∧ wa_wd D ad1 (wW cy ad1 T1 X1 G o) H := by
  obtain ⟨p1, p2, p3, p4⟩ := hpk
  exact ⟨⟨p4 X1 hp.1, wj_of hp.2.1 (p2.1 8 0 (by omega)).symm p2.2.2.1.symm (p2.1 29 0 (by omega)).symm, hp.2.2⟩, wl_rl hB p2⟩
section WLA
variable {p : Program} {l : Launch} {e : Env} {R : Room} {s : State} {m : MethodId} {args : Array Value} {below : List Frame} {meth : Method} {c : Code} {H : Heap} {locs : List Loc} {cells slots : Nat} {Q : State → Prop}
variable {cc : ByteArray} {pc : Nat} {ls : Array Slot} {rest st0 : List Value} {D : va_G} {A : Nat → Prop} {H0 : Heap} {cy : Nat → ClassId} {ad : Nat → Nat → Nat} {C : wa_C} {nL : Nat} {own nm : String} {ret : Option FieldType} {Qc : Array Value → State → Outcome → State → Prop} {XC : String → State → State → Prop}
variable {y : MethodName} {bytes : ByteArray} {maxL n index : Nat} {rety : Option FieldType} {rm : Room} {Pre : Heap → Prop} {free : Addr → Prop} {As : List Value} {mc ms : Nat} {U U' : Type} {post : U → Prop} {B : U → Heap → Prop} {post' : U' → Prop} {B' : U' → Heap → Prop} {a : Array Value} {k v : Int} {K : Prop} {ex : Int → String} {hh : List (Nat × Nat × Nat × Nat)}
theorem wl_en {l : Launch} {y : MethodName} {cc : ByteArray} {maxL : Nat} {ret : Option FieldType} {rm : Room} {av : List Value} {D : va_G} {cy : Nat → ClassId} {Pre : Heap → Prop} {Qc : Array Value → State → Outcome → State → Prop} {mc ms : Nat} {free : Addr → Prop} (hy : plainName y.cls = true) (hl : (lg_sl av).length ≤ maxL)
    (body : ∀ (p : Program) (e : Env) (s : State) (m : MethodId) (args : Array Value) (below : List Frame) (meth : Method) (c : Code), wa_fx p s m c meth args cc maxL y.cls y.name ret D cy → wx_TB A s s.heap → wl_N s → c.exceptionTable.toList = tableOf hh → Pre s.heap → ∀ ls : Array Slot, lv_has ls maxL (lv_args 0 av) → W p l e rm s m args below meth c s.heap [] 0 0 (MQ below Qc args s mc ms free) (F0 m 0 ls [])) :
    Met l y [.codeWith y cc maxL ret hh] rm (wl_pc av D cy A Pre) Qc mc ms free := by
  refine va_MetW (cc := cc) (maxL := maxL) (ret := ret) (hh := hh) hy rfl ?_
  intro p e s m args below meth c s₁ B hml hv
  obtain ⟨rfl, hSB, hTB, hN, hP⟩ := hv
  have F : wa_fx p s m c meth av.toArray cc maxL y.cls y.name ret D cy := ⟨⟨B.exec, B.bytes, hml, findClass_of_methodNamed B.named, hSB.all _⟩, hSB, B.returns, B.notSynchronized, (name_of_methodNamed B.named B.method).1⟩
  have ht := vx_table (x := y) B (y := y) (hh := hh) (bytes := cc) (maxL' := maxL) (ret' := ret) (atoms_spec (ws := [.codeWith y cc maxL ret hh]) B.pre _ List.mem_cons_self)
  rw [lg_entry_eq]
  exact body p e s m _ below meth c F hTB hN ht hP _ (lv_entry av hl)
/-- a call that answers an int, or throws -/
theorem wl_ci (hr : vx_Run p l e R s m args below meth c H locs cells slots mc ms (F0 m pc ls st0) rest (va_Qi (fun r (u : U) => r = iI v ∧ K ∧ post u) (fun u t => B u t.heap) A a) (wx_XC A ex k post' B') A) (hS : va_S A H0 H locs)
    (kx : ∀ (E : String) (ce : Cell) (q9 : Addr) (u : U') (H1 : Heap) (locs1 : List Loc), E = ex k → k ≠ 0 → post' u → B' u H1 → va_S A H0 H1 locs1 → H1[q9]? = some ce → ce.vm = .none → s.vm.findClass E = some ce.cls → vx_W p l e R s m args below meth c H1 locs1 (cells + mc) (slots + ms) Q (F0 m pc ls rest) q9)
    (kk : ∀ (u : U) (H1 : Heap) (locs1 : List Loc), K → post u → B u H1 → va_S A H0 H1 locs1 → W p l e R s m args below meth c H1 locs1 (cells + mc) (slots + ms) Q (F0 m (pc + 3) ls (.int (iI v) :: rest))) : W p l e R s m args below meth c H locs cells slots Q (F0 m pc ls st0) :=
  vx_calli hr hS (fun _ _ h => h) (fun _ h => h) (fun _ _ h => h) (fun E ce q9 u t H1 locs1 ht hvm hp hB hz hk hS h1 h2 h3 => kx E ce q9 u H1 locs1 hB.1 hB.2.1 hp (by rw [← ht]; exact hB.2.2) hS h1 h2 h3)
    (fun r u t H1 locs1 ht hvm hp hB hz hk hS => by rw [hp.1]; exact kk u H1 locs1 hp.2.1 hp.2.2 (by rw [← ht]; exact hB) hS)
theorem wl_cv (hr : vx_Run p l e R s m args below meth c H locs cells slots mc ms (F0 m pc ls st0) rest (va_Qv (fun (u : U) => K ∧ post u) (fun u t => B u t.heap) A a) (wx_XC A ex k post' B') A) (hS : va_S A H0 H locs)
    (kx : ∀ (E : String) (ce : Cell) (q9 : Addr) (u : U') (H1 : Heap) (locs1 : List Loc), E = ex k → k ≠ 0 → post' u → B' u H1 → va_S A H0 H1 locs1 → H1[q9]? = some ce → ce.vm = .none → s.vm.findClass E = some ce.cls → vx_W p l e R s m args below meth c H1 locs1 (cells + mc) (slots + ms) Q (F0 m pc ls rest) q9)
    (kk : ∀ (u : U) (H1 : Heap) (locs1 : List Loc), K → post u → B u H1 → va_S A H0 H1 locs1 → W p l e R s m args below meth c H1 locs1 (cells + mc) (slots + ms) Q (F0 m (pc + 3) ls rest)) : W p l e R s m args below meth c H locs cells slots Q (F0 m pc ls st0) :=
  vx_callv hr hS (fun _ _ h => h) (fun _ h => h) (fun _ _ h => h) (fun E ce q9 u t H1 locs1 ht hvm hp hB hz hk hS h1 h2 h3 => kx E ce q9 u H1 locs1 hB.1 hB.2.1 hp (by rw [← ht]; exact hB.2.2) hS h1 h2 h3)
    (fun u t H1 locs1 ht hvm hp hB hz hk hS => kk u H1 locs1 hp.1 hp.2 (by rw [← ht]; exact hB) hS)
theorem wl_runS (F : wa_fx p s m c meth args cc nL own nm ret D cy) (hTB : wx_TB A s s.heap) (hN : wl_N s) (hS : va_S A s.heap H locs) (hM : Met l y [.codeWith y bytes maxL rety hh] rm (wl_pc As D cy A Pre) Qc mc ms free) (hl : Cond.methodLink own index y ∈ wa_ALL) (hst9 : Cond.static y ∈ wa_ALL) (hini : Cond.initialized y.cls ∈ wa_ALL) (hcd : Cond.codeWith y bytes maxL rety hh ∈ wa_ALL) (ha : wa_na y n) (hR : wa_rm rm R maxL) (hz : rm.cells = mc ∧ rm.slots = ms) (hP : Pre H) (hn : As.length = n) (hst : st0 = As.reverse ++ rest) (hW : (rest.map fun v => v.category).sum ≤ 8) (hls : ls.size = nL) (hdg : decode cc pc = .ok (.invokestatic index, 3)) (hf : cells + mc ≤ R.cells ∧ slots + ms ≤ R.slots) :
    va_Run p l e R s m args below meth c H locs cells slots mc ms (F0 m pc ls st0) rest (Qc As.toArray) free := by
  have hG : GoodIn wa_ALL (va_wsS own index y [.codeWith y bytes maxL rety hh]) := by
    intro w hw
    have : w ∈ wa_ALL := by
      simp only [va_wsS, List.mem_append, List.mem_cons, List.not_mem_nil, or_false] at hw
      rcases hw with (rfl | rfl | rfl) | rfl <;> assumption
    exact wa_good w this
  exact vx_runSW F.1 hM (vx_cwSW n F.1.2.2.2.2 hG rfl hz.1 hz.2 ha hR) (wl_pre F.2.1 hTB hN hS hP) rfl hn hls hst (lv_room hW) hdg hf
/-- .. a helper without a table of its own -/
theorem wl_en0 {l : Launch} {y : MethodName} {cc : ByteArray} {maxL : Nat} {ret : Option FieldType} {rm : Room} {av : List Value} {D : va_G} {cy : Nat → ClassId} {Pre : Heap → Prop} {Qc : Array Value → State → Outcome → State → Prop} {mc ms : Nat} {free : Addr → Prop} (hy : plainName y.cls = true) (hl : (lg_sl av).length ≤ maxL)
    (body : ∀ (p : Program) (e : Env) (s : State) (m : MethodId) (args : Array Value) (below : List Frame) (meth : Method) (c : Code), wa_fx p s m c meth args cc maxL y.cls y.name ret D cy → wx_TB A s s.heap → Pre s.heap → ∀ ls : Array Slot, lv_has ls maxL (lv_args 0 av) → W p l e rm s m args below meth c s.heap [] 0 0 (MQ below Qc args s mc ms free) (F0 m 0 ls [])) :
    Met l y [.code y cc maxL ret] rm (wx_pc av D cy A Pre) Qc mc ms free := by
  refine Met.ofW (cc := cc) (maxL := maxL) (ret := ret) hy rfl ?_
  intro p e s m args below meth c s₁ B hml hv
  obtain ⟨rfl, hSB, hTB, hP⟩ := hv
  have F : wa_fx p s m c meth av.toArray cc maxL y.cls y.name ret D cy := ⟨⟨B.exec, B.bytes, hml, findClass_of_methodNamed B.named, hSB.all _⟩, hSB, B.returns, B.notSynchronized, (name_of_methodNamed B.named B.method).1⟩
  rw [lg_entry_eq]
  exact body p e s m _ below meth c F hTB hP _ (lv_entry av hl)
theorem wl_runS0 (F : wa_fx p s m c meth args cc nL own nm ret D cy) (hTB : wx_TB A s s.heap) (hS : va_S A s.heap H locs) (hM : Met l y [.code y bytes maxL rety] rm (wx_pc As D cy A Pre) Qc mc ms free) (hG : GoodIn wa_ALL (wsS own index y [.code y bytes maxL rety])) (hc : y.cls = own) (ha : wa_na y n) (hR : wa_rm rm R maxL) (hz : rm.cells = mc ∧ rm.slots = ms) (hP : Pre H) (hn : As.length = n) (hst : st0 = As.reverse ++ rest) (hW : (rest.map fun v => v.category).sum ≤ 8) (hls : ls.size = nL) (hdg : decode cc pc = .ok (.invokestatic index, 3)) (hf : cells + mc ≤ R.cells ∧ slots + ms ≤ R.slots) :
    va_Run p l e R s m args below meth c H locs cells slots mc ms (F0 m pc ls st0) rest (Qc As.toArray) free :=
  va_runS F.1 hM (cwS n F.1.2.2.2.2 hG rfl hz.1 hz.2 ⟨hc, ha⟩ hR) (wx_pre F.2.1 hTB hS hP) rfl hn hls hst (lv_room hW) hdg hf
theorem vL_7 {i kd : Nat} {fs : List Value} (F : wa_fx p s m c meth args cc nL RL nm ret D cy) (hTB : wx_TB A s s.heap) (hS : va_S A s.heap H locs) (hM : vx_Met l yX4_bake wX4_bake rm (wx_pc (.ref (ad kd i) :: As) D cy A Pre) Qc XC mc ms free) (hR : wa_rm rm R 3) (hz : rm.cells = mc ∧ rm.slots = ms) (hP : Pre H) (hw : wa_wd D ad C H) (he : C kd i = some (.inr (4, fs))) (hn : As.length = 1) (hst : st0 = As.reverse ++ .ref (ad kd i) :: rest) (hW : (rest.map fun v => v.category).sum ≤ 8) (hls : ls.size = nL) (hdg : decode cc pc = .ok (.invokevirtual 7, 3)) (hf : cells + mc ≤ R.cells ∧ slots + ms ≤ R.slots) : vx_Run p l e R s m args below meth c H locs cells slots mc ms (F0 m pc ls st0) rest (Qc (Value.ref (ad kd i) :: As).toArray) XC free := wx_runV F hTB hS hM (wa_wV qw_352 qw_353 qw_354 qw_31 qw_355) ⟨by decide, by decide, rfl⟩ hR hz hP (wa_rcv (q := (RX4, TX4, 17)) F.2.1 hw he rfl) hn hst hW hls hdg hf
theorem vL_13 {i kd : Nat} {fs : List Value} (F : wa_fx p s m c meth args cc nL RL nm ret D cy) (hTB : wx_TB A s s.heap) (hS : va_S A s.heap H locs) (hM : vx_Met l yX4_hold wX4_hold rm (wx_pc (.ref (ad kd i) :: As) D cy A Pre) Qc XC mc ms free) (hR : wa_rm rm R 3) (hz : rm.cells = mc ∧ rm.slots = ms) (hP : Pre H) (hw : wa_wd D ad C H) (he : C kd i = some (.inr (4, fs))) (hn : As.length = 1) (hst : st0 = As.reverse ++ .ref (ad kd i) :: rest) (hW : (rest.map fun v => v.category).sum ≤ 8) (hls : ls.size = nL) (hdg : decode cc pc = .ok (.invokevirtual 13, 3)) (hf : cells + mc ≤ R.cells ∧ slots + ms ≤ R.slots) : vx_Run p l e R s m args below meth c H locs cells slots mc ms (F0 m pc ls st0) rest (Qc (Value.ref (ad kd i) :: As).toArray) XC free := wx_runV F hTB hS hM (wa_wV qw_408 qw_409 qw_410 qw_31 qw_411) ⟨by decide, by decide, rfl⟩ hR hz hP (wa_rcv (q := (RX4, TX4, 17)) F.2.1 hw he rfl) hn hst hW hls hdg hf
theorem vL_16 {i kd : Nat} {fs : List Value} (F : wa_fx p s m c meth args cc nL RL nm ret D cy) (hTB : wx_TB A s s.heap) (hS : va_S A s.heap H locs) (hM : vx_Met l yX4_raise wX4_raise rm (wx_pc (.ref (ad kd i) :: As) D cy A Pre) Qc XC mc ms free) (hR : wa_rm rm R 3) (hz : rm.cells = mc ∧ rm.slots = ms) (hP : Pre H) (hw : wa_wd D ad C H) (he : C kd i = some (.inr (4, fs))) (hn : As.length = 1) (hst : st0 = As.reverse ++ .ref (ad kd i) :: rest) (hW : (rest.map fun v => v.category).sum ≤ 8) (hls : ls.size = nL) (hdg : decode cc pc = .ok (.invokevirtual 16, 3)) (hf : cells + mc ≤ R.cells ∧ slots + ms ≤ R.slots) : vx_Run p l e R s m args below meth c H locs cells slots mc ms (F0 m pc ls st0) rest (Qc (Value.ref (ad kd i) :: As).toArray) XC free := wx_runV F hTB hS hM (wa_wV qw_413 qw_414 qw_415 qw_31 qw_416) ⟨by decide, by decide, rfl⟩ hR hz hP (wa_rcv (q := (RX4, TX4, 17)) F.2.1 hw he rfl) hn hst hW hls hdg hf
theorem vL_19 {i kd : Nat} {fs : List Value} (F : wa_fx p s m c meth args cc nL RL nm ret D cy) (hTB : wx_TB A s s.heap) (hS : va_S A s.heap H locs) (hM : vx_Met l yX4_copy wX4_copy rm (wx_pc (.ref (ad kd i) :: As) D cy A Pre) Qc XC mc ms free) (hR : wa_rm rm R 4) (hz : rm.cells = mc ∧ rm.slots = ms) (hP : Pre H) (hw : wa_wd D ad C H) (he : C kd i = some (.inr (4, fs))) (hn : As.length = 2) (hst : st0 = As.reverse ++ .ref (ad kd i) :: rest) (hW : (rest.map fun v => v.category).sum ≤ 8) (hls : ls.size = nL) (hdg : decode cc pc = .ok (.invokevirtual 19, 3)) (hf : cells + mc ≤ R.cells ∧ slots + ms ≤ R.slots) : vx_Run p l e R s m args below meth c H locs cells slots mc ms (F0 m pc ls st0) rest (Qc (Value.ref (ad kd i) :: As).toArray) XC free := wx_runV F hTB hS hM (wa_wV qw_418 qw_419 qw_420 qw_31 qw_421) ⟨by decide, by decide, rfl⟩ hR hz hP (wa_rcv (q := (RX4, TX4, 17)) F.2.1 hw he rfl) hn hst hW hls hdg hf
theorem vL_23 {i kd : Nat} {fs : List Value} (F : wa_fx p s m c meth args cc nL RL nm ret D cy) (hTB : wx_TB A s s.heap) (hS : va_S A s.heap H locs) (hM : vx_Met l yX4_bakeAll wX4_bakeAll rm (wx_pc (.ref (ad kd i) :: As) D cy A Pre) Qc XC mc ms free) (hR : wa_rm rm R 6) (hz : rm.cells = mc ∧ rm.slots = ms) (hP : Pre H) (hw : wa_wd D ad C H) (he : C kd i = some (.inr (4, fs))) (hn : As.length = 0) (hst : st0 = As.reverse ++ .ref (ad kd i) :: rest) (hW : (rest.map fun v => v.category).sum ≤ 8) (hls : ls.size = nL) (hdg : decode cc pc = .ok (.invokevirtual 23, 3)) (hf : cells + mc ≤ R.cells ∧ slots + ms ≤ R.slots) : vx_Run p l e R s m args below meth c H locs cells slots mc ms (F0 m pc ls st0) rest (Qc (Value.ref (ad kd i) :: As).toArray) XC free := wx_runV F hTB hS hM (wa_wV qw_432 qw_433 qw_434 qw_31 qw_435) ⟨by decide, by decide, rfl⟩ hR hz hP (wa_rcv (q := (RX4, TX4, 17)) F.2.1 hw he rfl) hn hst hW hls hdg hf
theorem vL_27 {i kd : Nat} {fs : List Value} (F : wa_fx p s m c meth args cc nL RL nm ret D cy) (hTB : wx_TB A s s.heap) (hS : va_S A s.heap H locs) (hM : vx_Met l yX4_test wX4_test rm (wx_pc (.ref (ad kd i) :: As) D cy A Pre) Qc XC mc ms free) (hR : wa_rm rm R 4) (hz : rm.cells = mc ∧ rm.slots = ms) (hP : Pre H) (hw : wa_wd D ad C H) (he : C kd i = some (.inr (4, fs))) (hn : As.length = 2) (hst : st0 = As.reverse ++ .ref (ad kd i) :: rest) (hW : (rest.map fun v => v.category).sum ≤ 8) (hls : ls.size = nL) (hdg : decode cc pc = .ok (.invokevirtual 27, 3)) (hf : cells + mc ≤ R.cells ∧ slots + ms ≤ R.slots) : vx_Run p l e R s m args below meth c H locs cells slots mc ms (F0 m pc ls st0) rest (Qc (Value.ref (ad kd i) :: As).toArray) XC free := wx_runV F hTB hS hM (wa_wV qw_449 qw_450 qw_451 qw_31 qw_452) ⟨by decide, by decide, rfl⟩ hR hz hP (wa_rcv (q := (RX4, TX4, 17)) F.2.1 hw he rfl) hn hst hW hls hdg hf
theorem vL_33 {i kd : Nat} {fs : List Value} (F : wa_fx p s m c meth args cc nL RL nm ret D cy) (hTB : wx_TB A s s.heap) (hS : va_S A s.heap H locs) (hM : vx_Met l yX4_step wX4_step rm (wx_pc (.ref (ad kd i) :: As) D cy A Pre) Qc XC mc ms free) (hR : wa_rm rm R 4) (hz : rm.cells = mc ∧ rm.slots = ms) (hP : Pre H) (hw : wa_wd D ad C H) (he : C kd i = some (.inr (4, fs))) (hn : As.length = 2) (hst : st0 = As.reverse ++ .ref (ad kd i) :: rest) (hW : (rest.map fun v => v.category).sum ≤ 8) (hls : ls.size = nL) (hdg : decode cc pc = .ok (.invokevirtual 33, 3)) (hf : cells + mc ≤ R.cells ∧ slots + ms ≤ R.slots) : vx_Run p l e R s m args below meth c H locs cells slots mc ms (F0 m pc ls st0) rest (Qc (Value.ref (ad kd i) :: As).toArray) XC free := wx_runV F hTB hS hM (wa_wV qw_457 qw_458 qw_459 qw_31 qw_460) ⟨by decide, by decide, rfl⟩ hR hz hP (wa_rcv (q := (RX4, TX4, 17)) F.2.1 hw he rfl) hn hst hW hls hdg hf
theorem vL_36 {i kd : Nat} {fs : List Value} (F : wa_fx p s m c meth args cc nL RL nm ret D cy) (hTB : wx_TB A s s.heap) (hS : va_S A s.heap H locs) (hM : vx_Met l yX4_change wX4_change rm (wx_pc (.ref (ad kd i) :: As) D cy A Pre) Qc XC mc ms free) (hR : wa_rm rm R 3) (hz : rm.cells = mc ∧ rm.slots = ms) (hP : Pre H) (hw : wa_wd D ad C H) (he : C kd i = some (.inr (4, fs))) (hn : As.length = 2) (hst : st0 = As.reverse ++ .ref (ad kd i) :: rest) (hW : (rest.map fun v => v.category).sum ≤ 8) (hls : ls.size = nL) (hdg : decode cc pc = .ok (.invokevirtual 36, 3)) (hf : cells + mc ≤ R.cells ∧ slots + ms ≤ R.slots) : vx_Run p l e R s m args below meth c H locs cells slots mc ms (F0 m pc ls st0) rest (Qc (Value.ref (ad kd i) :: As).toArray) XC free := wx_runV F hTB hS hM (wa_wV qw_471 qw_472 qw_473 qw_31 qw_474) ⟨by decide, by decide, rfl⟩ hR hz hP (wa_rcv (q := (RX4, TX4, 17)) F.2.1 hw he rfl) hn hst hW hls hdg hf
theorem vL_41 {i kd : Nat} {fs : List Value} (F : wa_fx p s m c meth args cc nL RL nm ret D cy) (hTB : wx_TB A s s.heap) (hS : va_S A s.heap H locs) (hM : vx_Met l yX4_start wX4_start rm (wx_pc (.ref (ad kd i) :: As) D cy A Pre) Qc XC mc ms free) (hR : wa_rm rm R 7) (hz : rm.cells = mc ∧ rm.slots = ms) (hP : Pre H) (hw : wa_wd D ad C H) (he : C kd i = some (.inr (4, fs))) (hn : As.length = 3) (hst : st0 = As.reverse ++ .ref (ad kd i) :: rest) (hW : (rest.map fun v => v.category).sum ≤ 8) (hls : ls.size = nL) (hdg : decode cc pc = .ok (.invokevirtual 41, 3)) (hf : cells + mc ≤ R.cells ∧ slots + ms ≤ R.slots) : vx_Run p l e R s m args below meth c H locs cells slots mc ms (F0 m pc ls st0) rest (Qc (Value.ref (ad kd i) :: As).toArray) XC free := wx_runV F hTB hS hM (wa_wV qw_479 qw_480 qw_481 qw_31 qw_482) ⟨by decide, by decide, rfl⟩ hR hz hP (wa_rcv (q := (RX4, TX4, 17)) F.2.1 hw he rfl) hn hst hW hls hdg hf
theorem vL_45 {i kd : Nat} {fs : List Value} (F : wa_fx p s m c meth args cc nL RL nm ret D cy) (hTB : wx_TB A s s.heap) (hS : va_S A s.heap H locs) (hM : vx_Met l yX4_renew wX4_renew rm (wx_pc (.ref (ad kd i) :: As) D cy A Pre) Qc XC mc ms free) (hR : wa_rm rm R 4) (hz : rm.cells = mc ∧ rm.slots = ms) (hP : Pre H) (hw : wa_wd D ad C H) (he : C kd i = some (.inr (4, fs))) (hn : As.length = 1) (hst : st0 = As.reverse ++ .ref (ad kd i) :: rest) (hW : (rest.map fun v => v.category).sum ≤ 8) (hls : ls.size = nL) (hdg : decode cc pc = .ok (.invokevirtual 45, 3)) (hf : cells + mc ≤ R.cells ∧ slots + ms ≤ R.slots) : vx_Run p l e R s m args below meth c H locs cells slots mc ms (F0 m pc ls st0) rest (Qc (Value.ref (ad kd i) :: As).toArray) XC free := wx_runV F hTB hS hM (wa_wV qw_523 qw_524 qw_525 qw_31 qw_526) ⟨by decide, by decide, rfl⟩ hR hz hP (wa_rcv (q := (RX4, TX4, 17)) F.2.1 hw he rfl) hn hst hW hls hdg hf
theorem vL_50 {i kd : Nat} {fs : List Value} (F : wa_fx p s m c meth args cc nL RL nm ret D cy) (hTB : wx_TB A s s.heap) (hS : va_S A s.heap H locs) (hM : vx_Met l yX4_stop wX4_stop rm (wx_pc (.ref (ad kd i) :: As) D cy A Pre) Qc XC mc ms free) (hR : wa_rm rm R 4) (hz : rm.cells = mc ∧ rm.slots = ms) (hP : Pre H) (hw : wa_wd D ad C H) (he : C kd i = some (.inr (4, fs))) (hn : As.length = 1) (hst : st0 = As.reverse ++ .ref (ad kd i) :: rest) (hW : (rest.map fun v => v.category).sum ≤ 8) (hls : ls.size = nL) (hdg : decode cc pc = .ok (.invokevirtual 50, 3)) (hf : cells + mc ≤ R.cells ∧ slots + ms ≤ R.slots) : vx_Run p l e R s m args below meth c H locs cells slots mc ms (F0 m pc ls st0) rest (Qc (Value.ref (ad kd i) :: As).toArray) XC free := wx_runV F hTB hS hM (wa_wV qw_536 qw_537 qw_538 qw_31 qw_539) ⟨by decide, by decide, rfl⟩ hR hz hP (wa_rcv (q := (RX4, TX4, 17)) F.2.1 hw he rfl) hn hst hW hls hdg hf
theorem vL_56 {i kd : Nat} {fs : List Value} (F : wa_fx p s m c meth args cc nL RL nm ret D cy) (hTB : wx_TB A s s.heap) (hS : va_S A s.heap H locs) (hM : vx_Met l yX4_latest wX4_latest rm (wx_pc (.ref (ad kd i) :: As) D cy A Pre) Qc XC mc ms free) (hR : wa_rm rm R 2) (hz : rm.cells = mc ∧ rm.slots = ms) (hP : Pre H) (hw : wa_wd D ad C H) (he : C kd i = some (.inr (4, fs))) (hn : As.length = 1) (hst : st0 = As.reverse ++ .ref (ad kd i) :: rest) (hW : (rest.map fun v => v.category).sum ≤ 8) (hls : ls.size = nL) (hdg : decode cc pc = .ok (.invokevirtual 56, 3)) (hf : cells + mc ≤ R.cells ∧ slots + ms ≤ R.slots) : vx_Run p l e R s m args below meth c H locs cells slots mc ms (F0 m pc ls st0) rest (Qc (Value.ref (ad kd i) :: As).toArray) XC free := wx_runV F hTB hS hM (wa_wV qw_284 qw_285 qw_286 qw_31 qw_287) ⟨by decide, by decide, rfl⟩ hR hz hP (wa_rcv (q := (RX4, TX4, 17)) F.2.1 hw he rfl) hn hst hW hls hdg hf
theorem vL_59 {i kd : Nat} {fs : List Value} (F : wa_fx p s m c meth args cc nL RL nm ret D cy) (hTB : wx_TB A s s.heap) (hS : va_S A s.heap H locs) (hM : vx_Met l yX4_isFresh wX4_isFresh rm (wx_pc (.ref (ad kd i) :: As) D cy A Pre) Qc XC mc ms free) (hR : wa_rm rm R 3) (hz : rm.cells = mc ∧ rm.slots = ms) (hP : Pre H) (hw : wa_wd D ad C H) (he : C kd i = some (.inr (4, fs))) (hn : As.length = 1) (hst : st0 = As.reverse ++ .ref (ad kd i) :: rest) (hW : (rest.map fun v => v.category).sum ≤ 8) (hls : ls.size = nL) (hdg : decode cc pc = .ok (.invokevirtual 59, 3)) (hf : cells + mc ≤ R.cells ∧ slots + ms ≤ R.slots) : vx_Run p l e R s m args below meth c H locs cells slots mc ms (F0 m pc ls st0) rest (Qc (Value.ref (ad kd i) :: As).toArray) XC free := wx_runV F hTB hS hM (wa_wV qw_249 qw_250 qw_251 qw_31 qw_252) ⟨by decide, by decide, rfl⟩ hR hz hP (wa_rcv (q := (RX4, TX4, 17)) F.2.1 hw he rfl) hn hst hW hls hdg hf
theorem vL_63 {i kd : Nat} {fs : List Value} (F : wa_fx p s m c meth args cc nL RL nm ret D cy) (hTB : wx_TB A s s.heap) (hS : va_S A s.heap H locs) (hM : vx_Met l yX4_isFreshAnew wX4_isFreshAnew rm (wx_pc (.ref (ad kd i) :: As) D cy A Pre) Qc XC mc ms free) (hR : wa_rm rm R 3) (hz : rm.cells = mc ∧ rm.slots = ms) (hP : Pre H) (hw : wa_wd D ad C H) (he : C kd i = some (.inr (4, fs))) (hn : As.length = 1) (hst : st0 = As.reverse ++ .ref (ad kd i) :: rest) (hW : (rest.map fun v => v.category).sum ≤ 8) (hls : ls.size = nL) (hdg : decode cc pc = .ok (.invokevirtual 63, 3)) (hf : cells + mc ≤ R.cells ∧ slots + ms ≤ R.slots) : vx_Run p l e R s m args below meth c H locs cells slots mc ms (F0 m pc ls st0) rest (Qc (Value.ref (ad kd i) :: As).toArray) XC free := wx_runV F hTB hS hM (wa_wV qw_543 qw_544 qw_545 qw_31 qw_546) ⟨by decide, by decide, rfl⟩ hR hz hP (wa_rcv (q := (RX4, TX4, 17)) F.2.1 hw he rfl) hn hst hW hls hdg hf
theorem vL_66 {i kd : Nat} {fs : List Value} (F : wa_fx p s m c meth args cc nL RL nm ret D cy) (hTB : wx_TB A s s.heap) (hS : va_S A s.heap H locs) (hM : vx_Met l yX4_state wX4_state rm (wx_pc (.ref (ad kd i) :: As) D cy A Pre) Qc XC mc ms free) (hR : wa_rm rm R 4) (hz : rm.cells = mc ∧ rm.slots = ms) (hP : Pre H) (hw : wa_wd D ad C H) (he : C kd i = some (.inr (4, fs))) (hn : As.length = 1) (hst : st0 = As.reverse ++ .ref (ad kd i) :: rest) (hW : (rest.map fun v => v.category).sum ≤ 8) (hls : ls.size = nL) (hdg : decode cc pc = .ok (.invokevirtual 66, 3)) (hf : cells + mc ≤ R.cells ∧ slots + ms ≤ R.slots) : vx_Run p l e R s m args below meth c H locs cells slots mc ms (F0 m pc ls st0) rest (Qc (Value.ref (ad kd i) :: As).toArray) XC free := wx_runV F hTB hS hM (wa_wV qw_326 qw_327 qw_328 qw_31 qw_329) ⟨by decide, by decide, rfl⟩ hR hz hP (wa_rcv (q := (RX4, TX4, 17)) F.2.1 hw he rfl) hn hst hW hls hdg hf
theorem vL_69 {i kd : Nat} {fs : List Value} (F : wa_fx p s m c meth args cc nL RL nm ret D cy) (hTB : wx_TB A s s.heap) (hS : va_S A s.heap H locs) (hM : vx_Met l yX4_top wX4_top rm (wx_pc (.ref (ad kd i) :: As) D cy A Pre) Qc XC mc ms free) (hR : wa_rm rm R 2) (hz : rm.cells = mc ∧ rm.slots = ms) (hP : Pre H) (hw : wa_wd D ad C H) (he : C kd i = some (.inr (4, fs))) (hn : As.length = 1) (hst : st0 = As.reverse ++ .ref (ad kd i) :: rest) (hW : (rest.map fun v => v.category).sum ≤ 8) (hls : ls.size = nL) (hdg : decode cc pc = .ok (.invokevirtual 69, 3)) (hf : cells + mc ≤ R.cells ∧ slots + ms ≤ R.slots) : vx_Run p l e R s m args below meth c H locs cells slots mc ms (F0 m pc ls st0) rest (Qc (Value.ref (ad kd i) :: As).toArray) XC free := wx_runV F hTB hS hM (wa_wV qw_564 qw_565 qw_566 qw_31 qw_567) ⟨by decide, by decide, rfl⟩ hR hz hP (wa_rcv (q := (RX4, TX4, 17)) F.2.1 hw he rfl) hn hst hW hls hdg hf
theorem vL_78 {i kd : Nat} {fs : List Value} (F : wa_fx p s m c meth args cc nL RL nm ret D cy) (hTB : wx_TB A s s.heap) (hS : va_S A s.heap H locs) (hM : vx_Met l yX4_oldAt wX4_oldAt rm (wx_pc (.ref (ad kd i) :: As) D cy A Pre) Qc XC mc ms free) (hR : wa_rm rm R 4) (hz : rm.cells = mc ∧ rm.slots = ms) (hP : Pre H) (hw : wa_wd D ad C H) (he : C kd i = some (.inr (4, fs))) (hn : As.length = 1) (hst : st0 = As.reverse ++ .ref (ad kd i) :: rest) (hW : (rest.map fun v => v.category).sum ≤ 8) (hls : ls.size = nL) (hdg : decode cc pc = .ok (.invokevirtual 78, 3)) (hf : cells + mc ≤ R.cells ∧ slots + ms ≤ R.slots) : vx_Run p l e R s m args below meth c H locs cells slots mc ms (F0 m pc ls st0) rest (Qc (Value.ref (ad kd i) :: As).toArray) XC free := wx_runV F hTB hS hM (wa_wV qw_590 qw_591 qw_592 qw_31 qw_593) ⟨by decide, by decide, rfl⟩ hR hz hP (wa_rcv (q := (RX4, TX4, 17)) F.2.1 hw he rfl) hn hst hW hls hdg hf
theorem vL_81 {i kd : Nat} {fs : List Value} (F : wa_fx p s m c meth args cc nL RL nm ret D cy) (hTB : wx_TB A s s.heap) (hS : va_S A s.heap H locs) (hM : vx_Met l yX4_runsFrom wX4_runsFrom rm (wx_pc (.ref (ad kd i) :: As) D cy A Pre) Qc XC mc ms free) (hR : wa_rm rm R 2) (hz : rm.cells = mc ∧ rm.slots = ms) (hP : Pre H) (hw : wa_wd D ad C H) (he : C kd i = some (.inr (4, fs))) (hn : As.length = 1) (hst : st0 = As.reverse ++ .ref (ad kd i) :: rest) (hW : (rest.map fun v => v.category).sum ≤ 8) (hls : ls.size = nL) (hdg : decode cc pc = .ok (.invokevirtual 81, 3)) (hf : cells + mc ≤ R.cells ∧ slots + ms ≤ R.slots) : vx_Run p l e R s m args below meth c H locs cells slots mc ms (F0 m pc ls st0) rest (Qc (Value.ref (ad kd i) :: As).toArray) XC free := wx_runV F hTB hS hM (wa_wV qw_339 qw_340 qw_341 qw_31 qw_342) ⟨by decide, by decide, rfl⟩ hR hz hP (wa_rcv (q := (RX4, TX4, 17)) F.2.1 hw he rfl) hn hst hW hls hdg hf
theorem vL_94 {i kd : Nat} {fs : List Value} (F : wa_fx p s m c meth args cc nL RL nm ret D cy) (hTB : wx_TB A s s.heap) (hS : va_S A s.heap H locs) (hM : vx_Met l yX4_add wX4_add rm (wx_pc (.ref (ad kd i) :: As) D cy A Pre) Qc XC mc ms free) (hR : wa_rm rm R 4) (hz : rm.cells = mc ∧ rm.slots = ms) (hP : Pre H) (hw : wa_wd D ad C H) (he : C kd i = some (.inr (4, fs))) (hn : As.length = 1) (hst : st0 = As.reverse ++ .ref (ad kd i) :: rest) (hW : (rest.map fun v => v.category).sum ≤ 8) (hls : ls.size = nL) (hdg : decode cc pc = .ok (.invokevirtual 94, 3)) (hf : cells + mc ≤ R.cells ∧ slots + ms ≤ R.slots) : vx_Run p l e R s m args below meth c H locs cells slots mc ms (F0 m pc ls st0) rest (Qc (Value.ref (ad kd i) :: As).toArray) XC free := wx_runV F hTB hS hM (wa_wV qw_129 qw_130 qw_131 qw_31 qw_132) ⟨by decide, by decide, rfl⟩ hR hz hP (wa_rcv (q := (RX4, TX4, 17)) F.2.1 hw he rfl) hn hst hW hls hdg hf
theorem vL_108 {i kd : Nat} {fs : List Value} (F : wa_fx p s m c meth args cc nL RL nm ret D cy) (hTB : wx_TB A s s.heap) (hS : va_S A s.heap H locs) (hM : vx_Met l yX4_setRules wX4_setRules rm (wx_pc (.ref (ad kd i) :: As) D cy A Pre) Qc XC mc ms free) (hR : wa_rm rm R 5) (hz : rm.cells = mc ∧ rm.slots = ms) (hP : Pre H) (hw : wa_wd D ad C H) (he : C kd i = some (.inr (4, fs))) (hn : As.length = 4) (hst : st0 = As.reverse ++ .ref (ad kd i) :: rest) (hW : (rest.map fun v => v.category).sum ≤ 8) (hls : ls.size = nL) (hdg : decode cc pc = .ok (.invokevirtual 108, 3)) (hf : cells + mc ≤ R.cells ∧ slots + ms ≤ R.slots) : vx_Run p l e R s m args below meth c H locs cells slots mc ms (F0 m pc ls st0) rest (Qc (Value.ref (ad kd i) :: As).toArray) XC free := wx_runV F hTB hS hM (wa_wV qw_291 qw_292 qw_293 qw_31 qw_294) ⟨by decide, by decide, rfl⟩ hR hz hP (wa_rcv (q := (RX4, TX4, 17)) F.2.1 hw he rfl) hn hst hW hls hdg hf
theorem vL_122 {i kd : Nat} {fs : List Value} (F : wa_fx p s m c meth args cc nL RL nm ret D cy) (hTB : wx_TB A s s.heap) (hS : va_S A s.heap H locs) (hM : vx_Met l yX4_pass wX4_pass rm (wx_pc (.ref (ad kd i) :: As) D cy A Pre) Qc XC mc ms free) (hR : wa_rm rm R 7) (hz : rm.cells = mc ∧ rm.slots = ms) (hP : Pre H) (hw : wa_wd D ad C H) (he : C kd i = some (.inr (4, fs))) (hn : As.length = 1) (hst : st0 = As.reverse ++ .ref (ad kd i) :: rest) (hW : (rest.map fun v => v.category).sum ≤ 8) (hls : ls.size = nL) (hdg : decode cc pc = .ok (.invokevirtual 122, 3)) (hf : cells + mc ≤ R.cells ∧ slots + ms ≤ R.slots) : vx_Run p l e R s m args below meth c H locs cells slots mc ms (F0 m pc ls st0) rest (Qc (Value.ref (ad kd i) :: As).toArray) XC free := wx_runV F hTB hS hM (wa_wV qw_313 qw_314 qw_315 qw_31 qw_316) ⟨by decide, by decide, rfl⟩ hR hz hP (wa_rcv (q := (RX4, TX4, 17)) F.2.1 hw he rfl) hn hst hW hls hdg hf
end WLA
section WLQ
variable {p : Program} {l : Launch} {e : Env} {R : Room} {s : State} {m : MethodId} {args : Array Value} {below : List Frame} {meth : Method} {c : Code} {H : Heap} {locs : List Loc} {cells slots : Nat} {Q : State → Prop}
variable {cc : ByteArray} {pc : Nat} {ls : Array Slot} {rest : List Value} {D : va_G} {A : Nat → Prop} {cy : Nat → ClassId} {ad : Nat → Nat → Nat} {nL : Nat} {nm : String} {ret : Option FieldType} {T X G : wa_St} {o : Int64}
theorem ql_latest {i : Int} (hlt : l.stackTraces = false) (F : wa_fx p s m c meth args cc nL RL nm ret D cy) (hTB : wx_TB A s s.heap) (hA : wa_Up A) (hwf : wf T) (hxr : xr T X) (hj : wa_wj A ad (wW cy ad T X G o)) (hw : wa_wd D ad (wW cy ad T X G o) H) (hS : va_S A s.heap H locs) (hi : 0 ≤ i ∧ i < T 8 0) (hR : wa_rm ({ frames := 7, cells := 1, slots := 6, locals := 104 } : Room) R 2) (hW : (rest.map fun v => v.category).sum ≤ 8) (hls : ls.size = nL) (hdg : decode cc pc = .ok (.invokevirtual 56, 3)) (hf : cells + 1 ≤ R.cells ∧ slots + 6 ≤ R.slots)
    (kk : ∀ (X1 : wa_St) (H1 : Heap) (locs1 : List Loc), xr T X1 → wa_wj A ad (wW cy ad T X1 G o) → wa_wd D ad (wW cy ad T X1 G o) H1 → va_S A s.heap H1 locs1 → W p l e R s m args below meth c H1 locs1 (cells + 1) (slots + 6) Q (F0 m (pc + 3) ls (.int (iI (T 7 i.toNat)) :: rest))) : W p l e R s m args below meth c H locs cells slots Q (F0 m pc ls (.int (iI i) :: .ref (ad 0 0) :: rest)) := by
  have w8 := hwf.2.1
  have w21 := hwf.2.2.1
  have w29 := hwf.2.2.2.2.1
  have k0 : k_img T i = 0 := if_pos ⟨by omega, by omega⟩
  refine wl_ci (vL_56 F hTB hS (c_X4_latest l hlt D cy ad T X G o A hj hA hwf hxr (wx_inj.of hj) i ⟨by omega, by omega⟩) hR ⟨rfl, rfl⟩ hw hw rfl rfl rfl hW hls hdg hf) hS (fun E ce q9 u H1 locs1 hE hk0 _ _ _ _ _ _ => absurd k0 hk0) (fun u H1 locs1 hK hp hB hS => ?_)
  obtain ⟨ad1, X1⟩ := u
  exact kk X1 H1 locs1 hp.1 (wj_of hj rfl rfl rfl) (wl_back hwf hp.1 hp.2.2 hB) hS
theorem ql_isFresh {i : Int} (hlt : l.stackTraces = false) (F : wa_fx p s m c meth args cc nL RL nm ret D cy) (hTB : wx_TB A s s.heap) (hA : wa_Up A) (hwf : wf T) (hxr : xr T X) (hj : wa_wj A ad (wW cy ad T X G o)) (hw : wa_wd D ad (wW cy ad T X G o) H) (hS : va_S A s.heap H locs) (hi : 0 ≤ i ∧ i < T 8 0) (hR : wa_rm ({ frames := 7, cells := 1, slots := 6, locals := 114 } : Room) R 3) (hW : (rest.map fun v => v.category).sum ≤ 8) (hls : ls.size = nL) (hdg : decode cc pc = .ok (.invokevirtual 59, 3)) (hf : cells + 1 ≤ R.cells ∧ slots + 6 ≤ R.slots)
    (kk : ∀ (X1 : wa_St) (H1 : Heap) (locs1 : List Loc), xr T X1 → wa_wj A ad (wW cy ad T X1 G o) → wa_wd D ad (wW cy ad T X1 G o) H1 → va_S A s.heap H1 locs1 → W p l e R s m args below meth c H1 locs1 (cells + 1) (slots + 6) Q (F0 m (pc + 3) ls (.int (iI (bI (x_frs T 10 i = true))) :: rest))) : W p l e R s m args below meth c H locs cells slots Q (F0 m pc ls (.int (iI i) :: .ref (ad 0 0) :: rest)) := by
  have w8 := hwf.2.1
  have w21 := hwf.2.2.1
  have w29 := hwf.2.2.2.2.1
  have k0 : k_img T i = 0 := if_pos ⟨by omega, by omega⟩
  refine wl_ci (vL_59 F hTB hS (c_X4_isFresh l hlt D cy ad T X G o A hj hA hwf hxr (wx_inj.of hj) i ⟨by omega, by omega⟩) hR ⟨rfl, rfl⟩ hw hw rfl rfl rfl hW hls hdg hf) hS (fun E ce q9 u H1 locs1 hE hk0 _ _ _ _ _ _ => absurd k0 hk0) (fun u H1 locs1 hK hp hB hS => ?_)
  obtain ⟨ad1, X1⟩ := u
  exact kk X1 H1 locs1 hp.1 (wj_of hj rfl rfl rfl) (wl_back hwf hp.1 hp.2.2 hB) hS
theorem ql_isFreshAnew {i : Int} (hlt : l.stackTraces = false) (F : wa_fx p s m c meth args cc nL RL nm ret D cy) (hTB : wx_TB A s s.heap) (hA : wa_Up A) (hwf : wf T) (hxr : xr T X) (hj : wa_wj A ad (wW cy ad T X G o)) (hw : wa_wd D ad (wW cy ad T X G o) H) (hS : va_S A s.heap H locs) (hi : 0 ≤ i ∧ i < T 8 0) (hR : wa_rm ({ frames := 7, cells := 1, slots := 6, locals := 104 } : Room) R 3) (hW : (rest.map fun v => v.category).sum ≤ 8) (hls : ls.size = nL) (hdg : decode cc pc = .ok (.invokevirtual 63, 3)) (hf : cells + 1 ≤ R.cells ∧ slots + 6 ≤ R.slots)
    (kk : ∀ (X1 : wa_St) (H1 : Heap) (locs1 : List Loc), xr T X1 → wa_wj A ad (wW cy ad T X1 G o) → wa_wd D ad (wW cy ad T X1 G o) H1 → va_S A s.heap H1 locs1 → W p l e R s m args below meth c H1 locs1 (cells + 1) (slots + 6) Q (F0 m (pc + 3) ls (.int (iI (bI (x_mds T 10 i = true))) :: rest))) : W p l e R s m args below meth c H locs cells slots Q (F0 m pc ls (.int (iI i) :: .ref (ad 0 0) :: rest)) := by
  have w8 := hwf.2.1
  have w21 := hwf.2.2.1
  have w29 := hwf.2.2.2.2.1
  have k0 : k_img T i = 0 := if_pos ⟨by omega, by omega⟩
  refine wl_ci (vL_63 F hTB hS (c_X4_isFreshAnew l hlt D cy ad T X G o A hj hA hwf hxr (wx_inj.of hj) i ⟨by omega, by omega⟩) hR ⟨rfl, rfl⟩ hw hw rfl rfl rfl hW hls hdg hf) hS (fun E ce q9 u H1 locs1 hE hk0 _ _ _ _ _ _ => absurd k0 hk0) (fun u H1 locs1 hK hp hB hS => ?_)
  obtain ⟨ad1, X1⟩ := u
  exact kk X1 H1 locs1 hp.1 (wj_of hj rfl rfl rfl) (wl_back hwf hp.1 hp.2.2 hB) hS
theorem ql_top {i : Int} (hlt : l.stackTraces = false) (F : wa_fx p s m c meth args cc nL RL nm ret D cy) (hTB : wx_TB A s s.heap) (hA : wa_Up A) (hwf : wf T) (hxr : xr T X) (hj : wa_wj A ad (wW cy ad T X G o)) (hw : wa_wd D ad (wW cy ad T X G o) H) (hS : va_S A s.heap H locs) (hi : 0 ≤ i ∧ i < T 21 0) (hR : wa_rm ({ frames := 7, cells := 1, slots := 6, locals := 104 } : Room) R 2) (hW : (rest.map fun v => v.category).sum ≤ 8) (hls : ls.size = nL) (hdg : decode cc pc = .ok (.invokevirtual 69, 3)) (hf : cells + 1 ≤ R.cells ∧ slots + 6 ≤ R.slots)
    (kk : ∀ (X1 : wa_St) (H1 : Heap) (locs1 : List Loc), xr T X1 → wa_wj A ad (wW cy ad T X1 G o) → wa_wd D ad (wW cy ad T X1 G o) H1 → va_S A s.heap H1 locs1 → W p l e R s m args below meth c H1 locs1 (cells + 1) (slots + 6) Q (F0 m (pc + 3) ls (.int (iI (T 14 i.toNat)) :: rest))) : W p l e R s m args below meth c H locs cells slots Q (F0 m pc ls (.int (iI i) :: .ref (ad 0 0) :: rest)) := by
  have w8 := hwf.2.1
  have w21 := hwf.2.2.1
  have w29 := hwf.2.2.2.2.1
  have k0 : k_bk T i = 0 := if_pos ⟨by omega, by omega⟩
  refine wl_ci (vL_69 F hTB hS (c_X4_top l hlt D cy ad T X G o A hj hA hwf hxr (wx_inj.of hj) i ⟨by omega, by omega⟩) hR ⟨rfl, rfl⟩ hw hw rfl rfl rfl hW hls hdg hf) hS (fun E ce q9 u H1 locs1 hE hk0 _ _ _ _ _ _ => absurd k0 hk0) (fun u H1 locs1 hK hp hB hS => ?_)
  obtain ⟨ad1, X1⟩ := u
  exact kk X1 H1 locs1 hp.1 (wj_of hj rfl rfl rfl) (wl_back hwf hp.1 hp.2.2 hB) hS
theorem ql_state {i : Int} (hlt : l.stackTraces = false) (F : wa_fx p s m c meth args cc nL RL nm ret D cy) (hTB : wx_TB A s s.heap) (hA : wa_Up A) (hwf : wf T) (hxr : xr T X) (hj : wa_wj A ad (wW cy ad T X G o)) (hw : wa_wd D ad (wW cy ad T X G o) H) (hS : va_S A s.heap H locs) (hi : 0 ≤ i ∧ i < T 21 0) (hR : wa_rm ({ frames := 7, cells := 1, slots := 6, locals := 104 } : Room) R 4) (hW : (rest.map fun v => v.category).sum ≤ 8) (hls : ls.size = nL) (hdg : decode cc pc = .ok (.invokevirtual 66, 3)) (hf : cells + 1 ≤ R.cells ∧ slots + 6 ≤ R.slots)
    (kk : ∀ (X1 : wa_St) (H1 : Heap) (locs1 : List Loc), xr T X1 → wa_wj A ad (wW cy ad T X1 G o) → wa_wd D ad (wW cy ad T X1 G o) H1 → va_S A s.heap H1 locs1 → W p l e R s m args below meth c H1 locs1 (cells + 1) (slots + 6) Q (F0 m (pc + 3) ls (.int (iI (v_state T i.toNat)) :: rest))) : W p l e R s m args below meth c H locs cells slots Q (F0 m pc ls (.int (iI i) :: .ref (ad 0 0) :: rest)) := by
  have w8 := hwf.2.1
  have w21 := hwf.2.2.1
  have w29 := hwf.2.2.2.2.1
  have k0 : k_bk T i = 0 := if_pos ⟨by omega, by omega⟩
  refine wl_ci (vL_66 F hTB hS (c_X4_state l hlt D cy ad T X G o A hj hA hwf hxr (wx_inj.of hj) i ⟨by omega, by omega⟩) hR ⟨rfl, rfl⟩ hw hw rfl rfl rfl hW hls hdg hf) hS (fun E ce q9 u H1 locs1 hE hk0 _ _ _ _ _ _ => absurd k0 hk0) (fun u H1 locs1 hK hp hB hS => ?_)
  obtain ⟨ad1, X1⟩ := u
  exact kk X1 H1 locs1 hp.1 (wj_of hj rfl rfl rfl) (wl_back hwf hp.1 hp.2.2 hB) hS
theorem ql_runsFrom {i : Int} (hlt : l.stackTraces = false) (F : wa_fx p s m c meth args cc nL RL nm ret D cy) (hTB : wx_TB A s s.heap) (hA : wa_Up A) (hwf : wf T) (hxr : xr T X) (hj : wa_wj A ad (wW cy ad T X G o)) (hw : wa_wd D ad (wW cy ad T X G o) H) (hS : va_S A s.heap H locs) (hi : 0 ≤ i ∧ i < T 29 0) (hR : wa_rm ({ frames := 7, cells := 1, slots := 6, locals := 104 } : Room) R 2) (hW : (rest.map fun v => v.category).sum ≤ 8) (hls : ls.size = nL) (hdg : decode cc pc = .ok (.invokevirtual 81, 3)) (hf : cells + 1 ≤ R.cells ∧ slots + 6 ≤ R.slots)
    (kk : ∀ (X1 : wa_St) (H1 : Heap) (locs1 : List Loc), xr T X1 → wa_wj A ad (wW cy ad T X1 G o) → wa_wd D ad (wW cy ad T X1 G o) H1 → va_S A s.heap H1 locs1 → W p l e R s m args below meth c H1 locs1 (cells + 1) (slots + 6) Q (F0 m (pc + 3) ls (.int (iI (T 28 i.toNat)) :: rest))) : W p l e R s m args below meth c H locs cells slots Q (F0 m pc ls (.int (iI i) :: .ref (ad 0 0) :: rest)) := by
  have w8 := hwf.2.1
  have w21 := hwf.2.2.1
  have w29 := hwf.2.2.2.2.1
  have k0 : k_from T i = 0 := if_pos ⟨by omega, by omega⟩
  refine wl_ci (vL_81 F hTB hS (c_X4_runsFrom l hlt D cy ad T X G o A hj hA hwf hxr (wx_inj.of hj) i ⟨by omega, by omega⟩) hR ⟨rfl, rfl⟩ hw hw rfl rfl rfl hW hls hdg hf) hS (fun E ce q9 u H1 locs1 hE hk0 _ _ _ _ _ _ => absurd k0 hk0) (fun u H1 locs1 hK hp hB hS => ?_)
  obtain ⟨ad1, X1⟩ := u
  exact kk X1 H1 locs1 hp.1 (wj_of hj rfl rfl rfl) (wl_back hwf hp.1 hp.2.2 hB) hS
theorem ql_oldAt {i : Int} (hlt : l.stackTraces = false) (F : wa_fx p s m c meth args cc nL RL nm ret D cy) (hTB : wx_TB A s s.heap) (hA : wa_Up A) (hwf : wf T) (hxr : xr T X) (hj : wa_wj A ad (wW cy ad T X G o)) (hw : wa_wd D ad (wW cy ad T X G o) H) (hS : va_S A s.heap H locs) (hi : (0 ≤ i ∧ i < 100) ∧ k_oldAt T i = 0) (hR : wa_rm ({ frames := 6, cells := 1, slots := 6, locals := 139 } : Room) R 4) (hW : (rest.map fun v => v.category).sum ≤ 8) (hls : ls.size = nL) (hdg : decode cc pc = .ok (.invokevirtual 78, 3)) (hf : cells + 1 ≤ R.cells ∧ slots + 6 ≤ R.slots)
    (kk : ∀ (X1 : wa_St) (H1 : Heap) (locs1 : List Loc), xr T X1 → wa_wj A ad (wW cy ad T X1 G o) → wa_wd D ad (wW cy ad T X1 G o) H1 → va_S A s.heap H1 locs1 → W p l e R s m args below meth c H1 locs1 (cells + 1) (slots + 6) Q (F0 m (pc + 3) ls (.int (iI (f_oldAt T i)) :: rest))) : W p l e R s m args below meth c H locs cells slots Q (F0 m pc ls (.int (iI i) :: .ref (ad 0 0) :: rest)) := by
  have w8 := hwf.2.1
  have w21 := hwf.2.2.1
  have w29 := hwf.2.2.2.2.1
  have k0 : k_oldAt T i = 0 := hi.2
  refine wl_ci (vL_78 F hTB hS (c_X4_oldAt l hlt D cy ad T X G o A hj hA hwf hxr (wx_inj.of hj) i ⟨by omega, by omega⟩) hR ⟨rfl, rfl⟩ hw hw rfl rfl rfl hW hls hdg hf) hS (fun E ce q9 u H1 locs1 hE hk0 _ _ _ _ _ _ => absurd k0 hk0) (fun u H1 locs1 hK hp hB hS => ?_)
  obtain ⟨ad1, X1⟩ := u
  exact kk X1 H1 locs1 hp.1 (wj_of hj rfl rfl rfl) (wl_back hwf hp.1 hp.2.2 hB) hS
theorem ql_bakes (F : wa_fx p s m c meth args cc nL RL nm ret D cy) (hwf : wf T) (hxr : xr T X) (hj : wa_wj A ad (wW cy ad T X G o)) (hw : wa_wd D ad (wW cy ad T X G o) H) (hR : 1 ≤ R.frames ∧ 22 ≤ R.locals) (hW : (rest.map fun v => v.category).sum ≤ 8) (hls : ls.size = nL) (hdg : decode cc pc = .ok (.invokevirtual 53, 3)) (hf : cells ≤ R.cells ∧ slots ≤ R.slots)
    (kk : W p l e R s m args below meth c H locs cells slots Q (F0 m (pc + 3) ls (.int (iI (T 21 0)) :: rest))) : W p l e R s m args below meth c H locs cells slots Q (F0 m pc ls (.ref (ad 0 0) :: rest)) :=
  wa_cp (kL_53 F (c_X4_bakes l D cy ad T X G o hwf hxr (wx_inj.of hj)) ⟨by show 0 + 1 ≤ R.frames; omega, by show 8 + (1 + 11) + 0 ≤ R.locals; omega⟩ ⟨rfl, rfl⟩ hw hw rfl rfl rfl hW hls hdg hf) kk
theorem ql_layers (F : wa_fx p s m c meth args cc nL RL nm ret D cy) (hwf : wf T) (hxr : xr T X) (hj : wa_wj A ad (wW cy ad T X G o)) (hw : wa_wd D ad (wW cy ad T X G o) H) (hR : 1 ≤ R.frames ∧ 22 ≤ R.locals) (hW : (rest.map fun v => v.category).sum ≤ 8) (hls : ls.size = nL) (hdg : decode cc pc = .ok (.invokevirtual 72, 3)) (hf : cells ≤ R.cells ∧ slots ≤ R.slots)
    (kk : W p l e R s m args below meth c H locs cells slots Q (F0 m (pc + 3) ls (.int (iI (T 12 0)) :: rest))) : W p l e R s m args below meth c H locs cells slots Q (F0 m pc ls (.ref (ad 0 0) :: rest)) :=
  wa_cp (kL_72 F (c_X4_layers l D cy ad T X G o hwf hxr (wx_inj.of hj)) ⟨by show 0 + 1 ≤ R.frames; omega, by show 8 + (1 + 11) + 0 ≤ R.locals; omega⟩ ⟨rfl, rfl⟩ hw hw rfl rfl rfl hW hls hdg hf) kk
theorem ql_old (F : wa_fx p s m c meth args cc nL RL nm ret D cy) (hwf : wf T) (hxr : xr T X) (hj : wa_wj A ad (wW cy ad T X G o)) (hw : wa_wd D ad (wW cy ad T X G o) H) (hS : va_S A s.heap H locs) (hR : wa_rm ({ frames := 6, cells := 0, slots := 0, locals := 139 } : Room) R 1) (hW : (rest.map fun v => v.category).sum ≤ 8) (hls : ls.size = nL) (hdg : decode cc pc = .ok (.invokevirtual 75, 3)) (hf : cells ≤ R.cells ∧ slots ≤ R.slots)
    (kk : ∀ (X1 : wa_St) (H1 : Heap) (locs1 : List Loc), xr T X1 → wa_wj A ad (wW cy ad T X1 G o) → wa_wd D ad (wW cy ad T X1 G o) H1 → va_S A s.heap H1 locs1 → W p l e R s m args below meth c H1 locs1 cells slots Q (F0 m (pc + 3) ls (.int (iI (f_cnt (f_isOld T) (T 29 0).toNat)) :: rest))) : W p l e R s m args below meth c H locs cells slots Q (F0 m pc ls (.ref (ad 0 0) :: rest)) :=
  wx_ci (kL_75 F (c_X4_old l D cy ad T X G o A hj hwf hxr (wx_inj.of hj)) hR ⟨rfl, rfl⟩ hw hw rfl rfl rfl hW hls hdg hf) hS (fun X1 H1 locs1 hP hw hS => kk X1 H1 locs1 hP (wj_of hj rfl rfl rfl) hw hS)
end WLQ
