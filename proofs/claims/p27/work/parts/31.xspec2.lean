/-! the class's state after what its own methods write (laid by program) -/
def x_fm (S : wa_St) (lo inp ver : Int) : wa_St × Int := if f_find S lo inp ver = -2 then (f_addL S lo inp ver, S 12 0) else (S, f_find S lo inp ver)
theorem x_fm_t {S : wa_St} {lo inp ver : Int} (h : f_find S lo inp ver = -2) : x_fm S lo inp ver = (f_addL S lo inp ver, S 12 0) := if_pos h
theorem x_fm_f {S : wa_St} {lo inp ver : Int} (h : f_find S lo inp ver ≠ -2) : x_fm S lo inp ver = (S, f_find S lo inp ver) := if_neg h
theorem f_mk_fm (n s : Nat) (S : wa_St) (z : Int) : f_mk (n + 1) s S z = f_mk n (s + 1) (x_fm S z (S 5 s) (S 2 (S 5 s).toNat)).1 (x_fm S z (S 5 s) (S 2 (S 5 s).toNat)).2 := by
  simp only [f_mk]
  by_cases q : f_find S z (S 5 s) (S 2 (S 5 s).toNat) = -2
  · rw [if_pos q, x_fm_t q]
  · rw [if_neg q, x_fm_f q]
theorem m_inv.fm {T : wa_St} {n : Nat} {T1 : wa_St} {z : Int} (h : m_inv T (n + 1) T1 z) {inp ver : Int} (ri : -2 ≤ inp ∧ inp ≤ 100000) (rv : -2 ≤ ver ∧ ver ≤ 100000) : m_inv T n (x_fm T1 z inp ver).1 (x_fm T1 z inp ver).2 := by
  by_cases q : f_find T1 z inp ver = -2
  · rw [x_fm_t q]; exact h.made ri rv
  · rw [x_fm_f q]
    exact h.found (by have := f_find_lt h.2.1 z inp ver; omega)
theorem f_addL_12 {S : wa_St} {z inp ver : Int} : f_addL S z inp ver 12 0 = S 12 0 + 1 := by unfold f_addL; exact wa_s_eq
theorem f_addL_9 {S : wa_St} {z inp ver : Int} (j : Nat) : f_addL S z inp ver 9 j = if j = (S 12 0).toNat then z else S 9 j := by simp [f_addL, wa_s]
theorem f_addL_10 {S : wa_St} {z inp ver : Int} (j : Nat) : f_addL S z inp ver 10 j = if j = (S 12 0).toNat then inp else S 10 j := by simp [f_addL, wa_s]
theorem f_addL_11 {S : wa_St} {z inp ver : Int} (j : Nat) : f_addL S z inp ver 11 j = if j = (S 12 0).toNat then ver else S 11 j := by simp [f_addL, wa_s]
theorem f_addL_o {S : wa_St} {z inp ver : Int} {a b : Nat} (h9 : a ≠ 9) (h10 : a ≠ 10) (h11 : a ≠ 11) (h12 : a ≠ 12) : f_addL S z inp ver a b = S a b := by
  unfold f_addL
  rw [wa_s_nk h12, wa_s_nk h11, wa_s_nk h10, wa_s_nk h9]
theorem xr_addL {S X : wa_St} (h : xr S X) (h0 : 0 ≤ S 12 0) {lo inp ver : Int} (rlo : -1 ≤ lo ∧ lo < S 12 0) (l3 : S 12 0 < 300) (ri : -2 ≤ inp ∧ inp ≤ 100000) (rv : -2 ≤ ver ∧ ver ≤ 100000) : xr (f_addL S lo inp ver) (wa_s (wa_s (wa_s X 2 (S 12 0).toNat lo) 3 (S 12 0).toNat inp) 4 (S 12 0).toNat ver) := by
  obtain ⟨h1, h2, h3, h4, h5, h6, h7, h8⟩ := h
  have e8 : f_addL S lo inp ver 8 0 = S 8 0 := f_addL_o (by decide) (by decide) (by decide) (by decide)
  have e29 : f_addL S lo inp ver 29 0 = S 29 0 := f_addL_o (by decide) (by decide) (by decide) (by decide)
  refine ⟨fun j hj => ?_, fun k j => ?_, fun j => ?_, fun j hj => ?_, fun j => ?_, fun j => ?_, fun j => ?_, fun j hj => ?_⟩
  · rw [f_addL_12] at hj
    rw [f_addL_9, f_addL_10, f_addL_11]
    by_cases q : j = (S 12 0).toNat
    · subst q
      simp [wa_s]
    · have := h1 j (by omega)
      simpa [wa_s, q] using this
  · unfold wa_s
    have := h2 k j
    split
    · exact rv
    · split
      · exact ri
      · split
        · omega
        · exact this
  · rw [e8]; exact h3 j
  · rw [e8] at hj; exact h4 j hj
  · rw [f_addL_9]
    split
    · exact rlo.1
    · exact h5 j
  · rw [e8]; exact h6 j
  · rw [e29]; exact h7 j
  · rw [f_addL_12] at hj
    rw [f_addL_9]
    split
    · omega
    · exact h8 j (by omega)
theorem wx_inj.same {ad : Nat → Nat → Nat} {S S' : wa_St} (h : wx_inj ad S) (h8 : S' 8 0 = S 8 0) (h21 : S' 21 0 = S 21 0) : wx_inj ad S' := by
  unfold wx_inj
  rw [h8, h21]
  exact h
def x_ts (S : wa_St) (i : Nat) (inp : Int) : wa_St := wa_s (wa_s S 5 (5 * i + (S 6 i).toNat) inp) 6 i (S 6 i + 1)
-- how high the chain below z is (n at most)
def x_hi (S : wa_St) : Nat → Int → Int
  | 0, _ => 0
  | n + 1, z => if z = -1 then 0 else x_hi S n (S 9 z.toNat) + 1
-- the chain from z on
def x_it (S : wa_St) : Nat → Int → Int
  | 0, z => z
  | n + 1, z => x_it S n (S 9 z.toNat)
theorem x_hi_rng (S : wa_St) : ∀ (n : Nat) (z : Int), 0 ≤ x_hi S n z ∧ x_hi S n z ≤ (n : Int)
  | 0, z => by simp [x_hi]
  | n + 1, z => by
    have := x_hi_rng S n (S 9 z.toNat)
    simp only [x_hi]
    split <;> omega
-- how many forefathers z has, itself too (n at most)
def x_dp (S : wa_St) : Nat → Int → Int
  | 0, _ => 0
  | n + 1, z => if z < 0 then 0 else x_dp S n (S 4 z.toNat) + 1
def x_fa (S : wa_St) : Nat → Int → Int
  | 0, z => z
  | n + 1, z => x_fa S n (S 4 z.toNat)
theorem x_dp_rng (S : wa_St) : ∀ (n : Nat) (z : Int), 0 ≤ x_dp S n z ∧ x_dp S n z ≤ (n : Int)
  | 0, z => by simp [x_dp]
  | n + 1, z => by
    have := x_dp_rng S n (S 4 z.toNat)
    simp only [x_dp]
    split <;> omega
theorem xr_chain {S X : wa_St} (h : xr S X) (j : Nat) {v : Int} (hv : -2 ≤ v ∧ v ≤ 100000) : xr S (wa_s X 13 j v) := by
  obtain ⟨h1, h2, h3, h4, h5, h6, h7, h8⟩ := h
  refine ⟨fun j hj => h1 j hj, fun k b => ?_, fun j => h3 j, fun j hj => h4 j hj, h5, fun j => h6 j, fun j => h7 j, h8⟩
  unfold wa_s
  split
  · exact hv
  · exact h2 k b
theorem xr_20 {S X : wa_St} (h : xr S X) (j : Nat) {v : Int} (hv : -2 ≤ v ∧ v ≤ 100000) : xr S (wa_s X 20 j v) := by
  obtain ⟨h1, h2, h3, h4, h5, h6, h7, h8⟩ := h
  refine ⟨fun j hj => h1 j hj, fun k b => ?_, fun j => h3 j, fun j hj => h4 j hj, h5, fun j => h6 j, fun j => h7 j, h8⟩
  unfold wa_s
  split
  · exact hv
  · exact h2 k b
theorem xr_12 {S X : wa_St} (h : xr S X) (h9 : S 8 0 ≤ 10) (j : Nat) {v : Int} (hv : -1 ≤ v ∧ v < S 8 0) : xr S (wa_s X 12 j v) := by
  obtain ⟨h1, h2, h3, h4, h5, h6, h7, h8⟩ := h
  refine ⟨fun j hj => h1 j hj, fun k b => ?_, fun j => h3 j, fun j hj => h4 j hj, h5, fun b => ?_, fun j => h7 j, h8⟩
  · unfold wa_s
    split
    · omega
    · exact h2 k b
  · unfold wa_s
    split
    · exact hv
    · exact h6 b
theorem xr_14 {S X : wa_St} (h : xr S X) (h9 : S 29 0 ≤ 30) (j : Nat) {v : Int} (hv : -1 ≤ v ∧ v < S 29 0) : xr S (wa_s X 14 j v) := by
  obtain ⟨h1, h2, h3, h4, h5, h6, h7, h8⟩ := h
  refine ⟨fun j hj => h1 j hj, fun k b => ?_, fun j => h3 j, fun j hj => h4 j hj, h5, fun j => h6 j, fun b => ?_, h8⟩
  · unfold wa_s
    split
    · omega
    · exact h2 k b
  · unfold wa_s
    split
    · exact hv
    · exact h7 b
theorem xr_11 {S X : wa_St} (h : xr S X) (h9 : S 8 0 ≤ 10) (j : Nat) (hj : (j : Int) < S 8 0) {v : Int} (hv : -1 ≤ v ∧ v < S 8 0) : xr S (wa_s X 11 j v) := by
  obtain ⟨h1, h2, h3, h4, h5, h6, h7, h8⟩ := h
  refine ⟨fun j hj => h1 j hj, fun k b => ?_, fun b => ?_, fun b hb => ?_, h5, fun j => h6 j, fun j => h7 j, h8⟩
  · unfold wa_s
    split
    · omega
    · exact h2 k b
  · unfold wa_s
    split
    · exact hv
    · exact h3 b
  · rw [wa_s_nj (by omega)]
    exact h4 b hb
theorem x_it_s (S : wa_St) : ∀ (n : Nat) (z : Int), x_it S (n + 1) z = S 9 (x_it S n z).toNat
  | 0, _ => rfl
  | n + 1, z => x_it_s S n (S 9 z.toNat)
theorem x_fa_s (S : wa_St) : ∀ (n : Nat) (z : Int), x_fa S (n + 1) z = S 4 (x_fa S n z).toNat
  | 0, _ => rfl
  | n + 1, z => x_fa_s S n (S 4 z.toNat)
theorem x_hi_m (S : wa_St) (n : Nat) : x_hi S n (-1) = 0 := by cases n <;> simp [x_hi]
theorem x_hi_n {S : wa_St} {n : Nat} {z : Int} (h : z ≠ -1) : x_hi S (n + 1) z = x_hi S n (S 9 z.toNat) + 1 := if_neg h
theorem x_dp_m {S : wa_St} {n : Nat} {z : Int} (h : z < 0) : x_dp S n z = 0 := by cases n <;> simp [x_dp, h]
theorem x_dp_n {S : wa_St} {n : Nat} {z : Int} (h : 0 ≤ z) : x_dp S (n + 1) z = x_dp S n (S 4 z.toNat) + 1 := if_neg (by omega)
theorem wa_s_list {X : wa_St} {k cx : Nat} {f : Nat → Int} (h : ∀ j, j < cx → X k j = f j) {v : Int} (hv : v = f cx) : ∀ j, j < cx + 1 → wa_s X k cx v k j = f j := by
  intro j hj
  by_cases q : j = cx
  · subst q; rw [wa_s_eq]; exact hv
  · rw [wa_s_nj q]; exact h j (by omega)
