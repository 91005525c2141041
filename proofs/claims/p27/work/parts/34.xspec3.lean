/-! made as now: the class's way of it (laid by program) -/
def x_mn (S Y : wa_St) (hei i : Int) : Nat → Int → Int
  | 0, al => al
  | n + 1, al => x_mn S Y hei i n (x_follow S Y (x_fa S n i).toNat al hei)
def x_cY (S : wa_St) (z : Int) : wa_St := fun _ b => x_it S b z
abbrev x_made (S : wa_St) (i : Nat) : Prop := 0 ≤ S 7 i ∧ x_mn S (x_cY S (S 14 (S 7 i).toNat)) (x_hi S 50 (S 14 (S 7 i).toNat)) (i : Int) (x_dp S 10 (i : Int)).toNat 0 = x_hi S 50 (S 14 (S 7 i).toNat)
theorem x_fol_eq {S X Y : wa_St} {hei : Int} (hh : hei ≤ 50) (h : ∀ j : Nat, (j : Int) < hei → X 13 j = Y 13 j) (i : Nat) {fr : Int} (h0 : 0 ≤ fr) : ∀ n j, x_fol S X i fr hei n j = x_fol S Y i fr hei n j := by
  intro n
  induction n with
  | zero => intro j; rfl
  | succ n ih =>
    intro j
    simp only [x_fol]
    rw [ih (j + 1)]
    have e : f_at 50 (X 13) (hei - 1 - fr - (j : Int)) = f_at 50 (Y 13) (hei - 1 - fr - (j : Int)) := by
      unfold f_at
      by_cases q : 0 ≤ hei - 1 - fr - (j : Int) ∧ hei - 1 - fr - (j : Int) < ((50 : Nat) : Int)
      · rw [if_pos q, if_pos q]
        exact h _ (by omega)
      · rw [if_neg q, if_neg q]
    rw [e]
theorem x_follow_eq {S X Y : wa_St} {hei : Int} (hh : hei ≤ 50) (h : ∀ j : Nat, (j : Int) < hei → X 13 j = Y 13 j) (i : Nat) (fr : Int) : x_follow S X i fr hei = x_follow S Y i fr hei := by
  unfold x_follow
  by_cases q : fr < 0
  · rw [if_pos q, if_pos q]
  · rw [if_neg q, if_neg q, x_fol_eq hh h i (by omega)]
theorem x_follow_rng {S : wa_St} (h : wf S) (X : wa_St) (i : Nat) (fr hei : Int) : -2 ≤ x_follow S X i fr hei ∧ (x_follow S X i fr hei ≤ fr + 5 ∨ x_follow S X i fr hei = -2) := by
  have w6 := h.2.2.2.2.2.2.2.1 i
  unfold x_follow
  split
  · omega
  · split <;> omega
theorem x_fa_nn {S : wa_St} : ∀ (m : Nat) (z : Int) (j : Nat), (j : Int) < x_dp S m z → 0 ≤ x_fa S j z
  | 0, z, j, h => by simp [x_dp] at h; omega
  | m + 1, z, j, h => by
    simp only [x_dp] at h
    by_cases q : z < 0
    · rw [if_pos q] at h; omega
    · rw [if_neg q] at h
      cases j with
      | zero => exact Int.not_lt.mp q
      | succ j => exact x_fa_nn m (S 4 z.toNat) j (by omega)
