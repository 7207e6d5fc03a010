theorem mDf_b {t : zSt} : ∀ n : Nat, 0 ≤ mDf t n ∧ mDf t n ≤ n := by
  intro n
  induction n with
  | zero => simp [mDf]
  | succ n ih =>
    simp only [mDf]
    split <;> omega
/-- one variable more is there -/
theorem mDf_a {t u : zSt} {v : Int} (h : ∀ j : Int, j ≠ v → u 21 0 j = t 21 0 j ∧ u 24 0 j = t 24 0 j) (ht : ¬ (t 21 0 v ≠ 0 ∨ 0 ≤ t 24 0 v)) (hu : u 21 0 v ≠ 0 ∨ 0 ≤ u 24 0 v) (h0 : 0 ≤ v) : ∀ n : Nat, mDf u n = mDf t n + (if v < n then 1 else 0) := by
  intro n
  induction n with
  | zero =>
    rw [if_neg (by omega)]
    rfl
  | succ n ih =>
    simp only [mDf]
    rw [ih]
    by_cases e : (n : Int) = v
    · rw [e, if_pos hu, if_neg ht, if_neg (by omega), if_pos (by omega)]
    · obtain ⟨a1, a2⟩ := h n e
      rw [a1, a2]
      by_cases g : v < n
      · rw [if_pos g, if_pos (show v < ((n + 1 : Nat) : Int) by omega)]
        omega
      · rw [if_neg g, if_neg (show ¬ v < ((n + 1 : Nat) : Int) by omega)]
        omega
