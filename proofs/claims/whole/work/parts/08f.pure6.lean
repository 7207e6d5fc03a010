theorem xGv_r {x : zSt} {t : Int} {k : Nat} (h : ¬ k = 16) (h' : ¬ k = 17) {i j : Int} : ∀ n : Nat, xGv x t n k i j = x k i j := by
  intro n
  induction n with
  | zero => rfl
  | succ n ih =>
    simp only [xGv]
    rw [xGive_r h h']
    exact ih
theorem xTk_r {x : zSt} {k : Nat} (h : ¬ k = 16) (h' : ¬ k = 17) {i j : Int} (hj : ¬ (k = 0 ∧ i = 0 ∧ j = 12)) : xTk x k i j = x k i j := by
  unfold xTk
  rw [xGv_r h h']
  unfold zup
  rw [if_neg hj]
