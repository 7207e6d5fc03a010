/-! freeing: the rows that end at the new tick leave -/
def mGt (t : zSt) (p : Int → Bool) (T : Int) : Int → Bool := fun j => p j && decide (T < t 53 0 j)
def mLe (t : zSt) (p : Int → Bool) (T : Int) : Int → Bool := fun j => p j && decide (t 53 0 j ≤ T)
theorem mSm_s {t : zSt} {p : Int → Bool} {T : Int} : ∀ n : Nat, mSm t p n = mSm t (mGt t p T) n + mSm t (mLe t p T) n := by
  intro n
  induction n with
  | zero => rfl
  | succ n ih =>
    simp only [mSm, ih]
    by_cases g : T < t 53 0 n
    · have e1 : mGt t p T n = p n := by
        unfold mGt
        rw [decide_eq_true g, Bool.and_true]
      have e2 : mLe t p T n = false := by
        unfold mLe
        rw [decide_eq_false (by omega), Bool.and_false]
      rw [e1, e2]
      simp only [Bool.false_eq_true, if_false]
      omega
    · have e1 : mLe t p T n = p n := by
        unfold mLe
        rw [decide_eq_true (by omega), Bool.and_true]
      have e2 : mGt t p T n = false := by
        unfold mGt
        rw [decide_eq_false g, Bool.and_false]
      rw [e1, e2]
      simp only [Bool.false_eq_true, if_false]
      omega
theorem mFk_s {y : zSt} {n : Nat} : mFk y (n + 1) = if y 53 0 n ≤ y 20 0 37 then mFk y n else mFk y n + 1 := rfl
theorem mFs_s {y : zSt} {n : Nat} : mFs y (n + 1) = if y 53 0 n ≤ y 20 0 37 then mFs y n else zup (zup (zup (mFs y n) 51 0 (mFk y n) (y 51 0 n)) 52 0 (mFk y n) (y 52 0 n)) 53 0 (mFk y n) (y 53 0 n) := rfl
/-- the rows that stay, by the rows that were -/
theorem mFs_i {y : zSt} : ∀ n : Nat, ∀ j : Int, 0 ≤ j → j < mFk y n → ∃ i : Int, (0 ≤ i ∧ i < n) ∧ (mFs y n) 51 0 j = y 51 0 i ∧ (mFs y n) 52 0 j = y 52 0 i ∧ (mFs y n) 53 0 j = y 53 0 i ∧ y 20 0 37 < y 53 0 i := by
  intro n
  induction n with
  | zero => intro j h1 h2; simp only [mFk] at h2; omega
  | succ n ih =>
    intro j h1 h2
    rw [mFk_s] at h2
    rw [mFs_s]
    by_cases g : y 53 0 n ≤ y 20 0 37
    · rw [if_pos g] at h2 ⊢
      obtain ⟨i, a, b⟩ := ih j h1 h2
      exact ⟨i, by omega, b⟩
    · rw [if_neg g] at h2 ⊢
      by_cases e : j = mFk y n
      · refine ⟨n, by omega, ?_, ?_, ?_, by omega⟩
        · rw [e]; simp only [zup_d, Nat.reduceEqDiff, Int.reduceEq, Int.reduceNeg, eq_self, false_and, and_false, true_and, and_true, and_self, if_false, if_true, iff_self, or_true, true_or, or_false, false_or]
        · rw [e]; simp only [zup_d, Nat.reduceEqDiff, Int.reduceEq, Int.reduceNeg, eq_self, false_and, and_false, true_and, and_true, and_self, if_false, if_true, iff_self, or_true, true_or, or_false, false_or]
        · rw [e]; simp only [zup_d, Nat.reduceEqDiff, Int.reduceEq, Int.reduceNeg, eq_self, false_and, and_false, true_and, and_true, and_self, if_false, if_true, iff_self, or_true, true_or, or_false, false_or]
      · obtain ⟨i, a, b1, b2, b3, b4⟩ := ih j h1 (by omega)
        refine ⟨i, by omega, ?_, ?_, ?_, b4⟩
        · simp only [zup_d, Nat.reduceEqDiff, Int.reduceEq, Int.reduceNeg, eq_self, false_and, and_false, true_and, and_true, and_self, if_false, if_true, iff_self, or_true, true_or, or_false, false_or, e]; exact b1
        · simp only [zup_d, Nat.reduceEqDiff, Int.reduceEq, Int.reduceNeg, eq_self, false_and, and_false, true_and, and_true, and_self, if_false, if_true, iff_self, or_true, true_or, or_false, false_or, e]; exact b2
        · simp only [zup_d, Nat.reduceEqDiff, Int.reduceEq, Int.reduceNeg, eq_self, false_and, and_false, true_and, and_true, and_self, if_false, if_true, iff_self, or_true, true_or, or_false, false_or, e]; exact b3
/-- sums over the rows that stay -/
theorem mFs_m {y : zSt} {P : Int → Int → Bool} : ∀ n : Nat, mSm (mFs y n) (fun j => P ((mFs y n) 51 0 j) ((mFs y n) 53 0 j)) (mFk y n).toNat = mSm y (mGt y (fun j => P (y 51 0 j) (y 53 0 j)) (y 20 0 37)) n := by
  intro n
  induction n with
  | zero => rfl
  | succ n ih =>
    have kb := mFk_b (y := y) n
    rw [mFk_s, mFs_s]
    have eS : mSm y (mGt y (fun j => P (y 51 0 j) (y 53 0 j)) (y 20 0 37)) (n + 1) = mSm y (mGt y (fun j => P (y 51 0 j) (y 53 0 j)) (y 20 0 37)) n + (if mGt y (fun j => P (y 51 0 j) (y 53 0 j)) (y 20 0 37) n = true then y 52 0 n else 0) := rfl
    rw [eS]
    by_cases g : y 53 0 n ≤ y 20 0 37
    · rw [if_pos g, if_pos g, ih]
      have e2 : mGt y (fun j => P (y 51 0 j) (y 53 0 j)) (y 20 0 37) n = false := by
        unfold mGt
        rw [decide_eq_false (by omega), Bool.and_false]
      rw [e2, if_neg (by decide)]
      omega
    · rw [if_neg g, if_neg g]
      have e2 : mGt y (fun j => P (y 51 0 j) (y 53 0 j)) (y 20 0 37) n = P (y 51 0 n) (y 53 0 n) := by
        unfold mGt
        rw [decide_eq_true (by omega), Bool.and_true]
      rw [e2, ← ih]
      obtain ⟨K, hK⟩ : ∃ K, K = mFk y n := ⟨_, rfl⟩
      obtain ⟨w, hw⟩ : ∃ w, w = mFs y n := ⟨_, rfl⟩
      rw [← hK] at kb ⊢
      rw [← hw]
      obtain ⟨u, hu⟩ : ∃ u, u = zup (zup (zup w 51 0 K (y 51 0 n)) 52 0 K (y 52 0 n)) 53 0 K (y 53 0 n) := ⟨_, rfl⟩
      rw [← hu]
      have a51 : ∀ j : Int, u 51 0 j = if j = K then y 51 0 n else w 51 0 j := fun j => by
        rw [hu]
        simp only [zup_d, Nat.reduceEqDiff, Int.reduceEq, Int.reduceNeg, eq_self, false_and, and_false, true_and, and_true, and_self, if_false, if_true, iff_self, or_true, true_or, or_false, false_or]
      have a52 : ∀ j : Int, u 52 0 j = if j = K then y 52 0 n else w 52 0 j := fun j => by
        rw [hu]
        simp only [zup_d, Nat.reduceEqDiff, Int.reduceEq, Int.reduceNeg, eq_self, false_and, and_false, true_and, and_true, and_self, if_false, if_true, iff_self, or_true, true_or, or_false, false_or]
      have a53 : ∀ j : Int, u 53 0 j = if j = K then y 53 0 n else w 53 0 j := fun j => by
        rw [hu]
        simp only [zup_d, Nat.reduceEqDiff, Int.reduceEq, Int.reduceNeg, eq_self, false_and, and_false, true_and, and_true, and_self, if_false, if_true, iff_self, or_true, true_or, or_false, false_or]
      have eK : (K + 1).toNat = K.toNat + 1 := by omega
      have eK2 : ((K.toNat : Nat) : Int) = K := by omega
      have eT : mSm u (fun j => P (u 51 0 j) (u 53 0 j)) (K.toNat + 1) = mSm u (fun j => P (u 51 0 j) (u 53 0 j)) K.toNat + (if P (u 51 0 ((K.toNat : Nat) : Int)) (u 53 0 ((K.toNat : Nat) : Int)) = true then u 52 0 ((K.toNat : Nat) : Int) else 0) := rfl
      have eL : mSm u (fun j => P (u 51 0 j) (u 53 0 j)) K.toNat = mSm w (fun j => P (w 51 0 j) (w 53 0 j)) K.toNat := mSm_l K.toNat (fun j g1 g2 => by
        have e : ¬ j = K := by omega
        refine ⟨by rw [a52 j, if_neg e], ?_⟩
        show P (u 51 0 j) (u 53 0 j) = P (w 51 0 j) (w 53 0 j)
        rw [a51 j, a53 j, if_neg e, if_neg e])
      rw [eK, eT, eL, eK2, a51 K, a52 K, a53 K, if_pos rfl, if_pos rfl, if_pos rfl]
/-- the class's side -/
theorem xGv_v {x : zSt} {T : Int} : ∀ (n : Nat) (k : Int), 0 ≤ k → ((xGv x T n) 16 k 0 = x 16 k 0) ∧ ((xGv x T n) 16 k 1 = if k < n then x 16 k 1 - x 17 k (T % 10) else x 16 k 1) ∧ ∀ e : Int, (xGv x T n) 17 k e = if k < n ∧ e = T % 10 then 0 else x 17 k e := by
  intro n
  induction n with
  | zero =>
    intro k hk
    refine ⟨rfl, ?_, fun e => ?_⟩
    · rw [if_neg (by omega)]; rfl
    · rw [if_neg (by omega)]; rfl
  | succ n ih =>
    intro k hk
    obtain ⟨a1, a2, a3⟩ := ih k hk
    simp only [xGv, xGive]
    by_cases g : k = n
    · have h1 : ¬ k < n := by omega
      have h2 : k < ((n + 1 : Nat) : Int) := by omega
      rw [if_neg h1] at a2
      have a3' : ∀ e : Int, (xGv x T n) 17 k e = x 17 k e := fun e => by rw [a3 e, if_neg (by omega)]
      rw [if_pos h2]
      refine ⟨?_, ?_, fun e => ?_⟩
      · simp only [zup_d, Nat.reduceEqDiff, Int.reduceEq, Int.reduceNeg, eq_self, false_and, and_false, true_and, and_true, and_self, if_false, if_true, iff_self, or_true, true_or, or_false, false_or]; exact a1
      · rw [← g]
        simp only [zup_d, Nat.reduceEqDiff, Int.reduceEq, Int.reduceNeg, eq_self, false_and, and_false, true_and, and_true, and_self, if_false, if_true, iff_self, or_true, true_or, or_false, false_or]
        rw [a2, a3']
      · rw [← g]
        simp only [zup_d, Nat.reduceEqDiff, Int.reduceEq, Int.reduceNeg, eq_self, false_and, and_false, true_and, and_true, and_self, if_false, if_true, iff_self, or_true, true_or, or_false, false_or]
        by_cases c : e = T % 10
        · rw [if_pos c, if_pos ⟨h2, c⟩]
        · rw [if_neg c, if_neg (fun p => c p.2)]
          exact a3' e
    · by_cases h1 : k < n
      · have h2 : k < ((n + 1 : Nat) : Int) := by omega
        rw [if_pos h1] at a2
        rw [if_pos h2]
        refine ⟨?_, ?_, fun e => ?_⟩
        · simp only [zup_d, Nat.reduceEqDiff, Int.reduceEq, Int.reduceNeg, eq_self, false_and, and_false, true_and, and_true, and_self, if_false, if_true, iff_self, or_true, true_or, or_false, false_or, g]; exact a1
        · simp only [zup_d, Nat.reduceEqDiff, Int.reduceEq, Int.reduceNeg, eq_self, false_and, and_false, true_and, and_true, and_self, if_false, if_true, iff_self, or_true, true_or, or_false, false_or, g]; exact a2
        · simp only [zup_d, Nat.reduceEqDiff, Int.reduceEq, Int.reduceNeg, eq_self, false_and, and_false, true_and, and_true, and_self, if_false, if_true, iff_self, or_true, true_or, or_false, false_or, g]
          rw [a3 e]
          by_cases c : e = T % 10
          · rw [if_pos ⟨h1, c⟩, if_pos ⟨h2, c⟩]
          · rw [if_neg (fun p => c p.2), if_neg (fun p => c p.2)]
      · have h2 : ¬ k < ((n + 1 : Nat) : Int) := by omega
        rw [if_neg h1] at a2
        rw [if_neg h2]
        refine ⟨?_, ?_, fun e => ?_⟩
        · simp only [zup_d, Nat.reduceEqDiff, Int.reduceEq, Int.reduceNeg, eq_self, false_and, and_false, true_and, and_true, and_self, if_false, if_true, iff_self, or_true, true_or, or_false, false_or, g]; exact a1
        · simp only [zup_d, Nat.reduceEqDiff, Int.reduceEq, Int.reduceNeg, eq_self, false_and, and_false, true_and, and_true, and_self, if_false, if_true, iff_self, or_true, true_or, or_false, false_or, g]; exact a2
        · simp only [zup_d, Nat.reduceEqDiff, Int.reduceEq, Int.reduceNeg, eq_self, false_and, and_false, true_and, and_true, and_self, if_false, if_true, iff_self, or_true, true_or, or_false, false_or, g]
          rw [a3 e, if_neg (fun p => h1 p.1), if_neg (fun p => h2 p.1)]
