theorem mTakes_r {y : zSt} {c q : Int} {k : Nat} (h : ¬ k = 20 ∧ (k < 51 ∨ 53 < k)) {i j : Int} : mTakes y c q k i j = y k i j := by
  have h1 : ¬ k = 51 := by omega
  have h2 : ¬ k = 52 := by omega
  have h3 : ¬ k = 53 := by omega
  unfold mTakes
  simp only [zup_d, h.1, h1, h2, h3, false_and, if_false]
theorem mKeeps_r {y : zSt} {c r : Int} {k : Nat} (h : ¬ k = 38 ∧ (k < 44 ∨ 47 < k)) {i j : Int} : mKeeps y c r k i j = y k i j := by
  have h1 : ¬ k = 44 := by omega
  have h2 : ¬ k = 45 := by omega
  have h3 : ¬ k = 46 := by omega
  have h4 : ¬ k = 47 := by omega
  unfold mKeeps
  simp only [zup_d, h.1, h1, h2, h3, h4, false_and, if_false]
theorem mKa_congr {y z : zSt} {c : Int} (h : ∀ k : Nat, ¬ k = 39 → z k = y k) : ∀ (n : Nat) (i : Int), mKa z c n i = mKa y c n i := by
  intro n
  induction n with
  | zero => intro i; rfl
  | succ n ih =>
    intro i
    have e : mHitAt z c i = mHitAt y c i := by simp only [mHitAt, mFst, mSec, h 44 (by decide), h 45 (by decide), h 46 (by decide), h 23 (by decide), h 27 (by decide), h 28 (by decide), h 29 (by decide)]
    simp only [mKa, ih]
    by_cases hh : mHitAt y c i
    · rw [if_pos hh, if_pos (e.mpr hh)]
    · rw [if_neg hh, if_neg (fun q => hh (e.mp q))]
theorem mKept_again {y : zSt} {c v : Int} : mKept (zup y 39 0 c v) c = mKept y c := by
  have h : ∀ k : Nat, ¬ k = 39 → zup y 39 0 c v k = y k := by
    intro k hk
    funext i j
    exact zup_k hk
  unfold mKept
  rw [mKa_congr h, h 38 (by decide)]
theorem mSec_b {y : zSt} {c : Int} (hI : mI y) (hc : 0 ≤ c ∧ c < y 20 0 5) : -1 ≤ mSec y c ∧ mSec y c ≤ 999 := by
  obtain ⟨n, j2, j3, j4, j5, j6, j7⟩ := id hI
  have w := j3 c hc.1 hc.2
  unfold mSec
  split
  · omega
  · have := j2 (y 28 0 c) (by omega) (by omega)
    omega
theorem mCmp_b {y : zSt} {c a b : Int} : -2 ≤ mCmp y c a b ∧ mCmp y c a b ≤ 999 := by
  unfold mCmp
  split
  · omega
  · omega
theorem mReas_b {y : zSt} {c : Int} (hI : mI y) (hc : 0 ≤ c ∧ c < y 20 0 5) (h : mLacks y c) : (0 ≤ mReas y c ∧ mReas y c ≤ 11) ∧ (-1 ≤ y 24 0 (mReas y c) ∧ y 24 0 (mReas y c) < 11) ∧ y 24 0 (mReas y c) < c := by
  obtain ⟨n, j2, j3, j4, j5, j6, j7⟩ := id hI
  have w := j3 c hc.1 hc.2
  have h1 : (0 ≤ mReas y c ∧ mReas y c ≤ 11) ∧ y 24 0 (mReas y c) < c := by
    unfold mReas
    split
    · omega
    · omega
  have h2 := j2 (mReas y c) h1.1.1 h1.1.2
  omega
