/-! the model's loops -/
def mNf (y : zSt) : Nat → Int
  | 0 => 0
  | n + 1 => mNf y n + (if mFr y 11 n = true then 1 else 0)
def mOw (y : zSt) (c : Int) : Nat → Int
  | 0 => 0
  | n + 1 => if y 21 0 n ≠ 0 ∧ mOn y n 11 c = true then zor (mOw y c n) (zshl 1 (y 22 0 n)) else mOw y c n
def mDp (y : zSt) (v : Int) : Nat → Int
  | 0 => 0
  | n + 1 => mDp y v n + (if mOn y v 11 n = true then 1 else 0)
def mRa (y : zSt) : Nat → zSt
  | 0 => y
  | n + 1 => if mFr (mRa y n) 11 n = true then mRa y n else mDoS (mRa y n) n
def mFk (y : zSt) : Nat → Int
  | 0 => 0
  | n + 1 => if y 53 0 n ≤ y 20 0 37 then mFk y n else mFk y n + 1
def mFs (y : zSt) : Nat → zSt
  | 0 => y
  | n + 1 => if y 53 0 n ≤ y 20 0 37 then mFs y n else zup (zup (zup (mFs y n) 51 0 (mFk y n) (y 51 0 n)) 52 0 (mFk y n) (y 52 0 n)) 53 0 (mFk y n) (y 53 0 n)
def mFrs (y : zSt) : zSt := zup (mFs y (y 20 0 30).toNat) 20 0 30 (mFk y (y 20 0 30).toNat)
def mTk0 (y : zSt) : zSt := mFrs (zup y 20 0 37 (y 20 0 37 + 1))
def mTs (y : zSt) : Nat → zSt
  | 0 => y
  | n + 1 => if (mTs y n) 33 0 n = 0 ∨ 0 < (mTs y n) 20 0 37 % (mTs y n) 33 0 n ∨ mFr (mTs y n) 11 n = true then mTs y n else mDoS (mTs y n) n
def mTn (y : zSt) : Nat → Int
  | 0 => 0
  | n + 1 => if (mTs y n) 33 0 n = 0 ∨ 0 < (mTs y n) 20 0 37 % (mTs y n) 33 0 n ∨ mFr (mTs y n) 11 n = true then mTn y n else mTn y n + (if mDoR (mTs y n) n = 114 ∨ mDoR (mTs y n) n = 104 then 1 else 0)
def mPs (y : zSt) : Nat → zSt
  | 0 => y
  | n + 1 => mTs (mTk0 (mPs y n)) (y 20 0 5).toNat
def mPn (y : zSt) : Nat → Int
  | 0 => 0
  | n + 1 => mPn y n + mTn (mTk0 (mPs y n)) (y 20 0 5).toNat
/-- that a cell may be run -/
def mOk (y : zSt) (c : Int) : Prop := mI y ∧ (0 ≤ mKer y c → y 20 0 30 ≤ 59)
def mOkR (y : zSt) : Prop := ∀ n : Nat, (n : Int) ≤ y 20 0 5 → mI (mRa y n) ∧ ((n : Int) < y 20 0 5 → 0 ≤ mKer (mRa y n) n → (mRa y n) 20 0 30 ≤ 59) ∧ (mRa y n) 20 0 5 = y 20 0 5
def mOkT (y : zSt) : Prop := mI y ∧ y 20 0 37 ≤ 4999 ∧ (mTk0 y) 20 0 5 = y 20 0 5 ∧ ∀ n : Nat, (n : Int) ≤ y 20 0 5 → mI (mTs (mTk0 y) n) ∧ ((n : Int) < y 20 0 5 → 0 ≤ mKer (mTs (mTk0 y) n) n → (mTs (mTk0 y) n) 20 0 30 ≤ 59) ∧ (mTs (mTk0 y) n) 20 0 5 = y 20 0 5
def mOkP (y : zSt) (t : Int) : Prop := ∀ k : Nat, (k : Int) < t → mOkT (mPs y k) ∧ (mPs y k) 20 0 5 = y 20 0 5
def mSnd (y : zSt) : Prop := (∀ c : Int, 0 ≤ c → c < y 20 0 5 → mFr y 11 c = true → y 23 0 (y 30 0 c) = mAn y 11 c) ∧ ∀ k : Int, 0 ≤ k → k < y 20 0 28 → 0 ≤ mLeft y k
theorem mNf_b {y : zSt} : ∀ n : Nat, 0 ≤ mNf y n ∧ mNf y n ≤ n := by
  intro n
  induction n with
  | zero => simp [mNf]
  | succ n ih =>
    simp only [mNf]
    split <;> omega
theorem mDp_b {y : zSt} {v : Int} : ∀ n : Nat, 0 ≤ mDp y v n ∧ mDp y v n ≤ n := by
  intro n
  induction n with
  | zero => simp [mDp]
  | succ n ih =>
    simp only [mDp]
    split <;> omega
theorem mFk_b {y : zSt} : ∀ n : Nat, 0 ≤ mFk y n ∧ mFk y n ≤ n := by
  intro n
  induction n with
  | zero => simp [mFk]
  | succ n ih =>
    simp only [mFk]
    split <;> omega
theorem mTn_b {y : zSt} : ∀ n : Nat, 0 ≤ mTn y n ∧ mTn y n ≤ n := by
  intro n
  induction n with
  | zero => simp [mTn]
  | succ n ih =>
    simp only [mTn]
    split
    · omega
    · split <;> omega
theorem mFs_r {y : zSt} {k : Nat} {j : Int} : ∀ n : Nat, (k = 51 ∨ k = 52 ∨ k = 53 → (n : Int) ≤ j) → ∀ i : Int, mFs y n k i j = y k i j := by
  intro n
  induction n with
  | zero => intro _ i; rfl
  | succ n ih =>
    intro h i
    have hb := mFk_b (y := y) n
    have e := ih (fun g => by have := h g; omega) i
    simp only [mFs]
    split
    · exact e
    · rw [← e]
      simp only [zup_d]
      rw [if_neg (fun q => by have := h (Or.inr (Or.inr q.1)); omega), if_neg (fun q => by have := h (Or.inr (Or.inl q.1)); omega), if_neg (fun q => by have := h (Or.inl q.1); omega)]
