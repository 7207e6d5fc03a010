/-! WHAT THE MODEL DOES, in whole numbers, and the bounds of its slots. -/
def mCod (y : zSt) (p : Int) : zSt := zup y 20 0 39 p
theorem mCod_k {y : zSt} {p : Int} {k : Nat} (h : ¬ k = 20) {i j : Int} : mCod y p k i j = y k i j := by
  unfold mCod
  simp only [zup_d, h, false_and, if_false]
theorem mCod_j {y : zSt} {p i j : Int} (h : ¬ j = 39) : mCod y p 20 i j = y 20 i j := by
  unfold mCod
  simp only [zup_d, h, and_false, if_false]
theorem mCod_c {y : zSt} {p : Int} : mCod y p 20 0 39 = p := by
  unfold mCod
  simp only [zup_d, and_self, if_true]
/-- what holds of a variable, of a cell -/
abbrev mIv (y : zSt) (v : Int) : Prop := (y 21 0 v = 0 ∨ y 21 0 v = 1) ∧ (0 ≤ y 22 0 v ∧ y 22 0 v ≤ 3) ∧ (-1 ≤ y 23 0 v ∧ y 23 0 v ≤ 999) ∧ (-1 ≤ y 24 0 v ∧ y 24 0 v < y 20 0 5)
abbrev mIr (y : zSt) (c v : Int) : Prop := (0 ≤ v ∧ v ≤ 11) ∧ (y 21 0 v = 1 ∨ 0 ≤ y 24 0 v) ∧ y 24 0 v < c
abbrev mIc (y : zSt) (c : Int) : Prop :=
  mIr y c (y 27 0 c) ∧ (y 28 0 c = -1 ∨ mIr y c (y 28 0 c)) ∧ (0 ≤ y 29 0 c ∧ y 29 0 c ≤ 99) ∧ (0 ≤ y 30 0 c ∧ y 30 0 c ≤ 11) ∧ (1 ≤ y 31 0 c ∧ y 31 0 c ≤ 5) ∧ (1 ≤ y 32 0 c ∧ y 32 0 c ≤ 9) ∧ (0 ≤ y 33 0 c ∧ y 33 0 c ≤ 50) ∧
  (0 ≤ y 34 0 c ∧ y 34 0 c ≤ 65535) ∧ (0 ≤ y 38 0 c ∧ y 38 0 c ≤ 1000000) ∧ (0 ≤ y 39 0 c ∧ y 39 0 c ≤ 1000000) ∧ (0 ≤ y 41 0 c ∧ y 41 0 c ≤ 65535) ∧ (0 ≤ y 42 0 c ∧ y 42 0 c ≤ 65535) ∧ (0 ≤ y 43 0 c ∧ y 43 0 c ≤ 1000000) ∧ (y 26 0 c = 43 ∨ y 26 0 c = 42 ∨ y 26 0 c = 45 ∨ y 26 0 c = 47)
def mI (y : zSt) : Prop :=
  ((0 ≤ y 20 0 5 ∧ y 20 0 5 ≤ 11) ∧ (0 ≤ y 20 0 28 ∧ y 20 0 28 ≤ 3) ∧ (0 ≤ y 20 0 34 ∧ y 20 0 34 ≤ 20) ∧ (0 ≤ y 20 0 37 ∧ y 20 0 37 ≤ 5000) ∧ (0 ≤ y 20 0 30 ∧ y 20 0 30 ≤ 60) ∧ (0 ≤ y 20 0 0 ∧ y 20 0 0 ≤ 12)) ∧
  (∀ v : Int, 0 ≤ v → v ≤ 11 → mIv y v) ∧ (∀ c : Int, 0 ≤ c → c < y 20 0 5 → mIc y c) ∧
  (∀ k : Int, 0 ≤ k → k ≤ 2 → 0 ≤ y 29 0 k ∨ True) ∧ (∀ k : Int, 0 ≤ k → k ≤ 2 → 0 ≤ y 49 0 k ∧ y 49 0 k ≤ 20) ∧
  (∀ j : Int, 0 ≤ j → j < y 20 0 30 → (1 ≤ y 52 0 j ∧ y 52 0 j ≤ 5) ∧ (0 ≤ y 53 0 j ∧ y 53 0 j ≤ 6000) ∧ (0 ≤ y 51 0 j ∧ y 51 0 j ≤ 2)) ∧
  (∀ i : Int, 0 ≤ i → i < y 20 0 34 → 0 ≤ y 55 0 i ∧ y 55 0 i < y 20 0 5)
abbrev mThere (y : zSt) (v : Int) : Prop := y 21 0 v ≠ 0 ∨ 0 ≤ y 24 0 v
def mSec (y : zSt) (c : Int) : Int := if y 28 0 c < 0 then -1 else y 23 0 (y 28 0 c)
def mFst (y : zSt) (c : Int) : Int := y 23 0 (y 27 0 c)
abbrev mLacks (y : zSt) (c : Int) : Prop := mFst y c < 0 ∨ (0 ≤ y 28 0 c ∧ y 23 0 (y 28 0 c) < 0)
def mCmp (y : zSt) (c a b : Int) : Int :=
  if y 26 0 c = 47 ∧ (if y 28 0 c < 0 then y 29 0 c else b) = 0 then -2
  else (if y 26 0 c = 47 then a / (if y 28 0 c < 0 then y 29 0 c else b)
    else if y 26 0 c = 45 then (if (if y 28 0 c < 0 then y 29 0 c else b) < a then a - (if y 28 0 c < 0 then y 29 0 c else b) else (if y 28 0 c < 0 then y 29 0 c else b) - a)
    else if y 26 0 c = 43 then a + y 29 0 c + (if y 28 0 c < 0 then 0 else b)
    else a * y 29 0 c * (if y 28 0 c < 0 then 1 else b)) % 1000
abbrev mHitAt (y : zSt) (c k : Int) : Prop := y 44 0 k = mFst y c ∧ y 45 0 k = mSec y c ∧ y 46 0 k = y 29 0 c
def mKa (y : zSt) (c : Int) : Nat → Int → Int
  | 0, _ => -1
  | n + 1, k => if mHitAt y c k then k else mKa y c n (k + 1)
def mKept (y : zSt) (c : Int) : Int := mKa y c (if y 38 0 c < 4 then y 38 0 c else 4).toNat (4 * c)
def mFree (y : zSt) (k : Int) : Nat → Int
  | 0 => y 49 0 k
  | n + 1 => mFree y k n - (if y 51 0 n = k then y 52 0 n else 0)
def mLeft (y : zSt) (k : Int) : Int := mFree y k (y 20 0 30).toNat
def mKf (y : zSt) (need : Int) : Nat → Int
  | 0 => -1
  | n + 1 => if need ≤ mLeft y n ∧ (mKf y need n < 0 ∨ mLeft y n < mLeft y (mKf y need n)) then n else mKf y need n
def mKer (y : zSt) (c : Int) : Int := mKf y (y 31 0 c) (y 20 0 28).toNat
def mTakes (y : zSt) (c k : Int) : zSt :=
  zup (zup (zup (zup (zup y 51 0 (y 20 0 30) k) 52 0 (y 20 0 30) (y 31 0 c)) 53 0 (y 20 0 30) (y 20 0 37 + y 32 0 c)) 20 0 30 (y 20 0 30 + 1)) 20 0 38 (y 20 0 38 + y 31 0 c * y 32 0 c)
def mKeeps (y : zSt) (c r : Int) : zSt :=
  zup (zup (zup (zup (zup y 44 0 (4 * c + y 38 0 c % 4) (mFst y c)) 45 0 (4 * c + y 38 0 c % 4) (mSec y c)) 46 0 (4 * c + y 38 0 c % 4) (y 29 0 c)) 47 0 (4 * c + y 38 0 c % 4) r) 38 0 c (y 38 0 c + 1)
def mHas (y : zSt) (c r : Int) : zSt :=
  zup (zup (zup (zup (zup y 34 0 c 102) 35 0 c (mFst y c)) 36 0 c (mSec y c)) 37 0 c (y 29 0 c)) 23 0 (y 30 0 c) r
def mReas (y : zSt) (c : Int) : Int := if mFst y c < 0 then y 27 0 c else y 28 0 c
abbrev mCaus (y : zSt) (c : Int) : Prop := 0 ≤ y 24 0 (mReas y c) ∧ y 34 0 (y 24 0 (mReas y c)) = 120
def mFalls (y : zSt) (c : Int) : zSt :=
  if mCaus y c then zup (zup (zup y 40 0 c (y 40 0 (y 24 0 (mReas y c)))) 41 0 c (y 41 0 (y 24 0 (mReas y c)))) 43 0 c (y 43 0 (y 24 0 (mReas y c)) + 1)
  else zup (zup (zup y 40 0 c c) 41 0 c 109) 43 0 c 0
def mEndF (y : zSt) (c w : Int) : zSt := zup (zup (zup y 34 0 c 120) 42 0 c w) 23 0 (y 30 0 c) (-1)
def mFailM (y : zSt) (c : Int) : zSt := mEndF (mFalls y c) c 109
def mFailZ (y : zSt) (c w : Int) : zSt := mEndF (zup (zup (zup y 40 0 c c) 41 0 c w) 43 0 c 0) c w
def mRes (y : zSt) (c : Int) : Int := mCmp y c (mFst y c) (mSec y c)
def mDoR (y : zSt) (c : Int) : Int :=
  if mLacks y c then 109 else if mRes y c = -2 then 122 else if 0 ≤ mKept y c then 104 else if mKer y c < 0 then 119 else 114
def mDoS (y : zSt) (c : Int) : zSt :=
  if mLacks y c then mFailM y c else if mRes y c = -2 then mFailZ y c 122 else if 0 ≤ mKept y c then mHas (zup y 39 0 c (y 39 0 c + 1)) c (y 47 0 (mKept y c)) else if mKer y c < 0 then y else mHas (mKeeps (mTakes y c (mKer y c)) c (mRes y c)) c (mRes y c)
/-! lookups through single changes -/
theorem mI_cod {y : zSt} {p : Int} (h : mI y) : mI (mCod y p) := by
  have e : ∀ (k : Nat) (i j : Int), ¬ (k = 20 ∧ j = 39) → mCod y p k i j = y k i j := by
    intro k i j h
    by_cases hk : k = 20
    · subst hk
      exact mCod_j (fun q => h ⟨rfl, q⟩)
    · exact mCod_k hk
  unfold mI at h ⊢
  simp only [e _ _ _ (show ¬ ((20 : Nat) = 20 ∧ (5 : Int) = 39) by decide), e _ _ _ (show ¬ ((20 : Nat) = 20 ∧ (28 : Int) = 39) by decide), e _ _ _ (show ¬ ((20 : Nat) = 20 ∧ (34 : Int) = 39) by decide), e _ _ _ (show ¬ ((20 : Nat) = 20 ∧ (37 : Int) = 39) by decide), e _ _ _ (show ¬ ((20 : Nat) = 20 ∧ (30 : Int) = 39) by decide), e _ _ _ (show ¬ ((20 : Nat) = 20 ∧ (0 : Int) = 39) by decide), mCod_k (k := 21) (by decide), mCod_k (k := 22) (by decide), mCod_k (k := 23) (by decide), mCod_k (k := 24) (by decide), mCod_k (k := 26) (by decide), mCod_k (k := 27) (by decide), mCod_k (k := 28) (by decide), mCod_k (k := 29) (by decide), mCod_k (k := 30) (by decide), mCod_k (k := 31) (by decide), mCod_k (k := 32) (by decide), mCod_k (k := 33) (by decide), mCod_k (k := 34) (by decide), mCod_k (k := 38) (by decide), mCod_k (k := 39) (by decide), mCod_k (k := 41) (by decide), mCod_k (k := 42) (by decide), mCod_k (k := 43) (by decide), mCod_k (k := 49) (by decide), mCod_k (k := 51) (by decide), mCod_k (k := 52) (by decide), mCod_k (k := 53) (by decide), mCod_k (k := 55) (by decide)]
  exact h
theorem mKa_b {y : zSt} {c : Int} : ∀ (n : Nat) (k : Int), 0 ≤ k → mKa y c n k = -1 ∨ (k ≤ mKa y c n k ∧ mKa y c n k < k + n) := by
  intro n
  induction n with
  | zero => intro k _; exact Or.inl rfl
  | succ n ih =>
    intro k hk
    simp only [mKa]
    split
    · right; omega
    · rcases ih (k + 1) (by omega) with h | h
      · exact Or.inl h
      · right; omega
theorem mKf_b {y : zSt} {need : Int} : ∀ n : Nat, -1 ≤ mKf y need n ∧ mKf y need n < n := by
  intro n
  induction n with
  | zero => simp [mKf]
  | succ n ih =>
    simp only [mKf]
    split <;> omega
theorem mFree_b {y : zSt} {k : Int} (hI : mI y) (hk : 0 ≤ k ∧ k ≤ 2) : ∀ n : Nat, (n : Int) ≤ y 20 0 30 → -5 * (n : Int) ≤ mFree y k n ∧ mFree y k n ≤ 20 := by
  obtain ⟨j1, j2, j3, j4, j5, j6, j7⟩ := hI
  intro n
  induction n with
  | zero =>
    intro _
    have := j5 k hk.1 hk.2
    simp only [mFree]
    omega
  | succ n ih =>
    intro h
    have h1 := ih (by omega)
    have h2 := j6 n (by omega) (by omega)
    simp only [mFree]
    split <;> omega
theorem mLeft_b {y : zSt} {k : Int} (hI : mI y) (hk : 0 ≤ k ∧ k ≤ 2) : -300 ≤ mLeft y k ∧ mLeft y k ≤ 20 := by
  have h := mFree_b hI hk (y 20 0 30).toNat (by have := hI.1; omega)
  have := hI.1
  unfold mLeft
  omega
theorem mDoR_b {y : zSt} {c : Int} : 0 ≤ mDoR y c ∧ mDoR y c ≤ 65535 := by
  unfold mDoR
  split
  · decide
  · split
    · decide
    · split
      · decide
      · split <;> decide
