/-! THE TWO BESIDE EACH OTHER: x the class's state, t the model's (its code 0). -/
def mSm (t : zSt) (p : Int → Bool) : Nat → Int
  | 0 => 0
  | n + 1 => mSm t p n + (if p n then t 52 0 n else 0)
def mOf (t : zSt) (k : Int) : Int → Bool := fun j => decide (t 51 0 j = k)
def mEd (t : zSt) (k e : Int) : Int → Bool := fun j => decide (t 51 0 j = k ∧ t 53 0 j % 10 = e)
abbrev jCnt (x t : zSt) : Prop := x 0 0 8 = t 20 0 0 ∧ x 0 0 9 = t 20 0 5 ∧ x 0 0 10 = t 20 0 28 ∧ x 0 0 11 = t 20 0 34 ∧ x 0 0 12 = t 20 0 37 ∧ x 0 0 13 = t 20 0 38
abbrev jVar (x t : zSt) (v : Int) : Prop := x 1 0 v = t 23 0 v ∧ x 3 0 v = t 24 0 v ∧ (t 21 0 v = 0 → x 2 0 v = -1) ∧ (t 21 0 v ≠ 0 → x 2 0 v = t 22 0 v)
/-- what is told when the cell is made -/
abbrev jTol (x t : zSt) (c : Int) : Prop := x 9 c 0 = t 26 0 c ∧ x 9 c 1 = t 27 0 c ∧ x 9 c 2 = t 28 0 c ∧ x 9 c 3 = t 29 0 c ∧ x 9 c 4 = t 30 0 c ∧ x 9 c 5 = t 31 0 c ∧ x 9 c 6 = t 32 0 c
/-- what a run leaves -/
abbrev jRun (x t : zSt) (c : Int) : Prop := x 9 c 7 = t 33 0 c ∧ x 9 c 13 = t 38 0 c ∧ x 9 c 14 = t 39 0 c ∧ (x 9 c 9 = 0 ↔ t 34 0 c = 110) ∧ (x 9 c 9 = 1 ↔ t 34 0 c = 102) ∧ (x 9 c 9 = 2 ↔ t 34 0 c = 120) ∧ (x 9 c 9 = 0 ∨ x 9 c 9 = 1 ∨ x 9 c 9 = 2)
abbrev jSaw (x t : zSt) (c : Int) : Prop := t 34 0 c = 102 → x 9 c 10 = t 35 0 c ∧ x 9 c 11 = t 36 0 c ∧ x 9 c 12 = t 37 0 c
abbrev jFai (x t : zSt) (c : Int) : Prop := t 34 0 c = 120 → x 10 c 0 = t 42 0 c ∧ x 10 c 1 = t 40 0 c ∧ x 10 c 2 = t 41 0 c ∧ x 10 c 3 = t 43 0 c
abbrev jMem (x t : zSt) (c : Int) : Prop := (x 11 c 4 = if t 38 0 c < 4 then t 38 0 c else 4) ∧ x 11 c 5 = t 38 0 c % 4 ∧ ∀ i : Int, 0 ≤ i → i < x 11 c 4 → x 12 c i = t 44 0 (4 * c + i) ∧ x 13 c i = t 45 0 (4 * c + i) ∧ x 14 c i = t 46 0 (4 * c + i) ∧ x 15 c i = t 47 0 (4 * c + i)
abbrev jLin (x t : zSt) (c : Int) : Prop := (0 ≤ x 9 c 8 ∧ x 9 c 8 < 4096) ∧ ∀ v : Int, 0 ≤ v → v ≤ 11 → (zand (x 9 c 8) (zshl 1 v) ≠ 0 ↔ mOn t v 11 c = true)
abbrev jKer (x t : zSt) (k : Int) : Prop := x 16 k 0 = t 49 0 k ∧ x 16 k 1 = mSm t (mOf t k) (t 20 0 30).toNat ∧ ∀ e : Int, 0 ≤ e → e ≤ 9 → x 17 k e = mSm t (mEd t k e) (t 20 0 30).toNat
def J2 (x t : zSt) : Prop :=
  jCnt x t ∧ (∀ v : Int, 0 ≤ v → v ≤ 11 → jVar x t v) ∧ (∀ c : Int, 0 ≤ c → c < t 20 0 5 → jTol x t c) ∧ (∀ c : Int, 0 ≤ c → c ≤ 10 → jRun x t c) ∧
  (∀ c : Int, 0 ≤ c → c < t 20 0 5 → jSaw x t c) ∧ (∀ c : Int, 0 ≤ c → c < t 20 0 5 → jFai x t c) ∧ (∀ c : Int, 0 ≤ c → c ≤ 10 → jMem x t c) ∧ (∀ c : Int, 0 ≤ c → c < t 20 0 5 → jLin x t c) ∧
  (∀ k : Int, 0 ≤ k → k ≤ 2 → jKer x t k) ∧ (∀ i : Int, 0 ≤ i → i < t 20 0 34 → x 7 0 i = t 55 0 i ∧ x 8 0 i = t 56 0 i)
/-- the class's slots that the model does not tell -/
def xJ (x : zSt) : Prop := ∀ c : Int, 0 ≤ c → c ≤ 10 → (0 ≤ x 10 c 0 ∧ x 10 c 0 ≤ 65535) ∧ (0 ≤ x 10 c 2 ∧ x 10 c 2 ≤ 65535) ∧ (0 ≤ x 10 c 3 ∧ x 10 c 3 ≤ 1000000) ∧ ∀ i : Int, 0 ≤ i → i ≤ 3 → -1 ≤ x 15 c i ∧ x 15 c i ≤ 999
/-- a result with the constant told -/
def mCq (t : zSt) (c a b k : Int) : Int :=
  if t 26 0 c = 47 ∧ (if t 28 0 c < 0 then k else b) = 0 then -2
  else (if t 26 0 c = 47 then a / (if t 28 0 c < 0 then k else b)
    else if t 26 0 c = 45 then (if (if t 28 0 c < 0 then k else b) < a then a - (if t 28 0 c < 0 then k else b) else (if t 28 0 c < 0 then k else b) - a)
    else if t 26 0 c = 43 then a + k + (if t 28 0 c < 0 then 0 else b)
    else a * k * (if t 28 0 c < 0 then 1 else b)) % 1000
/-- what is kept or was seen is a result -/
abbrev mGood (t : zSt) (c a b k r : Int) : Prop := 0 ≤ a ∧ (t 28 0 c ≠ -1 → 0 ≤ b) ∧ (t 28 0 c = -1 → b = -1) ∧ r = mCq t c a b k ∧ 0 ≤ r ∧ r ≤ 999
def mDf (t : zSt) : Nat → Int
  | 0 => 0
  | n + 1 => mDf t n + (if t 21 0 n ≠ 0 ∨ 0 ≤ t 24 0 n then 1 else 0)
abbrev vVar (t : zSt) (v : Int) : Prop := (t 21 0 v ≠ 0 → t 24 0 v = -1) ∧ (0 ≤ t 24 0 v → t 30 0 (t 24 0 v) = v)
abbrev vCel (t : zSt) (c : Int) : Prop := t 24 0 (t 30 0 c) = c ∧ t 21 0 (t 30 0 c) = 0
abbrev vRun (t : zSt) (q c : Int) : Prop := (t 34 0 c = 110 ∨ t 34 0 c = 102 ∨ t 34 0 c = 120) ∧ (0 ≤ t 38 0 c ∧ t 38 0 c ≤ q) ∧ (0 ≤ t 39 0 c ∧ t 39 0 c ≤ q) ∧ (0 ≤ t 33 0 c ∧ t 33 0 c ≤ 50) ∧ (0 ≤ t 41 0 c ∧ t 41 0 c ≤ 65535) ∧ (0 ≤ t 42 0 c ∧ t 42 0 c ≤ 65535) ∧ (0 ≤ t 43 0 c ∧ t 43 0 c ≤ 10)
abbrev vNew (t : zSt) (c : Int) : Prop := t 34 0 c = 110 ∧ t 38 0 c = 0 ∧ t 39 0 c = 0 ∧ t 33 0 c = 0
abbrev vSaw (t : zSt) (c : Int) : Prop := t 34 0 c = 102 → mGood t c (t 35 0 c) (t 36 0 c) (t 37 0 c) (t 23 0 (t 30 0 c))
abbrev vFai (t : zSt) (c : Int) : Prop := t 34 0 c = 120 → (0 ≤ t 40 0 c ∧ t 40 0 c ≤ c) ∧ t 43 0 c ≤ c - t 40 0 c
abbrev vMem (t : zSt) (c : Int) : Prop := ∀ i : Int, 0 ≤ i → i < 4 → i < t 38 0 c → mGood t c (t 44 0 (4 * c + i)) (t 45 0 (4 * c + i)) (t 46 0 (4 * c + i)) (t 47 0 (4 * c + i))
abbrev vTak (t : zSt) (j : Int) : Prop := (1 ≤ t 52 0 j ∧ t 52 0 j ≤ 5) ∧ (t 20 0 37 < t 53 0 j ∧ t 53 0 j ≤ t 20 0 37 + 9) ∧ (0 ≤ t 51 0 j ∧ t 51 0 j < t 20 0 28)
/-- what holds of the model's state after calls that ran each cell at most q times -/
def vI (t : zSt) (q : Int) : Prop :=
  mI t ∧ (∀ v : Int, 0 ≤ v → v ≤ 11 → vVar t v) ∧ (∀ c : Int, 0 ≤ c → c < t 20 0 5 → vCel t c) ∧ (∀ c : Int, 0 ≤ c → c ≤ 10 → vRun t q c) ∧ (∀ c : Int, t 20 0 5 ≤ c → c ≤ 10 → vNew t c) ∧
  (∀ c : Int, 0 ≤ c → c < t 20 0 5 → vSaw t c ∧ vFai t c ∧ vMem t c) ∧ (∀ j : Int, 0 ≤ j → j < t 20 0 30 → vTak t j) ∧ (∀ k : Int, 0 ≤ k → k ≤ 2 → mSm t (mOf t k) (t 20 0 30).toNat ≤ t 49 0 k ∨ t 20 0 28 ≤ k) ∧
  (∀ k : Int, 0 ≤ k → k < t 20 0 28 → 1 ≤ t 49 0 k) ∧ mDf t 12 = t 20 0 0 + t 20 0 5 ∧ (0 < t 20 0 5 → 1 ≤ t 20 0 0) ∧ t 20 0 39 = 0
theorem mCod_id {t : zSt} (h : t 20 0 39 = 0) : mCod t 0 = t := by
  funext k i j
  unfold mCod zup
  split
  · rename_i g
    rw [g.1, g.2.1, g.2.2, h]
  · rfl
theorem mCq_e {t : zSt} {c a b : Int} : mCq t c a b (t 29 0 c) = mCmp t c a b := rfl
theorem mFree_s {t : zSt} {k : Int} : ∀ n : Nat, mFree t k n = t 49 0 k - mSm t (mOf t k) n := by
  intro n
  induction n with
  | zero => simp [mFree, mSm]
  | succ n ih =>
    simp only [mFree, mSm, ih, mOf, decide_eq_true_iff]
    split <;> omega
theorem j_res {x t : zSt} {c a b : Int} (e : jTol x t c) (h28 : -1 ≤ t 28 0 c) (hk : t 26 0 c = 43 ∨ t 26 0 c = 42 ∨ t 26 0 c = 45 ∨ t 26 0 c = 47) : xRes x c a b = if mCmp t c a b = -2 then -1 else mCmp t c a b := by
  obtain ⟨e0, e1, e2, e3, e4, e5, e6⟩ := e
  unfold xRes mCmp
  rw [e0, e2, e3]
  by_cases hs : t 28 0 c < 0
  · have g : ¬ (t 28 0 c ≠ -1) := by omega
    simp only [if_pos hs, if_neg g]
    rcases hk with h | h | h | h <;> simp only [h, Int.reduceEq, reduceCtorEq, false_and, true_and, if_true, if_false] <;> (repeat' split) <;> omega
  · have g : t 28 0 c ≠ -1 := by omega
    simp only [if_neg hs, if_pos g]
    rcases hk with h | h | h | h <;> simp only [h, Int.reduceEq, reduceCtorEq, false_and, true_and, if_true, if_false] <;> (repeat' split) <;> omega
/-- the reads of a cell -/
theorem j_rd {x t : zSt} {c : Int} (J : J2 x t) (hI : mI t) (hc : 0 ≤ c ∧ c < t 20 0 5) : xA x c = mFst t c ∧ xB x c = mSec t c := by
  obtain ⟨hC, hV, hT, -⟩ := J
  obtain ⟨e0, e1, e2, -⟩ := hT c hc.1 hc.2
  have w := hI.2.2.1 c hc.1 hc.2
  refine ⟨?_, ?_⟩
  · unfold xA mFst
    rw [e1]
    exact (hV _ (by omega) (by omega)).1
  · unfold xB xVa mSec
    rw [e2]
    by_cases h : t 28 0 c = -1
    · rw [if_pos h, if_pos (by omega)]
    · rw [if_neg h, if_neg (by omega)]
      exact (hV _ (by omega) (by omega)).1
/-- what a cell lacks -/
theorem j_fm {x t : zSt} {c : Int} (J : J2 x t) (hI : mI t) (hc : 0 ≤ c ∧ c < t 20 0 5) : (xFm x 1 c ≠ -1 ↔ mLacks t c) ∧ (mLacks t c → xFm x 1 c = mReas t c) := by
  obtain ⟨hC, hV, hT, -⟩ := J
  obtain ⟨e0, e1, e2, -⟩ := hT c hc.1 hc.2
  have w := hI.2.2.1 c hc.1 hc.2
  have a1 := (hV (t 27 0 c) (by omega) (by omega)).1
  have a2 := (hI.2.1 (t 27 0 c) (by omega) (by omega)).2.2.1
  unfold xFm mReas mLacks mFst
  rw [e1, e2, a1]
  by_cases h : t 28 0 c = -1
  · have g : ¬ (t 28 0 c ≠ -1 ∧ x 1 0 (t 28 0 c) = -1) := fun q => q.1 h
    rw [if_neg g]
    refine ⟨?_, ?_⟩
    · split <;> (constructor <;> intro q <;> omega)
    · intro q
      rw [if_pos (by omega), if_pos (by omega)]
  · have b1 := (hV (t 28 0 c) (by omega) (by omega)).1
    have b2 := (hI.2.1 (t 28 0 c) (by omega) (by omega)).2.2.1
    rw [b1]
    refine ⟨?_, ?_⟩
    · split
      · constructor <;> intro q <;> omega
      · split <;> (constructor <;> intro q <;> omega)
    · intro q
      by_cases g : t 23 0 (t 27 0 c) = -1
      · rw [if_pos g, if_pos (by omega)]
      · rw [if_neg g, if_pos (by omega), if_neg (by omega)]
/-- room and kernels -/
theorem j_left {x t : zSt} {k : Int} (J : J2 x t) (hk : 0 ≤ k ∧ k ≤ 2) (h : k < t 20 0 28) : xLeft x k = mLeft t k := by
  have hK := J.2.2.2.2.2.2.2.2.1 k hk.1 hk.2
  unfold xLeft mLeft
  rw [mFree_s, hK.1, hK.2.1]
theorem j_kf {x t : zSt} {need : Int} (J : J2 x t) (h3 : t 20 0 28 ≤ 3) : ∀ n : Nat, (n : Int) ≤ t 20 0 28 → xKf x need n = mKf t need n := by
  intro n
  induction n with
  | zero => intro _; rfl
  | succ n ih =>
    intro h
    have h1 := ih (by omega)
    have h2 := j_left J (k := n) ⟨by omega, by omega⟩ (by omega)
    have h4 := mKf_b (y := t) (need := need) n
    have h5 : 0 ≤ mKf t need n → xLeft x (mKf t need n) = mLeft t (mKf t need n) := fun g => j_left J ⟨g, by omega⟩ (by omega)
    simp only [xKf, mKf, h1, h2]
    by_cases g : mKf t need n = -1
    · have g1 : mKf t need n < 0 := by omega
      simp only [g, true_or, Int.reduceLT, and_true]
    · have g1 : ¬ mKf t need n < 0 := by omega
      rw [h5 (by omega)]
      simp only [g, g1, false_or]
theorem j_ker {x t : zSt} {c : Int} (J : J2 x t) (hI : mI t) (hc : 0 ≤ c ∧ c < t 20 0 5) : xKer x c = mKer t c := by
  have hT := J.2.2.1 c hc.1 hc.2
  have n2 := hI.1.2.1
  unfold xKer mKer
  rw [hT.2.2.2.2.2.1, J.1.2.2.1]
  exact j_kf J n2.2 _ (by omega)
