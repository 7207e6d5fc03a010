/-! the model's recursions, by fuel -/
def mUp (y : zSt) (c : Int) : Prop := y 34 0 c = 102 ∧ y 37 0 c = y 29 0 c ∧ y 35 0 c = mFst y c ∧ y 36 0 c = mSec y c
def mFr (y : zSt) : Nat → Int → Bool
  | 0, _ => false
  | n + 1, c => decide (y 34 0 c = 102 ∧ y 37 0 c = y 29 0 c ∧ y 35 0 c = mFst y c ∧ y 36 0 c = mSec y c ∧ (y 24 0 (y 27 0 c) < 0 ∨ mFr y n (y 24 0 (y 27 0 c)) = true) ∧ (y 28 0 c < 0 ∨ y 24 0 (y 28 0 c) < 0 ∨ mFr y n (y 24 0 (y 28 0 c)) = true))
def mAn (y : zSt) : Nat → Int → Int
  | 0, _ => -1
  | n + 1, c =>
    if (if y 21 0 (y 27 0 c) ≠ 0 then y 23 0 (y 27 0 c) else mAn y n (y 24 0 (y 27 0 c))) < 0 ∨ (if y 28 0 c < 0 then 0 else if y 21 0 (y 28 0 c) ≠ 0 then y 23 0 (y 28 0 c) else mAn y n (y 24 0 (y 28 0 c))) < 0 then -1
    else mCmp y c (if y 21 0 (y 27 0 c) ≠ 0 then y 23 0 (y 27 0 c) else mAn y n (y 24 0 (y 27 0 c))) (if y 28 0 c < 0 then 0 else if y 21 0 (y 28 0 c) ≠ 0 then y 23 0 (y 28 0 c) else mAn y n (y 24 0 (y 28 0 c)))
def mAo (y : zSt) (n : Nat) (v : Int) : Int := if y 21 0 v ≠ 0 then y 23 0 v else mAn y n (y 24 0 v)
def mOn (y : zSt) (v : Int) : Nat → Int → Bool
  | 0, _ => false
  | n + 1, c => decide ((y 27 0 c = v ∨ (0 ≤ y 24 0 (y 27 0 c) ∧ mOn y v n (y 24 0 (y 27 0 c)) = true)) ∨ (0 ≤ y 28 0 c ∧ (y 28 0 c = v ∨ (0 ≤ y 24 0 (y 28 0 c) ∧ mOn y v n (y 24 0 (y 28 0 c)) = true))))
theorem mFr_s {y : zSt} {n : Nat} {c : Int} : mFr y (n + 1) c = true ↔ (y 34 0 c = 102 ∧ y 37 0 c = y 29 0 c ∧ y 35 0 c = mFst y c ∧ y 36 0 c = mSec y c ∧ (y 24 0 (y 27 0 c) < 0 ∨ mFr y n (y 24 0 (y 27 0 c)) = true) ∧ (y 28 0 c < 0 ∨ y 24 0 (y 28 0 c) < 0 ∨ mFr y n (y 24 0 (y 28 0 c)) = true)) := by
  simp only [mFr, decide_eq_true_iff]
theorem mOn_s {y : zSt} {n : Nat} {c v : Int} : mOn y v (n + 1) c = true ↔ ((y 27 0 c = v ∨ (0 ≤ y 24 0 (y 27 0 c) ∧ mOn y v n (y 24 0 (y 27 0 c)) = true)) ∨ (0 ≤ y 28 0 c ∧ (y 28 0 c = v ∨ (0 ≤ y 24 0 (y 28 0 c) ∧ mOn y v n (y 24 0 (y 28 0 c)) = true)))) := by
  simp only [mOn, decide_eq_true_iff]
theorem mAn_s {y : zSt} {n : Nat} {c : Int} : mAn y (n + 1) c = if mAo y n (y 27 0 c) < 0 ∨ (if y 28 0 c < 0 then 0 else mAo y n (y 28 0 c)) < 0 then -1 else mCmp y c (mAo y n (y 27 0 c)) (if y 28 0 c < 0 then 0 else mAo y n (y 28 0 c)) := rfl
theorem mAn_b {y : zSt} : ∀ (n : Nat) (c : Int), -2 ≤ mAn y n c ∧ mAn y n c ≤ 999 := by
  intro n
  cases n with
  | zero => intro c; simp [mAn]
  | succ n =>
    intro c
    rw [mAn_s]
    generalize (if y 28 0 c < 0 then 0 else mAo y n (y 28 0 c)) = b
    split
    · omega
    · exact mCmp_b
theorem mAo_b {y : zSt} {n : Nat} {v : Int} (hI : mI y) (hv : 0 ≤ v ∧ v ≤ 11) : -2 ≤ mAo y n v ∧ mAo y n v ≤ 999 := by
  unfold mAo
  split
  · have := hI.2.1 v hv.1 hv.2
    omega
  · exact mAn_b n _
