/-- a result found again -/
theorem JV_hs {x t : zSt} {c q a b k r : Int} (H : JV x t q) (hq : q < 1000000) (hc : 0 ≤ c ∧ c < t 20 0 5) (hg : mGood t c a b k r) :
    JV (zup (zup (zup (zup (zup (zup x 9 c 14 (x 9 c 14 + 1)) 9 c 10 a) 9 c 11 b) 9 c 12 k) 9 c 9 1) 1 0 (t 30 0 c) r) (zup (zup (zup (zup (zup (zup t 39 0 c (t 39 0 c + 1)) 34 0 c 102) 35 0 c a) 36 0 c b) 37 0 c k) 23 0 (t 30 0 c) r) (q + 1) := by
  have J := H.1
  have V := H.2.1
  have S := H.2.2
  have n5 := V.1.1.1
  have hT := J.2.2.1 c hc.1 hc.2
  have hR := J.2.2.2.1 c hc.1 (by omega)
  have vR := V.2.2.2.1 c hc.1 (by omega)
  have hM := J.2.2.2.2.2.2.1 c hc.1 (by omega)
  have vm := (V.2.2.2.2.2.1 c hc.1 hc.2).2.2
  have s := S c hc.1 (by omega)
  have ew := hT.2.2.2.2.1
  have g5 := hg.2.2.2.2
  refine JV_nk H hq hc ?_ ?_ ?_ ?_ ?_ ?_ ?_ ?_ ?_ ?_ ?_ ?_ ?_ ?_ ?_ ?_ ?_ ?_
  · refine ⟨fun j h => ?_, fun k h j => ?_, fun j h => ?_, fun i j h => ?_, fun k h1 h2 i h j => ?_, fun k j => ?_⟩
    all_goals (simp only [zup_d]; repeat rw [if_neg (by omega)])
  · refine ⟨fun j h h' => ?_, fun k h j => ?_, fun j h => ?_, fun k h1 h2 j h => ?_, fun k h1 h2 j h => ?_⟩
    all_goals (simp only [zup_d]; try unfold mKep at h; repeat rw [if_neg (by omega)])
  · intro k h i j
    simp only [zup_d]
    repeat rw [if_neg (by omega)]
  · simp only [zup_d]
    repeat rw [if_neg (by omega)]
  · intro k h j
    simp only [zup_d]
    repeat rw [if_neg (by omega)]
  · simp only [zup_d]
    repeat rw [if_neg (by omega)]
  · simp only [zup_d]
    repeat rw [if_neg (by omega)]
  · simp only [zup_d, Nat.reduceEqDiff, Int.reduceEq, Int.reduceNeg, eq_self, false_and, and_false, true_and, and_true, and_self, if_false, if_true, iff_self, or_true, true_or, or_false, false_or]
  · unfold jRun
    simp only [zup_d, Nat.reduceEqDiff, Int.reduceEq, Int.reduceNeg, eq_self, false_and, and_false, true_and, and_true, and_self, if_false, if_true, iff_self, or_true, true_or, or_false, false_or]
    exact ⟨hR.1, hR.2.1, by omega⟩
  · intro _
    simp only [zup_d, Nat.reduceEqDiff, Int.reduceEq, Int.reduceNeg, eq_self, false_and, and_false, true_and, and_true, and_self, if_false, if_true, iff_self, or_true, true_or, or_false, false_or]
  · intro h
    simp only [zup_d, Nat.reduceEqDiff, Int.reduceEq, Int.reduceNeg, eq_self, false_and, and_false, true_and, and_true, and_self, if_false, if_true, iff_self, or_true, true_or, or_false, false_or] at h
  · unfold jMem
    simp only [zup_d, Nat.reduceEqDiff, Int.reduceEq, Int.reduceNeg, eq_self, false_and, and_false, true_and, and_true, and_self, if_false, if_true, iff_self, or_true, true_or, or_false, false_or]
    exact hM
  · simp only [zup_d, Nat.reduceEqDiff, Int.reduceEq, Int.reduceNeg, eq_self, false_and, and_false, true_and, and_true, and_self, if_false, if_true, iff_self, or_true, true_or, or_false, false_or]
    omega
  · unfold vRun
    simp only [zup_d, Nat.reduceEqDiff, Int.reduceEq, Int.reduceNeg, eq_self, false_and, and_false, true_and, and_true, and_self, if_false, if_true, iff_self, or_true, true_or, or_false, false_or]
    exact ⟨by omega, by omega, vR.2.2.2.1, vR.2.2.2.2⟩
  · intro _
    unfold mGood
    rw [mCq_f (t := t) (by simp only [zup_d, Nat.reduceEqDiff, Int.reduceEq, Int.reduceNeg, eq_self, false_and, and_false, true_and, and_true, and_self, if_false, if_true, iff_self, or_true, true_or, or_false, false_or]) (by simp only [zup_d, Nat.reduceEqDiff, Int.reduceEq, Int.reduceNeg, eq_self, false_and, and_false, true_and, and_true, and_self, if_false, if_true, iff_self, or_true, true_or, or_false, false_or])]
    simp only [zup_d, Nat.reduceEqDiff, Int.reduceEq, Int.reduceNeg, eq_self, false_and, and_false, true_and, and_true, and_self, if_false, if_true, iff_self, or_true, true_or, or_false, false_or]
    exact hg
  · intro h
    simp only [zup_d, Nat.reduceEqDiff, Int.reduceEq, Int.reduceNeg, eq_self, false_and, and_false, true_and, and_true, and_self, if_false, if_true, iff_self, or_true, true_or, or_false, false_or] at h
  · intro i g1 g2 g3
    simp only [zup_d, Nat.reduceEqDiff, Int.reduceEq, Int.reduceNeg, eq_self, false_and, and_false, true_and, and_true, and_self, if_false, if_true, iff_self, or_true, true_or, or_false, false_or] at g3
    unfold mGood
    rw [mCq_f (t := t) (by simp only [zup_d, Nat.reduceEqDiff, Int.reduceEq, Int.reduceNeg, eq_self, false_and, and_false, true_and, and_true, and_self, if_false, if_true, iff_self, or_true, true_or, or_false, false_or]) (by simp only [zup_d, Nat.reduceEqDiff, Int.reduceEq, Int.reduceNeg, eq_self, false_and, and_false, true_and, and_true, and_self, if_false, if_true, iff_self, or_true, true_or, or_false, false_or])]
    simp only [zup_d, Nat.reduceEqDiff, Int.reduceEq, Int.reduceNeg, eq_self, false_and, and_false, true_and, and_true, and_self, if_false, if_true, iff_self, or_true, true_or, or_false, false_or]
    exact vm i g1 g2 g3
  · simp only [zup_d, Nat.reduceEqDiff, Int.reduceEq, Int.reduceNeg, eq_self, false_and, and_false, true_and, and_true, and_self, if_false, if_true, iff_self, or_true, true_or, or_false, false_or]
    exact s
theorem JV_ha {x t : zSt} {c q : Int} (H : JV x t q) (hq : q < 1000000) (hc : 0 ≤ c ∧ c < t 20 0 5) (hk : 0 ≤ mKept t c) : JV (xSuc (zup x 9 c 14 (x 9 c 14 + 1)) c (xA x c) (xB x c) (xHit x c)) (mHas (zup t 39 0 c (t 39 0 c + 1)) c (t 47 0 (mKept t c))) (q + 1) := by
  have J := H.1
  have V := H.2.1
  have hT := J.2.2.1 c hc.1 hc.2
  have h := (j_hit J V hc).2 hk
  have hr := j_rd J V.1 hc
  have eu : mHas (zup t 39 0 c (t 39 0 c + 1)) c (t 47 0 (mKept t c)) = zup (zup (zup (zup (zup (zup t 39 0 c (t 39 0 c + 1)) 34 0 c 102) 35 0 c (mFst t c)) 36 0 c (mSec t c)) 37 0 c (t 29 0 c)) 23 0 (t 30 0 c) (t 47 0 (mKept t c)) := by
    unfold mHas mFst mSec
    simp only [zup_d, Nat.reduceEqDiff, false_and, if_false]
  have ez : xSuc (zup x 9 c 14 (x 9 c 14 + 1)) c (xA x c) (xB x c) (xHit x c) = zup (zup (zup (zup (zup (zup x 9 c 14 (x 9 c 14 + 1)) 9 c 10 (mFst t c)) 9 c 11 (mSec t c)) 9 c 12 (t 29 0 c)) 9 c 9 1) 1 0 (t 30 0 c) (t 47 0 (mKept t c)) := by
    unfold xSuc xEnd
    simp only [zup_d, Nat.reduceEqDiff, Int.reduceEq, and_false, false_and, if_false]
    rw [hT.2.2.2.2.1, hT.2.2.2.1, hr.1, hr.2, h.1]
  rw [eu, ez]
  exact JV_hs H hq hc h.2.1
