theorem zup_ite {w : zSt} {k : Nat} {i j v : Int} {P : Prop} [Decidable P] : (if P then zup w k i j v else w) = zup w k i j (if P then v else w k i j) := by
  split
  · rfl
  · funext a b d
    unfold zup
    split
    · rename_i h
      rw [h.1, h.2.1, h.2.2]
    · rfl
theorem xKeep_e {y : zSt} {c a b k r : Int} : xKeep y c a b k r = zup (zup (zup (zup (zup (zup y 12 c (y 11 c 5) a) 13 c (y 11 c 5) b) 14 c (y 11 c 5) k) 15 c (y 11 c 5) r) 11 c 5 (if y 11 c 5 + 1 < 4 then y 11 c 5 + 1 else 0)) 11 c 4 (if y 11 c 4 < 4 then y 11 c 4 + 1 else y 11 c 4) := by
  simp only [xKeep]
  rw [zup_ite]
  simp only [zup_d, Nat.reduceEqDiff, Int.reduceEq, false_and, and_false, if_false]
theorem JV_up {x t : zSt} {q : Int} (H : JV x t q) (hq : q < 1000000) : JV x t (q + 1) := by
  obtain ⟨J, V, S⟩ := H
  obtain ⟨hI, hV, hC, hR, hrest⟩ := V
  refine ⟨J, ⟨hI, hV, hC, ?_, hrest⟩, S⟩
  intro c g1 g2
  obtain ⟨b1, b2, b3, b4⟩ := hR c g1 g2
  exact ⟨b1, by omega, by omega, b4⟩
theorem JV_rn {x t : zSt} {c q : Int} (H : JV x t q) (hq : q < 1000000) (hc : 0 ≤ c ∧ c < t 20 0 5) (hl : ¬ mLacks t c) (hr : mRes t c ≠ -2) (hk : 0 ≤ mKer t c) : JV (xRun x c (xKer x c)) (mHas (mKeeps (mTakes t c (mKer t c)) c (mRes t c)) c (mRes t c)) (q + 1) := by
  have J := H.1
  have V := H.2.1
  have n5 := V.1.1.1
  have hT := J.2.2.1 c hc.1 hc.2
  have hM := J.2.2.2.2.2.2.1 c hc.1 (by omega)
  have vR := V.2.2.2.1 c hc.1 (by omega)
  have hrd := j_rd J V.1 hc
  have hrr := j_rr J V.1 hc
  have hkr := j_ker J V.1 hc
  have room := v_room V hc hk
  have w := V.1.2.2.1 c hc.1 hc.2
  rw [if_neg hr] at hrr
  have eu : mHas (mKeeps (mTakes t c (mKer t c)) c (mRes t c)) c (mRes t c) = (zup (zup (zup (zup (zup (zup (zup (zup (zup (zup (zup (zup (zup (zup (zup t 51 0 (t 20 0 30) (mKer t c)) 52 0 (t 20 0 30) (t 31 0 c)) 53 0 (t 20 0 30) (t 20 0 37 + t 32 0 c)) 20 0 30 (t 20 0 30 + 1)) 20 0 38 (t 20 0 38 + t 31 0 c * t 32 0 c)) 44 0 (4 * c + t 38 0 c % 4) (mFst t c)) 45 0 (4 * c + t 38 0 c % 4) (mSec t c)) 46 0 (4 * c + t 38 0 c % 4) (t 29 0 c)) 47 0 (4 * c + t 38 0 c % 4) (mRes t c)) 38 0 c (t 38 0 c + 1)) 34 0 c 102) 35 0 c (mFst t c)) 36 0 c (mSec t c)) 37 0 c (t 29 0 c)) 23 0 (t 30 0 c) (mRes t c)) := by
    unfold mHas mKeeps mTakes mFst mSec
    simp only [zup_d, Nat.reduceEqDiff, Int.reduceEq, false_and, and_false, if_false]
  have ez : xRun x c (xKer x c) = (zup (zup (zup (zup (zup (zup (zup (zup (zup (zup (zup (zup (zup (zup (zup x 16 (mKer t c) 1 (x 16 (mKer t c) 1 + t 31 0 c)) 17 (mKer t c) ((t 20 0 37 + t 32 0 c) % 10) (x 17 (mKer t c) ((t 20 0 37 + t 32 0 c) % 10) + t 31 0 c)) 0 0 13 (x 0 0 13 + t 31 0 c * t 32 0 c)) 9 c 13 (x 9 c 13 + 1)) 12 c (t 38 0 c % 4) (mFst t c)) 13 c (t 38 0 c % 4) (mSec t c)) 14 c (t 38 0 c % 4) (t 29 0 c)) 15 c (t 38 0 c % 4) (mRes t c)) 11 c 5 ((t 38 0 c + 1) % 4)) 11 c 4 (if t 38 0 c + 1 < 4 then t 38 0 c + 1 else 4)) 9 c 10 (mFst t c)) 9 c 11 (mSec t c)) 9 c 12 (t 29 0 c)) 9 c 9 1) 1 0 (t 30 0 c) (mRes t c)) := by
    unfold xRun xSuc xEnd xTake
    rw [xKeep_e]
    simp only [zup_d, Nat.reduceEqDiff, Int.reduceEq, false_and, and_false, if_false]
    rw [hrr, hrd.1, hrd.2, hkr, hT.2.2.2.2.1, hT.2.2.2.1, hT.2.2.2.2.2.1, hT.2.2.2.2.2.2, J.1.2.2.2.2.1, hM.2.1, hM.1]
    have v4 : (if (if t 38 0 c < 4 then t 38 0 c else 4) < 4 then (if t 38 0 c < 4 then t 38 0 c else 4) + 1 else (if t 38 0 c < 4 then t 38 0 c else 4)) = (if t 38 0 c + 1 < 4 then t 38 0 c + 1 else 4) := by
      by_cases g1 : t 38 0 c < 4
      · simp only [if_pos g1]
        split <;> omega
      · simp only [if_neg g1]
        rw [if_neg (by omega), if_neg (by omega)]
    have v5 : (if t 38 0 c % 4 + 1 < 4 then t 38 0 c % 4 + 1 else 0) = (t 38 0 c + 1) % 4 := by
      split <;> omega
    rw [v4, v5]
  rw [eu, ez]
  have rb := mCmp_b (y := t) (c := c) (a := mFst t c) (b := mSec t c)
  have rn : mRes t c ≠ -1 := fun e => mCmp_nn (t := t) (c := c) (a := mFst t c) (b := mSec t c) e
  have v1 : mRes t c = mCmp t c (mFst t c) (mSec t c) := rfl
  have g1 : 0 ≤ mFst t c := by
    simp only [mLacks] at hl
    omega
  have g2 : t 28 0 c ≠ -1 → 0 ≤ mSec t c := fun h => by
    unfold mSec
    rw [if_neg (by omega)]
    simp only [mLacks] at hl
    omega
  have g3 : t 28 0 c = -1 → mSec t c = -1 := fun h => by
    unfold mSec
    rw [if_pos (by omega)]
  exact JV_rs H hq hc ⟨g1, g2, g3, rfl, by omega, by omega⟩ room.1 room.2.1 room.2.2
/-- a run, on both sides -/
theorem JV_ex {x t : zSt} {c q : Int} (H : JV x t q) (hq : q < 1000000) (hc : 0 ≤ c ∧ c < t 20 0 5) : JV (xExeS x c) (mDoS t c) (q + 1) := by
  have J := H.1
  have V := H.2.1
  have f := j_fm J V.1 hc
  have r := j_rr J V.1 hc
  have h := j_hit J V hc
  have k := j_ker J V.1 hc
  have kb : -1 ≤ mKer t c ∧ mKer t c < ((t 20 0 28).toNat : Int) := mKf_b (y := t) (need := t 31 0 c) (t 20 0 28).toNat
  have up : JV x t (q + 1) := JV_up H hq
  unfold xExeS mDoS
  by_cases g1 : mLacks t c
  · rw [if_pos (f.1.mpr g1), if_pos g1]
    exact JV_fm H hq hc g1
  · rw [if_neg (fun q => g1 (f.1.mp q)), if_neg g1, r]
    by_cases g2 : mRes t c = -2
    · rw [if_pos g2, if_pos g2, if_pos rfl]
      exact JV_fz H hq hc
    · rw [if_neg g2, if_neg g2]
      have g3 : mRes t c ≠ -1 := fun e => mCmp_nn (t := t) (c := c) (a := mFst t c) (b := mSec t c) e
      rw [if_neg g3]
      by_cases g4 : 0 ≤ mKept t c
      · rw [if_pos (h.1.mpr g4), if_pos g4]
        exact JV_ha H hq hc g4
      · rw [if_neg (fun q => g4 (h.1.mp q)), if_neg g4]
        by_cases g5 : mKer t c = -1
        · rw [if_pos (by rw [k]; exact g5), if_pos (by omega)]
          exact up
        · rw [if_neg (by rw [k]; exact g5), if_neg (by omega)]
          exact JV_rn H hq hc g1 g2 (by omega)
