theorem mCmp_nn {t : zSt} {c a b : Int} (h : mCmp t c a b = -1) : False := by
  unfold mCmp at h
  generalize (if t 26 0 c = 47 then a / (if t 28 0 c < 0 then t 29 0 c else b) else if t 26 0 c = 45 then (if (if t 28 0 c < 0 then t 29 0 c else b) < a then a - (if t 28 0 c < 0 then t 29 0 c else b) else (if t 28 0 c < 0 then t 29 0 c else b) - a) else if t 26 0 c = 43 then a + t 29 0 c + (if t 28 0 c < 0 then 0 else b) else a * t 29 0 c * (if t 28 0 c < 0 then 1 else b)) = z at h
  split at h <;> omega
theorem j_fnd {x t : zSt} {c : Int} (hm : jMem x t c) : ∀ (n : Nat) (i : Int), 0 ≤ i → i + n = x 11 c 4 → (mKa t c n (4 * c + i) = -1 ∧ xFnd x c (mFst t c) (mSec t c) (t 29 0 c) n i = -1) ∨ (∃ j : Int, 0 ≤ j ∧ j < x 11 c 4 ∧ mKa t c n (4 * c + i) = 4 * c + j ∧ mHitAt t c (4 * c + j) ∧ xFnd x c (mFst t c) (mSec t c) (t 29 0 c) n i = t 47 0 (4 * c + j)) := by
  intro n
  induction n with
  | zero => intro i _ _; exact Or.inl ⟨rfl, rfl⟩
  | succ n ih =>
    intro i h1 h2
    obtain ⟨g1, g2, g3, g4⟩ := hm.2.2 i h1 (by omega)
    simp only [mKa, xFnd]
    by_cases h : mHitAt t c (4 * c + i)
    · refine Or.inr ⟨i, h1, by omega, ?_, h, ?_⟩
      · rw [if_pos h]
      · rw [if_pos ⟨by rw [g1]; exact h.1, by rw [g2]; exact h.2.1, by rw [g3]; exact h.2.2⟩, g4]
    · rw [if_neg h, if_neg (fun q => h ⟨by rw [← g1]; exact q.1, by rw [← g2]; exact q.2.1, by rw [← g3]; exact q.2.2⟩)]
      have e : 4 * c + i + 1 = 4 * c + (i + 1) := by omega
      rw [e]
      exact ih (i + 1) (by omega) (by omega)
theorem j_hit {x t : zSt} {c q : Int} (J : J2 x t) (V : vI t q) (hc : 0 ≤ c ∧ c < t 20 0 5) : (xHit x c ≠ -1 ↔ 0 ≤ mKept t c) ∧ (0 ≤ mKept t c → xHit x c = t 47 0 (mKept t c) ∧ mGood t c (mFst t c) (mSec t c) (t 29 0 c) (t 47 0 (mKept t c)) ∧ (4 * c ≤ mKept t c ∧ mKept t c ≤ 4 * c + 3)) := by
  have hI := V.1
  have n5 := hI.1.1
  have hr := j_rd J hI hc
  have hm := J.2.2.2.2.2.2.1 c hc.1 (by omega)
  have hT := J.2.2.1 c hc.1 hc.2
  have vm := (V.2.2.2.2.2.1 c hc.1 hc.2).2.2
  have vr := (V.2.2.2.1 c hc.1 (by omega)).2.1
  have hk : xHit x c = xFnd x c (mFst t c) (mSec t c) (t 29 0 c) (x 11 c 4).toNat 0 := by
    unfold xHit
    rw [hr.1, hr.2, hT.2.2.2.1]
  have hk2 : mKept t c = mKa t c (x 11 c 4).toNat (4 * c + 0) := by
    unfold mKept
    rw [hm.1, Int.add_zero]
  have hmin : 0 ≤ x 11 c 4 ∧ x 11 c 4 ≤ 4 ∧ x 11 c 4 ≤ t 38 0 c := by
    rw [hm.1]
    split <;> omega
  rcases j_fnd hm (x 11 c 4).toNat 0 (by omega) (by omega) with ⟨a1, a2⟩ | ⟨j, j1, j2, a1, a2, a3⟩
  · rw [hk, hk2, a1, a2]
    exact ⟨⟨fun g => absurd rfl g, fun g => by omega⟩, fun g => by omega⟩
  · have g := vm j j1 (by omega) (by omega)
    rw [hk, hk2, a1, a3]
    have g5 := g.2.2.2.2
    refine ⟨⟨fun _ => by omega, fun _ => by omega⟩, fun _ => ⟨rfl, ?_, by omega⟩⟩
    have e1 := a2.1
    have e2 := a2.2.1
    have e3 := a2.2.2
    rw [← e1, ← e2, ← e3]
    exact g
theorem j_rr {x t : zSt} {c : Int} (J : J2 x t) (hI : mI t) (hc : 0 ≤ c ∧ c < t 20 0 5) : xRes x c (xA x c) (xB x c) = if mRes t c = -2 then -1 else mRes t c := by
  have hr := j_rd J hI hc
  have hT := J.2.2.1 c hc.1 hc.2
  have w := hI.2.2.1 c hc.1 hc.2
  rw [hr.1, hr.2]
  exact j_res hT (by omega) w.2.2.2.2.2.2.2.2.2.2.2.2.2
/-- a run tells the same -/
theorem j_exeR {x t : zSt} {c q : Int} (J : J2 x t) (V : vI t q) (hc : 0 ≤ c ∧ c < t 20 0 5) : xExeR x c = mDoR t c := by
  have hI := V.1
  have f := j_fm J hI hc
  have r := j_rr J hI hc
  have h := j_hit J V hc
  have k := j_ker J hI hc
  have rb := mCmp_b (y := t) (c := c) (a := mFst t c) (b := mSec t c)
  have kb : -1 ≤ mKer t c ∧ mKer t c < ((t 20 0 28).toNat : Int) := mKf_b (y := t) (need := t 31 0 c) (t 20 0 28).toNat
  unfold xExeR mDoR
  rw [r, k]
  by_cases g1 : mLacks t c
  · rw [if_pos (f.1.mpr g1), if_pos g1]
  · rw [if_neg (fun q => g1 (f.1.mp q)), if_neg g1]
    by_cases g2 : mRes t c = -2
    · rw [if_pos g2, if_pos g2, if_pos rfl]
    · rw [if_neg g2, if_neg g2]
      have g3 : mRes t c ≠ -1 := by
        unfold mRes
        intro e
        have := mCmp_nn e
        exact this
      rw [if_neg g3]
      by_cases g4 : 0 ≤ mKept t c
      · rw [if_pos (h.1.mpr g4), if_pos g4]
      · rw [if_neg (fun q => g4 (h.1.mp q)), if_neg g4]
        by_cases g5 : mKer t c = -1
        · rw [if_pos g5, if_pos (by omega)]
        · rw [if_neg g5, if_neg (by omega)]
