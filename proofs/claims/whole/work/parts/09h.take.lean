/-- a run that takes a kernel -/
theorem JV_rs {x t : zSt} {c q a b g r k : Int} (H : JV x t q) (hq : q < 1000000) (hc : 0 ≤ c ∧ c < t 20 0 5) (hg : mGood t c a b g r) (hk : 0 ≤ k ∧ k < t 20 0 28) (hl : t 31 0 c ≤ t 49 0 k - mSm t (mOf t k) (t 20 0 30).toNat) (hn : t 20 0 30 ≤ 59) :
    JV (zup (zup (zup (zup (zup (zup (zup (zup (zup (zup (zup (zup (zup (zup (zup x 16 k 1 (x 16 k 1 + t 31 0 c)) 17 k ((t 20 0 37 + t 32 0 c) % 10) (x 17 k ((t 20 0 37 + t 32 0 c) % 10) + t 31 0 c)) 0 0 13 (x 0 0 13 + t 31 0 c * t 32 0 c)) 9 c 13 (x 9 c 13 + 1)) 12 c (t 38 0 c % 4) a) 13 c (t 38 0 c % 4) b) 14 c (t 38 0 c % 4) g) 15 c (t 38 0 c % 4) r) 11 c 5 ((t 38 0 c + 1) % 4)) 11 c 4 (if t 38 0 c + 1 < 4 then t 38 0 c + 1 else 4)) 9 c 10 a) 9 c 11 b) 9 c 12 g) 9 c 9 1) 1 0 (t 30 0 c) r) (zup (zup (zup (zup (zup (zup (zup (zup (zup (zup (zup (zup (zup (zup (zup t 51 0 (t 20 0 30) k) 52 0 (t 20 0 30) (t 31 0 c)) 53 0 (t 20 0 30) (t 20 0 37 + t 32 0 c)) 20 0 30 (t 20 0 30 + 1)) 20 0 38 (t 20 0 38 + t 31 0 c * t 32 0 c)) 44 0 (4 * c + t 38 0 c % 4) a) 45 0 (4 * c + t 38 0 c % 4) b) 46 0 (4 * c + t 38 0 c % 4) g) 47 0 (4 * c + t 38 0 c % 4) r) 38 0 c (t 38 0 c + 1)) 34 0 c 102) 35 0 c a) 36 0 c b) 37 0 c g) 23 0 (t 30 0 c) r) (q + 1) := by
  have J := H.1
  have V := H.2.1
  have S := H.2.2
  have n5 := V.1.1.1
  have n28 := V.1.1.2.1
  have n30 := V.1.1.2.2.2.2.1
  have hT := J.2.2.1 c hc.1 hc.2
  have hR := J.2.2.2.1 c hc.1 (by omega)
  have vR := V.2.2.2.1 c hc.1 (by omega)
  have hM := J.2.2.2.2.2.2.1 c hc.1 (by omega)
  have vm := (V.2.2.2.2.2.1 c hc.1 hc.2).2.2
  have s := S c hc.1 (by omega)
  have ew := hT.2.2.2.2.1
  have w := V.1.2.2.1 c hc.1 hc.2
  have w31 := w.2.2.2.2.1
  have w32 := w.2.2.2.2.2.1
  have tk := V.2.2.2.2.2.2.1
  have g5 := hg.2.2.2.2
  have hx : xFrm x (zup (zup (zup (zup (zup (zup (zup (zup (zup (zup (zup (zup (zup (zup (zup x 16 k 1 (x 16 k 1 + t 31 0 c)) 17 k ((t 20 0 37 + t 32 0 c) % 10) (x 17 k ((t 20 0 37 + t 32 0 c) % 10) + t 31 0 c)) 0 0 13 (x 0 0 13 + t 31 0 c * t 32 0 c)) 9 c 13 (x 9 c 13 + 1)) 12 c (t 38 0 c % 4) a) 13 c (t 38 0 c % 4) b) 14 c (t 38 0 c % 4) g) 15 c (t 38 0 c % 4) r) 11 c 5 ((t 38 0 c + 1) % 4)) 11 c 4 (if t 38 0 c + 1 < 4 then t 38 0 c + 1 else 4)) 9 c 10 a) 9 c 11 b) 9 c 12 g) 9 c 9 1) 1 0 (t 30 0 c) r) c := by
    refine ⟨fun j h => ?_, fun k h j => ?_, fun j h => ?_, fun i j h => ?_, fun k h1 h2 i h j => ?_, fun k j => ?_⟩
    all_goals (simp only [zup_d]; repeat rw [if_neg (by omega)])
  have hm : mFrm t (zup (zup (zup (zup (zup (zup (zup (zup (zup (zup (zup (zup (zup (zup (zup t 51 0 (t 20 0 30) k) 52 0 (t 20 0 30) (t 31 0 c)) 53 0 (t 20 0 30) (t 20 0 37 + t 32 0 c)) 20 0 30 (t 20 0 30 + 1)) 20 0 38 (t 20 0 38 + t 31 0 c * t 32 0 c)) 44 0 (4 * c + t 38 0 c % 4) a) 45 0 (4 * c + t 38 0 c % 4) b) 46 0 (4 * c + t 38 0 c % 4) g) 47 0 (4 * c + t 38 0 c % 4) r) 38 0 c (t 38 0 c + 1)) 34 0 c 102) 35 0 c a) 36 0 c b) 37 0 c g) 23 0 (t 30 0 c) r) c := by
    refine ⟨fun j h h' => ?_, fun k h j => ?_, fun j h => ?_, fun k h1 h2 j h => ?_, fun k h1 h2 j h => ?_⟩
    all_goals (simp only [zup_d]; try unfold mKep at h; repeat rw [if_neg (by omega)])
  have hN : (t 20 0 30 + 1).toNat = (t 20 0 30).toNat + 1 := by omega
  have hN2 : (((t 20 0 30).toNat : Nat) : Int) = t 20 0 30 := by omega
  have sums : ∀ (p p' : Int → Bool), (∀ j : Int, 0 ≤ j → j < t 20 0 30 → p j = p' j) → mSm (zup (zup (zup (zup (zup (zup (zup (zup (zup (zup (zup (zup (zup (zup (zup t 51 0 (t 20 0 30) k) 52 0 (t 20 0 30) (t 31 0 c)) 53 0 (t 20 0 30) (t 20 0 37 + t 32 0 c)) 20 0 30 (t 20 0 30 + 1)) 20 0 38 (t 20 0 38 + t 31 0 c * t 32 0 c)) 44 0 (4 * c + t 38 0 c % 4) a) 45 0 (4 * c + t 38 0 c % 4) b) 46 0 (4 * c + t 38 0 c % 4) g) 47 0 (4 * c + t 38 0 c % 4) r) 38 0 c (t 38 0 c + 1)) 34 0 c 102) 35 0 c a) 36 0 c b) 37 0 c g) 23 0 (t 30 0 c) r) p ((t 20 0 30).toNat + 1) = mSm t p' (t 20 0 30).toNat + (if p (t 20 0 30) then t 31 0 c else 0) := by
    intro p p' h
    simp only [mSm]
    rw [mSm_l (t := t) (p' := p') (t 20 0 30).toNat (fun j g1 g2 => ⟨by simp only [zup_d]; repeat rw [if_neg (by omega)], h j g1 (by omega)⟩), hN2]
    rw [show (zup (zup (zup (zup (zup (zup (zup (zup (zup (zup (zup (zup (zup (zup (zup t 51 0 (t 20 0 30) k) 52 0 (t 20 0 30) (t 31 0 c)) 53 0 (t 20 0 30) (t 20 0 37 + t 32 0 c)) 20 0 30 (t 20 0 30 + 1)) 20 0 38 (t 20 0 38 + t 31 0 c * t 32 0 c)) 44 0 (4 * c + t 38 0 c % 4) a) 45 0 (4 * c + t 38 0 c % 4) b) 46 0 (4 * c + t 38 0 c % 4) g) 47 0 (4 * c + t 38 0 c % 4) r) 38 0 c (t 38 0 c + 1)) 34 0 c 102) 35 0 c a) 36 0 c b) 37 0 c g) 23 0 (t 30 0 c) r) 52 0 (t 20 0 30) = t 31 0 c by simp only [zup_d, Nat.reduceEqDiff, Int.reduceEq, Int.reduceNeg, eq_self, false_and, and_false, true_and, and_true, and_self, if_false, if_true, iff_self, or_true, true_or, or_false, false_or]]
  obtain ⟨u, hu⟩ : ∃ u, u = (zup (zup (zup (zup (zup (zup (zup (zup (zup (zup (zup (zup (zup (zup (zup t 51 0 (t 20 0 30) k) 52 0 (t 20 0 30) (t 31 0 c)) 53 0 (t 20 0 30) (t 20 0 37 + t 32 0 c)) 20 0 30 (t 20 0 30 + 1)) 20 0 38 (t 20 0 38 + t 31 0 c * t 32 0 c)) 44 0 (4 * c + t 38 0 c % 4) a) 45 0 (4 * c + t 38 0 c % 4) b) 46 0 (4 * c + t 38 0 c % 4) g) 47 0 (4 * c + t 38 0 c % 4) r) 38 0 c (t 38 0 c + 1)) 34 0 c 102) 35 0 c a) 36 0 c b) 37 0 c g) 23 0 (t 30 0 c) r) := ⟨_, rfl⟩
  obtain ⟨z, hz⟩ : ∃ z, z = (zup (zup (zup (zup (zup (zup (zup (zup (zup (zup (zup (zup (zup (zup (zup x 16 k 1 (x 16 k 1 + t 31 0 c)) 17 k ((t 20 0 37 + t 32 0 c) % 10) (x 17 k ((t 20 0 37 + t 32 0 c) % 10) + t 31 0 c)) 0 0 13 (x 0 0 13 + t 31 0 c * t 32 0 c)) 9 c 13 (x 9 c 13 + 1)) 12 c (t 38 0 c % 4) a) 13 c (t 38 0 c % 4) b) 14 c (t 38 0 c % 4) g) 15 c (t 38 0 c % 4) r) 11 c 5 ((t 38 0 c + 1) % 4)) 11 c 4 (if t 38 0 c + 1 < 4 then t 38 0 c + 1 else 4)) 9 c 10 a) 9 c 11 b) 9 c 12 g) 9 c 9 1) 1 0 (t 30 0 c) r) := ⟨_, rfl⟩
  rw [← hu, ← hz]
  rw [← hu] at hm sums
  rw [← hz] at hx
  have e30 : u 20 0 30 = t 20 0 30 + 1 := by rw [hu]; simp only [zup_d, Nat.reduceEqDiff, Int.reduceEq, Int.reduceNeg, eq_self, false_and, and_false, true_and, and_true, and_self, if_false, if_true, iff_self, or_true, true_or, or_false, false_or]
  have e49 := hm.2.1 49 (by decide)
  have e28 : u 20 0 28 = t 20 0 28 := hm.1 28 (by decide) (by decide)
  have e37 : u 20 0 37 = t 20 0 37 := hm.1 37 (by decide) (by decide)
  have a51 : ∀ j : Int, 0 ≤ j → j < t 20 0 30 → u 51 0 j = t 51 0 j := fun j g1 g2 => by
    have e : ¬ j = t 20 0 30 := by omega
    rw [hu]
    simp only [zup_d, e, Nat.reduceEqDiff, Int.reduceEq, Int.reduceNeg, eq_self, false_and, and_false, true_and, and_true, and_self, if_false, if_true, iff_self, or_true, true_or, or_false, false_or]
  have a53 : ∀ j : Int, 0 ≤ j → j < t 20 0 30 → u 53 0 j = t 53 0 j := fun j g1 g2 => by
    have e : ¬ j = t 20 0 30 := by omega
    rw [hu]
    simp only [zup_d, e, Nat.reduceEqDiff, Int.reduceEq, Int.reduceNeg, eq_self, false_and, and_false, true_and, and_true, and_self, if_false, if_true, iff_self, or_true, true_or, or_false, false_or]
  have a52 : ∀ j : Int, 0 ≤ j → j < t 20 0 30 → u 52 0 j = t 52 0 j := fun j g1 g2 => by
    have e : ¬ j = t 20 0 30 := by omega
    rw [hu]
    simp only [zup_d, e, Nat.reduceEqDiff, Int.reduceEq, Int.reduceNeg, eq_self, false_and, and_false, true_and, and_true, and_self, if_false, if_true, iff_self, or_true, true_or, or_false, false_or]
  have l51 : u 51 0 (t 20 0 30) = k := by rw [hu]; simp only [zup_d, Nat.reduceEqDiff, Int.reduceEq, Int.reduceNeg, eq_self, false_and, and_false, true_and, and_true, and_self, if_false, if_true, iff_self, or_true, true_or, or_false, false_or]
  have l52 : u 52 0 (t 20 0 30) = t 31 0 c := by rw [hu]; simp only [zup_d, Nat.reduceEqDiff, Int.reduceEq, Int.reduceNeg, eq_self, false_and, and_false, true_and, and_true, and_self, if_false, if_true, iff_self, or_true, true_or, or_false, false_or]
  have l53 : u 53 0 (t 20 0 30) = t 20 0 37 + t 32 0 c := by rw [hu]; simp only [zup_d, Nat.reduceEqDiff, Int.reduceEq, Int.reduceNeg, eq_self, false_and, and_false, true_and, and_true, and_self, if_false, if_true, iff_self, or_true, true_or, or_false, false_or]
  have sOf : ∀ i : Int, mSm u (mOf u i) (u 20 0 30).toNat = mSm t (mOf t i) (t 20 0 30).toNat + (if k = i then t 31 0 c else 0) := fun i => by
    rw [e30, hN, sums (mOf u i) (mOf t i) (fun j g1 g2 => by unfold mOf; rw [a51 j g1 g2])]
    simp only [mOf, l51, decide_eq_true_iff]
  have sEd : ∀ i e : Int, mSm u (mEd u i e) (u 20 0 30).toNat = mSm t (mEd t i e) (t 20 0 30).toNat + (if k = i ∧ (t 20 0 37 + t 32 0 c) % 10 = e then t 31 0 c else 0) := fun i e => by
    rw [e30, hN, sums (mEd u i e) (mEd t i e) (fun j g1 g2 => by unfold mEd; rw [a51 j g1 g2, a53 j g1 g2])]
    simp only [mEd, l51, l53, decide_eq_true_iff]
  refine ⟨J2_frm J V.1 V.2.2.1 hc hx hm ?_ ?_ ?_ ?_ ?_ ?_ ?_, vI_frm V hc hm ⟨by omega, by omega⟩ ?_ ?_ ?_ ?_ ?_ ?_ ?_ ?_, ?_⟩
  · rw [hu, hz]
    simp only [zup_d, Nat.reduceEqDiff, Int.reduceEq, Int.reduceNeg, eq_self, false_and, and_false, true_and, and_true, and_self, if_false, if_true, iff_self, or_true, true_or, or_false, false_or]
  · rw [hu, hz]
    unfold jRun
    simp only [zup_d, Nat.reduceEqDiff, Int.reduceEq, Int.reduceNeg, eq_self, false_and, and_false, true_and, and_true, and_self, if_false, if_true, iff_self, or_true, true_or, or_false, false_or]
    exact ⟨hR.1, by omega, hR.2.2.1⟩
  · rw [hu, hz]
    intro _
    simp only [zup_d, Nat.reduceEqDiff, Int.reduceEq, Int.reduceNeg, eq_self, false_and, and_false, true_and, and_true, and_self, if_false, if_true, iff_self, or_true, true_or, or_false, false_or]
  · rw [hu, hz]
    intro h
    simp only [zup_d, Nat.reduceEqDiff, Int.reduceEq, Int.reduceNeg, eq_self, false_and, and_false, true_and, and_true, and_self, if_false, if_true, iff_self, or_true, true_or, or_false, false_or] at h
  · rw [hu, hz]
    refine ⟨?_, ?_, ?_⟩
    · simp only [zup_d, Nat.reduceEqDiff, Int.reduceEq, Int.reduceNeg, eq_self, false_and, and_false, true_and, and_true, and_self, if_false, if_true, iff_self, or_true, true_or, or_false, false_or]
    · simp only [zup_d, Nat.reduceEqDiff, Int.reduceEq, Int.reduceNeg, eq_self, false_and, and_false, true_and, and_true, and_self, if_false, if_true, iff_self, or_true, true_or, or_false, false_or]
    · intro i g1 g2
      simp only [zup_d, Nat.reduceEqDiff, Int.reduceEq, Int.reduceNeg, eq_self, false_and, and_false, true_and, and_true, and_self, if_false, if_true, iff_self, or_true, true_or, or_false, false_or] at g2
      by_cases e : i = t 38 0 c % 4
      · rw [e]
        simp only [zup_d, Nat.reduceEqDiff, Int.reduceEq, Int.reduceNeg, eq_self, false_and, and_false, true_and, and_true, and_self, if_false, if_true, iff_self, or_true, true_or, or_false, false_or]
      · have e2 : ¬ 4 * c + i = 4 * c + t 38 0 c % 4 := by omega
        have g4 : i < x 11 c 4 := by
          rw [hM.1]
          split at g2 <;> split <;> omega
        simp only [zup_d, e, e2, Nat.reduceEqDiff, Int.reduceEq, Int.reduceNeg, eq_self, false_and, and_false, true_and, and_true, and_self, if_false, if_true, iff_self, or_true, true_or, or_false, false_or]
        exact hM.2.2 i g1 g4
  · intro i g1 g2
    have b := J.2.2.2.2.2.2.2.2.1 i g1 g2
    refine ⟨?_, ?_, ?_⟩
    · rw [e49, hx.2.2.2.2.2 i 0]
      exact b.1
    · rw [sOf, ← b.2.1, hz]
      by_cases e : i = k
      · rw [e]
        simp only [zup_d, Nat.reduceEqDiff, Int.reduceEq, Int.reduceNeg, eq_self, false_and, and_false, true_and, and_true, and_self, if_false, if_true, iff_self, or_true, true_or, or_false, false_or]
      · have e2 : ¬ k = i := fun q => e q.symm
        simp only [zup_d, e, e2, Nat.reduceEqDiff, Int.reduceEq, Int.reduceNeg, eq_self, false_and, and_false, true_and, and_true, and_self, if_false, if_true, iff_self, or_true, true_or, or_false, false_or]
        omega
    · intro d g3 g4
      rw [sEd, ← b.2.2 d g3 g4, hz]
      by_cases e : i = k ∧ d = (t 20 0 37 + t 32 0 c) % 10
      · rw [e.1, e.2]
        simp only [zup_d, Nat.reduceEqDiff, Int.reduceEq, Int.reduceNeg, eq_self, false_and, and_false, true_and, and_true, and_self, if_false, if_true, iff_self, or_true, true_or, or_false, false_or]
      · rw [if_neg (show ¬ (k = i ∧ (t 20 0 37 + t 32 0 c) % 10 = d) from fun q => e ⟨q.1.symm, q.2.symm⟩)]
        simp only [zup_d, e, Nat.reduceEqDiff, Int.reduceEq, Int.reduceNeg, eq_self, false_and, and_false, true_and, and_true, and_self, if_false, if_true, iff_self, or_true, true_or, or_false, false_or]
        omega
  · rw [hu, hz]
    simp only [zup_d, Nat.reduceEqDiff, Int.reduceEq, Int.reduceNeg, eq_self, false_and, and_false, true_and, and_true, and_self, if_false, if_true, iff_self, or_true, true_or, or_false, false_or]
    rw [J.1.2.2.2.2.2]
  · rw [hu]
    simp only [zup_d, Nat.reduceEqDiff, Int.reduceEq, Int.reduceNeg, eq_self, false_and, and_false, true_and, and_true, and_self, if_false, if_true, iff_self, or_true, true_or, or_false, false_or]
    omega
  · rw [hu]
    unfold vRun
    simp only [zup_d, Nat.reduceEqDiff, Int.reduceEq, Int.reduceNeg, eq_self, false_and, and_false, true_and, and_true, and_self, if_false, if_true, iff_self, or_true, true_or, or_false, false_or]
    exact ⟨by omega, by omega, vR.2.2.2.1, vR.2.2.2.2⟩
  · rw [hu]
    intro _
    unfold mGood
    rw [mCq_f (t := t) (by simp only [zup_d, Nat.reduceEqDiff, Int.reduceEq, Int.reduceNeg, eq_self, false_and, and_false, true_and, and_true, and_self, if_false, if_true, iff_self, or_true, true_or, or_false, false_or]) (by simp only [zup_d, Nat.reduceEqDiff, Int.reduceEq, Int.reduceNeg, eq_self, false_and, and_false, true_and, and_true, and_self, if_false, if_true, iff_self, or_true, true_or, or_false, false_or])]
    simp only [zup_d, Nat.reduceEqDiff, Int.reduceEq, Int.reduceNeg, eq_self, false_and, and_false, true_and, and_true, and_self, if_false, if_true, iff_self, or_true, true_or, or_false, false_or]
    exact hg
  · rw [hu]
    intro h
    simp only [zup_d, Nat.reduceEqDiff, Int.reduceEq, Int.reduceNeg, eq_self, false_and, and_false, true_and, and_true, and_self, if_false, if_true, iff_self, or_true, true_or, or_false, false_or] at h
  · rw [hu]
    intro i g1 g2 g3
    simp only [zup_d, Nat.reduceEqDiff, Int.reduceEq, Int.reduceNeg, eq_self, false_and, and_false, true_and, and_true, and_self, if_false, if_true, iff_self, or_true, true_or, or_false, false_or] at g3
    unfold mGood
    rw [mCq_f (t := t) (by simp only [zup_d, Nat.reduceEqDiff, Int.reduceEq, Int.reduceNeg, eq_self, false_and, and_false, true_and, and_true, and_self, if_false, if_true, iff_self, or_true, true_or, or_false, false_or]) (by simp only [zup_d, Nat.reduceEqDiff, Int.reduceEq, Int.reduceNeg, eq_self, false_and, and_false, true_and, and_true, and_self, if_false, if_true, iff_self, or_true, true_or, or_false, false_or])]
    by_cases e : i = t 38 0 c % 4
    · rw [e]
      simp only [zup_d, Nat.reduceEqDiff, Int.reduceEq, Int.reduceNeg, eq_self, false_and, and_false, true_and, and_true, and_self, if_false, if_true, iff_self, or_true, true_or, or_false, false_or]
      exact hg
    · have e2 : ¬ 4 * c + i = 4 * c + t 38 0 c % 4 := by omega
      simp only [zup_d, e, e2, Nat.reduceEqDiff, Int.reduceEq, Int.reduceNeg, eq_self, false_and, and_false, true_and, and_true, and_self, if_false, if_true, iff_self, or_true, true_or, or_false, false_or]
      exact vm i g1 g2 (by omega)
  · omega
  · intro j g1 g2
    rw [e30] at g2
    unfold vTak
    by_cases e : j = t 20 0 30
    · rw [e, l51, l52, l53, e37, e28]
      omega
    · have b := tk j g1 (by omega)
      rw [a51 j g1 (by omega), a52 j g1 (by omega), a53 j g1 (by omega), e37, e28]
      exact b
  · intro i g1 g2
    rw [sOf, e49, e28]
    have b := V.2.2.2.2.2.2.2.1 i g1 g2
    by_cases e : k = i
    · rw [if_pos e, ← e]
      omega
    · rw [if_neg e]
      omega
  · intro i g1 g2
    by_cases e : i = c
    · rw [e, hz]
      refine ⟨?_, ?_, ?_, ?_⟩
      · simp only [zup_d, Nat.reduceEqDiff, Int.reduceEq, Int.reduceNeg, eq_self, false_and, and_false, true_and, and_true, and_self, if_false, if_true, iff_self, or_true, true_or, or_false, false_or]
        exact s.1
      · simp only [zup_d, Nat.reduceEqDiff, Int.reduceEq, Int.reduceNeg, eq_self, false_and, and_false, true_and, and_true, and_self, if_false, if_true, iff_self, or_true, true_or, or_false, false_or]
        exact s.2.1
      · simp only [zup_d, Nat.reduceEqDiff, Int.reduceEq, Int.reduceNeg, eq_self, false_and, and_false, true_and, and_true, and_self, if_false, if_true, iff_self, or_true, true_or, or_false, false_or]
        exact s.2.2.1
      · intro j g3 g4
        by_cases e : j = t 38 0 c % 4
        · rw [e]
          simp only [zup_d, Nat.reduceEqDiff, Int.reduceEq, Int.reduceNeg, eq_self, false_and, and_false, true_and, and_true, and_self, if_false, if_true, iff_self, or_true, true_or, or_false, false_or]
          omega
        · simp only [zup_d, e, Nat.reduceEqDiff, Int.reduceEq, Int.reduceNeg, eq_self, false_and, and_false, true_and, and_true, and_self, if_false, if_true, iff_self, or_true, true_or, or_false, false_or]
          exact s.2.2.2 j g3 g4
    · have b := S i g1 g2
      refine ⟨?_, ?_, ?_, ?_⟩
      · rw [hx.2.2.2.2.1 10 (by decide) (by decide) i e]; exact b.1
      · rw [hx.2.2.2.2.1 10 (by decide) (by decide) i e]; exact b.2.1
      · rw [hx.2.2.2.2.1 10 (by decide) (by decide) i e]; exact b.2.2.1
      · intro j g3 g4
        rw [hx.2.2.2.2.1 15 (by decide) (by decide) i e]; exact b.2.2.2 j g3 g4
