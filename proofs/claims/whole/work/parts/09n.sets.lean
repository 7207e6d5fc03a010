/-- the value of a datum changes -/
theorem JV_set {x t : zSt} {q v w : Int} (H : JV x t q) (hv : 0 ≤ v ∧ v ≤ 11) (hd : t 21 0 v ≠ 0) (hw : -1 ≤ w ∧ w ≤ 999) : JV (zup x 1 0 v w) (zup t 23 0 v w) q := by
  obtain ⟨J, V, S⟩ := H
  have n5 := V.1.1.1
  obtain ⟨hC, jV, jT, jR, jS, jF, jM, jL, jK, jW⟩ := J
  obtain ⟨hI, hV, vC, hR, hN, hS, hT, hK, hO, hD, h1, h0⟩ := V
  obtain ⟨i1, iv, ic, i4, ir, ie, iw⟩ := hI
  refine ⟨⟨?_, ?_, ?_, ?_, ?_, ?_, ?_, ?_, ?_, ?_⟩, ⟨⟨?_, ?_, ?_, ?_, ?_, ?_, ?_⟩, ?_, ?_, ?_, ?_, ?_, ?_, ?_, ?_, ?_, ?_, ?_⟩, ?_⟩
  · first | exact hC | (simp only [zup_d, Nat.reduceEqDiff, Int.reduceEq, Int.reduceNeg, eq_self, false_and, and_false, true_and, and_true, and_self, if_false, if_true, iff_self, or_true, true_or, or_false, false_or]; exact hC)
  · intro i g1 g2
    have b := jV i g1 g2
    unfold jVar
    by_cases e : i = v
    · rw [e] at b ⊢
      simp only [zup_d, Nat.reduceEqDiff, Int.reduceEq, Int.reduceNeg, eq_self, false_and, and_false, true_and, and_true, and_self, if_false, if_true, iff_self, or_true, true_or, or_false, false_or]
      exact b.2
    · simp only [zup_d, e, Nat.reduceEqDiff, Int.reduceEq, Int.reduceNeg, eq_self, false_and, and_false, true_and, and_true, and_self, if_false, if_true, iff_self, or_true, true_or, or_false, false_or]
      exact b
  · first | exact jT | (simp only [zup_d, Nat.reduceEqDiff, Int.reduceEq, Int.reduceNeg, eq_self, false_and, and_false, true_and, and_true, and_self, if_false, if_true, iff_self, or_true, true_or, or_false, false_or]; exact jT)
  · first | exact jR | (simp only [zup_d, Nat.reduceEqDiff, Int.reduceEq, Int.reduceNeg, eq_self, false_and, and_false, true_and, and_true, and_self, if_false, if_true, iff_self, or_true, true_or, or_false, false_or]; exact jR)
  · first | exact jS | (simp only [zup_d, Nat.reduceEqDiff, Int.reduceEq, Int.reduceNeg, eq_self, false_and, and_false, true_and, and_true, and_self, if_false, if_true, iff_self, or_true, true_or, or_false, false_or]; exact jS)
  · first | exact jF | (simp only [zup_d, Nat.reduceEqDiff, Int.reduceEq, Int.reduceNeg, eq_self, false_and, and_false, true_and, and_true, and_self, if_false, if_true, iff_self, or_true, true_or, or_false, false_or]; exact jF)
  · first | exact jM | (simp only [zup_d, Nat.reduceEqDiff, Int.reduceEq, Int.reduceNeg, eq_self, false_and, and_false, true_and, and_true, and_self, if_false, if_true, iff_self, or_true, true_or, or_false, false_or]; exact jM)
  · intro c g1 g2
    have b := jL c g1 g2
    refine ⟨by simp only [zup_d, Nat.reduceEqDiff, Int.reduceEq, Int.reduceNeg, eq_self, false_and, and_false, true_and, and_true, and_self, if_false, if_true, iff_self, or_true, true_or, or_false, false_or]; exact b.1, fun i g3 g4 => ?_⟩
    rw [mOn_f (t := t) (fun k hk j => by rcases hk with rfl | rfl | rfl <;> simp only [zup_d, Nat.reduceEqDiff, Int.reduceEq, Int.reduceNeg, eq_self, false_and, and_false, true_and, and_true, and_self, if_false, if_true, iff_self, or_true, true_or, or_false, false_or])]
    simp only [zup_d, Nat.reduceEqDiff, Int.reduceEq, Int.reduceNeg, eq_self, false_and, and_false, true_and, and_true, and_self, if_false, if_true, iff_self, or_true, true_or, or_false, false_or]
    exact b.2 i g3 g4
  · intro k g1 g2
    have b := jK k g1 g2
    refine ⟨by simp only [zup_d, Nat.reduceEqDiff, Int.reduceEq, Int.reduceNeg, eq_self, false_and, and_false, true_and, and_true, and_self, if_false, if_true, iff_self, or_true, true_or, or_false, false_or]; exact b.1, ?_, fun e g3 g4 => ?_⟩
    · simp only [zup_d, Nat.reduceEqDiff, Int.reduceEq, Int.reduceNeg, eq_self, false_and, and_false, true_and, and_true, and_self, if_false, if_true, iff_self, or_true, true_or, or_false, false_or]
      rw [mSm_f (t := t) (p' := mOf t k) (fun j => by simp only [zup_d, Nat.reduceEqDiff, Int.reduceEq, Int.reduceNeg, eq_self, false_and, and_false, true_and, and_true, and_self, if_false, if_true, iff_self, or_true, true_or, or_false, false_or]) (fun j => by unfold mOf; simp only [zup_d, Nat.reduceEqDiff, Int.reduceEq, Int.reduceNeg, eq_self, false_and, and_false, true_and, and_true, and_self, if_false, if_true, iff_self, or_true, true_or, or_false, false_or])]
      exact b.2.1
    · simp only [zup_d, Nat.reduceEqDiff, Int.reduceEq, Int.reduceNeg, eq_self, false_and, and_false, true_and, and_true, and_self, if_false, if_true, iff_self, or_true, true_or, or_false, false_or]
      rw [mSm_f (t := t) (p' := mEd t k e) (fun j => by simp only [zup_d, Nat.reduceEqDiff, Int.reduceEq, Int.reduceNeg, eq_self, false_and, and_false, true_and, and_true, and_self, if_false, if_true, iff_self, or_true, true_or, or_false, false_or]) (fun j => by unfold mEd; simp only [zup_d, Nat.reduceEqDiff, Int.reduceEq, Int.reduceNeg, eq_self, false_and, and_false, true_and, and_true, and_self, if_false, if_true, iff_self, or_true, true_or, or_false, false_or])]
      exact b.2.2 e g3 g4
  · first | exact jW | (simp only [zup_d, Nat.reduceEqDiff, Int.reduceEq, Int.reduceNeg, eq_self, false_and, and_false, true_and, and_true, and_self, if_false, if_true, iff_self, or_true, true_or, or_false, false_or]; exact jW)
  · first | exact i1 | (simp only [zup_d, Nat.reduceEqDiff, Int.reduceEq, Int.reduceNeg, eq_self, false_and, and_false, true_and, and_true, and_self, if_false, if_true, iff_self, or_true, true_or, or_false, false_or]; exact i1)
  · intro i g1 g2
    have b := iv i g1 g2
    unfold mIv
    by_cases e : i = v
    · rw [e] at b ⊢
      simp only [zup_d, Nat.reduceEqDiff, Int.reduceEq, Int.reduceNeg, eq_self, false_and, and_false, true_and, and_true, and_self, if_false, if_true, iff_self, or_true, true_or, or_false, false_or]
      exact ⟨b.1, b.2.1, hw, b.2.2.2⟩
    · simp only [zup_d, e, Nat.reduceEqDiff, Int.reduceEq, Int.reduceNeg, eq_self, false_and, and_false, true_and, and_true, and_self, if_false, if_true, iff_self, or_true, true_or, or_false, false_or]
      exact b
  · first | exact ic | (simp only [zup_d, Nat.reduceEqDiff, Int.reduceEq, Int.reduceNeg, eq_self, false_and, and_false, true_and, and_true, and_self, if_false, if_true, iff_self, or_true, true_or, or_false, false_or]; exact ic)
  · exact fun k _ _ => Or.inr trivial
  · first | exact ir | (simp only [zup_d, Nat.reduceEqDiff, Int.reduceEq, Int.reduceNeg, eq_self, false_and, and_false, true_and, and_true, and_self, if_false, if_true, iff_self, or_true, true_or, or_false, false_or]; exact ir)
  · first | exact ie | (simp only [zup_d, Nat.reduceEqDiff, Int.reduceEq, Int.reduceNeg, eq_self, false_and, and_false, true_and, and_true, and_self, if_false, if_true, iff_self, or_true, true_or, or_false, false_or]; exact ie)
  · first | exact iw | (simp only [zup_d, Nat.reduceEqDiff, Int.reduceEq, Int.reduceNeg, eq_self, false_and, and_false, true_and, and_true, and_self, if_false, if_true, iff_self, or_true, true_or, or_false, false_or]; exact iw)
  · first | exact hV | (simp only [zup_d, Nat.reduceEqDiff, Int.reduceEq, Int.reduceNeg, eq_self, false_and, and_false, true_and, and_true, and_self, if_false, if_true, iff_self, or_true, true_or, or_false, false_or]; exact hV)
  · first | exact vC | (simp only [zup_d, Nat.reduceEqDiff, Int.reduceEq, Int.reduceNeg, eq_self, false_and, and_false, true_and, and_true, and_self, if_false, if_true, iff_self, or_true, true_or, or_false, false_or]; exact vC)
  · first | exact hR | (simp only [zup_d, Nat.reduceEqDiff, Int.reduceEq, Int.reduceNeg, eq_self, false_and, and_false, true_and, and_true, and_self, if_false, if_true, iff_self, or_true, true_or, or_false, false_or]; exact hR)
  · first | exact hN | (simp only [zup_d, Nat.reduceEqDiff, Int.reduceEq, Int.reduceNeg, eq_self, false_and, and_false, true_and, and_true, and_self, if_false, if_true, iff_self, or_true, true_or, or_false, false_or]; exact hN)
  · intro c g1 g2
    have b := hS c g1 g2
    have e : ¬ t 30 0 c = v := fun p => by
      have := (vC c g1 g2).2
      rw [p] at this
      exact hd this
    unfold vSaw vFai vMem mGood
    simp only [mCq_f (t := t) (u := zup t 23 0 v w) (c := c) (by simp only [zup_d, Nat.reduceEqDiff, Int.reduceEq, Int.reduceNeg, eq_self, false_and, and_false, true_and, and_true, and_self, if_false, if_true, iff_self, or_true, true_or, or_false, false_or]) (by simp only [zup_d, Nat.reduceEqDiff, Int.reduceEq, Int.reduceNeg, eq_self, false_and, and_false, true_and, and_true, and_self, if_false, if_true, iff_self, or_true, true_or, or_false, false_or])]
    simp only [zup_d, e, Nat.reduceEqDiff, Int.reduceEq, Int.reduceNeg, eq_self, false_and, and_false, true_and, and_true, and_self, if_false, if_true, iff_self, or_true, true_or, or_false, false_or]
    exact b
  · first | exact hT | (simp only [zup_d, Nat.reduceEqDiff, Int.reduceEq, Int.reduceNeg, eq_self, false_and, and_false, true_and, and_true, and_self, if_false, if_true, iff_self, or_true, true_or, or_false, false_or]; exact hT)
  · intro k g1 g2
    rw [mSm_f (t := t) (p' := mOf t k) (fun j => by simp only [zup_d, Nat.reduceEqDiff, Int.reduceEq, Int.reduceNeg, eq_self, false_and, and_false, true_and, and_true, and_self, if_false, if_true, iff_self, or_true, true_or, or_false, false_or]) (fun j => by unfold mOf; simp only [zup_d, Nat.reduceEqDiff, Int.reduceEq, Int.reduceNeg, eq_self, false_and, and_false, true_and, and_true, and_self, if_false, if_true, iff_self, or_true, true_or, or_false, false_or])]
    simp only [zup_d, Nat.reduceEqDiff, Int.reduceEq, Int.reduceNeg, eq_self, false_and, and_false, true_and, and_true, and_self, if_false, if_true, iff_self, or_true, true_or, or_false, false_or]
    exact hK k g1 g2
  · first | exact hO | (simp only [zup_d, Nat.reduceEqDiff, Int.reduceEq, Int.reduceNeg, eq_self, false_and, and_false, true_and, and_true, and_self, if_false, if_true, iff_self, or_true, true_or, or_false, false_or]; exact hO)
  · rw [mDf_f (t := t) (fun k hk j => by rcases hk with rfl | rfl <;> simp only [zup_d, Nat.reduceEqDiff, Int.reduceEq, Int.reduceNeg, eq_self, false_and, and_false, true_and, and_true, and_self, if_false, if_true, iff_self, or_true, true_or, or_false, false_or])]
    simp only [zup_d, Nat.reduceEqDiff, Int.reduceEq, Int.reduceNeg, eq_self, false_and, and_false, true_and, and_true, and_self, if_false, if_true, iff_self, or_true, true_or, or_false, false_or]
    exact hD
  · first | exact h1 | (simp only [zup_d, Nat.reduceEqDiff, Int.reduceEq, Int.reduceNeg, eq_self, false_and, and_false, true_and, and_true, and_self, if_false, if_true, iff_self, or_true, true_or, or_false, false_or]; exact h1)
  · first | exact h0 | (simp only [zup_d, Nat.reduceEqDiff, Int.reduceEq, Int.reduceNeg, eq_self, false_and, and_false, true_and, and_true, and_self, if_false, if_true, iff_self, or_true, true_or, or_false, false_or]; exact h0)
  · unfold xJ
    simp only [zup_d, Nat.reduceEqDiff, Int.reduceEq, Int.reduceNeg, eq_self, false_and, and_false, true_and, and_true, and_self, if_false, if_true, iff_self, or_true, true_or, or_false, false_or]
    exact S
