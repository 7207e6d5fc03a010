theorem mSm_f {t u : zSt} {p p' : Int → Bool} (h : ∀ j : Int, u 52 0 j = t 52 0 j) (hp : ∀ j : Int, p j = p' j) : ∀ n : Nat, mSm u p n = mSm t p' n := by
  intro n
  induction n with
  | zero => rfl
  | succ n ih => simp only [mSm, ih, h, hp]
/-- what holds of both, with the class's own bounds -/
def JV (x t : zSt) (q : Int) : Prop := J2 x t ∧ vI t q ∧ xJ x
/-- a run that takes no kernel -/
theorem JV_nk {x z t u : zSt} {c q : Int} (H : JV x t q) (hq : q < 1000000) (hc : 0 ≤ c ∧ c < t 20 0 5) (hx : xFrm x z c) (hm : mFrm t u c)
    (k1 : ∀ k : Nat, k = 16 ∨ k = 17 → ∀ i j : Int, z k i j = x k i j) (k2 : z 0 0 13 = x 0 0 13) (k3 : ∀ k : Nat, k = 51 ∨ k = 52 ∨ k = 53 → ∀ j : Int, u k 0 j = t k 0 j) (k4 : u 20 0 30 = t 20 0 30) (k5 : u 20 0 38 = t 20 0 38)
    (n1 : z 1 0 (t 30 0 c) = u 23 0 (t 30 0 c)) (n2 : jRun z u c) (n3 : jSaw z u c) (n4 : jFai z u c) (n5 : jMem z u c)
    (w1 : -1 ≤ u 23 0 (t 30 0 c) ∧ u 23 0 (t 30 0 c) ≤ 999) (w2 : vRun u (q + 1) c) (w3 : vSaw u c) (w4 : vFai u c) (w5 : vMem u c)
    (s1 : (0 ≤ z 10 c 0 ∧ z 10 c 0 ≤ 65535) ∧ (0 ≤ z 10 c 2 ∧ z 10 c 2 ≤ 65535) ∧ (0 ≤ z 10 c 3 ∧ z 10 c 3 ≤ 1000000) ∧ ∀ i : Int, 0 ≤ i → i ≤ 3 → -1 ≤ z 15 c i ∧ z 15 c i ≤ 999) : JV z u (q + 1) := by
  obtain ⟨J, V, S⟩ := H
  have e28 : u 20 0 28 = t 20 0 28 := hm.1 28 (by decide) (by decide)
  have e37 : u 20 0 37 = t 20 0 37 := hm.1 37 (by decide) (by decide)
  have e49 := hm.2.1 49 (by decide)
  have f1 : ∀ k : Int, mSm u (mOf u k) (u 20 0 30).toNat = mSm t (mOf t k) (t 20 0 30).toNat := fun k => by
    rw [k4]
    exact mSm_f (k3 52 (by decide)) (fun j => by unfold mOf; rw [k3 51 (by decide)]) _
  have f2 : ∀ k e : Int, mSm u (mEd u k e) (u 20 0 30).toNat = mSm t (mEd t k e) (t 20 0 30).toNat := fun k e => by
    rw [k4]
    exact mSm_f (k3 52 (by decide)) (fun j => by unfold mEd; rw [k3 51 (by decide), k3 53 (by decide)]) _
  refine ⟨J2_frm J V.1 V.2.2.1 hc hx hm n1 n2 n3 n4 n5 ?_ ?_, vI_frm V hc hm ⟨by omega, by omega⟩ w1 w2 w3 w4 w5 ?_ ?_ ?_, ?_⟩
  · intro k g1 g2
    have b := J.2.2.2.2.2.2.2.2.1 k g1 g2
    refine ⟨?_, ?_, ?_⟩
    · rw [k1 16 (by decide), e49]; exact b.1
    · rw [k1 16 (by decide), f1]; exact b.2.1
    · intro e g3 g4
      rw [k1 17 (by decide), f2]
      exact b.2.2 e g3 g4
  · rw [k2, k5]; exact J.1.2.2.2.2.2
  · rw [k4]; exact V.1.1.2.2.2.2.1
  · intro j g1 g2
    rw [k4] at g2
    have b := V.2.2.2.2.2.2.1 j g1 g2
    unfold vTak
    rw [k3 51 (by decide), k3 52 (by decide), k3 53 (by decide), e28, e37]
    exact b
  · intro k g1 g2
    rw [f1, e49, e28]
    exact V.2.2.2.2.2.2.2.1 k g1 g2
  · intro i g1 g2
    by_cases g : i = c
    · rw [g]; exact s1
    · have b := S i g1 g2
      refine ⟨?_, ?_, ?_, ?_⟩
      · rw [hx.2.2.2.2.1 10 (by decide) (by decide) i g]; exact b.1
      · rw [hx.2.2.2.2.1 10 (by decide) (by decide) i g]; exact b.2.1
      · rw [hx.2.2.2.2.1 10 (by decide) (by decide) i g]; exact b.2.2.1
      · intro j g3 g4
        rw [hx.2.2.2.2.1 15 (by decide) (by decide) i g]; exact b.2.2.2 j g3 g4
theorem zup_n {x : zSt} {k k' : Nat} {i i' j j' z : Int} (h : ¬ (k' = k ∧ i' = i ∧ j' = j)) : zup x k i j z k' i' j' = x k' i' j' := if_neg h
theorem zup_y {x : zSt} {k : Nat} {i j z : Int} : zup x k i j z k i j = z := if_pos ⟨rfl, rfl, rfl⟩
/-- a failure, with the same numbers on both sides -/
theorem JV_fg {x t : zSt} {c q r1 r2 r3 w : Int} (H : JV x t q) (hq : q < 1000000) (hc : 0 ≤ c ∧ c < t 20 0 5) (h1 : 0 ≤ r1 ∧ r1 ≤ c) (h2 : 0 ≤ r2 ∧ r2 ≤ 65535) (h3 : 0 ≤ r3 ∧ r3 ≤ c - r1) (hw : 0 ≤ w ∧ w ≤ 65535) :
    JV (zup (zup (zup (zup (zup (zup x 10 c 0 w) 10 c 1 r1) 10 c 2 r2) 10 c 3 r3) 9 c 9 2) 1 0 (t 30 0 c) (-1)) (zup (zup (zup (zup (zup (zup t 40 0 c r1) 41 0 c r2) 43 0 c r3) 34 0 c 120) 42 0 c w) 23 0 (t 30 0 c) (-1)) (q + 1) := by
  have J := H.1
  have V := H.2.1
  have S := H.2.2
  have n5 := V.1.1.1
  have hT := J.2.2.1 c hc.1 hc.2
  have hR := J.2.2.2.1 c hc.1 (by omega)
  have vR := V.2.2.2.1 c hc.1 (by omega)
  have hM := J.2.2.2.2.2.2.1 c hc.1 (by omega)
  have vm := (V.2.2.2.2.2.1 c hc.1 hc.2).2.2
  have s := S c hc.1 (by omega)
  have ew := hT.2.2.2.2.1
  refine JV_nk H hq hc ?_ ?_ ?_ ?_ ?_ ?_ ?_ ?_ ?_ ?_ ?_ ?_ ?_ ?_ ?_ ?_ ?_ ?_
  · refine ⟨fun j h => ?_, fun k h j => ?_, fun j h => ?_, fun i j h => ?_, fun k h1 h2 i h j => ?_, fun k j => ?_⟩
    all_goals (simp only [zup_d]; repeat rw [if_neg (by omega)])
  · refine ⟨fun j h h' => ?_, fun k h j => ?_, fun j h => ?_, fun k h1 h2 j h => ?_, fun k h1 h2 j h => ?_⟩
    all_goals (simp only [zup_d]; try unfold mKep at h; repeat rw [if_neg (by omega)])
  · intro k h i j
    simp only [zup_d]
    repeat rw [if_neg (by omega)]
  · simp only [zup_d]
    repeat rw [if_neg (by omega)]
  · intro k h j
    simp only [zup_d]
    repeat rw [if_neg (by omega)]
  · simp only [zup_d]
    repeat rw [if_neg (by omega)]
  · simp only [zup_d]
    repeat rw [if_neg (by omega)]
  · simp only [zup_d, Nat.reduceEqDiff, Int.reduceEq, Int.reduceNeg, eq_self, false_and, and_false, true_and, and_true, and_self, if_false, if_true, iff_self, or_true, true_or, or_false, false_or]
  · unfold jRun
    simp only [zup_d, Nat.reduceEqDiff, Int.reduceEq, Int.reduceNeg, eq_self, false_and, and_false, true_and, and_true, and_self, if_false, if_true, iff_self, or_true, true_or, or_false, false_or]
    first | omega | exact ⟨hR.1, hR.2.1, hR.2.2.1⟩ | exact ⟨by omega, by omega, by omega, by omega⟩ | trace_state
  · intro h
    simp only [zup_d, Nat.reduceEqDiff, Int.reduceEq, Int.reduceNeg, eq_self, false_and, and_false, true_and, and_true, and_self, if_false, if_true, iff_self, or_true, true_or, or_false, false_or] at h
  · intro _
    simp only [zup_d, Nat.reduceEqDiff, Int.reduceEq, Int.reduceNeg, eq_self, false_and, and_false, true_and, and_true, and_self, if_false, if_true, iff_self, or_true, true_or, or_false, false_or]
  · unfold jMem
    simp only [zup_d, Nat.reduceEqDiff, Int.reduceEq, Int.reduceNeg, eq_self, false_and, and_false, true_and, and_true, and_self, if_false, if_true, iff_self, or_true, true_or, or_false, false_or]
    exact hM
  · simp only [zup_d, Nat.reduceEqDiff, Int.reduceEq, Int.reduceNeg, eq_self, false_and, and_false, true_and, and_true, and_self, if_false, if_true, iff_self, or_true, true_or, or_false, false_or]
    omega
  · unfold vRun
    simp only [zup_d, Nat.reduceEqDiff, Int.reduceEq, Int.reduceNeg, eq_self, false_and, and_false, true_and, and_true, and_self, if_false, if_true, iff_self, or_true, true_or, or_false, false_or]
    first | omega | exact ⟨hR.1, hR.2.1, hR.2.2.1⟩ | exact ⟨by omega, by omega, by omega, by omega⟩ | trace_state
  · intro h
    simp only [zup_d, Nat.reduceEqDiff, Int.reduceEq, Int.reduceNeg, eq_self, false_and, and_false, true_and, and_true, and_self, if_false, if_true, iff_self, or_true, true_or, or_false, false_or] at h
  · intro _
    simp only [zup_d, Nat.reduceEqDiff, Int.reduceEq, Int.reduceNeg, eq_self, false_and, and_false, true_and, and_true, and_self, if_false, if_true, iff_self, or_true, true_or, or_false, false_or]
    first | omega | exact ⟨by omega, by omega⟩ | trace_state
  · intro i g1 g2 g3
    simp only [zup_d, Nat.reduceEqDiff, Int.reduceEq, Int.reduceNeg, eq_self, false_and, and_false, true_and, and_true, and_self, if_false, if_true, iff_self, or_true, true_or, or_false, false_or] at g3
    unfold mGood
    rw [mCq_f (t := t) (by simp only [zup_d, Nat.reduceEqDiff, Int.reduceEq, Int.reduceNeg, eq_self, false_and, and_false, true_and, and_true, and_self, if_false, if_true, iff_self, or_true, true_or, or_false, false_or]) (by simp only [zup_d, Nat.reduceEqDiff, Int.reduceEq, Int.reduceNeg, eq_self, false_and, and_false, true_and, and_true, and_self, if_false, if_true, iff_self, or_true, true_or, or_false, false_or])]
    simp only [zup_d, Nat.reduceEqDiff, Int.reduceEq, Int.reduceNeg, eq_self, false_and, and_false, true_and, and_true, and_self, if_false, if_true, iff_self, or_true, true_or, or_false, false_or]
    exact vm i g1 g2 g3
  · simp only [zup_d, Nat.reduceEqDiff, Int.reduceEq, Int.reduceNeg, eq_self, false_and, and_false, true_and, and_true, and_self, if_false, if_true, iff_self, or_true, true_or, or_false, false_or]
    exact ⟨by omega, by omega, by omega, s.2.2.2⟩
theorem JV_fz {x t : zSt} {c q : Int} (H : JV x t q) (hq : q < 1000000) (hc : 0 ≤ c ∧ c < t 20 0 5) : JV (xEnd (xSwc x c c 122) c 2 (-1)) (mFailZ t c 122) (q + 1) := by
  have hT := H.1.2.2.1 c hc.1 hc.2
  have eu : mFailZ t c 122 = zup (zup (zup (zup (zup (zup t 40 0 c c) 41 0 c 122) 43 0 c 0) 34 0 c 120) 42 0 c 122) 23 0 (t 30 0 c) (-1) := by
    unfold mFailZ mEndF
    simp only [zup_d, Nat.reduceEqDiff, false_and, if_false]
  have ez : xEnd (xSwc x c c 122) c 2 (-1) = zup (zup (zup (zup (zup (zup x 10 c 0 122) 10 c 1 c) 10 c 2 122) 10 c 3 0) 9 c 9 2) 1 0 (t 30 0 c) (-1) := by
    unfold xEnd xSwc
    simp only [zup_d, Nat.reduceEqDiff, false_and, if_false]
    rw [hT.2.2.2.2.1]
  rw [eu, ez]
  exact JV_fg H hq hc ⟨hc.1, by omega⟩ ⟨by decide, by decide⟩ ⟨by decide, by omega⟩ ⟨by decide, by decide⟩
theorem mReas_v {t : zSt} {c : Int} (hI : mI t) (hc : 0 ≤ c ∧ c < t 20 0 5) (h : mLacks t c) : (0 ≤ mReas t c ∧ mReas t c ≤ 11) ∧ t 24 0 (mReas t c) < c := by
  have w := hI.2.2.1 c hc.1 hc.2
  have g := mReas_b hI hc h
  refine ⟨by omega, ?_⟩
  unfold mReas
  split
  · exact w.1.2.2
  · rename_i h1
    have h2 : 0 ≤ t 28 0 c := by
      simp only [mLacks] at h
      omega
    have := w.2.1
    omega
theorem JV_fm {x t : zSt} {c q : Int} (H : JV x t q) (hq : q < 1000000) (hc : 0 ≤ c ∧ c < t 20 0 5) (hl : mLacks t c) : JV (xFfm x c c (xFm x 1 c)) (mFailM t c) (q + 1) := by
  have J := H.1
  have V := H.2.1
  have hT := J.2.2.1 c hc.1 hc.2
  have n5 := V.1.1.1
  have f := (j_fm J V.1 hc).2 hl
  obtain ⟨hv, hb⟩ := mReas_v V.1 hc hl
  have e3 := (J.2.1 (mReas t c) hv.1 hv.2).2.1
  have b0 := (V.1.2.1 (mReas t c) hv.1 hv.2).2.2.2
  unfold xFfm mFailM mFalls
  rw [f, e3]
  by_cases g : mCaus t c
  · have g1 : 0 ≤ t 24 0 (mReas t c) := g.1
    have hR := J.2.2.2.1 (t 24 0 (mReas t c)) g1 (by omega)
    have hF := J.2.2.2.2.2.1 (t 24 0 (mReas t c)) g1 (by omega) g.2
    have vR := V.2.2.2.1 (t 24 0 (mReas t c)) g1 (by omega)
    have vF := (V.2.2.2.2.2.1 (t 24 0 (mReas t c)) g1 (by omega)).2.1 g.2
    rw [if_pos g, if_pos ⟨by omega, hR.2.2.2.2.2.1.mpr g.2⟩]
    have eu : mEndF (zup (zup (zup t 40 0 c (t 40 0 (t 24 0 (mReas t c)))) 41 0 c (t 41 0 (t 24 0 (mReas t c)))) 43 0 c (t 43 0 (t 24 0 (mReas t c)) + 1)) c 109 = zup (zup (zup (zup (zup (zup t 40 0 c (t 40 0 (t 24 0 (mReas t c)))) 41 0 c (t 41 0 (t 24 0 (mReas t c)))) 43 0 c (t 43 0 (t 24 0 (mReas t c)) + 1)) 34 0 c 120) 42 0 c 109) 23 0 (t 30 0 c) (-1) := by
      unfold mEndF
      simp only [zup_d, Nat.reduceEqDiff, false_and, if_false]
    have ez : xEnd (xScb x c (t 24 0 (mReas t c)) 109) c 2 (-1) = zup (zup (zup (zup (zup (zup x 10 c 0 109) 10 c 1 (t 40 0 (t 24 0 (mReas t c)))) 10 c 2 (t 41 0 (t 24 0 (mReas t c)))) 10 c 3 (t 43 0 (t 24 0 (mReas t c)) + 1)) 9 c 9 2) 1 0 (t 30 0 c) (-1) := by
      unfold xEnd xScb
      simp only [zup_d, Nat.reduceEqDiff, false_and, if_false]
      rw [hT.2.2.2.2.1, hF.2.1, hF.2.2.1, hF.2.2.2]
    rw [eu, ez]
    exact JV_fg H hq hc ⟨by omega, by omega⟩ ⟨by omega, by omega⟩ ⟨by omega, by omega⟩ ⟨by decide, by decide⟩
  · have g2 : ¬ (t 24 0 (mReas t c) ≠ -1 ∧ x 9 (t 24 0 (mReas t c)) 9 = 2) := fun p => by
      have hR := J.2.2.2.1 (t 24 0 (mReas t c)) (by omega) (by omega)
      exact g ⟨by omega, hR.2.2.2.2.2.1.mp p.2⟩
    rw [if_neg g, if_neg g2]
    have eu : mEndF (zup (zup (zup t 40 0 c c) 41 0 c 109) 43 0 c 0) c 109 = zup (zup (zup (zup (zup (zup t 40 0 c c) 41 0 c 109) 43 0 c 0) 34 0 c 120) 42 0 c 109) 23 0 (t 30 0 c) (-1) := by
      unfold mEndF
      simp only [zup_d, Nat.reduceEqDiff, false_and, if_false]
    have ez : xEnd (xSwc x c c 109) c 2 (-1) = zup (zup (zup (zup (zup (zup x 10 c 0 109) 10 c 1 c) 10 c 2 109) 10 c 3 0) 9 c 9 2) 1 0 (t 30 0 c) (-1) := by
      unfold xEnd xSwc
      simp only [zup_d, Nat.reduceEqDiff, false_and, if_false]
      rw [hT.2.2.2.2.1]
    rw [eu, ez]
    exact JV_fg H hq hc ⟨hc.1, by omega⟩ ⟨by decide, by decide⟩ ⟨by decide, by omega⟩ ⟨by decide, by decide⟩
