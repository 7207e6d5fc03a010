theorem mDf_f {t u : zSt} (h : ∀ k : Nat, k = 21 ∨ k = 24 → ∀ j : Int, u k 0 j = t k 0 j) : ∀ n : Nat, mDf u n = mDf t n := by
  intro n
  induction n with
  | zero => rfl
  | succ n ih => simp only [mDf, ih, h 21 (by decide), h 24 (by decide)]
theorem mCq_f {t u : zSt} {c a b k : Int} (h : u 26 0 c = t 26 0 c) (h2 : u 28 0 c = t 28 0 c) : mCq u c a b k = mCq t c a b k := by
  unfold mCq
  rw [h, h2]
theorem vI_frm {t u : zSt} {c q q' : Int} (V : vI t q) (hc : 0 ≤ c ∧ c < t 20 0 5) (hm : mFrm t u c) (hq : q ≤ q' ∧ q' ≤ 1000000)
    (n1 : -1 ≤ u 23 0 (t 30 0 c) ∧ u 23 0 (t 30 0 c) ≤ 999) (n2 : vRun u q' c) (n3 : vSaw u c) (n4 : vFai u c) (n5 : vMem u c) (n6 : 0 ≤ u 20 0 30 ∧ u 20 0 30 ≤ 60) (n7 : ∀ j : Int, 0 ≤ j → j < u 20 0 30 → vTak u j) (n8 : ∀ k : Int, 0 ≤ k → k ≤ 2 → mSm u (mOf u k) (u 20 0 30).toNat ≤ u 49 0 k ∨ u 20 0 28 ≤ k) : vI u q' := by
  obtain ⟨hI, hV, hC, hR, hN, hS, hT, hK, hO, hD, h1, h0⟩ := V
  obtain ⟨m1, m2, m3, m4, m5⟩ := hm
  obtain ⟨⟨i1, i2, i3, i4, i5, i6⟩, iv, ic, -, ir, ie, iw⟩ := hI
  have e5 : u 20 0 5 = t 20 0 5 := m1 5 (by decide) (by decide)
  have e28 : u 20 0 28 = t 20 0 28 := m1 28 (by decide) (by decide)
  have e34 : u 20 0 34 = t 20 0 34 := m1 34 (by decide) (by decide)
  have e37 : u 20 0 37 = t 20 0 37 := m1 37 (by decide) (by decide)
  have e0 : u 20 0 0 = t 20 0 0 := m1 0 (by decide) (by decide)
  have k21 := m2 21 (by decide)
  have k22 := m2 22 (by decide)
  have k24 := m2 24 (by decide)
  have k26 := m2 26 (by decide)
  have k27 := m2 27 (by decide)
  have k28 := m2 28 (by decide)
  have k29 := m2 29 (by decide)
  have k30 := m2 30 (by decide)
  have k31 := m2 31 (by decide)
  have k32 := m2 32 (by decide)
  have k33 := m2 33 (by decide)
  have k49 := m2 49 (by decide)
  have k55 := m2 55 (by decide)
  have vr : ∀ i : Int, 0 ≤ i → i ≤ 10 → vRun u q' i := by
    intro i g1 g2
    by_cases g : i = c
    · rw [g]; exact n2
    · have b := hR i g1 g2
      unfold vRun
      rw [m4 34 (by decide) (by decide) i g, m4 38 (by decide) (by decide) i g, m4 39 (by decide) (by decide) i g, m4 41 (by decide) (by decide) i g, m4 42 (by decide) (by decide) i g, m4 43 (by decide) (by decide) i g, k33]
      refine ⟨b.1, ?_, ?_, b.2.2.2⟩ <;> omega
  refine ⟨⟨⟨by omega, by omega, by omega, by omega, n6, by omega⟩, ?_, ?_, ?_, ?_, ?_, ?_⟩, ?_, ?_, vr, ?_, ?_, n7, n8, ?_, ?_, ?_, ?_⟩
  · intro v g1 g2
    have b := iv v g1 g2
    unfold mIv
    rw [k21, k22, k24, e5]
    refine ⟨b.1, b.2.1, ?_, b.2.2.2⟩
    by_cases g : v = t 30 0 c
    · rw [g]; exact n1
    · rw [m3 v g]; exact b.2.2.1
  · intro i g1 g2
    rw [e5] at g2
    have b := ic i g1 g2
    have r := vr i g1 (by omega)
    unfold mIc mIr
    rw [k21, k21, k24, k24, k26, k27, k28, k29, k30, k31, k32, k33]
    have b2 := b.2.2
    refine ⟨b.1, b.2.1, b2.1, b2.2.1, b2.2.2.1, b2.2.2.2.1, b2.2.2.2.2.1, ?_, ?_, ?_, ?_, ?_, ?_, b2.2.2.2.2.2.2.2.2.2.2.2⟩ <;> omega
  · intro k _ _; exact Or.inr trivial
  · intro k g1 g2; rw [k49]; exact ir k g1 g2
  · intro j g1 g2
    obtain ⟨b1, b2, b3⟩ := n7 j g1 g2
    omega
  · intro i g1 g2
    rw [e34] at g2
    rw [k55, e5]
    exact iw i g1 g2
  · intro v g1 g2
    unfold vVar
    rw [k21, k24, k30]
    exact hV v g1 g2
  · intro i g1 g2
    rw [e5] at g2
    unfold vCel
    rw [k21, k24, k30]
    exact hC i g1 g2
  · intro i g1 g2
    rw [e5] at g1
    have g : i ≠ c := by omega
    unfold vNew
    rw [m4 34 (by decide) (by decide) i g, m4 38 (by decide) (by decide) i g, m4 39 (by decide) (by decide) i g, k33]
    exact hN i g1 g2
  · intro i g1 g2
    rw [e5] at g2
    by_cases g : i = c
    · rw [g]; exact ⟨n3, n4, n5⟩
    · obtain ⟨b1, b2, b3⟩ := hS i g1 g2
      refine ⟨?_, ?_, ?_⟩
      · unfold vSaw mGood
        have g3 : t 30 0 i ≠ t 30 0 c := fun e => by
          have a1 := (hC i g1 g2).1
          have a2 := (hC c hc.1 hc.2).1
          rw [e] at a1
          omega
        rw [m4 34 (by decide) (by decide) i g, m4 35 (by decide) (by decide) i g, m4 36 (by decide) (by decide) i g, m4 37 (by decide) (by decide) i g, k30, m3 _ g3, k28, mCq_f (t := t) (u := u) (k26 i) (k28 i)]
        exact b1
      · unfold vFai
        rw [m4 34 (by decide) (by decide) i g, m4 40 (by decide) (by decide) i g, m4 43 (by decide) (by decide) i g]
        exact b2
      · intro j g3 g4 g5
        rw [m4 38 (by decide) (by decide) i g] at g5
        have g6 : 4 * i + j < 4 * c ∨ 4 * c + 3 < 4 * i + j := by omega
        unfold mGood
        rw [m5 44 (by decide) (by decide) _ g6, m5 45 (by decide) (by decide) _ g6, m5 46 (by decide) (by decide) _ g6, m5 47 (by decide) (by decide) _ g6, k28, mCq_f (t := t) (u := u) (k26 i) (k28 i)]
        exact b3 j g3 g4 g5
  · intro k g1 g2
    rw [e28] at g2
    rw [k49]
    exact hO k g1 g2
  · rw [mDf_f (t := t) (u := u) (fun k hk j => m2 k (by unfold mKep; omega) j), e0, e5]
    exact hD
  · rw [e0, e5]; exact h1
  · rw [m1 39 (by decide) (by decide)]; exact h0
