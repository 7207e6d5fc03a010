/-! what a run of cell c leaves alone -/
abbrev mKep (k : Nat) : Prop := k = 21 ∨ k = 22 ∨ k = 24 ∨ (26 ≤ k ∧ k ≤ 33) ∨ k = 49 ∨ k = 55 ∨ k = 56
def mFrm (t u : zSt) (c : Int) : Prop := (∀ j : Int, j ≠ 30 → j ≠ 38 → u 20 0 j = t 20 0 j) ∧ (∀ k : Nat, mKep k → ∀ j : Int, u k 0 j = t k 0 j) ∧ (∀ j : Int, j ≠ t 30 0 c → u 23 0 j = t 23 0 j) ∧ (∀ k : Nat, 34 ≤ k → k ≤ 43 → ∀ j : Int, j ≠ c → u k 0 j = t k 0 j) ∧ (∀ k : Nat, 44 ≤ k → k ≤ 47 → ∀ j : Int, (j < 4 * c ∨ 4 * c + 3 < j) → u k 0 j = t k 0 j)
def xFrm (x z : zSt) (c : Int) : Prop := (∀ j : Int, j ≠ 13 → z 0 0 j = x 0 0 j) ∧ (∀ k : Nat, k = 2 ∨ k = 3 ∨ k = 7 ∨ k = 8 → ∀ j : Int, z k 0 j = x k 0 j) ∧ (∀ j : Int, j ≠ x 9 c 4 → z 1 0 j = x 1 0 j) ∧ (∀ i j : Int, (i ≠ c ∨ j ≤ 8) → z 9 i j = x 9 i j) ∧ (∀ k : Nat, 10 ≤ k → k ≤ 15 → ∀ i : Int, i ≠ c → ∀ j : Int, z k i j = x k i j) ∧ (∀ k j : Int, z 16 k 0 = x 16 k 0)
theorem mOn_f {t u : zSt} {v : Int} (h : ∀ k : Nat, k = 24 ∨ k = 27 ∨ k = 28 → ∀ j : Int, u k 0 j = t k 0 j) : ∀ (n : Nat) (c : Int), mOn u v n c = mOn t v n c := by
  intro n
  induction n with
  | zero => intro c; rfl
  | succ n ih =>
    intro c
    simp only [mOn, h 24 (by decide), h 27 (by decide), h 28 (by decide), ih]
theorem J2_frm {x z t u : zSt} {c : Int} (J : J2 x t) (hI : mI t) (vc : ∀ c : Int, 0 ≤ c → c < t 20 0 5 → vCel t c) (hc : 0 ≤ c ∧ c < t 20 0 5) (hx : xFrm x z c) (hm : mFrm t u c)
    (n1 : z 1 0 (t 30 0 c) = u 23 0 (t 30 0 c)) (n2 : jRun z u c) (n3 : jSaw z u c) (n4 : jFai z u c) (n5 : jMem z u c) (n6 : ∀ k : Int, 0 ≤ k → k ≤ 2 → jKer z u k) (n7 : z 0 0 13 = u 20 0 38) : J2 z u := by
  obtain ⟨hC, hV, hT, hR, hS, hF, hM, hL, hK, hW⟩ := J
  obtain ⟨x1, x2, x3, x4, x5, x6⟩ := hx
  obtain ⟨m1, m2, m3, m4, m5⟩ := hm
  have e5 : u 20 0 5 = t 20 0 5 := m1 5 (by decide) (by decide)
  have ew := (hT c hc.1 hc.2).2.2.2.2.1
  have n1c := hI.1.1
  refine ⟨?_, ?_, ?_, ?_, ?_, ?_, ?_, ?_, n6, ?_⟩
  · obtain ⟨a1, a2, a3, a4, a5, a6⟩ := hC
    refine ⟨?_, ?_, ?_, ?_, ?_, n7⟩
    · rw [x1 8 (by decide), m1 0 (by decide) (by decide)]; exact a1
    · rw [x1 9 (by decide), e5]; exact a2
    · rw [x1 10 (by decide), m1 28 (by decide) (by decide)]; exact a3
    · rw [x1 11 (by decide), m1 34 (by decide) (by decide)]; exact a4
    · rw [x1 12 (by decide), m1 37 (by decide) (by decide)]; exact a5
  · intro v h1 h2
    obtain ⟨b1, b2, b3, b4⟩ := hV v h1 h2
    refine ⟨?_, ?_, ?_, ?_⟩
    · by_cases g : v = t 30 0 c
      · rw [g]; exact n1
      · rw [x3 v (by rw [ew]; exact g), m3 v g]; exact b1
    · rw [x2 3 (by decide), m2 24 (by decide)]; exact b2
    · rw [x2 2 (by decide), m2 21 (by decide)]; exact b3
    · rw [x2 2 (by decide), m2 21 (by decide), m2 22 (by decide)]; exact b4
  · intro i h1 h2
    rw [e5] at h2
    obtain ⟨b0, b1, b2, b3, b4, b5, b6⟩ := hT i h1 h2
    refine ⟨?_, ?_, ?_, ?_, ?_, ?_, ?_⟩
    · rw [x4 i 0 (Or.inr (by decide)), m2 26 (by decide)]; exact b0
    · rw [x4 i 1 (Or.inr (by decide)), m2 27 (by decide)]; exact b1
    · rw [x4 i 2 (Or.inr (by decide)), m2 28 (by decide)]; exact b2
    · rw [x4 i 3 (Or.inr (by decide)), m2 29 (by decide)]; exact b3
    · rw [x4 i 4 (Or.inr (by decide)), m2 30 (by decide)]; exact b4
    · rw [x4 i 5 (Or.inr (by decide)), m2 31 (by decide)]; exact b5
    · rw [x4 i 6 (Or.inr (by decide)), m2 32 (by decide)]; exact b6
  · intro i h1 h2
    by_cases g : i = c
    · rw [g]; exact n2
    · have b := hR i h1 h2
      unfold jRun
      rw [x4 i 7 (Or.inl g), x4 i 13 (Or.inl g), x4 i 14 (Or.inl g), x4 i 9 (Or.inl g), m2 33 (by decide), m4 38 (by decide) (by decide) i g, m4 39 (by decide) (by decide) i g, m4 34 (by decide) (by decide) i g]
      exact b
  · intro i h1 h2
    rw [e5] at h2
    by_cases g : i = c
    · rw [g]; exact n3
    · have b := hS i h1 h2
      unfold jSaw
      rw [x4 i 10 (Or.inl g), x4 i 11 (Or.inl g), x4 i 12 (Or.inl g), m4 34 (by decide) (by decide) i g, m4 35 (by decide) (by decide) i g, m4 36 (by decide) (by decide) i g, m4 37 (by decide) (by decide) i g]
      exact b
  · intro i h1 h2
    rw [e5] at h2
    by_cases g : i = c
    · rw [g]; exact n4
    · have b := hF i h1 h2
      unfold jFai
      rw [x5 10 (by decide) (by decide) i g, x5 10 (by decide) (by decide) i g, x5 10 (by decide) (by decide) i g, x5 10 (by decide) (by decide) i g, m4 34 (by decide) (by decide) i g, m4 42 (by decide) (by decide) i g, m4 40 (by decide) (by decide) i g, m4 41 (by decide) (by decide) i g, m4 43 (by decide) (by decide) i g]
      exact b
  · intro i h1 h2
    by_cases g : i = c
    · rw [g]; exact n5
    · obtain ⟨b1, b2, b3⟩ := hM i h1 h2
      refine ⟨?_, ?_, ?_⟩
      · rw [x5 11 (by decide) (by decide) i g, m4 38 (by decide) (by decide) i g]; exact b1
      · rw [x5 11 (by decide) (by decide) i g, m4 38 (by decide) (by decide) i g]; exact b2
      · intro j g1 g2
        rw [x5 11 (by decide) (by decide) i g] at g2
        have g3 : x 11 i 4 ≤ 4 := by rw [b1]; split <;> omega
        have g4 : 4 * i + j < 4 * c ∨ 4 * c + 3 < 4 * i + j := by omega
        rw [x5 12 (by decide) (by decide) i g, x5 13 (by decide) (by decide) i g, x5 14 (by decide) (by decide) i g, x5 15 (by decide) (by decide) i g, m5 44 (by decide) (by decide) _ g4, m5 45 (by decide) (by decide) _ g4, m5 46 (by decide) (by decide) _ g4, m5 47 (by decide) (by decide) _ g4]
        exact b3 j g1 g2
  · intro i h1 h2
    rw [e5] at h2
    obtain ⟨b1, b2⟩ := hL i h1 h2
    refine ⟨by rw [x4 i 8 (Or.inr (by decide))]; exact b1, ?_⟩
    intro v g1 g2
    rw [x4 i 8 (Or.inr (by decide)), mOn_f (t := t) (u := u) (fun k hk j => m2 k (by unfold mKep; omega) j)]
    exact b2 v g1 g2
  · intro i h1 h2
    rw [m1 34 (by decide) (by decide)] at h2
    rw [x2 7 (by decide), x2 8 (by decide), m2 55 (by decide), m2 56 (by decide)]
    exact hW i h1 h2
