/-- fuel does not matter -/
theorem mFr_u {t : zSt} (hI : mI t) : ∀ (n m : Nat) (c : Int), 0 ≤ c → c < t 20 0 5 → c < n → c < m → mFr t n c = mFr t m c := by
  intro n
  induction n with
  | zero => intro m c h1 h2 h3 h4; omega
  | succ n ih =>
    intro m c h1 h2 h3 h4
    cases m with
    | zero => omega
    | succ m =>
      have w := hI.2.2.1 c h1 h2
      have e1 : 0 ≤ t 24 0 (t 27 0 c) → mFr t n (t 24 0 (t 27 0 c)) = mFr t m (t 24 0 (t 27 0 c)) := fun g => ih m _ g (by omega) (by omega) (by omega)
      have e2 : t 28 0 c ≠ -1 → 0 ≤ t 24 0 (t 28 0 c) → mFr t n (t 24 0 (t 28 0 c)) = mFr t m (t 24 0 (t 28 0 c)) := fun g0 g => ih m _ g (by omega) (by omega) (by omega)
      have d1 : (t 24 0 (t 27 0 c) < 0 ∨ mFr t n (t 24 0 (t 27 0 c)) = true) ↔ (t 24 0 (t 27 0 c) < 0 ∨ mFr t m (t 24 0 (t 27 0 c)) = true) := by
        by_cases g : t 24 0 (t 27 0 c) < 0
        · simp only [g, true_or]
        · rw [e1 (by omega)]
      have d2 : (t 28 0 c < 0 ∨ t 24 0 (t 28 0 c) < 0 ∨ mFr t n (t 24 0 (t 28 0 c)) = true) ↔ (t 28 0 c < 0 ∨ t 24 0 (t 28 0 c) < 0 ∨ mFr t m (t 24 0 (t 28 0 c)) = true) := by
        by_cases g : t 28 0 c < 0
        · simp only [g, true_or]
        · by_cases g2 : t 24 0 (t 28 0 c) < 0
          · simp only [g2, true_or, or_true]
          · rw [e2 (by omega) (by omega)]
      have f : mFr t (n + 1) c = true ↔ mFr t (m + 1) c = true := by
        rw [mFr_s, mFr_s, d1, d2]
      cases g1 : mFr t (n + 1) c <;> cases g2 : mFr t (m + 1) c
      · rfl
      · rw [g1, g2] at f
        exact absurd (f.mpr rfl) (by decide)
      · rw [g1, g2] at f
        exact absurd (f.mp rfl) (by decide)
      · rfl
theorem j_ast {x t : zSt} {v c w S : Int} (J : J2 x t) (hI : mI t) (hv : mIr t c v) (hc : c ≤ 10 ∧ c < t 20 0 5) (hS : ∀ d : Int, 0 ≤ d → d < c → (zand S (zshl 1 d) ≠ 0 ↔ mFr t 11 d = true)) : xAst x v w S ↔ (t 23 0 v = w ∧ (t 24 0 v < 0 ∨ mFr t 10 (t 24 0 v) = true)) := by
  have b := J.2.1 v hv.1.1 hv.1.2
  have b2 := (hI.2.1 v hv.1.1 hv.1.2).2.2.2
  unfold xAst
  rw [b.1, b.2.1]
  by_cases g : t 24 0 v = -1
  · have g1 : t 24 0 v < 0 := by omega
    simp only [g1, true_or, and_true]
    simp only [g, true_or, and_true]
  · have g1 : ¬ t 24 0 v < 0 := by omega
    rw [hS (t 24 0 v) (by omega) hv.2.2, mFr_u hI 11 10 (t 24 0 v) (by omega) (by omega) (by omega) (by omega)]
    simp only [g, g1, false_or]
/-- a cell is found fresh alike -/
theorem j_up {x t : zSt} {c S q : Int} (J : J2 x t) (V : vI t q) (hc : 0 ≤ c ∧ c < t 20 0 5) (hS : ∀ d : Int, 0 ≤ d → d < c → (zand S (zshl 1 d) ≠ 0 ↔ mFr t 11 d = true)) : xUp x c S ↔ mFr t 11 c = true := by
  have hI := V.1
  have n5 := hI.1.1
  have hT := J.2.2.1 c hc.1 hc.2
  have hR := J.2.2.2.1 c hc.1 (by omega)
  have hw := J.2.2.2.2.1 c hc.1 hc.2
  have vs := (V.2.2.2.2.2.1 c hc.1 hc.2).1
  have w := hI.2.2.1 c hc.1 hc.2
  rw [mFr_s]
  unfold xUp
  rw [hT.2.1, hT.2.2.1, hT.2.2.2.1, hR.2.2.2.2.1]
  by_cases g : t 34 0 c = 102
  · obtain ⟨s1, s2, s3⟩ := hw g
    have gd := vs g
    rw [s1, s2, s3, j_ast J hI w.1 ⟨by omega, hc.2⟩ hS]
    by_cases g2 : t 28 0 c = -1
    · have e : mSec t c = -1 := by unfold mSec; rw [if_pos (by omega)]
      have e2 := gd.2.2.1 g2
      have g3 : t 28 0 c < 0 := by omega
      rw [e, e2]
      unfold mFst
      simp only [g3, true_or, and_true, true_and, g2]
      constructor
      · rintro ⟨a1, a2, a3, a4⟩
        exact ⟨a1, a2.symm, a3.symm, a4, Or.inl (by decide)⟩
      · rintro ⟨a1, a2, a3, a4, _⟩
        exact ⟨a1, a2.symm, a3.symm, a4⟩
    · have g3 : ¬ t 28 0 c < 0 := by omega
      have hv2 : mIr t c (t 28 0 c) := w.2.1.resolve_left g2
      have e : mSec t c = t 23 0 (t 28 0 c) := by unfold mSec; rw [if_neg g3]
      rw [j_ast J hI hv2 ⟨by omega, hc.2⟩ hS, e]
      unfold mFst
      simp only [g2, g3, false_or]
      constructor
      · rintro ⟨a1, a2, ⟨a3, a4⟩, a5, a6⟩
        exact ⟨a1, a2.symm, a3.symm, a5.symm, a4, a6⟩
      · rintro ⟨a1, a2, a3, a4, a5, a6⟩
        exact ⟨a1, a2.symm, ⟨a3.symm, a5⟩, a4.symm, a6⟩
  · simp only [g, false_and]
/-- the set of the fresh cells -/
theorem j_fr {x t : zSt} {q : Int} (J : J2 x t) (V : vI t q) : ∀ n : Nat, (n : Int) ≤ t 20 0 5 → (0 ≤ xFr x n ∧ xFr x n < 2048) ∧ ∀ d : Int, 0 ≤ d → d ≤ 11 → (zand (xFr x n) (zshl 1 d) ≠ 0 ↔ (d < n ∧ mFr t 11 d = true)) := by
  have n5 := V.1.1.1
  intro n
  induction n with
  | zero =>
    intro _
    refine ⟨by simp [xFr], fun d g1 g2 => ⟨fun h => absurd h (zand_0 ⟨g1, g2⟩), fun h => by omega⟩⟩
  | succ n ih =>
    intro h
    obtain ⟨h1, h2⟩ := ih (by omega)
    have u := j_up (c := n) J V ⟨by omega, by omega⟩ (S := xFr x n) (fun d g1 g2 => by rw [h2 d g1 (by omega)]; exact ⟨fun q => q.2, fun q => ⟨g2, q⟩⟩)
    simp only [xFr]
    by_cases g : xUp x n (xFr x n)
    · rw [if_pos g]
      refine ⟨zor_b h1 ⟨by omega, by omega⟩, fun d g1 g2 => ?_⟩
      rw [zor_bit ⟨h1.1, by omega⟩ ⟨by omega, by omega⟩ ⟨g1, g2⟩, h2 d g1 g2]
      constructor
      · rintro (⟨a1, a2⟩ | a)
        · exact ⟨by omega, a2⟩
        · rw [a]
          exact ⟨by omega, u.mp g⟩
      · rintro ⟨a1, a2⟩
        by_cases e : d = n
        · exact Or.inr e
        · exact Or.inl ⟨by omega, a2⟩
    · rw [if_neg g]
      refine ⟨h1, fun d g1 g2 => ?_⟩
      rw [h2 d g1 g2]
      constructor
      · rintro ⟨a1, a2⟩
        exact ⟨by omega, a2⟩
      · rintro ⟨a1, a2⟩
        refine ⟨?_, a2⟩
        by_cases e : d = n
        · exact absurd (u.mpr (by rw [← e]; exact a2)) g
        · omega
