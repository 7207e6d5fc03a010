/-- a run of cell c leaves the freshness of earlier cells -/
theorem mFr_k {t u : zSt} {c q : Int} (V : vI t q) (hc : 0 ≤ c ∧ c < t 20 0 5) (hm : mFrm t u c) : ∀ (n : Nat) (d : Int), 0 ≤ d → d < c → mFr u n d = mFr t n d := by
  have hI := V.1
  have vc := (V.2.2.1 c hc.1 hc.2).1
  have k24 := hm.2.1 24 (by decide)
  have k27 := hm.2.1 27 (by decide)
  have k28 := hm.2.1 28 (by decide)
  have k29 := hm.2.1 29 (by decide)
  intro n
  induction n with
  | zero => intro d _ _; rfl
  | succ n ih =>
    intro d g1 g2
    have w := hI.2.2.1 d g1 (by omega)
    have n1 : t 27 0 d ≠ t 30 0 c := fun p => by
      have a := w.1.2.2
      rw [p] at a
      omega
    have n2 : t 28 0 d ≠ -1 → t 28 0 d ≠ t 30 0 c := fun h p => by
      have a := (w.2.1.resolve_left h).2.2
      rw [p] at a
      omega
    have e1 : mFst u d = mFst t d := by
      unfold mFst
      rw [k27, hm.2.2.1 _ n1]
    have e2 : mSec u d = mSec t d := by
      unfold mSec
      rw [k28]
      by_cases h : t 28 0 d < 0
      · rw [if_pos h, if_pos h]
      · rw [if_neg h, if_neg h, hm.2.2.1 _ (n2 (by omega))]
    have r1 : 0 ≤ t 24 0 (t 27 0 d) → mFr u n (t 24 0 (t 27 0 d)) = mFr t n (t 24 0 (t 27 0 d)) := fun h => ih _ h (by omega)
    have r2 : ¬ t 28 0 d < 0 → 0 ≤ t 24 0 (t 28 0 d) → mFr u n (t 24 0 (t 28 0 d)) = mFr t n (t 24 0 (t 28 0 d)) := fun h0 h => ih _ h (by omega)
    have d1 : (t 24 0 (t 27 0 d) < 0 ∨ mFr u n (t 24 0 (t 27 0 d)) = true) ↔ (t 24 0 (t 27 0 d) < 0 ∨ mFr t n (t 24 0 (t 27 0 d)) = true) := by
      by_cases g : t 24 0 (t 27 0 d) < 0
      · simp only [g, true_or]
      · rw [r1 (by omega)]
    have d2 : (t 28 0 d < 0 ∨ t 24 0 (t 28 0 d) < 0 ∨ mFr u n (t 24 0 (t 28 0 d)) = true) ↔ (t 28 0 d < 0 ∨ t 24 0 (t 28 0 d) < 0 ∨ mFr t n (t 24 0 (t 28 0 d)) = true) := by
      by_cases g : t 28 0 d < 0
      · simp only [g, true_or]
      · by_cases g3 : t 24 0 (t 28 0 d) < 0
        · simp only [g3, true_or, or_true]
        · rw [r2 g (by omega)]
    have f : mFr u (n + 1) d = true ↔ mFr t (n + 1) d = true := by
      rw [mFr_s, mFr_s, e1, e2, k24, k24, k27, k28, k29, d1, d2, hm.2.2.2.1 34 (by decide) (by decide) d (by omega), hm.2.2.2.1 35 (by decide) (by decide) d (by omega), hm.2.2.2.1 36 (by decide) (by decide) d (by omega), hm.2.2.2.1 37 (by decide) (by decide) d (by omega)]
    cases h1 : mFr u (n + 1) d <;> cases h2 : mFr t (n + 1) d
    · rfl
    · rw [h1, h2] at f
      exact absurd (f.mpr rfl) (by decide)
    · rw [h1, h2] at f
      exact absurd (f.mp rfl) (by decide)
    · rfl
