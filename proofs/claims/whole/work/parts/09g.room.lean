theorem mSm_l {t u : zSt} {p p' : Int → Bool} : ∀ n : Nat, (∀ j : Int, 0 ≤ j → j < n → u 52 0 j = t 52 0 j ∧ p j = p' j) → mSm u p n = mSm t p' n := by
  intro n
  induction n with
  | zero => intro _; rfl
  | succ n ih =>
    intro h
    have h1 := h n (by omega) (by omega)
    simp only [mSm]
    rw [ih (fun j g1 g2 => h j g1 (by omega)), h1.1, h1.2]
theorem mSm_n {t : zSt} {p : Int → Bool} : ∀ n : Nat, (∀ j : Int, 0 ≤ j → j < n → 1 ≤ t 52 0 j) → 0 ≤ mSm t p n := by
  intro n
  induction n with
  | zero => intro _; simp [mSm]
  | succ n ih =>
    intro h
    have h1 := h n (by omega) (by omega)
    have h2 := ih (fun j g1 g2 => h j g1 (by omega))
    simp only [mSm]
    split <;> omega
theorem mSm_0 {t : zSt} {p : Int → Bool} : ∀ n : Nat, (∀ j : Int, 0 ≤ j → j < n → p j = false) → mSm t p n = 0 := by
  intro n
  induction n with
  | zero => intro _; rfl
  | succ n ih =>
    intro h
    have h1 := h n (by omega) (by omega)
    have h2 := ih (fun j g1 g2 => h j g1 (by omega))
    simp only [mSm]
    rw [h1, h2]
    rfl
theorem mSm_c {t : zSt} : ∀ n : Nat, (∀ j : Int, 0 ≤ j → j < n → 1 ≤ t 52 0 j ∧ (0 ≤ t 51 0 j ∧ t 51 0 j ≤ 2)) → (n : Int) ≤ mSm t (mOf t 0) n + mSm t (mOf t 1) n + mSm t (mOf t 2) n := by
  intro n
  induction n with
  | zero => intro _; simp [mSm]
  | succ n ih =>
    intro h
    have h1 := h n (by omega) (by omega)
    have h2 := ih (fun j g1 g2 => h j g1 (by omega))
    simp only [mSm, mOf, decide_eq_true_iff]
    have h3 : t 51 0 n = 0 ∨ t 51 0 n = 1 ∨ t 51 0 n = 2 := by omega
    rcases h3 with g | g | g <;> simp only [g, Int.reduceEq, if_true, if_false] <;> omega
theorem mKf_l {t : zSt} {need : Int} : ∀ n : Nat, 0 ≤ mKf t need n → need ≤ mLeft t (mKf t need n) := by
  intro n
  induction n with
  | zero => intro h; simp [mKf] at h
  | succ n ih =>
    intro h
    simp only [mKf] at h ⊢
    split
    · rename_i g
      exact g.1
    · rename_i g
      rw [if_neg g] at h
      exact ih h
theorem mLeft_s {t : zSt} {k : Int} : mLeft t k = t 49 0 k - mSm t (mOf t k) (t 20 0 30).toNat := mFree_s _
/-- where a kernel has room, a place is left -/
theorem v_room {t : zSt} {c q : Int} (V : vI t q) (hc : 0 ≤ c ∧ c < t 20 0 5) (h : 0 ≤ mKer t c) : (0 ≤ mKer t c ∧ mKer t c < t 20 0 28) ∧ t 31 0 c ≤ t 49 0 (mKer t c) - mSm t (mOf t (mKer t c)) (t 20 0 30).toNat ∧ t 20 0 30 ≤ 59 := by
  have hI := V.1
  have n2 := hI.1.2.1
  have n30 := hI.1.2.2.2.2.1
  have w := hI.2.2.1 c hc.1 hc.2
  have kb : -1 ≤ mKer t c ∧ mKer t c < ((t 20 0 28).toNat : Int) := mKf_b (y := t) (need := t 31 0 c) (t 20 0 28).toNat
  have kl : t 31 0 c ≤ mLeft t (mKer t c) := mKf_l (t := t) (need := t 31 0 c) (t 20 0 28).toNat h
  rw [mLeft_s] at kl
  refine ⟨⟨h, by omega⟩, kl, ?_⟩
  have tk := V.2.2.2.2.2.2.1
  have hc2 := mSm_c (t := t) (t 20 0 30).toNat (fun j g1 g2 => by have := tk j g1 (by omega); omega)
  have nn : ∀ k : Int, 0 ≤ mSm t (mOf t k) (t 20 0 30).toNat := fun k => mSm_n _ (fun j g1 g2 => by have := tk j g1 (by omega); omega)
  have ub : ∀ k : Int, 0 ≤ k → k ≤ 2 → mSm t (mOf t k) (t 20 0 30).toNat ≤ 20 ∧ (k = mKer t c → mSm t (mOf t k) (t 20 0 30).toNat ≤ 19) := by
    intro k g1 g2
    by_cases g : t 20 0 28 ≤ k
    · have e := mSm_0 (t := t) (p := mOf t k) (t 20 0 30).toNat (fun j g3 g4 => by
        have b := tk j g3 (by omega)
        exact decide_eq_false (by omega))
      omega
    · have r := hI.2.2.2.2.1 k g1 g2
      have r2 := V.2.2.2.2.2.2.2.1 k g1 g2
      refine ⟨by omega, fun e => ?_⟩
      rw [← e] at kl
      omega
  have u0 := ub 0 (by decide) (by decide)
  have u1 := ub 1 (by decide) (by decide)
  have u2 := ub 2 (by decide) (by decide)
  have h3 : (0 : Int) = mKer t c ∨ (1 : Int) = mKer t c ∨ (2 : Int) = mKer t c := by omega
  rcases h3 with g | g | g
  · have := u0.2 g; omega
  · have := u1.2 g; omega
  · have := u2.2 g; omega
