theorem j_pop {x t : zSt} {q : Int} (J : J2 x t) (V : vI t q) : zPop (xFr x (t 20 0 5).toNat) = mNf t (t 20 0 5).toNat := by
  have n5 := V.1.1.1
  have h := (j_fr J V (t 20 0 5).toNat (by omega)).2
  have hn2 : (t 20 0 5).toNat ≤ 11 := by omega
  generalize xFr x (t 20 0 5).toNat = S at h ⊢
  generalize (t 20 0 5).toNat = n at h hn2 ⊢
  unfold zPop
  simp only [h 0 (by decide) (by decide), h 1 (by decide) (by decide), h 2 (by decide) (by decide), h 3 (by decide) (by decide), h 4 (by decide) (by decide), h 5 (by decide) (by decide), h 6 (by decide) (by decide), h 7 (by decide) (by decide), h 8 (by decide) (by decide), h 9 (by decide) (by decide), h 10 (by decide) (by decide)]
  have c : n = 0 ∨ n = 1 ∨ n = 2 ∨ n = 3 ∨ n = 4 ∨ n = 5 ∨ n = 6 ∨ n = 7 ∨ n = 8 ∨ n = 9 ∨ n = 10 ∨ n = 11 := by omega
  rcases c with rfl | rfl | rfl | rfl | rfl | rfl | rfl | rfl | rfl | rfl | rfl | rfl <;> simp [mNf]
theorem j_vs {x t : zSt} (J : J2 x t) (hI : mI t) : ∀ n : Nat, n ≤ 12 → xVs x n = mVs t n ∧ xVn x n = mVn t n := by
  intro n
  induction n with
  | zero => intro _; exact ⟨rfl, rfl⟩
  | succ n ih =>
    intro h
    obtain ⟨h1, h2⟩ := ih (by omega)
    have b := (J.2.1 n (by omega) (by omega)).1
    have b2 := (hI.2.1 n (by omega) (by omega)).2.2.1
    simp only [xVs, xVn, mVs, mVn, h1, h2, b]
    by_cases g : t 23 0 n = -1
    · rw [if_pos g, if_pos g, if_pos (by omega), if_pos (by omega)]
      exact ⟨rfl, rfl⟩
    · rw [if_neg g, if_neg g, if_neg (by omega), if_neg (by omega)]
      exact ⟨rfl, rfl⟩
theorem j_sn {x t : zSt} (J : J2 x t) : ∀ n : Nat, n ≤ 3 → xSn x n = mSn t n ∧ xLn x n = mSn t n - mLn t n := by
  intro n
  induction n with
  | zero => intro _; exact ⟨rfl, rfl⟩
  | succ n ih =>
    intro h
    obtain ⟨h1, h2⟩ := ih (by omega)
    have b := J.2.2.2.2.2.2.2.2.1 n (by omega) (by omega)
    refine ⟨?_, ?_⟩
    · show xSn x n + x 16 n 0 = mSn t n + t 49 0 n
      rw [h1, b.1]
    · show xLn x n + x 16 n 1 = (mSn t n + t 49 0 n) - (mLn t n + mLeft t n)
      have e := mLeft_s (t := t) (k := n)
      rw [h2, b.2.1, e]
      omega
theorem j_ow {x t : zSt} {c : Int} (J : J2 x t) (hc : 0 ≤ c ∧ c < t 20 0 5) (hI : mI t) : ∀ n : Nat, n ≤ 12 → xOw x c n = mOw t c n := by
  intro n
  induction n with
  | zero => intro _; rfl
  | succ n ih =>
    intro h
    have b := J.2.1 n (by omega) (by omega)
    have b2 := (hI.2.1 n (by omega) (by omega)).2.1
    have l := (J.2.2.2.2.2.2.2.1 c hc.1 hc.2).2 n (by omega) (by omega)
    simp only [xOw, mOw, ih (by omega)]
    by_cases g : t 21 0 n ≠ 0
    · have e := b.2.2.2 g
      by_cases g2 : mOn t n 11 c = true
      · rw [if_pos ⟨l.mpr g2, by omega⟩, if_pos ⟨g, g2⟩, e]
      · rw [if_neg (fun p => g2 (l.mp p.1)), if_neg (fun p => g2 p.2)]
    · have e := b.2.2.1 (by omega)
      rw [if_neg (fun p => p.2 e), if_neg (fun p => g p.1)]
theorem j_dp {x t : zSt} {v : Int} (J : J2 x t) (hv : 0 ≤ v ∧ v ≤ 11) : ∀ n : Nat, (n : Int) ≤ t 20 0 5 → xDp x v n = mDp t v n := by
  intro n
  induction n with
  | zero => intro _; rfl
  | succ n ih =>
    intro h
    have l := (J.2.2.2.2.2.2.2.1 n (by omega) (by omega)).2 v hv.1 hv.2
    simp only [xDp, mDp, ih (by omega)]
    by_cases g : mOn t v 11 n = true
    · rw [if_pos (l.mpr g), if_pos g]
    · rw [if_neg (fun p => g (l.mp p)), if_neg g]
      exact (Int.add_zero _).symm
