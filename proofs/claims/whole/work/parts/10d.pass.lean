/-! pass, on both sides -/
theorem mDoS_t {y : zSt} {c : Int} : (mDoS y c) 20 0 37 = y 20 0 37 := by
  unfold mDoS mFailM mFailZ mFalls mHas mKeeps mTakes mEndF
  (repeat' split) <;> simp only [zup_d, Nat.reduceEqDiff, Int.reduceEq, Int.reduceNeg, eq_self, false_and, and_false, true_and, and_true, and_self, if_false, if_true, iff_self, or_true, true_or, or_false, false_or]
theorem mTs_t {y : zSt} : ∀ n : Nat, (mTs y n) 20 0 37 = y 20 0 37 := by
  intro n
  induction n with
  | zero => rfl
  | succ n ih =>
    simp only [mTs]
    split
    · exact ih
    · rw [mDoS_t]
      exact ih
theorem mPs_s {y : zSt} {n : Nat} : mPs y (n + 1) = mTs (mTk0 (mPs y n)) (y 20 0 5).toNat := rfl
theorem mPn_s {y : zSt} {n : Nat} : mPn y (n + 1) = mPn y n + mTn (mTk0 (mPs y n)) (y 20 0 5).toNat := rfl
theorem xPs_s {x : zSt} {n : Nat} : xPs x (n + 1) = (xWk xDue (xTk (xPs x n)) (x 0 0 9).toNat).1 := rfl
theorem xPn_s {x : zSt} {n : Nat} : xPn x (n + 1) = xPn x n + (xWk xDue (xTk (xPs x n)) (x 0 0 9).toNat).2.2 := rfl
/-- what one tick asks for -/
theorem JV_okt {x t : zSt} {q : Int} (H : JV x t q) (hq : q + 11 < 1000000) (hT : t 20 0 37 ≤ 4999) : mOkT t ∧ xOkT x := by
  obtain ⟨K, k37, k5⟩ := JV_tk H hT
  have e12 := H.1.1.2.2.2.2.1
  refine ⟨⟨H.2.1.1, hT, k5, fun n hn => ?_⟩, ⟨JV_xI H (by omega), by omega, fun n _ => JV_gv H (by omega) hT n, JV_okd K hq⟩⟩
  obtain ⟨Z, e, -⟩ := JV_due K hq n (by omega)
  refine ⟨Z.2.1.1, fun h k => (v_room Z.2.1 ⟨by omega, by omega⟩ k).2.2, by omega⟩
theorem JV_ps {x t : zSt} {q T : Int} (H : JV x t q) (hT : 0 ≤ T ∧ T ≤ 50) (hq : q + 11 * T + 11 < 1000000) (h37 : t 20 0 37 + T ≤ 5000) : ∀ n : Nat, (n : Int) ≤ T → JV (xPs x n) (mPs t n) (q + 11 * n) ∧ (mPs t n) 20 0 5 = t 20 0 5 ∧ (mPs t n) 20 0 37 = t 20 0 37 + n ∧ xPn x n = mPn t n := by
  have n5 := H.2.1.1.1
  have e5 := H.1.1.2.1
  intro n
  induction n with
  | zero =>
    intro _
    have e : q + 11 * ((0 : Nat) : Int) = q := by omega
    have e2 : t 20 0 37 + ((0 : Nat) : Int) = t 20 0 37 := by omega
    rw [e, e2]
    exact ⟨H, rfl, rfl, rfl⟩
  | succ n ih =>
    intro h
    obtain ⟨Z, z5, z37, zn⟩ := ih (by omega)
    obtain ⟨K, k37, k5⟩ := JV_tk Z (by omega)
    have k5' : (mTk0 (mPs t n)) 20 0 5 = t 20 0 5 := by rw [k5, z5]
    have k37' : (mTk0 (mPs t n)) 20 0 37 = t 20 0 37 + n + 1 := by rw [k37, z37]
    rw [mPs_s, mPn_s, xPs_s, xPn_s, e5, zn]
    obtain ⟨V, hV⟩ : ∃ V, V = mTk0 (mPs t n) := ⟨_, rfl⟩
    obtain ⟨X, hX⟩ : ∃ X, X = xTk (xPs x n) := ⟨_, rfl⟩
    rw [← hV] at K k5' k37' ⊢
    rw [← hX] at K ⊢
    obtain ⟨D, d5, -, dn⟩ := JV_due K (by omega) (t 20 0 5).toNat (by omega)
    refine ⟨JV_le D (by omega) (by omega), by rw [d5, k5'], ?_, by rw [dn]⟩
    rw [mTs_t, k37']
    omega
theorem JV_okp {x t : zSt} {q T : Int} (H : JV x t q) (hT : 0 ≤ T ∧ T ≤ 50) (hq : q + 11 * T + 11 < 1000000) (h37 : t 20 0 37 + T ≤ 5000) : mOkP t T ∧ xOkP x T := by
  have e5 := H.1.1.2.1
  refine ⟨fun k hk => ?_, fun k hk => ?_⟩
  · obtain ⟨Z, z5, z37, -⟩ := JV_ps H hT hq h37 k (by omega)
    exact ⟨(JV_okt Z (by omega) (by omega)).1, z5⟩
  · obtain ⟨Z, z5, z37, -⟩ := JV_ps H hT hq h37 k (by omega)
    exact ⟨(JV_okt Z (by omega) (by omega)).2, by rw [Z.1.1.2.1, z5, e5]⟩
