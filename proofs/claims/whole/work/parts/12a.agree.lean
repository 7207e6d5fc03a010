/-! AGREEMENT, call by call: x the class's state, W the model's as it stands before its call. -/
theorem mCod_self {W : zSt} : mCod W (W 20 0 39) = W := by
  funext k i j
  unfold mCod zup
  split
  · rename_i g
    rw [g.1, g.2.1, g.2.2]
  · rfl
theorem jw_c {x W : zSt} {q : Int} (H : JV x (mCod W 0) q) : x 0 0 8 = W 20 0 0 ∧ x 0 0 9 = W 20 0 5 ∧ x 0 0 10 = W 20 0 28 ∧ x 0 0 11 = W 20 0 34 ∧ x 0 0 12 = W 20 0 37 ∧ x 0 0 13 = W 20 0 38 := by
  have h := H.1.1
  exact ⟨h.1.trans (mCod_j (by decide)), h.2.1.trans (mCod_j (by decide)), h.2.2.1.trans (mCod_j (by decide)), h.2.2.2.1.trans (mCod_j (by decide)), h.2.2.2.2.1.trans (mCod_j (by decide)), h.2.2.2.2.2.trans (mCod_j (by decide))⟩
theorem jw_I {x W : zSt} {q : Int} (H : JV x (mCod W 0) q) : mI W := by
  have h := mI_cod (p := W 20 0 39) H.2.1.1
  rw [mCod_cod, mCod_self] at h
  exact h
theorem jw_v {x W : zSt} {q v : Int} (H : JV x (mCod W 0) q) (hv : 0 ≤ v ∧ v ≤ 11) : x 1 0 v = W 23 0 v ∧ x 3 0 v = W 24 0 v ∧ (W 21 0 v = 0 → x 2 0 v = -1) ∧ (W 21 0 v ≠ 0 → x 2 0 v = W 22 0 v) ∧ (W 21 0 v = 0 ∨ W 21 0 v = 1) ∧ (0 ≤ W 22 0 v ∧ W 22 0 v ≤ 3) ∧ (-1 ≤ W 23 0 v ∧ W 23 0 v ≤ 999) ∧ (-1 ≤ W 24 0 v ∧ W 24 0 v < W 20 0 5) := by
  have b := H.1.2.1 v hv.1 hv.2
  have b2 := (jw_I H).2.1 v hv.1 hv.2
  unfold jVar at b
  rw [mCod_k (k := 21) (by decide), mCod_k (k := 22) (by decide), mCod_k (k := 23) (by decide), mCod_k (k := 24) (by decide)] at b
  exact ⟨b.1, b.2.1, b.2.2.1, b.2.2.2, b2⟩
theorem jw_def {x W : zSt} {q v : Int} (H : JV x (mCod W 0) q) (hv : 0 ≤ v ∧ v ≤ 11) : (x 2 0 v ≠ -1 ∨ x 3 0 v ≠ -1) ↔ (W 21 0 v ≠ 0 ∨ 0 ≤ W 24 0 v) := by
  have b := jw_v H hv
  omega
theorem jw_t {x W : zSt} {q c : Int} (H : JV x (mCod W 0) q) (hc : 0 ≤ c ∧ c < W 20 0 5) : x 9 c 0 = W 26 0 c ∧ x 9 c 1 = W 27 0 c ∧ x 9 c 2 = W 28 0 c ∧ x 9 c 3 = W 29 0 c ∧ x 9 c 4 = W 30 0 c := by
  have b := H.1.2.2.1 c hc.1 (by rw [mCod_j (by decide)]; exact hc.2)
  unfold jTol at b
  rw [mCod_k (k := 26) (by decide), mCod_k (k := 27) (by decide), mCod_k (k := 28) (by decide), mCod_k (k := 29) (by decide), mCod_k (k := 30) (by decide)] at b
  exact ⟨b.1, b.2.1, b.2.2.1, b.2.2.2.1, b.2.2.2.2.1⟩
theorem jw_r {x W : zSt} {q c : Int} (H : JV x (mCod W 0) q) (hc : 0 ≤ c ∧ c < W 20 0 5) : x 9 c 7 = W 33 0 c ∧ x 9 c 13 = W 38 0 c ∧ x 9 c 14 = W 39 0 c ∧ (x 9 c 9 = 0 ↔ W 34 0 c = 110) ∧ (x 9 c 9 = 1 ↔ W 34 0 c = 102) ∧ (x 9 c 9 = 2 ↔ W 34 0 c = 120) ∧ (x 9 c 9 = 0 ∨ x 9 c 9 = 1 ∨ x 9 c 9 = 2) := by
  have n5 := (jw_I H).1.1
  have b := H.1.2.2.2.1 c hc.1 (by omega)
  unfold jRun at b
  rw [mCod_k (k := 33) (by decide), mCod_k (k := 34) (by decide), mCod_k (k := 38) (by decide), mCod_k (k := 39) (by decide)] at b
  exact b
theorem jw_f {x W : zSt} {q c : Int} (H : JV x (mCod W 0) q) (hc : 0 ≤ c ∧ c < W 20 0 5) (h : W 34 0 c = 120) : x 10 c 0 = W 42 0 c ∧ x 10 c 1 = W 40 0 c ∧ x 10 c 2 = W 41 0 c ∧ x 10 c 3 = W 43 0 c := by
  have b := H.1.2.2.2.2.2.1 c hc.1 (by rw [mCod_j (by decide)]; exact hc.2)
  unfold jFai at b
  rw [mCod_k (k := 34) (by decide), mCod_k (k := 40) (by decide), mCod_k (k := 41) (by decide), mCod_k (k := 42) (by decide), mCod_k (k := 43) (by decide)] at b
  exact b h
theorem jw_fr {x W : zSt} {q c : Int} (H : JV x (mCod W 0) q) (hc : 0 ≤ c ∧ c < W 20 0 5) : zand (xFr x (x 0 0 9).toNat) (zshl 1 c) ≠ 0 ↔ mFr (mCod W 0) 11 c = true := by
  have n5 := (jw_I H).1.1
  have e5 : (mCod W 0) 20 0 5 = W 20 0 5 := mCod_j (by decide)
  have C := jw_c H
  have h := (j_fr H.1 H.2.1 (x 0 0 9).toNat (by omega)).2 c hc.1 (by omega)
  rw [h]
  exact ⟨fun p => p.2, fun p => ⟨by omega, p⟩⟩
theorem jw_w {x W : zSt} {q i : Int} (H : JV x (mCod W 0) q) (hi : 0 ≤ i ∧ i < W 20 0 34) : x 7 0 i = W 55 0 i ∧ x 8 0 i = W 56 0 i ∧ (0 ≤ W 55 0 i ∧ W 55 0 i < W 20 0 5) := by
  have b := H.1.2.2.2.2.2.2.2.2.2 i hi.1 (by rw [mCod_j (by decide)]; exact hi.2)
  rw [mCod_k (k := 55) (by decide), mCod_k (k := 56) (by decide)] at b
  exact ⟨b.1, b.2, (jw_I H).2.2.2.2.2.2 i hi.1 hi.2⟩
/-- where a pair of calls leaves the two -/
def zGo (X y2 W : zSt) (q k : Int) : Prop := y2 20 0 39 = k ∧ y2 60 0 0 = W 60 0 0 ∧ y2 61 0 0 = W 61 0 0 ∧ JV X (mCod y2 0) q
theorem z_fin {X y2 W : zSt} {q : Int} (Z : JV X y2 q) (h0 : y2 60 0 0 = W 60 0 0) (h1 : y2 61 0 0 = W 61 0 0) : zGo X y2 W q 0 := by
  have h := Z.2.1.2.2.2.2.2.2.2.2.2.2.2
  exact ⟨h, h0, h1, by rw [mCod_id h]; exact Z⟩
theorem z_cod {x W : zSt} {q k : Int} (H : JV x (mCod W 0) q) : zGo x (mCod W k) W q k := ⟨mCod_c, mCod_k (by decide), mCod_k (by decide), by rw [mCod_cod]; exact H⟩
theorem JV_60 {x t : zSt} {q a : Int} {k : Nat} (H : JV x t q) (hk : 60 ≤ k) : JV x (zup t k 0 0 a) q := by
  have V := H.2.1
  have u : ∀ k' : Nat, k' < 60 → (zup t k 0 0 a) k' = t k' := fun k' h => by
    funext i j
    exact zup_k (by omega)
  have sm : ∀ (p p' : Int → Bool) (m : Nat), (∀ j : Int, p j = p' j) → mSm (zup t k 0 0 a) p m = mSm t p' m := fun p p' m h => mSm_l m (fun j _ _ => ⟨by rw [u 52 (by decide)], h j⟩)
  have sOf : ∀ i : Int, mSm (zup t k 0 0 a) (mOf (zup t k 0 0 a) i) ((zup t k 0 0 a) 20 0 30).toNat = mSm t (mOf t i) (t 20 0 30).toNat := fun i => by
    rw [u 20 (by decide)]
    exact sm _ _ _ (fun j => by unfold mOf; rw [u 51 (by decide)])
  refine JV_tf H (fun _ _ => rfl) (fun _ _ _ => rfl) (fun j _ _ => by rw [u 20 (by decide)]) (fun k' h1 h2 h3 => u k' h1) (by rw [u 20 (by decide)]; exact H.1.1.2.2.2.2.1) (by rw [u 20 (by decide)]; exact V.1.1.2.2.2.1) ?_ (by rw [u 20 (by decide)]; exact V.1.1.2.2.2.2.1) ?_ ?_
  · intro i g1 g2
    have b := H.1.2.2.2.2.2.2.2.2.1 i g1 g2
    unfold jKer
    rw [sOf, u 49 (by decide)]
    refine ⟨b.1, b.2.1, fun e g3 g4 => ?_⟩
    rw [b.2.2 e g3 g4, u 20 (by decide)]
    exact (sm _ _ _ (fun j => by unfold mEd; rw [u 51 (by decide), u 53 (by decide)])).symm
  · intro j g1 g2
    rw [u 20 (by decide)] at g2
    have b := V.2.2.2.2.2.2.1 j g1 g2
    unfold vTak
    rw [u 20 (by decide), u 51 (by decide), u 52 (by decide), u 53 (by decide)]
    exact b
  · intro i g1 g2
    rw [sOf, u 49 (by decide), u 20 (by decide)]
    exact V.2.2.2.2.2.2.2.1 i g1 g2
theorem mCod_up {W : zSt} {k : Nat} {a : Int} (hk : 60 ≤ k) : mCod (zup W k 0 0 a) 0 = zup (mCod W 0) k 0 0 a := by
  funext k' i j
  unfold mCod
  simp only [zup_d]
  by_cases h : k' = 20 ∧ i = 0 ∧ j = 39
  · rw [if_pos h, if_neg (fun p => by omega), if_pos h]
  · rw [if_neg h]
    by_cases h2 : k' = k ∧ i = 0 ∧ j = 0
    · rw [if_pos h2, if_pos h2]
    · rw [if_neg h2, if_neg h2, if_neg h]
/-- what the helper wrote is nothing to the two -/
theorem JV_out {x W : zSt} {q a : Int} {k : Nat} (H : JV x (mCod W 0) q) (hk : 60 ≤ k) : JV x (mCod (zup W k 0 0 a) 0) q := by
  rw [mCod_up hk]
  exact JV_60 H hk
theorem mDoS_o {y : zSt} {c : Int} {k : Nat} (hk : 60 ≤ k) : (mDoS y c) k 0 0 = y k 0 0 := by
  have n : ∀ m : Nat, m < 60 → ¬ k = m := fun m h => by omega
  unfold mDoS mFailM mFailZ mFalls mHas mKeeps mTakes mEndF
  (repeat' split) <;> simp only [zup_d, Nat.reduceEqDiff, Int.reduceEq, Int.reduceNeg, eq_self, false_and, and_false, true_and, and_true, and_self, if_false, if_true, iff_self, or_true, true_or, or_false, false_or, n 20 (by decide), n 23 (by decide), n 34 (by decide), n 35 (by decide), n 36 (by decide), n 37 (by decide), n 38 (by decide), n 39 (by decide), n 40 (by decide), n 41 (by decide), n 42 (by decide), n 43 (by decide), n 44 (by decide), n 45 (by decide), n 46 (by decide), n 47 (by decide), n 51 (by decide), n 52 (by decide), n 53 (by decide)]
theorem mTs_o {y : zSt} {k : Nat} (hk : 60 ≤ k) : ∀ n : Nat, (mTs y n) k 0 0 = y k 0 0 := by
  intro n
  induction n with
  | zero => rfl
  | succ n ih =>
    simp only [mTs]
    split
    · exact ih
    · rw [mDoS_o hk]
      exact ih
theorem mTk0_o {y : zSt} {k : Nat} (hk : 60 ≤ k) : (mTk0 y) k 0 0 = y k 0 0 := by
  unfold mTk0 mFrs
  rw [zup_k (by omega), mFs_r _ (fun g => by omega), zup_k (by omega)]
theorem mPs_o {y : zSt} {k : Nat} (hk : 60 ≤ k) : ∀ n : Nat, (mPs y n) k 0 0 = y k 0 0 := by
  intro n
  induction n with
  | zero => rfl
  | succ n ih =>
    rw [mPs_s, mTs_o hk, mTk0_o hk]
    exact ih
theorem mRa_o {y : zSt} {k : Nat} (hk : 60 ≤ k) : ∀ n : Nat, (mRa y n) k 0 0 = y k 0 0 := by
  intro n
  induction n with
  | zero => rfl
  | succ n ih =>
    simp only [mRa]
    split
    · exact ih
    · rw [mDoS_o hk]
      exact ih
