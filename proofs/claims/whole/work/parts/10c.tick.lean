/-! a tick: what a change of the kernels' rows alone leaves -/
theorem JV_tf {x t X U : zSt} {q : Int} (H : JV x t q) (hx0 : ∀ j : Int, j ≠ 12 → X 0 0 j = x 0 0 j) (hxk : ∀ k : Nat, 1 ≤ k → k ≤ 15 → X k = x k) (hu0 : ∀ j : Int, j ≠ 30 → j ≠ 37 → U 20 0 j = t 20 0 j) (huk : ∀ k : Nat, k < 60 → k ≠ 20 → ¬ (51 ≤ k ∧ k ≤ 53) → U k = t k) (h12 : X 0 0 12 = U 20 0 37) (h37 : 0 ≤ U 20 0 37 ∧ U 20 0 37 ≤ 5000)
    (nK : ∀ k : Int, 0 ≤ k → k ≤ 2 → jKer X U k) (n30 : 0 ≤ U 20 0 30 ∧ U 20 0 30 ≤ 60) (nT : ∀ j : Int, 0 ≤ j → j < U 20 0 30 → vTak U j) (nS : ∀ k : Int, 0 ≤ k → k ≤ 2 → mSm U (mOf U k) (U 20 0 30).toNat ≤ U 49 0 k ∨ U 20 0 28 ≤ k) : JV X U q := by
  obtain ⟨J, V, S⟩ := H
  obtain ⟨⟨a1, a2, a3, a4, a5, a6⟩, jV, jT, jR, jS, jF, jM, jL, jK, jW⟩ := J
  obtain ⟨hI, hV, vC, hR, hN, hS, hT, hK, hO, hD, h1, h0⟩ := V
  obtain ⟨⟨i1, i2, i3, i4, i5, i6⟩, iv, ic, -, ir, ie, iw⟩ := hI
  have x1 := hxk 1 (by decide) (by decide)
  have x2 := hxk 2 (by decide) (by decide)
  have x3 := hxk 3 (by decide) (by decide)
  have x7 := hxk 7 (by decide) (by decide)
  have x8 := hxk 8 (by decide) (by decide)
  have x9 := hxk 9 (by decide) (by decide)
  have x10 := hxk 10 (by decide) (by decide)
  have x11 := hxk 11 (by decide) (by decide)
  have x12 := hxk 12 (by decide) (by decide)
  have x13 := hxk 13 (by decide) (by decide)
  have x14 := hxk 14 (by decide) (by decide)
  have x15 := hxk 15 (by decide) (by decide)
  have u21 := huk 21 (by decide) (by decide) (by decide)
  have u22 := huk 22 (by decide) (by decide) (by decide)
  have u23 := huk 23 (by decide) (by decide) (by decide)
  have u24 := huk 24 (by decide) (by decide) (by decide)
  have u26 := huk 26 (by decide) (by decide) (by decide)
  have u27 := huk 27 (by decide) (by decide) (by decide)
  have u28 := huk 28 (by decide) (by decide) (by decide)
  have u29 := huk 29 (by decide) (by decide) (by decide)
  have u30 := huk 30 (by decide) (by decide) (by decide)
  have u31 := huk 31 (by decide) (by decide) (by decide)
  have u32 := huk 32 (by decide) (by decide) (by decide)
  have u33 := huk 33 (by decide) (by decide) (by decide)
  have u34 := huk 34 (by decide) (by decide) (by decide)
  have u35 := huk 35 (by decide) (by decide) (by decide)
  have u36 := huk 36 (by decide) (by decide) (by decide)
  have u37 := huk 37 (by decide) (by decide) (by decide)
  have u38 := huk 38 (by decide) (by decide) (by decide)
  have u39 := huk 39 (by decide) (by decide) (by decide)
  have u40 := huk 40 (by decide) (by decide) (by decide)
  have u41 := huk 41 (by decide) (by decide) (by decide)
  have u42 := huk 42 (by decide) (by decide) (by decide)
  have u43 := huk 43 (by decide) (by decide) (by decide)
  have u44 := huk 44 (by decide) (by decide) (by decide)
  have u45 := huk 45 (by decide) (by decide) (by decide)
  have u46 := huk 46 (by decide) (by decide) (by decide)
  have u47 := huk 47 (by decide) (by decide) (by decide)
  have u49 := huk 49 (by decide) (by decide) (by decide)
  have u55 := huk 55 (by decide) (by decide) (by decide)
  have u56 := huk 56 (by decide) (by decide) (by decide)
  have e0 := hu0 0 (by decide) (by decide)
  have e5 := hu0 5 (by decide) (by decide)
  have e28 := hu0 28 (by decide) (by decide)
  have e34 := hu0 34 (by decide) (by decide)
  have e38 := hu0 38 (by decide) (by decide)
  have e39 := hu0 39 (by decide) (by decide)
  have fOn : ∀ (v : Int) (n : Nat) (c : Int), mOn U v n c = mOn t v n c := fun v => mOn_f (fun k hk j => by rcases hk with rfl | rfl | rfl <;> simp only [u24, u27, u28])
  have fCq : ∀ c a b k : Int, mCq U c a b k = mCq t c a b k := fun c a b k => mCq_f (by rw [u26]) (by rw [u28])
  refine ⟨⟨?_, ?_, ?_, ?_, ?_, ?_, ?_, ?_, nK, ?_⟩, ⟨⟨?_, ?_, ?_, ?_, ?_, ?_, ?_⟩, ?_, ?_, ?_, ?_, ?_, nT, nS, ?_, ?_, ?_, ?_⟩, ?_⟩
  · refine ⟨?_, ?_, ?_, ?_, h12, ?_⟩
    · rw [hx0 8 (by decide), e0]; exact a1
    · rw [hx0 9 (by decide), e5]; exact a2
    · rw [hx0 10 (by decide), e28]; exact a3
    · rw [hx0 11 (by decide), e34]; exact a4
    · rw [hx0 13 (by decide), e38]; exact a6
  · intro v g1 g2
    have b := jV v g1 g2
    unfold jVar
    rw [x1, x2, x3, u21, u22, u23, u24]
    exact b
  · intro c g1 g2
    rw [e5] at g2
    have b := jT c g1 g2
    unfold jTol
    rw [x9, u26, u27, u28, u29, u30, u31, u32]
    exact b
  · intro c g1 g2
    have b := jR c g1 g2
    unfold jRun
    rw [x9, u33, u34, u38, u39]
    exact b
  · intro c g1 g2
    rw [e5] at g2
    have b := jS c g1 g2
    unfold jSaw
    rw [x9, u34, u35, u36, u37]
    exact b
  · intro c g1 g2
    rw [e5] at g2
    have b := jF c g1 g2
    unfold jFai
    rw [x10, u34, u40, u41, u42, u43]
    exact b
  · intro c g1 g2
    have b := jM c g1 g2
    unfold jMem
    rw [x11, x12, x13, x14, x15, u38, u44, u45, u46, u47]
    exact b
  · intro c g1 g2
    rw [e5] at g2
    have b := jL c g1 g2
    unfold jLin
    rw [x9]
    refine ⟨b.1, fun v g3 g4 => ?_⟩
    rw [fOn]
    exact b.2 v g3 g4
  · intro i g1 g2
    rw [e34] at g2
    rw [x7, x8, u55, u56]
    exact jW i g1 g2
  · exact ⟨by omega, by omega, by omega, h37, n30, by omega⟩
  · intro v g1 g2
    have b := iv v g1 g2
    unfold mIv
    rw [u21, u22, u23, u24, e5]
    exact b
  · intro c g1 g2
    rw [e5] at g2
    have b := ic c g1 g2
    unfold mIc mIr
    rw [u21, u24, u26, u27, u28, u29, u30, u31, u32, u33, u34, u38, u39, u41, u42, u43]
    exact b
  · exact fun k _ _ => Or.inr trivial
  · intro k g1 g2
    rw [u49]
    exact ir k g1 g2
  · intro j g1 g2
    have b := nT j g1 g2
    omega
  · intro i g1 g2
    rw [e34] at g2
    rw [u55, e5]
    exact iw i g1 g2
  · intro v g1 g2
    have b := hV v g1 g2
    unfold vVar
    rw [u21, u24, u30]
    exact b
  · intro c g1 g2
    rw [e5] at g2
    have b := vC c g1 g2
    unfold vCel
    rw [u21, u24, u30]
    exact b
  · intro c g1 g2
    have b := hR c g1 g2
    unfold vRun
    rw [u33, u34, u38, u39, u41, u42, u43]
    exact b
  · intro c g1 g2
    rw [e5] at g1
    have b := hN c g1 g2
    unfold vNew
    rw [u33, u34, u38, u39]
    exact b
  · intro c g1 g2
    rw [e5] at g2
    have b := hS c g1 g2
    unfold vSaw vFai vMem mGood
    simp only [fCq]
    rw [u23, u28, u30, u34, u35, u36, u37, u38, u40, u43, u44, u45, u46, u47]
    exact b
  · intro k g1 g2
    rw [e28] at g2
    rw [u49]
    exact hO k g1 g2
  · rw [mDf_f (t := t) (fun k hk j => by rcases hk with rfl | rfl <;> simp only [u21, u24]), e0, e5]
    exact hD
  · rw [e0, e5]; exact h1
  · rw [e39]; exact h0
  · intro c g1 g2
    have b := S c g1 g2
    rw [x10, x15]
    exact b
/-- the class's bounds while it gives back -/
theorem JV_gv {x t : zSt} {q : Int} (H : JV x t q) (hq : q ≤ 1000000) (hT : t 20 0 37 ≤ 4999) (n : Nat) : xI (xGv (zup x 0 0 12 (x 0 0 12 + 1)) (x 0 0 12 + 1) n) := by
  have I := JV_xI H hq
  have e12 := H.1.1.2.2.2.2.1
  have V := H.2.1
  have n30 := V.1.1.2.2.2.2.1
  have tk := V.2.2.2.2.2.2.1
  have jK := H.1.2.2.2.2.2.2.2.2.1
  have le : ∀ k e : Int, 0 ≤ k → k ≤ 2 → 0 ≤ e → e ≤ 9 → x 17 k e ≤ x 16 k 1 := fun k e g1 g2 g3 g4 => by
    have b := jK k g1 g2
    rw [b.2.1, b.2.2 e g3 g4]
    exact mSm_le (t := t) (p := mEd t k e) (p' := mOf t k) (t 20 0 30).toNat (fun j g5 g6 => ⟨by have := tk j g5 (by omega); omega, fun g => decide_eq_true (of_decide_eq_true g).1⟩)
  obtain ⟨i1, i2, i3, i4, i5, i6, i7, i8, i9, i10, i11⟩ := I
  obtain ⟨T, hTe⟩ : ∃ T, T = x 0 0 12 + 1 := ⟨_, rfl⟩
  rw [← hTe]
  obtain ⟨y, hy⟩ : ∃ y, y = zup x 0 0 12 T := ⟨_, rfl⟩
  rw [← hy]
  have R : ∀ k : Nat, k ≠ 0 → k ≠ 16 → k ≠ 17 → ∀ i j : Int, xGv y T n k i j = x k i j := fun k h0 h1 h2 i j => by
    rw [xGv_r h1 h2, hy]
    exact zup_k h0
  have R0 : ∀ j : Int, j ≠ 12 → xGv y T n 0 0 j = x 0 0 j := fun j h => by
    rw [xGv_r (by decide) (by decide), hy]
    exact zup_j h
  have R12 : xGv y T n 0 0 12 = T := by
    rw [xGv_r (by decide) (by decide), hy]
    exact zup_same
  have yk : ∀ k : Nat, k ≠ 0 → ∀ i j : Int, y k i j = x k i j := fun k h i j => by
    rw [hy]
    exact zup_k h
  have v := xGv_v (x := y) (T := T) n
  unfold xI
  rw [R0 9 (by decide), R0 10 (by decide), R0 11 (by decide), R12]
  simp only [R 1 (by decide) (by decide) (by decide), R 2 (by decide) (by decide) (by decide), R 3 (by decide) (by decide) (by decide), R 9 (by decide) (by decide) (by decide), R 10 (by decide) (by decide) (by decide), R 11 (by decide) (by decide) (by decide), R 15 (by decide) (by decide) (by decide)]
  refine ⟨i1, i2, i3, by omega, i5, i6, i7, i8, ?_, ?_, i11⟩
  · intro k g1 g2
    obtain ⟨v1, v2, v3⟩ := v k g1
    have b := i9 k g1 g2
    have b2 := i10 k (T % 10) g1 g2 (by omega) (by omega)
    have b3 := le k (T % 10) g1 g2 (by omega) (by omega)
    rw [v1, v2, yk 16 (by decide), yk 16 (by decide), yk 17 (by decide)]
    refine ⟨b.1, ?_⟩
    split <;> omega
  · intro k e g1 g2 g3 g4
    obtain ⟨v1, v2, v3⟩ := v k g1
    have b := i10 k e g1 g2 g3 g4
    rw [v3 e, yk 17 (by decide)]
    split <;> omega
/-- a tick's freeing, on both sides -/
theorem JV_tk {x t : zSt} {q : Int} (H : JV x t q) (hT : t 20 0 37 ≤ 4999) : JV (xTk x) (mTk0 t) q ∧ (mTk0 t) 20 0 37 = t 20 0 37 + 1 ∧ (mTk0 t) 20 0 5 = t 20 0 5 := by
  have J := H.1
  have V := H.2.1
  have e12 := J.1.2.2.2.2.1
  have e10 := J.1.2.2.1
  have n28 := V.1.1.2.1
  have n30 := V.1.1.2.2.2.2.1
  have n37 := V.1.1.2.2.2.1
  have tk := V.2.2.2.2.2.2.1
  have jK := J.2.2.2.2.2.2.2.2.1
  have hS := V.2.2.2.2.2.2.2.1
  obtain ⟨T, hTe⟩ : ∃ T, T = t 20 0 37 + 1 := ⟨_, rfl⟩
  obtain ⟨y, hy⟩ : ∃ y, y = zup t 20 0 37 T := ⟨_, rfl⟩
  have yk : ∀ k : Nat, k ≠ 20 → y k = t k := fun k hk => by
    rw [hy]
    funext i j
    exact zup_k hk
  have y20 : ∀ j : Int, j ≠ 37 → y 20 0 j = t 20 0 j := fun j hj => by
    rw [hy]
    exact zup_j hj
  have y37 : y 20 0 37 = T := by
    rw [hy]
    exact zup_same
  obtain ⟨N, hN⟩ : ∃ N, N = (t 20 0 30).toNat := ⟨_, rfl⟩
  have kb := mFk_b (y := y) N
  have eU : mTk0 t = zup (mFs y N) 20 0 30 (mFk y N) := by
    unfold mTk0 mFrs
    rw [← hTe, ← hy, y20 30 (by decide), ← hN]
  have sm := fun P : Int → Int → Bool => mFs_m (y := y) (P := P) N
  have si := mFs_i (y := y) N
  rw [y37] at si
  obtain ⟨K, hK⟩ : ∃ K, K = mFk y N := ⟨_, rfl⟩
  obtain ⟨u, hu⟩ : ∃ u, u = mFs y N := ⟨_, rfl⟩
  have ur : ∀ (k : Nat) (i j : Int), ¬ (k = 51 ∨ k = 52 ∨ k = 53) → u k i j = y k i j := fun k i j h => by
    rw [hu]
    exact mFs_r N (fun g => absurd g h) i
  rw [← hK] at kb
  simp only [← hK, ← hu] at eU sm si
  obtain ⟨U, hU⟩ : ∃ U, U = mTk0 t := ⟨_, rfl⟩
  rw [← hU]
  rw [← hU] at eU
  have Uk : ∀ k : Nat, k ≠ 20 → U k = u k := fun k hk => by
    rw [eU]
    funext i j
    exact zup_k hk
  have U30 : U 20 0 30 = K := by
    rw [eU]
    exact zup_same
  have U20 : ∀ j : Int, j ≠ 30 → U 20 0 j = y 20 0 j := fun j hj => by
    rw [eU, zup_j hj]
    exact ur 20 0 j (by decide)
  have U37 : U 20 0 37 = T := by rw [U20 37 (by decide), y37]
  have sums : ∀ P : Int → Int → Bool, mSm U (fun j => P (U 51 0 j) (U 53 0 j)) (U 20 0 30).toNat = mSm t (mGt t (fun j => P (t 51 0 j) (t 53 0 j)) T) N := fun P => by
    rw [U30]
    have h1 : mSm U (fun j => P (U 51 0 j) (U 53 0 j)) K.toNat = mSm u (fun j => P (u 51 0 j) (u 53 0 j)) K.toNat := mSm_l K.toNat (fun j _ _ => by
      rw [Uk 52 (by decide), Uk 51 (by decide), Uk 53 (by decide)]
      exact ⟨rfl, rfl⟩)
    have h2 : mSm y (mGt y (fun j => P (y 51 0 j) (y 53 0 j)) (y 20 0 37)) N = mSm t (mGt t (fun j => P (t 51 0 j) (t 53 0 j)) T) N := mSm_l N (fun j _ _ => by
      unfold mGt
      rw [yk 52 (by decide), yk 51 (by decide), yk 53 (by decide), y37]
      exact ⟨rfl, rfl⟩)
    rw [h1, sm P, h2]
  have sOf : ∀ k : Int, mSm U (mOf U k) (U 20 0 30).toNat = mSm t (mGt t (mOf t k) T) N := fun k => sums (fun a _ => decide (a = k))
  have sEd : ∀ k e : Int, mSm U (mEd U k e) (U 20 0 30).toNat = mSm t (mGt t (mEd t k e) T) N := fun k e => sums (fun a b => decide (a = k ∧ b % 10 = e))
  have xv := xGv_v (x := zup x 0 0 12 (x 0 0 12 + 1)) (T := x 0 0 12 + 1) (x 0 0 10).toNat
  have xT : ∀ (i j : Int), (xTk x) 16 i j = xGv (zup x 0 0 12 (x 0 0 12 + 1)) (x 0 0 12 + 1) (x 0 0 10).toNat 16 i j := fun _ _ => rfl
  have xT7 : ∀ (i j : Int), (xTk x) 17 i j = xGv (zup x 0 0 12 (x 0 0 12 + 1)) (x 0 0 12 + 1) (x 0 0 10).toNat 17 i j := fun _ _ => rfl
  have tkN : ∀ j : Int, 0 ≤ j → j < N → vTak t j := fun j g1 g2 => tk j g1 (by omega)
  have nn : ∀ p : Int → Bool, 0 ≤ mSm t p N := fun p => mSm_n _ (fun j g1 g2 => by have := tkN j g1 g2; omega)
  refine ⟨JV_tf H (fun j hj => ?_) (fun k h1 h2 => ?_) (fun j h1 h2 => ?_) (fun k _ h1 h2 => ?_) ?_ ?_ ?_ ?_ ?_ ?_, by rw [U37, hTe], ?_⟩
  · exact xTk_r (by decide) (by decide) (fun p => hj p.2.2)
  · funext i j
    exact xTk_r (by omega) (by omega) (fun p => by omega)
  · rw [U20 j h1, y20 j h2]
  · rw [Uk k h1]
    funext i j
    rw [ur k i j (by omega), yk k h1]
  · have h : (xTk x) 0 0 12 = x 0 0 12 + 1 := by
      unfold xTk
      rw [xGv_r (by decide) (by decide)]
      exact zup_same
    rw [h, U37, hTe, e12]
  · rw [U37]; omega
  · intro k g1 g2
    obtain ⟨v1, v2, v3⟩ := xv k g1
    obtain ⟨b1, b2, b3⟩ := jK k g1 g2
    have z16 : ∀ j : Int, zup x 0 0 12 (x 0 0 12 + 1) 16 k j = x 16 k j := fun j => zup_k (by decide)
    have z17 : ∀ j : Int, zup x 0 0 12 (x 0 0 12 + 1) 17 k j = x 17 k j := fun j => zup_k (by decide)
    rw [z16] at v1
    rw [z16, z17] at v2
    unfold jKer
    rw [sOf]
    simp only [sEd, xT, xT7]
    rw [v1, v2, Uk 49 (by decide), ur 49 0 k (by decide), yk 49 (by decide)]
    refine ⟨b1, ?_, fun e g3 g4 => ?_⟩
    · by_cases g : k < t 20 0 28
      · rw [if_pos (by omega), b2, b3 _ (by omega) (by omega), ← hN]
        have h1 := mSm_s (t := t) (p := mOf t k) (T := T) N
        have h2 : mSm t (mLe t (mOf t k) T) N = mSm t (mEd t k ((x 0 0 12 + 1) % 10)) N := mSm_l N (fun j g5 g6 => ⟨rfl, by
          have b := tkN j g5 g6
          have c : (t 51 0 j = k ∧ t 53 0 j ≤ T) ↔ (t 51 0 j = k ∧ t 53 0 j % 10 = (x 0 0 12 + 1) % 10) := by
            constructor
            · rintro ⟨c1, c2⟩
              exact ⟨c1, by omega⟩
            · rintro ⟨c1, c2⟩
              exact ⟨c1, by omega⟩
          unfold mLe mEd mOf
          rw [← Bool.decide_and]
          exact decide_eq_decide.mpr c⟩)
        omega
      · rw [if_neg (by omega), b2, ← hN, mSm_0 (t := t) (p := mOf t k) N (fun j g5 g6 => by
          have b := tkN j g5 g6
          exact decide_eq_false (by omega)), mSm_0 (t := t) (p := mGt t (mOf t k) T) N (fun j g5 g6 => by
          have b := tkN j g5 g6
          unfold mGt mOf
          rw [decide_eq_false (by omega), Bool.false_and])]
    · rw [v3 e, z17, b3 e g3 g4, ← hN]
      by_cases g : k < t 20 0 28
      · by_cases c : e = (x 0 0 12 + 1) % 10
        · rw [if_pos ⟨by omega, c⟩]
          refine (mSm_0 (t := t) N (fun j g5 g6 => ?_)).symm
          have b := tkN j g5 g6
          unfold mGt mEd
          rw [← Bool.decide_and]
          exact decide_eq_false (fun p => by omega)
        · rw [if_neg (fun p => c p.2)]
          refine mSm_l N (fun j g5 g6 => ⟨rfl, ?_⟩)
          have b := tkN j g5 g6
          unfold mGt mEd
          rw [← Bool.decide_and]
          refine decide_eq_decide.mpr ⟨fun p => ⟨p, by omega⟩, fun p => p.1⟩
      · rw [if_neg (fun p => by omega), mSm_0 (t := t) (p := mEd t k e) N (fun j g5 g6 => by
          have b := tkN j g5 g6
          exact decide_eq_false (fun p => by omega)), mSm_0 (t := t) (p := mGt t (mEd t k e) T) N (fun j g5 g6 => by
          have b := tkN j g5 g6
          unfold mGt mEd
          rw [decide_eq_false (fun p => by omega), Bool.false_and])]
  · rw [U30]; omega
  · intro j g1 g2
    rw [U30] at g2
    obtain ⟨i, ⟨c1, c2⟩, c3, c4, c5, c6⟩ := si j g1 g2
    have b := tkN i c1 (by omega)
    rw [yk 51 (by decide)] at c3
    rw [yk 52 (by decide)] at c4
    rw [yk 53 (by decide)] at c5 c6
    unfold vTak
    rw [U37, U20 28 (by decide), y20 28 (by decide), Uk 51 (by decide), Uk 52 (by decide), Uk 53 (by decide), c3, c4, c5]
    omega
  · intro k g1 g2
    have h := hS k g1 g2
    have h1 := mSm_s (t := t) (p := mOf t k) (T := T) N
    have h2 := nn (mLe t (mOf t k) T)
    rw [sOf, Uk 49 (by decide), ur 49 0 k (by decide), yk 49 (by decide), U20 28 (by decide), y20 28 (by decide)]
    rw [← hN] at h
    omega
  · rw [U20 5 (by decide), y20 5 (by decide)]
