theorem JV_cell {x t : zSt} {q k a b r w n s : Int} (H : JV x t q) (hq : q ≤ 1000000) (ok : xCellOk k a b r w n s) (ta : t 21 0 a ≠ 0 ∨ 0 ≤ t 24 0 a) (tb : b = -1 ∨ (t 21 0 b ≠ 0 ∨ 0 ≤ t 24 0 b)) (tw : ¬ (t 21 0 w ≠ 0 ∨ 0 ≤ t 24 0 w)) : JV (xAddCell x k a b r w n s) (zup (zup (zup (zup (zup (zup (zup (zup (zup t 26 0 (t 20 0 5) k) 27 0 (t 20 0 5) a) 28 0 (t 20 0 5) b) 29 0 (t 20 0 5) r) 30 0 (t 20 0 5) w) 31 0 (t 20 0 5) n) 32 0 (t 20 0 5) s) 24 0 w (t 20 0 5)) 20 0 5 (t 20 0 5 + 1)) q := by
  obtain ⟨ok1, ok2, ok3, ok4, ok5, ok6, ok7⟩ := ok
  have C10 := JV_c10 H ok2 ok5 ta tw
  obtain ⟨J, V, S⟩ := H
  have J0 := J
  have hI0 := V.1
  have n5 := V.1.1.1
  obtain ⟨⟨a1, a2, a3, a4, a5, a6⟩, jV, jT, jR, jS, jF, jM, jL, jK, jW⟩ := J
  obtain ⟨hI, hV, vC, hR, hN, hS, hT, hK, hO, hD, h1, h0⟩ := V
  obtain ⟨⟨i1, i2, i3, i4, i5, i6⟩, iv, ic, -, ir, ie, iw⟩ := hI
  obtain ⟨C, hC⟩ : ∃ C, C = t 20 0 5 := ⟨_, rfl⟩
  rw [← hC] at n5 C10 i1
  have hCx : x 0 0 9 = C := by rw [a2, hC]
  unfold xAddCell
  rw [← hC, hCx]
  obtain ⟨L, hL⟩ : ∃ L, L = zor (xLin x a) (if b = -1 then 0 else xLin x b) := ⟨_, rfl⟩
  rw [← hL]
  obtain ⟨X, hX⟩ : ∃ X, X = zup (zup (zup (zup (zup (zup (zup (zup (zup (zup x 9 C 0 k) 9 C 1 a) 9 C 2 b) 9 C 3 r) 9 C 4 w) 9 C 5 n) 9 C 6 s) 9 C 8 L) 3 0 w C) 0 0 9 (C + 1) := ⟨_, rfl⟩
  obtain ⟨U, hU⟩ : ∃ U, U = zup (zup (zup (zup (zup (zup (zup (zup (zup t 26 0 C k) 27 0 C a) 28 0 C b) 29 0 C r) 30 0 C w) 31 0 C n) 32 0 C s) 24 0 w C) 20 0 5 (C + 1) := ⟨_, rfl⟩
  rw [← hX, ← hU]
  have Xk : ∀ z : Nat, z ≠ 0 → z ≠ 3 → z ≠ 9 → X z = x z := fun z g1 g2 g3 => by
    rw [hX]
    funext i j
    simp only [zup_d, Nat.reduceEqDiff, Int.reduceEq, Int.reduceNeg, eq_self, false_and, and_false, true_and, and_true, and_self, if_false, if_true, iff_self, or_true, true_or, or_false, false_or, g1, g2, g3]
  have Uk : ∀ z : Nat, z ≠ 20 → z ≠ 24 → ¬ (26 ≤ z ∧ z ≤ 32) → U z = t z := fun z g1 g2 g3 => by
    rw [hU]
    funext i j
    simp only [zup_d]
    repeat rw [if_neg (by omega)]
  have X3 : ∀ v : Int, X 3 0 v = if v = w then C else x 3 0 v := fun v => by
    rw [hX]
    simp only [zup_d, Nat.reduceEqDiff, Int.reduceEq, Int.reduceNeg, eq_self, false_and, and_false, true_and, and_true, and_self, if_false, if_true, iff_self, or_true, true_or, or_false, false_or]
  have U24 : ∀ v : Int, U 24 0 v = if v = w then C else t 24 0 v := fun v => by
    rw [hU]
    simp only [zup_d, Nat.reduceEqDiff, Int.reduceEq, Int.reduceNeg, eq_self, false_and, and_false, true_and, and_true, and_self, if_false, if_true, iff_self, or_true, true_or, or_false, false_or]
  have X09 : X 0 0 9 = C + 1 := by
    rw [hX]
    simp only [zup_d, Nat.reduceEqDiff, Int.reduceEq, Int.reduceNeg, eq_self, false_and, and_false, true_and, and_true, and_self, if_false, if_true, iff_self, or_true, true_or, or_false, false_or]
  have X0 : ∀ j : Int, j ≠ 9 → X 0 0 j = x 0 0 j := fun j g => by
    rw [hX]
    simp only [zup_d, Nat.reduceEqDiff, Int.reduceEq, Int.reduceNeg, eq_self, false_and, and_false, true_and, and_true, and_self, if_false, if_true, iff_self, or_true, true_or, or_false, false_or, g]
  have U05 : U 20 0 5 = C + 1 := by
    rw [hU]
    simp only [zup_d, Nat.reduceEqDiff, Int.reduceEq, Int.reduceNeg, eq_self, false_and, and_false, true_and, and_true, and_self, if_false, if_true, iff_self, or_true, true_or, or_false, false_or]
  have U0 : ∀ j : Int, j ≠ 5 → U 20 0 j = t 20 0 j := fun j g => by
    rw [hU]
    simp only [zup_d, Nat.reduceEqDiff, Int.reduceEq, Int.reduceNeg, eq_self, false_and, and_false, true_and, and_true, and_self, if_false, if_true, iff_self, or_true, true_or, or_false, false_or, g]
  have X9 : ∀ c j : Int, c ≠ C → X 9 c j = x 9 c j := fun c j g => by
    rw [hX]
    simp only [zup_d, Nat.reduceEqDiff, Int.reduceEq, Int.reduceNeg, eq_self, false_and, and_false, true_and, and_true, and_self, if_false, if_true, iff_self, or_true, true_or, or_false, false_or, g]
  have X9C : X 9 C 0 = k ∧ X 9 C 1 = a ∧ X 9 C 2 = b ∧ X 9 C 3 = r ∧ X 9 C 4 = w ∧ X 9 C 5 = n ∧ X 9 C 6 = s ∧ X 9 C 8 = L := by
    rw [hX]
    simp only [zup_d, Nat.reduceEqDiff, Int.reduceEq, Int.reduceNeg, eq_self, false_and, and_false, true_and, and_true, and_self, if_false, if_true, iff_self, or_true, true_or, or_false, false_or]
  have X9r : ∀ c j : Int, j = 7 ∨ 9 ≤ j → X 9 c j = x 9 c j := fun c j g => by
    have z0 : ¬ j = 0 := by omega
    have z1 : ¬ j = 1 := by omega
    have z2 : ¬ j = 2 := by omega
    have z3 : ¬ j = 3 := by omega
    have z4 : ¬ j = 4 := by omega
    have z5 : ¬ j = 5 := by omega
    have z6 : ¬ j = 6 := by omega
    have z8 : ¬ j = 8 := by omega
    rw [hX]
    simp only [zup_d, Nat.reduceEqDiff, Int.reduceEq, Int.reduceNeg, eq_self, false_and, and_false, true_and, and_true, and_self, if_false, if_true, iff_self, or_true, true_or, or_false, false_or, z0, z1, z2, z3, z4, z5, z6, z8]
  have Uc : ∀ z : Nat, 26 ≤ z → z ≤ 32 → ∀ c : Int, c ≠ C → U z 0 c = t z 0 c := fun z g1 g2 c g => by
    have z0 : ¬ z = 20 := by omega
    have z1 : ¬ z = 24 := by omega
    rw [hU]
    simp only [zup_d, Nat.reduceEqDiff, Int.reduceEq, Int.reduceNeg, eq_self, false_and, and_false, true_and, and_true, and_self, if_false, if_true, iff_self, or_true, true_or, or_false, false_or, g, z0, z1]
  have UC : U 26 0 C = k ∧ U 27 0 C = a ∧ U 28 0 C = b ∧ U 29 0 C = r ∧ U 30 0 C = w ∧ U 31 0 C = n ∧ U 32 0 C = s := by
    rw [hU]
    simp only [zup_d, Nat.reduceEqDiff, Int.reduceEq, Int.reduceNeg, eq_self, false_and, and_false, true_and, and_true, and_self, if_false, if_true, iff_self, or_true, true_or, or_false, false_or]
  have x1 := Xk 1 (by decide) (by decide) (by decide)
  have x2 := Xk 2 (by decide) (by decide) (by decide)
  have x7 := Xk 7 (by decide) (by decide) (by decide)
  have x8 := Xk 8 (by decide) (by decide) (by decide)
  have x10 := Xk 10 (by decide) (by decide) (by decide)
  have x11 := Xk 11 (by decide) (by decide) (by decide)
  have x12 := Xk 12 (by decide) (by decide) (by decide)
  have x13 := Xk 13 (by decide) (by decide) (by decide)
  have x14 := Xk 14 (by decide) (by decide) (by decide)
  have x15 := Xk 15 (by decide) (by decide) (by decide)
  have x16 := Xk 16 (by decide) (by decide) (by decide)
  have x17 := Xk 17 (by decide) (by decide) (by decide)
  have u21 := Uk 21 (by decide) (by decide) (by decide)
  have u22 := Uk 22 (by decide) (by decide) (by decide)
  have u23 := Uk 23 (by decide) (by decide) (by decide)
  have u33 := Uk 33 (by decide) (by decide) (by decide)
  have u34 := Uk 34 (by decide) (by decide) (by decide)
  have u35 := Uk 35 (by decide) (by decide) (by decide)
  have u36 := Uk 36 (by decide) (by decide) (by decide)
  have u37 := Uk 37 (by decide) (by decide) (by decide)
  have u38 := Uk 38 (by decide) (by decide) (by decide)
  have u39 := Uk 39 (by decide) (by decide) (by decide)
  have u40 := Uk 40 (by decide) (by decide) (by decide)
  have u41 := Uk 41 (by decide) (by decide) (by decide)
  have u42 := Uk 42 (by decide) (by decide) (by decide)
  have u43 := Uk 43 (by decide) (by decide) (by decide)
  have u44 := Uk 44 (by decide) (by decide) (by decide)
  have u45 := Uk 45 (by decide) (by decide) (by decide)
  have u46 := Uk 46 (by decide) (by decide) (by decide)
  have u47 := Uk 47 (by decide) (by decide) (by decide)
  have u49 := Uk 49 (by decide) (by decide) (by decide)
  have u51 := Uk 51 (by decide) (by decide) (by decide)
  have u52 := Uk 52 (by decide) (by decide) (by decide)
  have u53 := Uk 53 (by decide) (by decide) (by decide)
  have u55 := Uk 55 (by decide) (by decide) (by decide)
  have u56 := Uk 56 (by decide) (by decide) (by decide)
  have e0 := U0 0 (by decide)
  have e28 := U0 28 (by decide)
  have e30 := U0 30 (by decide)
  have e34 := U0 34 (by decide)
  have e37 := U0 37 (by decide)
  have e38 := U0 38 (by decide)
  have e39 := U0 39 (by decide)
  have b24w := (iv w ok5.1 ok5.2).2.2.2
  -- a variable that is there is not w
  have nw : ∀ v : Int, (t 21 0 v ≠ 0 ∨ 0 ≤ t 24 0 v) → v ≠ w := fun v h p => tw (by rw [← p]; exact h)
  have U24n : ∀ v : Int, v ≠ w → U 24 0 v = t 24 0 v := fun v h => by rw [U24, if_neg h]
  have New := hN C (by omega) (by omega)
  have RunC := hR C (by omega) (by omega)
  have old : ∀ c : Int, 0 ≤ c → c < C + 1 → c ≠ C → c < t 20 0 5 := fun c g1 g2 g3 => by omega
  -- lineage
  have onk : ∀ v : Int, ∀ (m : Nat) (c : Int), 0 ≤ c → c < C → mOn U v m c = mOn t v m c := fun v => mOn_k hI0 hC tw U24n (Uc 27 (by decide) (by decide)) (Uc 28 (by decide) (by decide))
  have dw : ∀ c : Int, 0 ≤ c → c < t 20 0 5 → t 30 0 c ≠ w := fun c g1 g2 => nw _ (Or.inr (by have := (vC c g1 g2).1; omega))
  have mSmU : ∀ (p p' : Int → Bool) (m : Nat), (∀ j : Int, p j = p' j) → mSm U p m = mSm t p' m := fun p p' m h => mSm_l m (fun j _ _ => ⟨by rw [u52], h j⟩)
  have sOf : ∀ i : Int, mSm U (mOf U i) (U 20 0 30).toNat = mSm t (mOf t i) (t 20 0 30).toNat := fun i => by
    rw [e30]
    exact mSmU _ _ _ (fun j => by unfold mOf; rw [u51])
  have sEd : ∀ i e : Int, mSm U (mEd U i e) (U 20 0 30).toNat = mSm t (mEd t i e) (t 20 0 30).toNat := fun i e => by
    rw [e30]
    exact mSmU _ _ _ (fun j => by unfold mEd; rw [u51, u53])
  have da := mDf_a (t := t) (u := U) (v := w) (fun j e => ⟨by rw [u21], U24n j e⟩) tw (Or.inr (by rw [U24, if_pos rfl]; omega)) ok5.1 12
  rw [if_pos (by omega)] at da
  have db := mDf_b (t := U) 12
  refine ⟨⟨?_, ?_, ?_, ?_, ?_, ?_, ?_, ?_, ?_, ?_⟩, ⟨⟨?_, ?_, ?_, ?_, ?_, ?_, ?_⟩, ?_, ?_, ?_, ?_, ?_, ?_, ?_, ?_, ?_, ?_, ?_⟩, ?_⟩
  · refine ⟨?_, ?_, ?_, ?_, ?_, ?_⟩
    · rw [X0 8 (by decide), e0]; exact a1
    · rw [X09, U05]
    · rw [X0 10 (by decide), e28]; exact a3
    · rw [X0 11 (by decide), e34]; exact a4
    · rw [X0 12 (by decide), e37]; exact a5
    · rw [X0 13 (by decide), e38]; exact a6
  · intro v g1 g2
    have z := jV v g1 g2
    unfold jVar
    rw [x1, x2, X3, U24, u21, u22, u23]
    refine ⟨z.1, ?_, z.2.2⟩
    by_cases e : v = w
    · rw [if_pos e, if_pos e]
    · rw [if_neg e, if_neg e]; exact z.2.1
  · intro c g1 g2
    rw [U05] at g2
    unfold jTol
    by_cases e : c = C
    · rw [e, X9C.1, X9C.2.1, X9C.2.2.1, X9C.2.2.2.1, X9C.2.2.2.2.1, X9C.2.2.2.2.2.1, X9C.2.2.2.2.2.2.1, UC.1, UC.2.1, UC.2.2.1, UC.2.2.2.1, UC.2.2.2.2.1, UC.2.2.2.2.2.1, UC.2.2.2.2.2.2]
      exact ⟨rfl, rfl, rfl, rfl, rfl, rfl, rfl⟩
    · have z := jT c g1 (old c g1 g2 e)
      rw [X9 c 0 e, X9 c 1 e, X9 c 2 e, X9 c 3 e, X9 c 4 e, X9 c 5 e, X9 c 6 e, Uc 26 (by decide) (by decide) c e, Uc 27 (by decide) (by decide) c e, Uc 28 (by decide) (by decide) c e, Uc 29 (by decide) (by decide) c e, Uc 30 (by decide) (by decide) c e, Uc 31 (by decide) (by decide) c e, Uc 32 (by decide) (by decide) c e]
      exact z
  · intro c g1 g2
    have z := jR c g1 g2
    unfold jRun
    rw [X9r c 7 (by omega), X9r c 9 (by omega), X9r c 13 (by omega), X9r c 14 (by omega), u33, u34, u38, u39]
    exact z
  · intro c g1 g2
    rw [U05] at g2
    unfold jSaw
    rw [X9r c 10 (by omega), X9r c 11 (by omega), X9r c 12 (by omega), u34, u35, u36, u37]
    by_cases e : c = C
    · intro p
      rw [e, New.1] at p
      exact absurd p (by decide)
    · exact jS c g1 (old c g1 g2 e)
  · intro c g1 g2
    rw [U05] at g2
    unfold jFai
    rw [x10, u34, u40, u41, u42, u43]
    by_cases e : c = C
    · intro p
      rw [e, New.1] at p
      exact absurd p (by decide)
    · exact jF c g1 (old c g1 g2 e)
  · intro c g1 g2
    have z := jM c g1 g2
    unfold jMem
    rw [x11, x12, x13, x14, x15, u38, u44, u45, u46, u47]
    exact z
  · intro c g1 g2
    rw [U05] at g2
    unfold jLin
    by_cases e : c = C
    · rw [e, X9C.2.2.2.2.2.2.2, hL]
      have za := fun v (hv : 0 ≤ v ∧ v ≤ 11) => j_lin (v := v) J0 hI0 (by omega) ok2 hv
      have on : ∀ v : Int, mOn U v 11 C = true ↔ ((a = v ∨ (0 ≤ t 24 0 a ∧ mOn t v 10 (t 24 0 a) = true)) ∨ (0 ≤ b ∧ (b = v ∨ (0 ≤ t 24 0 b ∧ mOn t v 10 (t 24 0 b) = true)))) := fun v => by
        rw [mOn_s, UC.2.1, UC.2.2.1, U24n a (nw a ta)]
        have m := (iv a ok2.1 ok2.2).2.2.2
        have d1 : (0 ≤ t 24 0 a ∧ mOn U v 10 (t 24 0 a) = true) ↔ (0 ≤ t 24 0 a ∧ mOn t v 10 (t 24 0 a) = true) := by
          by_cases g : 0 ≤ t 24 0 a
          · rw [onk v 10 _ g (by omega)]
          · simp only [g, false_and]
        rw [d1]
        by_cases g : 0 ≤ b
        · have tb' := tb.resolve_left (by omega)
          have mb := (iv b g (by omega)).2.2.2
          rw [U24n b (nw b tb')]
          by_cases g2 : 0 ≤ t 24 0 b
          · rw [onk v 10 _ g2 (by omega)]
          · simp only [g2, false_and]
        · simp only [g, false_and]
      by_cases eb : b = -1
      · rw [if_pos eb]
        have zz := fun v (hv : 0 ≤ v ∧ v ≤ 11) => zor_two (a := xLin x a) (b := 0) (za v hv).1 ⟨by decide, by decide⟩ hv
        refine ⟨(zz 0 (by decide)).1, fun v g3 g4 => (zz v ⟨g3, g4⟩).2.trans ?_⟩
        rw [on, (za v ⟨g3, g4⟩).2]
        constructor
        · rintro (p | p)
          · exact Or.inl p
          · exact absurd p (zand_0 ⟨g3, g4⟩)
        · rintro (p | p)
          · exact Or.inl p
          · omega
      · have ok3' := ok3.resolve_left eb
        rw [if_neg eb]
        have zb := fun v (hv : 0 ≤ v ∧ v ≤ 11) => j_lin (v := v) J0 hI0 (by omega) ok3' hv
        have zz := fun v (hv : 0 ≤ v ∧ v ≤ 11) => zor_two (a := xLin x a) (b := xLin x b) (za v hv).1 (zb v hv).1 hv
        refine ⟨(zz 0 (by decide)).1, fun v g3 g4 => (zz v ⟨g3, g4⟩).2.trans ?_⟩
        rw [on, (za v ⟨g3, g4⟩).2, (zb v ⟨g3, g4⟩).2]
        constructor
        · rintro (p | p)
          · exact Or.inl p
          · exact Or.inr ⟨by omega, p⟩
        · rintro (p | p)
          · exact Or.inl p
          · exact Or.inr p.2
    · have z := jL c g1 (old c g1 g2 e)
      rw [X9 c 8 e]
      refine ⟨z.1, fun v g3 g4 => ?_⟩
      rw [onk v 11 c g1 (by omega)]
      exact z.2 v g3 g4
  · intro i g1 g2
    have z := jK i g1 g2
    unfold jKer
    rw [x16, x17, u49, sOf]
    refine ⟨z.1, z.2.1, fun e g3 g4 => ?_⟩
    rw [sEd]
    exact z.2.2 e g3 g4
  · intro i g1 g2
    rw [e34] at g2
    rw [x7, x8, u55, u56]
    exact jW i g1 g2
  · rw [U05, e28, e34, e37, e30, e0]
    exact ⟨by omega, i2, i3, i4, i5, i6⟩
  · intro v g1 g2
    have z := iv v g1 g2
    unfold mIv
    rw [u21, u22, u23, U24, U05]
    refine ⟨z.1, z.2.1, z.2.2.1, ?_⟩
    split <;> omega
  · intro c g1 g2
    rw [U05] at g2
    have rd : ∀ v : Int, (0 ≤ v ∧ v ≤ 11) → (t 21 0 v ≠ 0 ∨ 0 ≤ t 24 0 v) → (t 24 0 v < c) → mIr U c v := fun v p1 p2 p3 => by
      have z := (iv v p1.1 p1.2).1
      unfold mIr
      rw [u21, U24n v (nw v p2)]
      exact ⟨p1, by omega, p3⟩
    by_cases e : c = C
    · have mA := (iv a ok2.1 ok2.2).2.2.2
      have p1 : mIr U c a := rd a ok2 ta (by omega)
      have p2 : b = -1 ∨ mIr U c b := by
        by_cases eb : b = -1
        · exact Or.inl eb
        · have ok3' := ok3.resolve_left eb
          have mB := (iv b ok3'.1 ok3'.2).2.2.2
          exact Or.inr (rd b ok3' (tb.resolve_left eb) (by omega))
      rw [e] at p1 p2 ⊢
      unfold mIc
      rw [UC.1, UC.2.1, UC.2.2.1, UC.2.2.2.1, UC.2.2.2.2.1, UC.2.2.2.2.2.1, UC.2.2.2.2.2.2, u33, u34, u38, u39, u41, u42, u43]
      refine ⟨p1, p2, ok4, ok5, ok6, ok7, ?_, ?_, ?_, ?_, ?_, ?_, ?_, ok1⟩ <;> omega
    · have z := ic c g1 (old c g1 g2 e)
      have z1 := z.1
      have p1 : mIr U c (t 27 0 c) := rd _ z1.1 (by have := z1.2.1; omega) z1.2.2
      have p2 : t 28 0 c = -1 ∨ mIr U c (t 28 0 c) := z.2.1.imp id (fun g => rd _ g.1 (by have := g.2.1; omega) g.2.2)
      unfold mIc
      rw [Uc 26 (by decide) (by decide) c e, Uc 27 (by decide) (by decide) c e, Uc 28 (by decide) (by decide) c e, Uc 29 (by decide) (by decide) c e, Uc 30 (by decide) (by decide) c e, Uc 31 (by decide) (by decide) c e, Uc 32 (by decide) (by decide) c e, u33, u34, u38, u39, u41, u42, u43]
      exact ⟨p1, p2, z.2.2⟩
  · exact fun k _ _ => Or.inr trivial
  · intro i g1 g2
    rw [u49]
    exact ir i g1 g2
  · intro j g1 g2
    rw [e30] at g2
    rw [u51, u52, u53]
    exact ie j g1 g2
  · intro i g1 g2
    rw [e34] at g2
    have z := iw i g1 g2
    rw [u55, U05]
    omega
  · intro v g1 g2
    have z := hV v g1 g2
    unfold vVar
    rw [u21, U24]
    by_cases e : v = w
    · rw [if_pos e, e]
      exact ⟨fun p => absurd (Or.inl p) tw, fun _ => UC.2.2.2.2.1⟩
    · rw [if_neg e]
      refine ⟨z.1, fun p => ?_⟩
      have m := (iv v g1 g2).2.2.2
      rw [Uc 30 (by decide) (by decide) _ (by omega)]
      exact z.2 p
  · intro c g1 g2
    rw [U05] at g2
    unfold vCel
    by_cases e : c = C
    · rw [e, UC.2.2.2.2.1, U24, if_pos rfl, u21]
      exact ⟨rfl, by omega⟩
    · have z := vC c g1 (old c g1 g2 e)
      rw [Uc 30 (by decide) (by decide) c e, U24n _ (dw c g1 (old c g1 g2 e)), u21]
      exact z
  · intro c g1 g2
    have z := hR c g1 g2
    unfold vRun
    rw [u33, u34, u38, u39, u41, u42, u43]
    exact z
  · intro c g1 g2
    rw [U05] at g1
    have z := hN c (by omega) g2
    unfold vNew
    rw [u33, u34, u38, u39]
    exact z
  · intro c g1 g2
    rw [U05] at g2
    by_cases e : c = C
    · unfold vSaw vFai vMem
      rw [u34, u38, e, New.1]
      refine ⟨fun p => absurd p (by decide), fun p => absurd p (by decide), fun i p1 p2 p3 => ?_⟩
      rw [New.2.1] at p3
      omega
    · have z := hS c g1 (old c g1 g2 e)
      have fq : ∀ p1 p2 p3 : Int, mCq U c p1 p2 p3 = mCq t c p1 p2 p3 := fun p1 p2 p3 => mCq_f (Uc 26 (by decide) (by decide) c e) (Uc 28 (by decide) (by decide) c e)
      unfold vSaw vFai vMem mGood
      simp only [fq]
      rw [Uc 28 (by decide) (by decide) c e, Uc 30 (by decide) (by decide) c e, u23, u34, u35, u36, u37, u38, u40, u43, u44, u45, u46, u47]
      exact z
  · intro j g1 g2
    rw [e30] at g2
    have z := hT j g1 g2
    unfold vTak
    rw [u51, u52, u53, e37, e28]
    exact z
  · intro i g1 g2
    rw [sOf, u49, e28]
    exact hK i g1 g2
  · intro i g1 g2
    rw [e28] at g2
    rw [u49]
    exact hO i g1 g2
  · rw [da, e0, U05]
    omega
  · intro _
    rw [e0]
    exact C10.2
  · rw [e39]; exact h0
  · intro c g1 g2
    have z := S c g1 g2
    rw [x10, x15]
    exact z
