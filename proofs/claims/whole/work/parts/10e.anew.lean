/-! results anew: the class's row against the model's recursion -/
theorem mCmp_o {t : zSt} {c a b b' : Int} (h : t 28 0 c < 0) : mCmp t c a b = mCmp t c a b' := by
  unfold mCmp
  simp only [if_pos h]
theorem mAn_u {t : zSt} (hI : mI t) : ∀ (n m : Nat) (c : Int), 0 ≤ c → c < t 20 0 5 → c < n → c < m → mAn t n c = mAn t m c := by
  intro n
  induction n with
  | zero => intro m c h1 h2 h3 h4; omega
  | succ n ih =>
    intro m c h1 h2 h3 h4
    cases m with
    | zero => omega
    | succ m =>
      have w := hI.2.2.1 c h1 h2
      have key : ∀ v : Int, mIr t c v → mAo t n v = mAo t m v := fun v hv => by
        unfold mAo
        by_cases g : t 21 0 v ≠ 0
        · rw [if_pos g, if_pos g]
        · rw [if_neg g, if_neg g]
          exact ih m _ (by omega) (by omega) (by omega) (by omega)
      have e1 : mAo t n (t 27 0 c) = mAo t m (t 27 0 c) := key _ w.1
      have e2 : (if t 28 0 c < 0 then 0 else mAo t n (t 28 0 c)) = (if t 28 0 c < 0 then 0 else mAo t m (t 28 0 c)) := by
        by_cases g : t 28 0 c < 0
        · rw [if_pos g, if_pos g]
        · rw [if_neg g, if_neg g]
          exact key _ (w.2.1.resolve_left (by omega))
      rw [mAn_s, mAn_s, e1, e2]
def zNrm (a : Int) : Int := if a < 0 then -1 else a
/-- what a variable has, if all cells below n were run in order from the data -/
def mNv (t : zSt) (n v : Int) : Int := if t 21 0 v ≠ 0 then t 23 0 v else if 0 ≤ t 24 0 v ∧ t 24 0 v < n then zNrm (mAn t 11 (t 24 0 v)) else -1
theorem xC1_s {x : zSt} {n : Nat} : xC1 x (n + 1) = if xFm (xC1 x n) 4 n = -1 then zup (xC1 x n) 4 0 ((xC1 x n) 9 n 4) (xRes (xC1 x n) n ((xC1 x n) 4 0 ((xC1 x n) 9 n 1)) (xVa (xC1 x n) 4 ((xC1 x n) 9 n 2))) else xC1 x n := rfl
theorem xC0_v {x : zSt} {v : Int} : ∀ n : Nat, 0 ≤ v → v < n → (xC0 x n) 4 0 v = if x 2 0 v ≠ -1 then x 1 0 v else -1 := by
  intro n
  induction n with
  | zero => intro h1 h2; omega
  | succ n ih =>
    intro h1 h2
    simp only [xC0]
    by_cases e : v = n
    · rw [e]
      simp only [zup_d, Nat.reduceEqDiff, Int.reduceEq, Int.reduceNeg, eq_self, false_and, and_false, true_and, and_true, and_self, if_false, if_true, iff_self, or_true, true_or, or_false, false_or]
    · simp only [zup_d, Nat.reduceEqDiff, Int.reduceEq, Int.reduceNeg, eq_self, false_and, and_false, true_and, and_true, and_self, if_false, if_true, iff_self, or_true, true_or, or_false, false_or, e]
      exact ih h1 (by omega)
theorem xRes_c {x u : zSt} {c a b : Int} (h : u 9 = x 9) : xRes u c a b = xRes x c a b := by
  unfold xRes
  rw [h]
theorem j_cs {x t : zSt} {q : Int} (H : JV x t q) : ∀ n : Nat, (n : Int) ≤ t 20 0 5 → ∀ v : Int, 0 ≤ v → v ≤ 11 → (xC1 (xC0 x 12) n) 4 0 v = mNv t n v := by
  obtain ⟨J, V, S⟩ := H
  have hI := V.1
  have n5 := hI.1.1
  intro n
  induction n with
  | zero =>
    intro _ v g1 g2
    have b := J.2.1 v g1 g2
    have e := xC0_v (x := x) 12 g1 (by omega)
    show (xC0 x 12) 4 0 v = mNv t ((0 : Nat) : Int) v
    rw [e]
    unfold mNv
    by_cases g : t 21 0 v ≠ 0
    · have o := (hI.2.1 v g1 g2).2.1
      rw [if_pos g, b.1, if_pos (show x 2 0 v ≠ -1 by have := b.2.2.2 g; omega)]
    · rw [if_neg g, if_neg (show ¬ (0 ≤ t 24 0 v ∧ t 24 0 v < ((0 : Nat) : Int)) by omega), if_neg (show ¬ x 2 0 v ≠ -1 by have := b.2.2.1 (by omega); omega)]
  | succ n ih =>
    intro h v g1 g2
    have ih := ih (by omega)
    have hn : 0 ≤ (n : Int) ∧ (n : Int) < t 20 0 5 := by omega
    have w := hI.2.2.1 n hn.1 hn.2
    obtain ⟨e0, e1, e2, e3, e4, -⟩ := J.2.2.1 n hn.1 hn.2
    have vc := V.2.2.1 n hn.1 hn.2
    have vv := V.2.1 v g1 g2
    obtain ⟨u, hu⟩ : ∃ u, u = xC1 (xC0 x 12) n := ⟨_, rfl⟩
    have u9 : u 9 = x 9 := by
      rw [hu]
      funext i j
      rw [xC1_r (by decide), xC0_r (by decide)]
    rw [xC1_s, ← hu]
    rw [← hu] at ih
    rw [xRes_c u9, u9, e1, e2, e4]
    have row : ∀ z : Int, z = zNrm (mAn t 11 n) → zup u 4 0 (t 30 0 n) z 4 0 v = mNv t ((n + 1 : Nat) : Int) v := fun z hz => by
      by_cases g : v = t 30 0 n
      · rw [g, zup_same, hz]
        unfold mNv
        rw [if_neg (by omega), vc.1, if_pos (by omega)]
      · rw [zup_j g, ih v g1 g2]
        unfold mNv
        have g3 : 0 ≤ t 24 0 v → t 24 0 v ≠ n := fun p q => g (by
          have := vv.2 p
          rw [q] at this
          exact this.symm)
        by_cases g4 : t 21 0 v ≠ 0
        · rw [if_pos g4, if_pos g4]
        · rw [if_neg g4, if_neg g4]
          by_cases g5 : 0 ≤ t 24 0 v ∧ t 24 0 v < n
          · rw [if_pos g5, if_pos (by omega)]
          · rw [if_neg g5, if_neg (by omega)]
    have rd : ∀ a : Int, mIr t n a → u 4 0 a = zNrm (mAo t 10 a) := fun a ha => by
      rw [ih a ha.1.1 ha.1.2]
      have b := (hI.2.1 a ha.1.1 ha.1.2).2.2.1
      unfold mNv mAo zNrm
      by_cases g : t 21 0 a ≠ 0
      · rw [if_pos g, if_pos g]
        split <;> omega
      · rw [if_neg g, if_neg g, if_pos (show 0 ≤ t 24 0 a ∧ t 24 0 a < (n : Int) by omega), mAn_u hI 11 10 (t 24 0 a) (by omega) (by omega) (by omega) (by omega)]
    have r1 := rd _ w.1
    have r2 : t 28 0 n ≠ -1 → u 4 0 (t 28 0 n) = zNrm (mAo t 10 (t 28 0 n)) := fun g => rd _ (w.2.1.resolve_left g)
    have an : mAn t 11 n = if mAo t 10 (t 27 0 n) < 0 ∨ (if t 28 0 n < 0 then 0 else mAo t 10 (t 28 0 n)) < 0 then -1 else mCmp t n (mAo t 10 (t 27 0 n)) (if t 28 0 n < 0 then 0 else mAo t 10 (t 28 0 n)) := mAn_s
    clear rd
    generalize mAo t 10 (t 27 0 n) = A at r1 an
    generalize mAo t 10 (t 28 0 n) = B at r2 an
    have cb := fun a b : Int => mCmp_b (y := t) (c := n) (a := a) (b := b)
    have cn := fun (a b : Int) (p : mCmp t n a b = -1) => mCmp_nn (t := t) (c := n) (a := a) (b := b) p
    have tol := J.2.2.1 n hn.1 hn.2
    have k26 := w.2.2.2.2.2.2.2.2.2.2.2.2.2
    have r28 : -1 ≤ t 28 0 n := by
      rcases w.2.1 with g | g <;> omega
    have fm : xFm u 4 n = -1 ↔ ¬ (A < 0 ∨ (if t 28 0 n < 0 then 0 else B) < 0) := by
      unfold xFm
      rw [u9, e1, e2, r1]
      have q1 : zNrm (A) = -1 ↔ A < 0 := by
        unfold zNrm
        split <;> omega
      by_cases g : t 28 0 n = -1
      · rw [if_neg (fun p : t 28 0 n ≠ -1 ∧ u 4 0 (t 28 0 n) = -1 => p.1 g), if_pos (show t 28 0 n < 0 by omega)]
        by_cases g2 : zNrm (A) = -1
        · rw [if_pos g2]
          have := q1.mp g2
          constructor <;> intro p <;> omega
        · rw [if_neg g2]
          have : ¬ A < 0 := fun p => g2 (q1.mpr p)
          constructor <;> intro p <;> omega
      · rw [r2 g, if_neg (show ¬ t 28 0 n < 0 by omega)]
        have q2 : zNrm (B) = -1 ↔ B < 0 := by
          unfold zNrm
          split <;> omega
        by_cases g2 : zNrm (A) = -1
        · rw [if_pos g2]
          have := q1.mp g2
          constructor <;> intro p <;> omega
        · rw [if_neg g2]
          have z1 : ¬ A < 0 := fun p => g2 (q1.mpr p)
          by_cases g3 : zNrm (B) = -1
          · rw [if_pos ⟨g, g3⟩]
            have := q2.mp g3
            constructor <;> intro p <;> omega
          · rw [if_neg (fun p => g3 p.2)]
            have : ¬ B < 0 := fun p => g3 (q2.mpr p)
            constructor <;> intro p <;> omega
    by_cases f : xFm u 4 n = -1
    · rw [if_pos f]
      have f2 := fm.mp f
      refine row _ ?_
      rw [an, if_neg f2, r1]
      have z1 : zNrm (A) = A := by
        unfold zNrm
        rw [if_neg (by omega)]
      rw [z1]
      by_cases g : t 28 0 n = -1
      · have l : t 28 0 n < 0 := by omega
        have e5 : xVa u 4 (t 28 0 n) = -1 := by
          unfold xVa
          rw [if_pos g]
        rw [e5, j_res tol r28 k26, if_pos l, mCmp_o (b' := 0) l]
        have c1 := cb (A) 0
        have c2 := cn (A) 0
        unfold zNrm
        generalize mCmp t n (A) 0 = z at c1 c2 ⊢
        split <;> split <;> omega
      · have l : ¬ t 28 0 n < 0 := by omega
        have e5 : xVa u 4 (t 28 0 n) = B := by
          unfold xVa
          rw [if_neg g, r2 g]
          unfold zNrm
          rw [if_neg l] at f2
          rw [if_neg (by omega)]
        rw [e5, j_res tol r28 k26, if_neg l]
        have c1 := cb (A) (B)
        have c2 := cn (A) (B)
        unfold zNrm
        generalize mCmp t n (A) (B) = z at c1 c2 ⊢
        split <;> split <;> omega
    · rw [if_neg f]
      have f2 : A < 0 ∨ (if t 28 0 n < 0 then 0 else B) < 0 := Decidable.not_not.mp (fun p => f (fm.mpr p))
      have e5 : mAn t 11 n = -1 := by rw [an, if_pos f2]
      have e6 : u 4 0 (t 30 0 n) = -1 := by
        rw [ih _ w.2.2.2.1.1 w.2.2.2.1.2]
        unfold mNv
        rw [if_neg (by omega), vc.1, if_neg (by omega)]
      have e7 := row (u 4 0 (t 30 0 n)) (by rw [e6, e5]; rfl)
      rw [← e7]
      by_cases g : v = t 30 0 n
      · rw [g, zup_same]
      · rw [zup_j g]
