/-! a cell is added -/
theorem mOn_u {t : zSt} {v : Int} (hI : mI t) : ∀ (n m : Nat) (c : Int), 0 ≤ c → c < t 20 0 5 → c < n → c < m → mOn t v n c = mOn t v m c := by
  intro n
  induction n with
  | zero => intro m c h1 h2 h3 h4; omega
  | succ n ih =>
    intro m c h1 h2 h3 h4
    cases m with
    | zero => omega
    | succ m =>
      have w := hI.2.2.1 c h1 h2
      have e1 : 0 ≤ t 24 0 (t 27 0 c) → mOn t v n (t 24 0 (t 27 0 c)) = mOn t v m (t 24 0 (t 27 0 c)) := fun g => ih m _ g (by omega) (by omega) (by omega)
      have e2 : t 28 0 c ≠ -1 → 0 ≤ t 24 0 (t 28 0 c) → mOn t v n (t 24 0 (t 28 0 c)) = mOn t v m (t 24 0 (t 28 0 c)) := fun g0 g => ih m _ g (by omega) (by omega) (by omega)
      have d1 : (0 ≤ t 24 0 (t 27 0 c) ∧ mOn t v n (t 24 0 (t 27 0 c)) = true) ↔ (0 ≤ t 24 0 (t 27 0 c) ∧ mOn t v m (t 24 0 (t 27 0 c)) = true) := by
        by_cases g : 0 ≤ t 24 0 (t 27 0 c)
        · rw [e1 g]
        · simp only [g, false_and]
      have d2 : (0 ≤ t 28 0 c ∧ (t 28 0 c = v ∨ (0 ≤ t 24 0 (t 28 0 c) ∧ mOn t v n (t 24 0 (t 28 0 c)) = true))) ↔ (0 ≤ t 28 0 c ∧ (t 28 0 c = v ∨ (0 ≤ t 24 0 (t 28 0 c) ∧ mOn t v m (t 24 0 (t 28 0 c)) = true))) := by
        by_cases g : 0 ≤ t 28 0 c
        · by_cases g2 : 0 ≤ t 24 0 (t 28 0 c)
          · rw [e2 (by omega) g2]
          · simp only [g2, false_and]
        · simp only [g, false_and]
      have f : mOn t v (n + 1) c = true ↔ mOn t v (m + 1) c = true := by
        rw [mOn_s, mOn_s, d1, d2]
      exact Bool.eq_iff_iff.mpr f
/-- what a new cell leaves of the lineage of earlier ones -/
theorem mOn_k {t u : zSt} {v w C : Int} (hI : mI t) (hC : C = t 20 0 5) (hw : ¬ (t 21 0 w ≠ 0 ∨ 0 ≤ t 24 0 w)) (h24 : ∀ j : Int, j ≠ w → u 24 0 j = t 24 0 j) (h27 : ∀ c : Int, c ≠ C → u 27 0 c = t 27 0 c) (h28 : ∀ c : Int, c ≠ C → u 28 0 c = t 28 0 c) : ∀ (n : Nat) (c : Int), 0 ≤ c → c < C → mOn u v n c = mOn t v n c := by
  intro n
  induction n with
  | zero => intro c _ _; rfl
  | succ n ih =>
    intro c h1 h2
    have r := hI.2.2.1 c h1 (by omega)
    have n1 : t 27 0 c ≠ w := fun p => by
      have a := r.1.2.1
      rw [p] at a
      omega
    have n2 : t 28 0 c ≠ w ∨ t 28 0 c = -1 := by
      rcases r.2.1 with g | g
      · exact Or.inr g
      · refine Or.inl (fun p => ?_)
        have a := g.2.1
        rw [p] at a
        omega
    have e1 : 0 ≤ t 24 0 (t 27 0 c) → mOn u v n (t 24 0 (t 27 0 c)) = mOn t v n (t 24 0 (t 27 0 c)) := fun g => ih _ g (by omega)
    have d1 : (0 ≤ t 24 0 (t 27 0 c) ∧ mOn u v n (t 24 0 (t 27 0 c)) = true) ↔ (0 ≤ t 24 0 (t 27 0 c) ∧ mOn t v n (t 24 0 (t 27 0 c)) = true) := by
      by_cases g : 0 ≤ t 24 0 (t 27 0 c)
      · rw [e1 g]
      · simp only [g, false_and]
    have f : mOn u v (n + 1) c = true ↔ mOn t v (n + 1) c = true := by
      rw [mOn_s, mOn_s, h27 c (by omega), h28 c (by omega), h24 _ n1, d1]
      by_cases g : 0 ≤ t 28 0 c
      · have n2' : t 28 0 c ≠ w := n2.resolve_right (by omega)
        rw [h24 _ n2']
        by_cases g2 : 0 ≤ t 24 0 (t 28 0 c)
        · rw [ih _ g2 (by omega)]
        · simp only [g2, false_and]
      · simp only [g, false_and]
    exact Bool.eq_iff_iff.mpr f
theorem zshl_bits : ∀ a c : Fin 12, (zand (zshl 1 ((a : Nat) : Int)) (zshl 1 ((c : Nat) : Int)) ≠ 0 ↔ c = a) := by decide +kernel
theorem zshl_bs : ∀ a : Fin 12, 0 ≤ zshl 1 ((a : Nat) : Int) ∧ zshl 1 ((a : Nat) : Int) < 4096 := by decide +kernel
theorem zshl_bit {a c : Int} (ha : 0 ≤ a ∧ a ≤ 11) (hc : 0 ≤ c ∧ c ≤ 11) : (0 ≤ zshl 1 a ∧ zshl 1 a < 4096) ∧ (zand (zshl 1 a) (zshl 1 c) ≠ 0 ↔ c = a) := by
  have h := zshl_bits ⟨a.toNat, by omega⟩ ⟨c.toNat, by omega⟩
  have h1 : ((a.toNat : Nat) : Int) = a := by omega
  have h2 : ((c.toNat : Nat) : Int) = c := by omega
  simp only [h1, h2] at h
  have e := zshl_bs ⟨a.toNat, by omega⟩
  simp only [h1] at e
  refine ⟨e, h.trans ⟨fun p => ?_, fun p => ?_⟩⟩
  · have e2 : c.toNat = a.toNat := congrArg Fin.val p
    omega
  · subst p
    rfl
/-- the lineage through a variable -/
theorem j_lin {x t : zSt} {a v : Int} (J : J2 x t) (hI : mI t) (h10 : t 20 0 5 ≤ 10) (ha : 0 ≤ a ∧ a ≤ 11) (hv : 0 ≤ v ∧ v ≤ 11) : (0 ≤ xLin x a ∧ xLin x a < 4096) ∧ (zand (xLin x a) (zshl 1 v) ≠ 0 ↔ (a = v ∨ (0 ≤ t 24 0 a ∧ mOn t v 10 (t 24 0 a) = true))) := by
  have b := (J.2.1 a ha.1 ha.2).2.1
  have m := (hI.2.1 a ha.1 ha.2).2.2.2
  have n5 := hI.1.1
  have s := zshl_bit ha hv
  unfold xLin
  rw [b]
  by_cases g : t 24 0 a = -1
  · rw [if_pos g]
    have z := zor_two (a := zshl 1 a) (b := 0) s.1 ⟨by decide, by decide⟩ hv
    refine ⟨z.1, z.2.trans ?_⟩
    rw [s.2]
    constructor
    · rintro (p | p)
      · exact Or.inl p.symm
      · exact absurd p (zand_0 hv)
    · rintro (p | p)
      · exact Or.inl p.symm
      · omega
  · rw [if_neg g]
    have l := J.2.2.2.2.2.2.2.1 (t 24 0 a) (by omega) (by omega)
    have z := zor_two (a := zshl 1 a) (b := x 9 (t 24 0 a) 8) s.1 l.1 hv
    refine ⟨z.1, z.2.trans ?_⟩
    rw [s.2, l.2 v hv.1 hv.2, mOn_u hI 11 10 (t 24 0 a) (by omega) (by omega) (by omega) (by omega)]
    constructor
    · rintro (p | p)
      · exact Or.inl p.symm
      · exact Or.inr ⟨by omega, p⟩
    · rintro (p | p)
      · exact Or.inl p.symm
      · exact Or.inr p.2
theorem mDf_p {t : zSt} {a : Int} (h : t 21 0 a ≠ 0 ∨ 0 ≤ t 24 0 a) (h0 : 0 ≤ a) : ∀ n : Nat, a < n → 1 ≤ mDf t n := by
  intro n
  induction n with
  | zero => intro g; omega
  | succ n ih =>
    intro g
    have b := mDf_b (t := t) n
    simp only [mDf]
    by_cases e : (n : Int) = a
    · rw [e, if_pos h]
      omega
    · have := ih (by omega)
      split <;> omega
/-- there is room for a cell wherever one may be added -/
theorem JV_c10 {x t : zSt} {q a w : Int} (H : JV x t q) (ha : 0 ≤ a ∧ a ≤ 11) (hw : 0 ≤ w ∧ w ≤ 11) (h : t 21 0 a ≠ 0 ∨ 0 ≤ t 24 0 a) (hn : ¬ (t 21 0 w ≠ 0 ∨ 0 ≤ t 24 0 w)) : t 20 0 5 ≤ 10 ∧ 1 ≤ t 20 0 0 := by
  have V := H.2.1
  have n5 := V.1.1.1
  have n0 := V.1.1.2.2.2.2.2
  have hD := V.2.2.2.2.2.2.2.2.2.1
  have h1 := V.2.2.2.2.2.2.2.2.2.2.1
  have p := mDf_p h ha.1 12 (by omega)
  have da := mDf_a (t := t) (u := zup t 21 0 w 1) (v := w) (fun j e => by simp only [zup_d, Nat.reduceEqDiff, Int.reduceEq, Int.reduceNeg, eq_self, false_and, and_false, true_and, and_true, and_self, if_false, if_true, iff_self, or_true, true_or, or_false, false_or, e]) hn (Or.inl (by rw [zup_same]; decide)) hw.1 12
  have db := mDf_b (t := zup t 21 0 w 1) 12
  rw [if_pos (by omega)] at da
  omega
