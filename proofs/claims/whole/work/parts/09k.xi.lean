theorem mSm_le {t : zSt} {p p' : Int → Bool} : ∀ n : Nat, (∀ j : Int, 0 ≤ j → j < n → 1 ≤ t 52 0 j ∧ (p j = true → p' j = true)) → mSm t p n ≤ mSm t p' n := by
  intro n
  induction n with
  | zero => intro _; exact Int.le_refl _
  | succ n ih =>
    intro h
    have h1 := h n (by omega) (by omega)
    have h2 := ih (fun j g1 g2 => h j g1 (by omega))
    simp only [mSm]
    by_cases g : p n = true
    · rw [if_pos g, if_pos (h1.2 g)]
      omega
    · rw [if_neg g]
      split <;> omega
/-- the class's bounds hold -/
theorem JV_xI {x t : zSt} {q : Int} (H : JV x t q) (hq : q ≤ 1000000) : xI x := by
  obtain ⟨J, V, S⟩ := H
  obtain ⟨⟨c1, c2, c3, c4, c5, c6⟩, jv, jt, jr, js, jf, jm, jl, jk, jw⟩ := J
  obtain ⟨hI, hV, hC, hR, hN, hS, hT, hK, hO, hD, h1, h0⟩ := V
  obtain ⟨⟨i1, i2, i3, i4, i5, i6⟩, iv, ic, -, ir, ie, iw⟩ := hI
  have nn : ∀ p : Int → Bool, 0 ≤ mSm t p (t 20 0 30).toNat := fun p => mSm_n _ (fun j g1 g2 => by have := hT j g1 (by omega); omega)
  have ub : ∀ k : Int, 0 ≤ k → k ≤ 2 → mSm t (mOf t k) (t 20 0 30).toNat ≤ 20 := by
    intro k g1 g2
    by_cases g : t 20 0 28 ≤ k
    · have e := mSm_0 (t := t) (p := mOf t k) (t 20 0 30).toNat (fun j g3 g4 => by
        have b := hT j g3 (by omega)
        exact decide_eq_false (by omega))
      omega
    · have r := ir k g1 g2
      have r2 := hK k g1 g2
      omega
  unfold xI
  refine ⟨by omega, by omega, by omega, by omega, ?_, ?_, ?_, ?_, ?_, ?_, ?_⟩
  · intro v g1 g2
    obtain ⟨b1, b2, b3, b4⟩ := jv v g1 g2
    have b := iv v g1 g2
    rw [b1, b2, c2]
    refine ⟨b.2.2.2, b.2.2.1, ?_⟩
    by_cases g : t 21 0 v = 0
    · rw [b3 g]; omega
    · rw [b4 g]; omega
  · intro c g1 g2
    rw [c2] at g2
    obtain ⟨e0, e1, e2, e3, e4, e5, e6⟩ := jt c g1 g2
    have b := ic c g1 g2
    have r := jr c g1 (by omega)
    have vr := hR c g1 (by omega)
    rw [e1, e2, e3, e4, e5, e6, r.1, r.2.1, r.2.2.1]
    refine ⟨?_, ?_, ?_, ?_, ?_, ?_, ?_, ?_, ?_⟩ <;> omega
  · intro c g1 g2
    rw [c2] at g2
    have s := S c g1 (by omega)
    exact ⟨s.1, s.2.1, s.2.2.1⟩
  · intro c g1 g2
    rw [c2] at g2
    have m := jm c g1 (by omega)
    have vr := hR c g1 (by omega)
    rw [m.1, m.2.1]
    refine ⟨?_, by omega⟩
    split <;> omega
  · intro k g1 g2
    have b := jk k g1 g2
    have r := ir k g1 g2
    have u := ub k g1 g2
    have z := nn (mOf t k)
    rw [b.1, b.2.1]
    exact ⟨r, z, u⟩
  · intro k e g1 g2 g3 g4
    have b := (jk k g1 g2).2.2 e g3 g4
    have u := ub k g1 g2
    have z := nn (mEd t k e)
    have l := mSm_le (t := t) (p := mEd t k e) (p' := mOf t k) (t 20 0 30).toNat (fun j g5 g6 => ⟨by have := hT j g5 (by omega); omega, fun g => decide_eq_true (of_decide_eq_true g).1⟩)
    rw [b]
    exact ⟨z, by omega⟩
  · intro c i g1 g2 g3 g4
    rw [c2] at g2
    exact (S c g1 (by omega)).2.2.2 i g3 g4
