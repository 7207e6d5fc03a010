/-! the start -/
def xS0 : zSt := fun k _ _ => if k = 1 ∨ k = 2 ∨ k = 3 then -1 else 0
def tS0 : zSt := fun k _ _ => if k = 23 ∨ k = 24 then -1 else if k = 34 then 110 else 0
theorem xS0_0 {k : Nat} {i j : Int} (h : ¬ (k = 1 ∨ k = 2 ∨ k = 3)) : xS0 k i j = 0 := if_neg h
theorem xS0_1 {k : Nat} {i j : Int} (h : k = 1 ∨ k = 2 ∨ k = 3) : xS0 k i j = -1 := if_pos h
theorem tS0_0 {k : Nat} {i j : Int} (h : ¬ (k = 23 ∨ k = 24)) (h2 : ¬ k = 34) : tS0 k i j = 0 := (if_neg h).trans (if_neg h2)
theorem tS0_1 {k : Nat} {i j : Int} (h : k = 23 ∨ k = 24) : tS0 k i j = -1 := if_pos h
theorem tS0_n {i j : Int} : tS0 34 i j = 110 := rfl
theorem JV_0 : JV xS0 tS0 0 := by
  have z20 : ∀ j : Int, tS0 20 0 j = 0 := fun j => tS0_0 (by decide) (by decide)
  have sm : ∀ p : Int → Bool, mSm tS0 p (tS0 20 0 30).toNat = 0 := fun p => by rw [z20]; rfl
  refine ⟨⟨?_, ?_, ?_, ?_, ?_, ?_, ?_, ?_, ?_, ?_⟩, ⟨⟨?_, ?_, ?_, ?_, ?_, ?_, ?_⟩, ?_, ?_, ?_, ?_, ?_, ?_, ?_, ?_, ?_, ?_, ?_⟩, ?_⟩
  · exact ⟨rfl, rfl, rfl, rfl, rfl, rfl⟩
  · intro v _ _
    exact ⟨rfl, rfl, fun _ => rfl, fun p => absurd rfl p⟩
  · intro c g1 g2
    rw [z20] at g2
    omega
  · intro c _ _
    refine ⟨rfl, rfl, rfl, ⟨fun _ => rfl, fun _ => rfl⟩, ⟨fun p => ?_, fun p => ?_⟩, ⟨fun p => ?_, fun p => ?_⟩, Or.inl rfl⟩
    · rw [xS0_0 (by decide)] at p
      omega
    · rw [tS0_n] at p
      omega
    · rw [xS0_0 (by decide)] at p
      omega
    · rw [tS0_n] at p
      omega
  · intro c g1 g2
    rw [z20] at g2
    omega
  · intro c g1 g2
    rw [z20] at g2
    omega
  · intro c _ _
    refine ⟨rfl, rfl, fun i g1 g2 => ?_⟩
    rw [xS0_0 (by decide)] at g2
    omega
  · intro c g1 g2
    rw [z20] at g2
    omega
  · intro k _ _
    exact ⟨rfl, (sm _).symm, fun e _ _ => (sm _).symm⟩
  · intro i g1 g2
    rw [z20] at g2
    omega
  · rw [z20, z20, z20, z20, z20, z20]
    decide
  · intro v _ _
    unfold mIv
    rw [tS0_0 (k := 21) (by decide) (by decide), tS0_0 (k := 22) (by decide) (by decide), tS0_1 (k := 23) (by decide), tS0_1 (k := 24) (by decide), z20]
    decide
  · intro c g1 g2
    rw [z20] at g2
    omega
  · exact fun k _ _ => Or.inr trivial
  · intro k _ _
    rw [tS0_0 (by decide) (by decide)]
    decide
  · intro j g1 g2
    rw [z20] at g2
    omega
  · intro i g1 g2
    rw [z20] at g2
    omega
  · intro v _ _
    refine ⟨fun p => absurd rfl p, fun p => ?_⟩
    rw [tS0_1 (k := 24) (by decide)] at p
    omega
  · intro c g1 g2
    rw [z20] at g2
    omega
  · intro c _ _
    unfold vRun
    rw [tS0_n, tS0_0 (k := 38) (by decide) (by decide), tS0_0 (k := 39) (by decide) (by decide), tS0_0 (k := 33) (by decide) (by decide), tS0_0 (k := 41) (by decide) (by decide), tS0_0 (k := 42) (by decide) (by decide), tS0_0 (k := 43) (by decide) (by decide)]
    decide
  · intro c _ _
    exact ⟨rfl, rfl, rfl, rfl⟩
  · intro c g1 g2
    rw [z20] at g2
    omega
  · intro j g1 g2
    rw [z20] at g2
    omega
  · intro k _ _
    rw [sm, tS0_0 (k := 49) (by decide) (by decide)]
    exact Or.inl (Int.le_refl 0)
  · intro k g1 g2
    rw [z20] at g2
    omega
  · decide +kernel
  · intro p
    rw [z20] at p
    omega
  · exact rfl
  · intro c _ _
    rw [xS0_0 (k := 10) (by decide), xS0_0 (k := 10) (by decide), xS0_0 (k := 10) (by decide)]
    refine ⟨by decide, by decide, by decide, fun i _ _ => ?_⟩
    rw [xS0_0 (k := 15) (by decide)]
    decide
