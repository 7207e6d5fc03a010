/-- after a run, whether the run cell is fresh: what is seen is what was read -/
theorem xUp_fr {x t : zSt} {q : Int} {n : Nat} {S : Int} (J : J2 x t) (V : vI t q) (hn : (n : Int) < t 20 0 5) (hS : (0 ≤ S ∧ S < 2048) ∧ ∀ d : Int, 0 ≤ d → d ≤ 11 → (zand S (zshl 1 d) ≠ 0 ↔ (d < n ∧ mFr t 11 d = true))) :
    (0 ≤ (if xUp x n S then zor S (zshl 1 n) else S) ∧ (if xUp x n S then zor S (zshl 1 n) else S) < 2048) ∧ ∀ d : Int, 0 ≤ d → d ≤ 11 → (zand (if xUp x n S then zor S (zshl 1 n) else S) (zshl 1 d) ≠ 0 ↔ (d < ((n + 1 : Nat) : Int) ∧ mFr t 11 d = true)) := by
  have n5 := V.1.1.1
  obtain ⟨h1, h2⟩ := hS
  have u := j_up (c := n) J V ⟨by omega, by omega⟩ (S := S) (fun d g1 g2 => by rw [h2 d g1 (by omega)]; exact ⟨fun q => q.2, fun q => ⟨g2, q⟩⟩)
  by_cases g : xUp x n S
  · rw [if_pos g]
    refine ⟨zor_b h1 ⟨by omega, by omega⟩, fun d g1 g2 => ?_⟩
    rw [zor_bit ⟨h1.1, by omega⟩ ⟨by omega, by omega⟩ ⟨g1, g2⟩, h2 d g1 g2]
    constructor
    · rintro (⟨a1, a2⟩ | a)
      · exact ⟨by omega, a2⟩
      · rw [a]
        exact ⟨by omega, u.mp g⟩
    · rintro ⟨a1, a2⟩
      by_cases e : d = n
      · exact Or.inr e
      · exact Or.inl ⟨by omega, a2⟩
  · rw [if_neg g]
    refine ⟨h1, fun d g1 g2 => ?_⟩
    rw [h2 d g1 g2]
    constructor
    · rintro ⟨a1, a2⟩
      exact ⟨by omega, a2⟩
    · rintro ⟨a1, a2⟩
      refine ⟨?_, a2⟩
      by_cases e : d = n
      · exact absurd (u.mpr (by rw [← e]; exact a2)) g
      · omega
