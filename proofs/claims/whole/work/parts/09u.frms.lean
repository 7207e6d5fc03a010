/-- what a run leaves alone, case by case -/
theorem mFrm_id {t : zSt} {c : Int} : mFrm t t c := ⟨fun _ _ _ => rfl, fun _ _ _ => rfl, fun _ _ => rfl, fun _ _ _ _ _ => rfl, fun _ _ _ _ _ => rfl⟩
theorem mFrm_tr {t u w : zSt} {c : Int} (h : mFrm t u c) (h2 : mFrm u w c) : mFrm t w c := by
  obtain ⟨a1, a2, a3, a4, a5⟩ := h
  obtain ⟨b1, b2, b3, b4, b5⟩ := h2
  have e := a2 30 (by decide) c
  refine ⟨fun j g1 g2 => by rw [b1 j g1 g2, a1 j g1 g2], fun k g j => by rw [b2 k g, a2 k g], fun j g => by rw [b3 j (by rw [e]; exact g), a3 j g], fun k g1 g2 j g => by rw [b4 k g1 g2 j g, a4 k g1 g2 j g], fun k g1 g2 j g => by rw [b5 k g1 g2 j g, a5 k g1 g2 j g]⟩
/-- one slot that a run may change -/
theorem mFrm_up {t u : zSt} {c : Int} {k : Nat} {j z : Int} (h : mFrm t u c) (hk : (k = 20 ∧ (j = 30 ∨ j = 38)) ∨ (k = 23 ∧ j = t 30 0 c) ∨ ((34 ≤ k ∧ k ≤ 43) ∧ j = c) ∨ ((44 ≤ k ∧ k ≤ 47) ∧ 4 * c ≤ j ∧ j ≤ 4 * c + 3) ∨ (k = 51 ∨ k = 52 ∨ k = 53)) : mFrm t (zup u k 0 j z) c := by
  obtain ⟨a1, a2, a3, a4, a5⟩ := h
  refine ⟨fun i g1 g2 => ?_, fun k' g i => ?_, fun i g => ?_, fun k' g1 g2 i g => ?_, fun k' g1 g2 i g => ?_⟩
  · simp only [zup_d]
    rw [if_neg (by omega)]
    exact a1 i g1 g2
  · simp only [zup_d]
    have g' := g
    unfold mKep at g'
    rw [if_neg (by omega)]
    exact a2 k' g i
  · simp only [zup_d]
    rw [if_neg (by omega)]
    exact a3 i g
  · simp only [zup_d]
    rw [if_neg (by omega)]
    exact a4 k' g1 g2 i g
  · simp only [zup_d]
    rw [if_neg (by omega)]
    exact a5 k' g1 g2 i g
