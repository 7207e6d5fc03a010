theorem mCod_cod {y : zSt} {a b : Int} : mCod (mCod y a) b = mCod y b := by
  funext k i j
  unfold mCod
  simp only [zup_d]
  split <;> rfl
theorem mRan_r {y : zSt} {p : Int} {k : Nat} {i j : Int} (h : ¬ (k = 20 ∧ j = 39)) : mCod y p k i j = y k i j := by
  by_cases hk : k = 20
  · subst hk
    exact mCod_j (fun q => h ⟨rfl, q⟩)
  · exact mCod_k hk
