theorem mFrm_do {t : zSt} {c : Int} (h38 : 0 ≤ t 38 0 c) : mFrm t (mDoS t c) c := by
  have F : ∀ r1 r2 r3 w : Int, mFrm t (mEndF (zup (zup (zup t 40 0 c r1) 41 0 c r2) 43 0 c r3) c w) c := fun r1 r2 r3 w => by
    unfold mEndF
    simp only [zup_d, Nat.reduceEqDiff, false_and, if_false]
    repeat first | exact mFrm_id | refine mFrm_up ?_ (by omega)
  unfold mDoS
  split
  · unfold mFailM mFalls
    split
    · exact F _ _ _ _
    · exact F _ _ _ _
  · split
    · exact F _ _ _ _
    · split
      · unfold mHas
        simp only [zup_d, Nat.reduceEqDiff, false_and, if_false]
        repeat first | exact mFrm_id | refine mFrm_up ?_ (by omega)
      · split
        · exact mFrm_id
        · unfold mHas mKeeps mTakes
          simp only [zup_d, Nat.reduceEqDiff, Int.reduceEq, false_and, and_false, if_false]
          repeat first | exact mFrm_id | refine mFrm_up ?_ (by omega)
