/-! AGREEMENT, call by call, second part: what the class answers or throws, the model tells. -/
theorem s_addData {x W y2 : zSt} {vv : Option Value} {v o w q : Int} (H : JV x (mCod W 0) q) (g : (0 ≤ v ∧ v ≤ 11) ∧ (0 ≤ o ∧ o ≤ 3) ∧ (0 ≤ w ∧ w ≤ 999) ∧ ¬ (x 2 0 v ≠ -1 ∨ x 3 0 v ≠ -1)) (hm : ((¬ ((0 ≤ v ∧ v ≤ 11) ∧ (0 ≤ o ∧ o ≤ 3) ∧ (0 ≤ w ∧ w ≤ 999))) ∧ vv = some (zI (0)) ∧ y2 = mCod W 1) ∨ ((((0 ≤ v ∧ v ≤ 11) ∧ (0 ≤ o ∧ o ≤ 3) ∧ (0 ≤ w ∧ w ≤ 999)) ∧ mThere W v) ∧ vv = some (zI (0)) ∧ y2 = mCod W 2) ∨ ((((0 ≤ v ∧ v ≤ 11) ∧ (0 ≤ o ∧ o ≤ 3) ∧ (0 ≤ w ∧ w ≤ 999)) ∧ ¬ mThere W v) ∧ vv = some (zI (W 20 0 0 + 1)) ∧ y2 = zup (zup (zup (zup (mCod W 0) 21 0 v 1) 22 0 v o) 23 0 v w) 20 0 0 (W 20 0 0 + 1))) : vv = some (zI (x 0 0 8 + 1)) ∧ zGo (zup (zup (zup x 2 0 v o) 1 0 v w) 0 0 8 (x 0 0 8 + 1)) y2 W (q) 0 := by
  have C := jw_c H
  have b := jw_def H g.1
  rcases hm with ⟨c, e, y⟩ | ⟨c, e, y⟩ | ⟨c, e, y⟩
  · exfalso
    omega
  · exfalso
    omega
  · have Z := JV_add H g.1 g.2.1 g.2.2.1 (by rw [mCod_k (k := 21) (by decide), mCod_k (k := 24) (by decide)]; omega)
    rw [mCod_j (by decide)] at Z
    rw [C.1, e]
    refine ⟨rfl, z_fin (by rw [y]; exact Z) (by rw [y]; simp only [zup_d, Nat.reduceEqDiff, Int.reduceEq, Int.reduceNeg, eq_self, false_and, and_false, true_and, and_true, and_self, if_false, if_true, iff_self, or_true, true_or, or_false, false_or]; exact mCod_k (by decide)) (by rw [y]; simp only [zup_d, Nat.reduceEqDiff, Int.reduceEq, Int.reduceNeg, eq_self, false_and, and_false, true_and, and_true, and_self, if_false, if_true, iff_self, or_true, true_or, or_false, false_or]; exact mCod_k (by decide))⟩
theorem f_addData {x W y2 : zSt} {vv : Option Value} {k v o w q : Int} (H : JV x (mCod W 0) q) (g : (k = 1 ∧ ¬ ((0 ≤ v ∧ v ≤ 11) ∧ (0 ≤ o ∧ o ≤ 3) ∧ (0 ≤ w ∧ w ≤ 999))) ∨ (k = 2 ∧ ((0 ≤ v ∧ v ≤ 11) ∧ (0 ≤ o ∧ o ≤ 3) ∧ (0 ≤ w ∧ w ≤ 999)) ∧ (x 2 0 v ≠ -1 ∨ x 3 0 v ≠ -1))) (hm : ((¬ ((0 ≤ v ∧ v ≤ 11) ∧ (0 ≤ o ∧ o ≤ 3) ∧ (0 ≤ w ∧ w ≤ 999))) ∧ vv = some (zI (0)) ∧ y2 = mCod W 1) ∨ ((((0 ≤ v ∧ v ≤ 11) ∧ (0 ≤ o ∧ o ≤ 3) ∧ (0 ≤ w ∧ w ≤ 999)) ∧ mThere W v) ∧ vv = some (zI (0)) ∧ y2 = mCod W 2) ∨ ((((0 ≤ v ∧ v ≤ 11) ∧ (0 ≤ o ∧ o ≤ 3) ∧ (0 ≤ w ∧ w ≤ 999)) ∧ ¬ mThere W v) ∧ vv = some (zI (W 20 0 0 + 1)) ∧ y2 = zup (zup (zup (zup (mCod W 0) 21 0 v 1) 22 0 v o) 23 0 v w) 20 0 0 (W 20 0 0 + 1))) : (∃ b : Int, vv = some (zI b)) ∧ zGo x y2 W q k := by
  have C := jw_c H
  rcases g with ⟨rfl, g⟩ | ⟨rfl, g⟩
  · rcases hm with ⟨c, e, y⟩ | ⟨c, e, y⟩ | ⟨c, e, y⟩
    · rw [y, e]
      exact ⟨⟨_, rfl⟩, z_cod H⟩
    · exfalso
      omega
    · exfalso
      omega
  · have b := jw_def H g.1.1
    rcases hm with ⟨c, e, y⟩ | ⟨c, e, y⟩ | ⟨c, e, y⟩
    · exfalso
      omega
    · rw [y, e]
      exact ⟨⟨_, rfl⟩, z_cod H⟩
    · exfalso
      omega
theorem s_setData {x W y2 : zSt} {vv : Option Value} {v w q : Int} (H : JV x (mCod W 0) q) (g : (0 ≤ v ∧ v ≤ 11) ∧ (0 ≤ w ∧ w ≤ 999) ∧ x 2 0 v ≠ -1) (hm : ((¬ ((0 ≤ v ∧ v ≤ 11) ∧ (0 ≤ w ∧ w ≤ 999))) ∧ vv = some (zI (0)) ∧ y2 = mCod W 1) ∨ ((((0 ≤ v ∧ v ≤ 11) ∧ (0 ≤ w ∧ w ≤ 999)) ∧ W 21 0 v = 0) ∧ vv = some (zI (0)) ∧ y2 = mCod W 2) ∨ ((((0 ≤ v ∧ v ≤ 11) ∧ (0 ≤ w ∧ w ≤ 999)) ∧ W 21 0 v ≠ 0) ∧ vv = some (zI (W 23 0 v)) ∧ y2 = zup (mCod W 0) 23 0 v w)) : vv = some (zI (x 1 0 v)) ∧ zGo (zup x 1 0 v w) y2 W (q) 0 := by
  have C := jw_c H
  have b := jw_v H g.1
  rcases hm with ⟨c, e, y⟩ | ⟨c, e, y⟩ | ⟨c, e, y⟩
  · exfalso
    omega
  · exfalso
    omega
  · have Z := JV_set (w := w) H g.1 (by rw [mCod_k (k := 21) (by decide)]; exact c.2) (by omega)
    rw [b.1, e]
    refine ⟨rfl, z_fin (by rw [y]; exact Z) (by rw [y]; simp only [zup_d, Nat.reduceEqDiff, Int.reduceEq, Int.reduceNeg, eq_self, false_and, and_false, true_and, and_true, and_self, if_false, if_true, iff_self, or_true, true_or, or_false, false_or]; exact mCod_k (by decide)) (by rw [y]; simp only [zup_d, Nat.reduceEqDiff, Int.reduceEq, Int.reduceNeg, eq_self, false_and, and_false, true_and, and_true, and_self, if_false, if_true, iff_self, or_true, true_or, or_false, false_or]; exact mCod_k (by decide))⟩
theorem f_setData {x W y2 : zSt} {vv : Option Value} {k v w q : Int} (H : JV x (mCod W 0) q) (g : (k = 1 ∧ ¬ ((0 ≤ v ∧ v ≤ 11) ∧ (0 ≤ w ∧ w ≤ 999))) ∨ (k = 2 ∧ ((0 ≤ v ∧ v ≤ 11) ∧ (0 ≤ w ∧ w ≤ 999)) ∧ ¬ x 2 0 v ≠ -1)) (hm : ((¬ ((0 ≤ v ∧ v ≤ 11) ∧ (0 ≤ w ∧ w ≤ 999))) ∧ vv = some (zI (0)) ∧ y2 = mCod W 1) ∨ ((((0 ≤ v ∧ v ≤ 11) ∧ (0 ≤ w ∧ w ≤ 999)) ∧ W 21 0 v = 0) ∧ vv = some (zI (0)) ∧ y2 = mCod W 2) ∨ ((((0 ≤ v ∧ v ≤ 11) ∧ (0 ≤ w ∧ w ≤ 999)) ∧ W 21 0 v ≠ 0) ∧ vv = some (zI (W 23 0 v)) ∧ y2 = zup (mCod W 0) 23 0 v w)) : (∃ b : Int, vv = some (zI b)) ∧ zGo x y2 W q k := by
  have C := jw_c H
  rcases g with ⟨rfl, g⟩ | ⟨rfl, g⟩
  · rcases hm with ⟨c, e, y⟩ | ⟨c, e, y⟩ | ⟨c, e, y⟩
    · rw [y, e]
      exact ⟨⟨_, rfl⟩, z_cod H⟩
    · exfalso
      omega
    · exfalso
      omega
  · have b := jw_v H g.1.1
    rcases hm with ⟨c, e, y⟩ | ⟨c, e, y⟩ | ⟨c, e, y⟩
    · exfalso
      omega
    · rw [y, e]
      exact ⟨⟨_, rfl⟩, z_cod H⟩
    · exfalso
      omega
theorem s_loseData {x W y2 : zSt} {vv : Option Value} {v q : Int} (H : JV x (mCod W 0) q) (g : (0 ≤ v ∧ v ≤ 11) ∧ x 2 0 v ≠ -1 ∧ x 1 0 v ≠ -1) (hm : ((¬ (0 ≤ v ∧ v ≤ 11)) ∧ vv = some (zI (0)) ∧ y2 = mCod W 1) ∨ (((0 ≤ v ∧ v ≤ 11) ∧ W 21 0 v = 0) ∧ vv = some (zI (0)) ∧ y2 = mCod W 2) ∨ (((0 ≤ v ∧ v ≤ 11) ∧ W 21 0 v ≠ 0 ∧ W 23 0 v < 0) ∧ vv = some (zI (0)) ∧ y2 = mCod W 3) ∨ (((0 ≤ v ∧ v ≤ 11) ∧ W 21 0 v ≠ 0 ∧ ¬ W 23 0 v < 0) ∧ vv = some (zI (W 23 0 v)) ∧ y2 = zup (mCod W 0) 23 0 v (-1))) : vv = some (zI (x 1 0 v)) ∧ zGo (zup x 1 0 v (-1)) y2 W (q) 0 := by
  have C := jw_c H
  have b := jw_v H g.1
  rcases hm with ⟨c, e, y⟩ | ⟨c, e, y⟩ | ⟨c, e, y⟩ | ⟨c, e, y⟩
  · exfalso
    omega
  · exfalso
    omega
  · exfalso
    omega
  · have Z := JV_set (w := -1) H g.1 (by rw [mCod_k (k := 21) (by decide)]; exact c.2.1) (by omega)
    rw [b.1, e]
    refine ⟨rfl, z_fin (by rw [y]; exact Z) (by rw [y]; simp only [zup_d, Nat.reduceEqDiff, Int.reduceEq, Int.reduceNeg, eq_self, false_and, and_false, true_and, and_true, and_self, if_false, if_true, iff_self, or_true, true_or, or_false, false_or]; exact mCod_k (by decide)) (by rw [y]; simp only [zup_d, Nat.reduceEqDiff, Int.reduceEq, Int.reduceNeg, eq_self, false_and, and_false, true_and, and_true, and_self, if_false, if_true, iff_self, or_true, true_or, or_false, false_or]; exact mCod_k (by decide))⟩
theorem f_loseData {x W y2 : zSt} {vv : Option Value} {k v q : Int} (H : JV x (mCod W 0) q) (g : (k = 1 ∧ ¬ (0 ≤ v ∧ v ≤ 11)) ∨ (k = 2 ∧ (0 ≤ v ∧ v ≤ 11) ∧ ¬ x 2 0 v ≠ -1) ∨ (k = 3 ∧ (0 ≤ v ∧ v ≤ 11) ∧ x 2 0 v ≠ -1 ∧ x 1 0 v = -1)) (hm : ((¬ (0 ≤ v ∧ v ≤ 11)) ∧ vv = some (zI (0)) ∧ y2 = mCod W 1) ∨ (((0 ≤ v ∧ v ≤ 11) ∧ W 21 0 v = 0) ∧ vv = some (zI (0)) ∧ y2 = mCod W 2) ∨ (((0 ≤ v ∧ v ≤ 11) ∧ W 21 0 v ≠ 0 ∧ W 23 0 v < 0) ∧ vv = some (zI (0)) ∧ y2 = mCod W 3) ∨ (((0 ≤ v ∧ v ≤ 11) ∧ W 21 0 v ≠ 0 ∧ ¬ W 23 0 v < 0) ∧ vv = some (zI (W 23 0 v)) ∧ y2 = zup (mCod W 0) 23 0 v (-1))) : (∃ b : Int, vv = some (zI b)) ∧ zGo x y2 W q k := by
  have C := jw_c H
  rcases g with ⟨rfl, g⟩ | ⟨rfl, g⟩ | ⟨rfl, g⟩
  · rcases hm with ⟨c, e, y⟩ | ⟨c, e, y⟩ | ⟨c, e, y⟩ | ⟨c, e, y⟩
    · rw [y, e]
      exact ⟨⟨_, rfl⟩, z_cod H⟩
    · exfalso
      omega
    · exfalso
      omega
    · exfalso
      omega
  · have b := jw_v H g.1
    rcases hm with ⟨c, e, y⟩ | ⟨c, e, y⟩ | ⟨c, e, y⟩ | ⟨c, e, y⟩
    · exfalso
      omega
    · rw [y, e]
      exact ⟨⟨_, rfl⟩, z_cod H⟩
    · exfalso
      omega
    · exfalso
      omega
  · have b := jw_v H g.1
    rcases hm with ⟨c, e, y⟩ | ⟨c, e, y⟩ | ⟨c, e, y⟩ | ⟨c, e, y⟩
    · exfalso
      omega
    · exfalso
      omega
    · rw [y, e]
      exact ⟨⟨_, rfl⟩, z_cod H⟩
    · exfalso
      omega
theorem s_value {x W y2 : zSt} {vv : Option Value} {v q : Int} (H : JV x (mCod W 0) q) (g : (0 ≤ v ∧ v ≤ 11) ∧ x 1 0 v ≠ -1) (hm : ((¬ (0 ≤ v ∧ v ≤ 11)) ∧ vv = some (zI (0)) ∧ y2 = mCod W 1) ∨ (((0 ≤ v ∧ v ≤ 11) ∧ W 23 0 v < 0) ∧ vv = some (zI (0)) ∧ y2 = mCod W 2) ∨ (((0 ≤ v ∧ v ≤ 11) ∧ ¬ W 23 0 v < 0) ∧ vv = some (zI (W 23 0 v)) ∧ y2 = mCod W 0)) : vv = some (zI (x 1 0 v)) ∧ zGo (x) y2 W (q) 0 := by
  have C := jw_c H
  have b := jw_v H g.1
  rcases hm with ⟨c, e, y⟩ | ⟨c, e, y⟩ | ⟨c, e, y⟩
  · exfalso
    omega
  · exfalso
    omega
  · rw [b.1, e, y]
    exact ⟨rfl, z_cod H⟩
theorem f_value {x W y2 : zSt} {vv : Option Value} {k v q : Int} (H : JV x (mCod W 0) q) (g : (k = 1 ∧ ¬ (0 ≤ v ∧ v ≤ 11)) ∨ (k = 2 ∧ (0 ≤ v ∧ v ≤ 11) ∧ x 1 0 v = -1)) (hm : ((¬ (0 ≤ v ∧ v ≤ 11)) ∧ vv = some (zI (0)) ∧ y2 = mCod W 1) ∨ (((0 ≤ v ∧ v ≤ 11) ∧ W 23 0 v < 0) ∧ vv = some (zI (0)) ∧ y2 = mCod W 2) ∨ (((0 ≤ v ∧ v ≤ 11) ∧ ¬ W 23 0 v < 0) ∧ vv = some (zI (W 23 0 v)) ∧ y2 = mCod W 0)) : (∃ b : Int, vv = some (zI b)) ∧ zGo x y2 W q k := by
  have C := jw_c H
  rcases g with ⟨rfl, g⟩ | ⟨rfl, g⟩
  · rcases hm with ⟨c, e, y⟩ | ⟨c, e, y⟩ | ⟨c, e, y⟩
    · rw [y, e]
      exact ⟨⟨_, rfl⟩, z_cod H⟩
    · exfalso
      omega
    · exfalso
      omega
  · have b := jw_v H g.1
    rcases hm with ⟨c, e, y⟩ | ⟨c, e, y⟩ | ⟨c, e, y⟩
    · exfalso
      omega
    · rw [y, e]
      exact ⟨⟨_, rfl⟩, z_cod H⟩
    · exfalso
      omega
theorem s_writer {x W y2 : zSt} {vv : Option Value} {v q : Int} (H : JV x (mCod W 0) q) (g : (0 ≤ v ∧ v ≤ 11) ∧ x 3 0 v ≠ -1) (hm : ((¬ (0 ≤ v ∧ v ≤ 11)) ∧ vv = some (zI (0)) ∧ y2 = mCod W 1) ∨ (((0 ≤ v ∧ v ≤ 11) ∧ W 24 0 v < 0) ∧ vv = some (zI (0)) ∧ y2 = mCod W 2) ∨ (((0 ≤ v ∧ v ≤ 11) ∧ ¬ W 24 0 v < 0) ∧ vv = some (zI (W 24 0 v)) ∧ y2 = mCod W 0)) : vv = some (zI (x 3 0 v)) ∧ zGo (x) y2 W (q) 0 := by
  have C := jw_c H
  have b := jw_v H g.1
  rcases hm with ⟨c, e, y⟩ | ⟨c, e, y⟩ | ⟨c, e, y⟩
  · exfalso
    omega
  · exfalso
    omega
  · rw [b.2.1, e, y]
    exact ⟨rfl, z_cod H⟩
theorem f_writer {x W y2 : zSt} {vv : Option Value} {k v q : Int} (H : JV x (mCod W 0) q) (g : (k = 1 ∧ ¬ (0 ≤ v ∧ v ≤ 11)) ∨ (k = 2 ∧ (0 ≤ v ∧ v ≤ 11) ∧ x 3 0 v = -1)) (hm : ((¬ (0 ≤ v ∧ v ≤ 11)) ∧ vv = some (zI (0)) ∧ y2 = mCod W 1) ∨ (((0 ≤ v ∧ v ≤ 11) ∧ W 24 0 v < 0) ∧ vv = some (zI (0)) ∧ y2 = mCod W 2) ∨ (((0 ≤ v ∧ v ≤ 11) ∧ ¬ W 24 0 v < 0) ∧ vv = some (zI (W 24 0 v)) ∧ y2 = mCod W 0)) : (∃ b : Int, vv = some (zI b)) ∧ zGo x y2 W q k := by
  have C := jw_c H
  rcases g with ⟨rfl, g⟩ | ⟨rfl, g⟩
  · rcases hm with ⟨c, e, y⟩ | ⟨c, e, y⟩ | ⟨c, e, y⟩
    · rw [y, e]
      exact ⟨⟨_, rfl⟩, z_cod H⟩
    · exfalso
      omega
    · exfalso
      omega
  · have b := jw_v H g.1
    rcases hm with ⟨c, e, y⟩ | ⟨c, e, y⟩ | ⟨c, e, y⟩
    · exfalso
      omega
    · rw [y, e]
      exact ⟨⟨_, rfl⟩, z_cod H⟩
    · exfalso
      omega
theorem s_setConstant {x W y2 : zSt} {vv : Option Value} {u w q : Int} (H : JV x (mCod W 0) q) (g : (0 ≤ u ∧ u ≤ x 0 0 9 - 1) ∧ (0 ≤ w ∧ w ≤ 99)) (hm : ((¬ (0 ≤ u ∧ u ≤ W 20 0 5 - 1)) ∧ vv = some (zI (0)) ∧ y2 = mCod W 1) ∨ (((0 ≤ u ∧ u ≤ W 20 0 5 - 1) ∧ ¬ (0 ≤ w ∧ w ≤ 99)) ∧ vv = some (zI (0)) ∧ y2 = mCod W 2) ∨ (((0 ≤ u ∧ u ≤ W 20 0 5 - 1) ∧ (0 ≤ w ∧ w ≤ 99)) ∧ vv = some (zI (W 29 0 u)) ∧ y2 = zup (mCod W 0) 29 0 u w)) : vv = some (zI (x 9 u 3)) ∧ zGo (zup x 9 u 3 w) y2 W (q) 0 := by
  have C := jw_c H
  have b := jw_t H (c := u) (by omega)
  rcases hm with ⟨c, e, y⟩ | ⟨c, e, y⟩ | ⟨c, e, y⟩
  · exfalso
    omega
  · exfalso
    omega
  · have Z := JV_con (w := w) H (c := u) (by rw [mCod_j (by decide)]; omega) (by omega)
    rw [b.2.2.2.1, e]
    refine ⟨rfl, z_fin (by rw [y]; exact Z) (by rw [y]; simp only [zup_d, Nat.reduceEqDiff, Int.reduceEq, Int.reduceNeg, eq_self, false_and, and_false, true_and, and_true, and_self, if_false, if_true, iff_self, or_true, true_or, or_false, false_or]; exact mCod_k (by decide)) (by rw [y]; simp only [zup_d, Nat.reduceEqDiff, Int.reduceEq, Int.reduceNeg, eq_self, false_and, and_false, true_and, and_true, and_self, if_false, if_true, iff_self, or_true, true_or, or_false, false_or]; exact mCod_k (by decide))⟩
theorem f_setConstant {x W y2 : zSt} {vv : Option Value} {k u w q : Int} (H : JV x (mCod W 0) q) (g : (k = 1 ∧ ¬ (0 ≤ u ∧ u ≤ x 0 0 9 - 1)) ∨ (k = 2 ∧ (0 ≤ u ∧ u ≤ x 0 0 9 - 1) ∧ ¬ (0 ≤ w ∧ w ≤ 99))) (hm : ((¬ (0 ≤ u ∧ u ≤ W 20 0 5 - 1)) ∧ vv = some (zI (0)) ∧ y2 = mCod W 1) ∨ (((0 ≤ u ∧ u ≤ W 20 0 5 - 1) ∧ ¬ (0 ≤ w ∧ w ≤ 99)) ∧ vv = some (zI (0)) ∧ y2 = mCod W 2) ∨ (((0 ≤ u ∧ u ≤ W 20 0 5 - 1) ∧ (0 ≤ w ∧ w ≤ 99)) ∧ vv = some (zI (W 29 0 u)) ∧ y2 = zup (mCod W 0) 29 0 u w)) : (∃ b : Int, vv = some (zI b)) ∧ zGo x y2 W q k := by
  have C := jw_c H
  rcases g with ⟨rfl, g⟩ | ⟨rfl, g⟩
  · rcases hm with ⟨c, e, y⟩ | ⟨c, e, y⟩ | ⟨c, e, y⟩
    · rw [y, e]
      exact ⟨⟨_, rfl⟩, z_cod H⟩
    · exfalso
      omega
    · exfalso
      omega
  · rcases hm with ⟨c, e, y⟩ | ⟨c, e, y⟩ | ⟨c, e, y⟩
    · exfalso
      omega
    · rw [y, e]
      exact ⟨⟨_, rfl⟩, z_cod H⟩
    · exfalso
      omega
theorem s_schedule {x W y2 : zSt} {vv : Option Value} {u w q : Int} (H : JV x (mCod W 0) q) (g : (0 ≤ u ∧ u ≤ x 0 0 9 - 1) ∧ (0 ≤ w ∧ w ≤ 50)) (hm : ((¬ (0 ≤ u ∧ u ≤ W 20 0 5 - 1)) ∧ vv = some (zI (0)) ∧ y2 = mCod W 1) ∨ (((0 ≤ u ∧ u ≤ W 20 0 5 - 1) ∧ ¬ (0 ≤ w ∧ w ≤ 50)) ∧ vv = some (zI (0)) ∧ y2 = mCod W 2) ∨ (((0 ≤ u ∧ u ≤ W 20 0 5 - 1) ∧ (0 ≤ w ∧ w ≤ 50)) ∧ vv = some (zI (W 33 0 u)) ∧ y2 = zup (mCod W 0) 33 0 u w)) : vv = some (zI (x 9 u 7)) ∧ zGo (zup x 9 u 7 w) y2 W (q) 0 := by
  have C := jw_c H
  have b := jw_r H (c := u) (by omega)
  rcases hm with ⟨c, e, y⟩ | ⟨c, e, y⟩ | ⟨c, e, y⟩
  · exfalso
    omega
  · exfalso
    omega
  · have Z := JV_sch (w := w) H (c := u) (by rw [mCod_j (by decide)]; omega) (by omega)
    rw [b.1, e]
    refine ⟨rfl, z_fin (by rw [y]; exact Z) (by rw [y]; simp only [zup_d, Nat.reduceEqDiff, Int.reduceEq, Int.reduceNeg, eq_self, false_and, and_false, true_and, and_true, and_self, if_false, if_true, iff_self, or_true, true_or, or_false, false_or]; exact mCod_k (by decide)) (by rw [y]; simp only [zup_d, Nat.reduceEqDiff, Int.reduceEq, Int.reduceNeg, eq_self, false_and, and_false, true_and, and_true, and_self, if_false, if_true, iff_self, or_true, true_or, or_false, false_or]; exact mCod_k (by decide))⟩
theorem f_schedule {x W y2 : zSt} {vv : Option Value} {k u w q : Int} (H : JV x (mCod W 0) q) (g : (k = 1 ∧ ¬ (0 ≤ u ∧ u ≤ x 0 0 9 - 1)) ∨ (k = 2 ∧ (0 ≤ u ∧ u ≤ x 0 0 9 - 1) ∧ ¬ (0 ≤ w ∧ w ≤ 50))) (hm : ((¬ (0 ≤ u ∧ u ≤ W 20 0 5 - 1)) ∧ vv = some (zI (0)) ∧ y2 = mCod W 1) ∨ (((0 ≤ u ∧ u ≤ W 20 0 5 - 1) ∧ ¬ (0 ≤ w ∧ w ≤ 50)) ∧ vv = some (zI (0)) ∧ y2 = mCod W 2) ∨ (((0 ≤ u ∧ u ≤ W 20 0 5 - 1) ∧ (0 ≤ w ∧ w ≤ 50)) ∧ vv = some (zI (W 33 0 u)) ∧ y2 = zup (mCod W 0) 33 0 u w)) : (∃ b : Int, vv = some (zI b)) ∧ zGo x y2 W q k := by
  have C := jw_c H
  rcases g with ⟨rfl, g⟩ | ⟨rfl, g⟩
  · rcases hm with ⟨c, e, y⟩ | ⟨c, e, y⟩ | ⟨c, e, y⟩
    · rw [y, e]
      exact ⟨⟨_, rfl⟩, z_cod H⟩
    · exfalso
      omega
    · exfalso
      omega
  · rcases hm with ⟨c, e, y⟩ | ⟨c, e, y⟩ | ⟨c, e, y⟩
    · exfalso
      omega
    · rw [y, e]
      exact ⟨⟨_, rfl⟩, z_cod H⟩
    · exfalso
      omega
theorem s_run {x W y2 : zSt} {vv : Option Value} {u q : Int} (H : JV x (mCod W 0) q) (g : (0 ≤ u ∧ u ≤ x 0 0 9 - 1) ∧ q < 1000000) (hm : ((¬ (0 ≤ u ∧ u ≤ W 20 0 5 - 1)) ∧ vv = some (zI (97)) ∧ y2 = mCod W 1) ∨ (((0 ≤ u ∧ u ≤ W 20 0 5 - 1)) ∧ vv = some (zI (mDoR (mCod W 0) u)) ∧ y2 = mDoS (mCod W 0) u)) : vv = some (zI (xExeR x u)) ∧ zGo (xExeS x u) y2 W (q + 1) 0 := by
  have C := jw_c H
  have e5 : (mCod W 0) 20 0 5 = W 20 0 5 := mCod_j (by decide)
  have hc : 0 ≤ u ∧ u < (mCod W 0) 20 0 5 := by omega
  rcases hm with ⟨c, e, y⟩ | ⟨c, e, y⟩
  · exfalso
    omega
  · rw [e, j_exeR H.1 H.2.1 hc]
    refine ⟨rfl, z_fin (by rw [y]; exact JV_ex H g.2 hc) (by rw [y, mDoS_o (by decide)]; exact mCod_k (by decide)) (by rw [y, mDoS_o (by decide)]; exact mCod_k (by decide))⟩
theorem f_run {x W y2 : zSt} {vv : Option Value} {k u q : Int} (H : JV x (mCod W 0) q) (g : (k = 1 ∧ ¬ (0 ≤ u ∧ u ≤ x 0 0 9 - 1))) (hm : ((¬ (0 ≤ u ∧ u ≤ W 20 0 5 - 1)) ∧ vv = some (zI (97)) ∧ y2 = mCod W 1) ∨ (((0 ≤ u ∧ u ≤ W 20 0 5 - 1)) ∧ vv = some (zI (mDoR (mCod W 0) u)) ∧ y2 = mDoS (mCod W 0) u)) : (∃ b : Int, vv = some (zI b)) ∧ zGo x y2 W q k := by
  have C := jw_c H
  obtain ⟨rfl, g⟩ := g
  rcases hm with ⟨c, e, y⟩ | ⟨c, e, y⟩
  · rw [y, e]
    exact ⟨⟨_, rfl⟩, z_cod H⟩
  · exfalso
    omega
theorem s_runs {x W y2 : zSt} {vv : Option Value} {u q : Int} (H : JV x (mCod W 0) q) (g : (0 ≤ u ∧ u ≤ x 0 0 9 - 1)) (hm : ((¬ (0 ≤ u ∧ u ≤ W 20 0 5 - 1)) ∧ vv = some (zI (0)) ∧ y2 = mCod W 1) ∨ (((0 ≤ u ∧ u ≤ W 20 0 5 - 1)) ∧ vv = some (zI (W 38 0 u)) ∧ y2 = mCod W 0)) : vv = some (zI (x 9 u 13)) ∧ zGo (x) y2 W (q) 0 := by
  have C := jw_c H
  have b := jw_r H (c := u) (by omega)
  rcases hm with ⟨c, e, y⟩ | ⟨c, e, y⟩
  · exfalso
    omega
  · rw [b.2.1, e, y]
    exact ⟨rfl, z_cod H⟩
theorem f_runs {x W y2 : zSt} {vv : Option Value} {k u q : Int} (H : JV x (mCod W 0) q) (g : (k = 1 ∧ ¬ (0 ≤ u ∧ u ≤ x 0 0 9 - 1))) (hm : ((¬ (0 ≤ u ∧ u ≤ W 20 0 5 - 1)) ∧ vv = some (zI (0)) ∧ y2 = mCod W 1) ∨ (((0 ≤ u ∧ u ≤ W 20 0 5 - 1)) ∧ vv = some (zI (W 38 0 u)) ∧ y2 = mCod W 0)) : (∃ b : Int, vv = some (zI b)) ∧ zGo x y2 W q k := by
  have C := jw_c H
  obtain ⟨rfl, g⟩ := g
  rcases hm with ⟨c, e, y⟩ | ⟨c, e, y⟩
  · rw [y, e]
    exact ⟨⟨_, rfl⟩, z_cod H⟩
  · exfalso
    omega
theorem s_found {x W y2 : zSt} {vv : Option Value} {u q : Int} (H : JV x (mCod W 0) q) (g : (0 ≤ u ∧ u ≤ x 0 0 9 - 1)) (hm : ((¬ (0 ≤ u ∧ u ≤ W 20 0 5 - 1)) ∧ vv = some (zI (0)) ∧ y2 = mCod W 1) ∨ (((0 ≤ u ∧ u ≤ W 20 0 5 - 1)) ∧ vv = some (zI (W 39 0 u)) ∧ y2 = mCod W 0)) : vv = some (zI (x 9 u 14)) ∧ zGo (x) y2 W (q) 0 := by
  have C := jw_c H
  have b := jw_r H (c := u) (by omega)
  rcases hm with ⟨c, e, y⟩ | ⟨c, e, y⟩
  · exfalso
    omega
  · rw [b.2.2.1, e, y]
    exact ⟨rfl, z_cod H⟩
theorem f_found {x W y2 : zSt} {vv : Option Value} {k u q : Int} (H : JV x (mCod W 0) q) (g : (k = 1 ∧ ¬ (0 ≤ u ∧ u ≤ x 0 0 9 - 1))) (hm : ((¬ (0 ≤ u ∧ u ≤ W 20 0 5 - 1)) ∧ vv = some (zI (0)) ∧ y2 = mCod W 1) ∨ (((0 ≤ u ∧ u ≤ W 20 0 5 - 1)) ∧ vv = some (zI (W 39 0 u)) ∧ y2 = mCod W 0)) : (∃ b : Int, vv = some (zI b)) ∧ zGo x y2 W q k := by
  have C := jw_c H
  obtain ⟨rfl, g⟩ := g
  rcases hm with ⟨c, e, y⟩ | ⟨c, e, y⟩
  · rw [y, e]
    exact ⟨⟨_, rfl⟩, z_cod H⟩
  · exfalso
    omega
theorem s_state {x W y2 : zSt} {vv : Option Value} {u q : Int} (H : JV x (mCod W 0) q) (g : (0 ≤ u ∧ u ≤ x 0 0 9 - 1)) (hm : ((¬ (0 ≤ u ∧ u ≤ W 20 0 5 - 1)) ∧ vv = some (zI (97)) ∧ y2 = mCod W 1) ∨ (((0 ≤ u ∧ u ≤ W 20 0 5 - 1) ∧ W 34 0 u ≠ 102) ∧ vv = some (zI (W 34 0 u)) ∧ y2 = mCod W 0) ∨ (((0 ≤ u ∧ u ≤ W 20 0 5 - 1) ∧ W 34 0 u = 102 ∧ mFr (mCod W 0) 11 u = true) ∧ vv = some (zI (102)) ∧ y2 = mCod W 0) ∨ (((0 ≤ u ∧ u ≤ W 20 0 5 - 1) ∧ W 34 0 u = 102 ∧ ¬ mFr (mCod W 0) 11 u = true) ∧ vv = some (zI (115)) ∧ y2 = mCod W 0)) : vv = some (zI (if x 9 u 9 = 0 then 110 else if x 9 u 9 = 2 then 120 else if zand (xFr x (x 0 0 9).toNat) (zshl 1 u) ≠ 0 then 102 else 115)) ∧ zGo x y2 W q 0 := by
  have C := jw_c H
  have hc : 0 ≤ u ∧ u < W 20 0 5 := by omega
  have b := jw_r H hc
  have f := jw_fr H hc
  rcases hm with ⟨c, e, y⟩ | ⟨c, e, y⟩ | ⟨c, e, y⟩ | ⟨c, e, y⟩
  · exfalso
    omega
  · rw [e, y]
    refine ⟨?_, z_cod H⟩
    by_cases z : x 9 u 9 = 0
    · rw [if_pos z, b.2.2.2.1.mp z]
    · have z1 : ¬ x 9 u 9 = 1 := fun p => c.2 (b.2.2.2.2.1.mp p)
      have z2 : x 9 u 9 = 2 := by omega
      rw [if_neg z, if_pos z2, b.2.2.2.2.2.1.mp z2]
  · rw [e, y]
    have z1 := b.2.2.2.2.1.mpr c.2.1
    rw [if_neg (by omega), if_neg (by omega), if_pos (f.mpr c.2.2)]
    exact ⟨rfl, z_cod H⟩
  · rw [e, y]
    have z1 := b.2.2.2.2.1.mpr c.2.1
    rw [if_neg (by omega), if_neg (by omega), if_neg (fun p => c.2.2 (f.mp p))]
    exact ⟨rfl, z_cod H⟩
theorem f_state {x W y2 : zSt} {vv : Option Value} {k u q : Int} (H : JV x (mCod W 0) q) (g : (k = 1 ∧ ¬ (0 ≤ u ∧ u ≤ x 0 0 9 - 1))) (hm : ((¬ (0 ≤ u ∧ u ≤ W 20 0 5 - 1)) ∧ vv = some (zI (97)) ∧ y2 = mCod W 1) ∨ (((0 ≤ u ∧ u ≤ W 20 0 5 - 1) ∧ W 34 0 u ≠ 102) ∧ vv = some (zI (W 34 0 u)) ∧ y2 = mCod W 0) ∨ (((0 ≤ u ∧ u ≤ W 20 0 5 - 1) ∧ W 34 0 u = 102 ∧ mFr (mCod W 0) 11 u = true) ∧ vv = some (zI (102)) ∧ y2 = mCod W 0) ∨ (((0 ≤ u ∧ u ≤ W 20 0 5 - 1) ∧ W 34 0 u = 102 ∧ ¬ mFr (mCod W 0) 11 u = true) ∧ vv = some (zI (115)) ∧ y2 = mCod W 0)) : (∃ b : Int, vv = some (zI b)) ∧ zGo x y2 W q k := by
  have C := jw_c H
  obtain ⟨rfl, g⟩ := g
  rcases hm with ⟨c, e, y⟩ | ⟨c, e, y⟩ | ⟨c, e, y⟩ | ⟨c, e, y⟩
  · rw [y, e]
    exact ⟨⟨_, rfl⟩, z_cod H⟩
  · exfalso
    omega
  · exfalso
    omega
  · exfalso
    omega
theorem s_resultAnew {x W y2 : zSt} {vv : Option Value} {u q : Int} (H : JV x (mCod W 0) q) (g : (0 ≤ u ∧ u ≤ x 0 0 9 - 1) ∧ xCs x 4 0 (x 9 u 4) ≠ -1) (hm : ((¬ (0 ≤ u ∧ u ≤ W 20 0 5 - 1)) ∧ vv = some (zI (0)) ∧ y2 = mCod W 1) ∨ (((0 ≤ u ∧ u ≤ W 20 0 5 - 1) ∧ mAn (mCod W 0) 11 u < 0) ∧ vv = some (zI (0)) ∧ y2 = mCod W 2) ∨ (((0 ≤ u ∧ u ≤ W 20 0 5 - 1) ∧ ¬ mAn (mCod W 0) 11 u < 0) ∧ vv = some (zI (mAn (mCod W 0) 11 u)) ∧ y2 = mCod W 0)) : vv = some (zI (xCs x 4 0 (x 9 u 4))) ∧ zGo (xCs x) y2 W q 0 := by
  have C := jw_c H
  have e5 : (mCod W 0) 20 0 5 = W 20 0 5 := mCod_j (by decide)
  have a := j_cs4 (c := u) H (by omega)
  generalize mAn (mCod W 0) 11 u = M at a hm
  unfold zNrm at a
  rcases hm with ⟨c, e, y⟩ | ⟨c, e, y⟩ | ⟨c, e, y⟩
  · exfalso
    omega
  · exfalso
    rw [if_pos c.2] at a
    exact g.2 a
  · rw [if_neg c.2] at a
    rw [a, e, y]
    exact ⟨rfl, z_cod (JV_xcs H)⟩
theorem f_resultAnew {x x1 W y2 : zSt} {vv : Option Value} {k u q : Int} (H : JV x (mCod W 0) q) (g : (k = 1 ∧ ¬ (0 ≤ u ∧ u ≤ x 0 0 9 - 1) ∧ x1 = x) ∨ (k = 2 ∧ ((0 ≤ u ∧ u ≤ x 0 0 9 - 1) ∧ xCs x 4 0 (x 9 u 4) = -1) ∧ x1 = xCs x)) (hm : ((¬ (0 ≤ u ∧ u ≤ W 20 0 5 - 1)) ∧ vv = some (zI (0)) ∧ y2 = mCod W 1) ∨ (((0 ≤ u ∧ u ≤ W 20 0 5 - 1) ∧ mAn (mCod W 0) 11 u < 0) ∧ vv = some (zI (0)) ∧ y2 = mCod W 2) ∨ (((0 ≤ u ∧ u ≤ W 20 0 5 - 1) ∧ ¬ mAn (mCod W 0) 11 u < 0) ∧ vv = some (zI (mAn (mCod W 0) 11 u)) ∧ y2 = mCod W 0)) : (∃ b : Int, vv = some (zI b)) ∧ zGo x1 y2 W q k := by
  have C := jw_c H
  have e5 : (mCod W 0) 20 0 5 = W 20 0 5 := mCod_j (by decide)
  rcases g with ⟨rfl, g, rfl⟩ | ⟨rfl, g, rfl⟩
  · rcases hm with ⟨c, e, y⟩ | ⟨c, e, y⟩ | ⟨c, e, y⟩
    · rw [y, e]
      exact ⟨⟨_, rfl⟩, z_cod H⟩
    · exfalso
      have := c.1
      omega
    · exfalso
      have := c.1
      omega
  · have a := j_cs4 (c := u) H (by omega)
    generalize mAn (mCod W 0) 11 u = M at a hm
    unfold zNrm at a
    rcases hm with ⟨c, e, y⟩ | ⟨c, e, y⟩ | ⟨c, e, y⟩
    · exfalso
      omega
    · rw [y, e]
      exact ⟨⟨_, rfl⟩, z_cod (JV_xcs H)⟩
    · exfalso
      rw [if_neg c.2, g.2] at a
      omega
theorem s_failure {x W y2 : zSt} {vv : Option Value} {u q : Int} (H : JV x (mCod W 0) q) (g : (0 ≤ u ∧ u ≤ x 0 0 9 - 1) ∧ x 9 u 9 = 2) (hm : ((¬ ((0 ≤ u ∧ u ≤ W 20 0 5 - 1) ∧ W 34 0 u = 120)) ∧ vv = some (zI (97)) ∧ y2 = mCod W (if (0 ≤ u ∧ u ≤ W 20 0 5 - 1) then (if W 34 0 u = 120 then 0 else 2) else 1)) ∨ ((((0 ≤ u ∧ u ≤ W 20 0 5 - 1) ∧ W 34 0 u = 120)) ∧ vv = some (zI (W 42 0 u)) ∧ y2 = mCod W 0)) : vv = some (zI (x 10 u 0)) ∧ zGo (x) y2 W (q) 0 := by
  have C := jw_c H
  have hc : 0 ≤ u ∧ u < W 20 0 5 := by omega
  have b := jw_r H hc
  have b2 := b.2.2.2.2.2.1.mp g.2
  have f := jw_f H hc b2
  rcases hm with ⟨c, e, y⟩ | ⟨c, e, y⟩
  · exfalso
    omega
  · rw [f.1, e, y]
    exact ⟨rfl, z_cod H⟩
theorem f_failure {x W y2 : zSt} {vv : Option Value} {k u q : Int} (H : JV x (mCod W 0) q) (g : (k = 1 ∧ ¬ (0 ≤ u ∧ u ≤ x 0 0 9 - 1)) ∨ (k = 2 ∧ (0 ≤ u ∧ u ≤ x 0 0 9 - 1) ∧ ¬ x 9 u 9 = 2)) (hm : ((¬ ((0 ≤ u ∧ u ≤ W 20 0 5 - 1) ∧ W 34 0 u = 120)) ∧ vv = some (zI (97)) ∧ y2 = mCod W (if (0 ≤ u ∧ u ≤ W 20 0 5 - 1) then (if W 34 0 u = 120 then 0 else 2) else 1)) ∨ ((((0 ≤ u ∧ u ≤ W 20 0 5 - 1) ∧ W 34 0 u = 120)) ∧ vv = some (zI (W 42 0 u)) ∧ y2 = mCod W 0)) : (∃ b : Int, vv = some (zI b)) ∧ zGo x y2 W q k := by
  have C := jw_c H
  rcases g with ⟨rfl, g⟩ | ⟨rfl, g⟩
  · rcases hm with ⟨c, e, y⟩ | ⟨c, e, y⟩
    · rw [if_neg (by omega)] at y
      rw [y, e]
      exact ⟨⟨_, rfl⟩, z_cod H⟩
    · exfalso
      omega
  · have b := jw_r H (c := u) (by omega)
    have b2 : ¬ W 34 0 u = 120 := fun p => g.2 (b.2.2.2.2.2.1.mpr p)
    rcases hm with ⟨c, e, y⟩ | ⟨c, e, y⟩
    · rw [if_pos (by omega), if_neg b2] at y
      rw [y, e]
      exact ⟨⟨_, rfl⟩, z_cod H⟩
    · exact absurd c.2 b2
theorem s_root {x W y2 : zSt} {vv : Option Value} {u q : Int} (H : JV x (mCod W 0) q) (g : (0 ≤ u ∧ u ≤ x 0 0 9 - 1) ∧ x 9 u 9 = 2) (hm : ((¬ ((0 ≤ u ∧ u ≤ W 20 0 5 - 1) ∧ W 34 0 u = 120)) ∧ vv = some (zI (0)) ∧ y2 = mCod W (if (0 ≤ u ∧ u ≤ W 20 0 5 - 1) then (if W 34 0 u = 120 then 0 else 2) else 1)) ∨ ((((0 ≤ u ∧ u ≤ W 20 0 5 - 1) ∧ W 34 0 u = 120)) ∧ vv = some (zI (W 40 0 u)) ∧ y2 = mCod W 0)) : vv = some (zI (x 10 u 1)) ∧ zGo (x) y2 W (q) 0 := by
  have C := jw_c H
  have hc : 0 ≤ u ∧ u < W 20 0 5 := by omega
  have b := jw_r H hc
  have b2 := b.2.2.2.2.2.1.mp g.2
  have f := jw_f H hc b2
  rcases hm with ⟨c, e, y⟩ | ⟨c, e, y⟩
  · exfalso
    omega
  · rw [f.2.1, e, y]
    exact ⟨rfl, z_cod H⟩
theorem f_root {x W y2 : zSt} {vv : Option Value} {k u q : Int} (H : JV x (mCod W 0) q) (g : (k = 1 ∧ ¬ (0 ≤ u ∧ u ≤ x 0 0 9 - 1)) ∨ (k = 2 ∧ (0 ≤ u ∧ u ≤ x 0 0 9 - 1) ∧ ¬ x 9 u 9 = 2)) (hm : ((¬ ((0 ≤ u ∧ u ≤ W 20 0 5 - 1) ∧ W 34 0 u = 120)) ∧ vv = some (zI (0)) ∧ y2 = mCod W (if (0 ≤ u ∧ u ≤ W 20 0 5 - 1) then (if W 34 0 u = 120 then 0 else 2) else 1)) ∨ ((((0 ≤ u ∧ u ≤ W 20 0 5 - 1) ∧ W 34 0 u = 120)) ∧ vv = some (zI (W 40 0 u)) ∧ y2 = mCod W 0)) : (∃ b : Int, vv = some (zI b)) ∧ zGo x y2 W q k := by
  have C := jw_c H
  rcases g with ⟨rfl, g⟩ | ⟨rfl, g⟩
  · rcases hm with ⟨c, e, y⟩ | ⟨c, e, y⟩
    · rw [if_neg (by omega)] at y
      rw [y, e]
      exact ⟨⟨_, rfl⟩, z_cod H⟩
    · exfalso
      omega
  · have b := jw_r H (c := u) (by omega)
    have b2 : ¬ W 34 0 u = 120 := fun p => g.2 (b.2.2.2.2.2.1.mpr p)
    rcases hm with ⟨c, e, y⟩ | ⟨c, e, y⟩
    · rw [if_pos (by omega), if_neg b2] at y
      rw [y, e]
      exact ⟨⟨_, rfl⟩, z_cod H⟩
    · exact absurd c.2 b2
theorem s_rootFailure {x W y2 : zSt} {vv : Option Value} {u q : Int} (H : JV x (mCod W 0) q) (g : (0 ≤ u ∧ u ≤ x 0 0 9 - 1) ∧ x 9 u 9 = 2) (hm : ((¬ ((0 ≤ u ∧ u ≤ W 20 0 5 - 1) ∧ W 34 0 u = 120)) ∧ vv = some (zI (97)) ∧ y2 = mCod W (if (0 ≤ u ∧ u ≤ W 20 0 5 - 1) then (if W 34 0 u = 120 then 0 else 2) else 1)) ∨ ((((0 ≤ u ∧ u ≤ W 20 0 5 - 1) ∧ W 34 0 u = 120)) ∧ vv = some (zI (W 41 0 u)) ∧ y2 = mCod W 0)) : vv = some (zI (x 10 u 2)) ∧ zGo (x) y2 W (q) 0 := by
  have C := jw_c H
  have hc : 0 ≤ u ∧ u < W 20 0 5 := by omega
  have b := jw_r H hc
  have b2 := b.2.2.2.2.2.1.mp g.2
  have f := jw_f H hc b2
  rcases hm with ⟨c, e, y⟩ | ⟨c, e, y⟩
  · exfalso
    omega
  · rw [f.2.2.1, e, y]
    exact ⟨rfl, z_cod H⟩
theorem f_rootFailure {x W y2 : zSt} {vv : Option Value} {k u q : Int} (H : JV x (mCod W 0) q) (g : (k = 1 ∧ ¬ (0 ≤ u ∧ u ≤ x 0 0 9 - 1)) ∨ (k = 2 ∧ (0 ≤ u ∧ u ≤ x 0 0 9 - 1) ∧ ¬ x 9 u 9 = 2)) (hm : ((¬ ((0 ≤ u ∧ u ≤ W 20 0 5 - 1) ∧ W 34 0 u = 120)) ∧ vv = some (zI (97)) ∧ y2 = mCod W (if (0 ≤ u ∧ u ≤ W 20 0 5 - 1) then (if W 34 0 u = 120 then 0 else 2) else 1)) ∨ ((((0 ≤ u ∧ u ≤ W 20 0 5 - 1) ∧ W 34 0 u = 120)) ∧ vv = some (zI (W 41 0 u)) ∧ y2 = mCod W 0)) : (∃ b : Int, vv = some (zI b)) ∧ zGo x y2 W q k := by
  have C := jw_c H
  rcases g with ⟨rfl, g⟩ | ⟨rfl, g⟩
  · rcases hm with ⟨c, e, y⟩ | ⟨c, e, y⟩
    · rw [if_neg (by omega)] at y
      rw [y, e]
      exact ⟨⟨_, rfl⟩, z_cod H⟩
    · exfalso
      omega
  · have b := jw_r H (c := u) (by omega)
    have b2 : ¬ W 34 0 u = 120 := fun p => g.2 (b.2.2.2.2.2.1.mpr p)
    rcases hm with ⟨c, e, y⟩ | ⟨c, e, y⟩
    · rw [if_pos (by omega), if_neg b2] at y
      rw [y, e]
      exact ⟨⟨_, rfl⟩, z_cod H⟩
    · exact absurd c.2 b2
theorem s_causes {x W y2 : zSt} {vv : Option Value} {u q : Int} (H : JV x (mCod W 0) q) (g : (0 ≤ u ∧ u ≤ x 0 0 9 - 1) ∧ x 9 u 9 = 2) (hm : ((¬ ((0 ≤ u ∧ u ≤ W 20 0 5 - 1) ∧ W 34 0 u = 120)) ∧ vv = some (zI (0)) ∧ y2 = mCod W (if (0 ≤ u ∧ u ≤ W 20 0 5 - 1) then (if W 34 0 u = 120 then 0 else 2) else 1)) ∨ ((((0 ≤ u ∧ u ≤ W 20 0 5 - 1) ∧ W 34 0 u = 120)) ∧ vv = some (zI (W 43 0 u)) ∧ y2 = mCod W 0)) : vv = some (zI (x 10 u 3)) ∧ zGo (x) y2 W (q) 0 := by
  have C := jw_c H
  have hc : 0 ≤ u ∧ u < W 20 0 5 := by omega
  have b := jw_r H hc
  have b2 := b.2.2.2.2.2.1.mp g.2
  have f := jw_f H hc b2
  rcases hm with ⟨c, e, y⟩ | ⟨c, e, y⟩
  · exfalso
    omega
  · rw [f.2.2.2, e, y]
    exact ⟨rfl, z_cod H⟩
theorem f_causes {x W y2 : zSt} {vv : Option Value} {k u q : Int} (H : JV x (mCod W 0) q) (g : (k = 1 ∧ ¬ (0 ≤ u ∧ u ≤ x 0 0 9 - 1)) ∨ (k = 2 ∧ (0 ≤ u ∧ u ≤ x 0 0 9 - 1) ∧ ¬ x 9 u 9 = 2)) (hm : ((¬ ((0 ≤ u ∧ u ≤ W 20 0 5 - 1) ∧ W 34 0 u = 120)) ∧ vv = some (zI (0)) ∧ y2 = mCod W (if (0 ≤ u ∧ u ≤ W 20 0 5 - 1) then (if W 34 0 u = 120 then 0 else 2) else 1)) ∨ ((((0 ≤ u ∧ u ≤ W 20 0 5 - 1) ∧ W 34 0 u = 120)) ∧ vv = some (zI (W 43 0 u)) ∧ y2 = mCod W 0)) : (∃ b : Int, vv = some (zI b)) ∧ zGo x y2 W q k := by
  have C := jw_c H
  rcases g with ⟨rfl, g⟩ | ⟨rfl, g⟩
  · rcases hm with ⟨c, e, y⟩ | ⟨c, e, y⟩
    · rw [if_neg (by omega)] at y
      rw [y, e]
      exact ⟨⟨_, rfl⟩, z_cod H⟩
    · exfalso
      omega
  · have b := jw_r H (c := u) (by omega)
    have b2 : ¬ W 34 0 u = 120 := fun p => g.2 (b.2.2.2.2.2.1.mpr p)
    rcases hm with ⟨c, e, y⟩ | ⟨c, e, y⟩
    · rw [if_pos (by omega), if_neg b2] at y
      rw [y, e]
      exact ⟨⟨_, rfl⟩, z_cod H⟩
    · exact absurd c.2 b2
theorem s_depends {x W y2 : zSt} {vv : Option Value} {u v q : Int} (H : JV x (mCod W 0) q) (g : (0 ≤ u ∧ u ≤ x 0 0 9 - 1) ∧ (0 ≤ v ∧ v ≤ 11)) (hm : ((¬ (0 ≤ u ∧ u ≤ W 20 0 5 - 1)) ∧ vv = some (zI (0)) ∧ y2 = mCod W 1) ∨ (((0 ≤ u ∧ u ≤ W 20 0 5 - 1) ∧ ¬ (0 ≤ v ∧ v ≤ 11)) ∧ vv = some (zI (0)) ∧ y2 = mCod W 2) ∨ (((0 ≤ u ∧ u ≤ W 20 0 5 - 1) ∧ (0 ≤ v ∧ v ≤ 11) ∧ mOn (mCod W 0) v 11 u = true) ∧ vv = some (zI (1)) ∧ y2 = mCod W 0) ∨ (((0 ≤ u ∧ u ≤ W 20 0 5 - 1) ∧ (0 ≤ v ∧ v ≤ 11) ∧ ¬ mOn (mCod W 0) v 11 u = true) ∧ vv = some (zI (0)) ∧ y2 = mCod W 0)) : vv = some (zI (zb (zand (x 9 u 8) (zshl 1 v) ≠ 0))) ∧ zGo x y2 W q 0 := by
  have C := jw_c H
  have e5 : (mCod W 0) 20 0 5 = W 20 0 5 := mCod_j (by decide)
  have l := (H.1.2.2.2.2.2.2.2.1 u (by omega) (by omega)).2 v g.2.1 g.2.2
  rcases hm with ⟨c, e, y⟩ | ⟨c, e, y⟩ | ⟨c, e, y⟩ | ⟨c, e, y⟩
  · exfalso
    omega
  · exfalso
    omega
  · rw [zb_t (l.mpr c.2.2), e, y]
    exact ⟨rfl, z_cod H⟩
  · rw [zb_f (fun p => c.2.2 (l.mp p)), e, y]
    exact ⟨rfl, z_cod H⟩
theorem f_depends {x W y2 : zSt} {vv : Option Value} {k u v q : Int} (H : JV x (mCod W 0) q) (g : (k = 1 ∧ ¬ (0 ≤ u ∧ u ≤ x 0 0 9 - 1)) ∨ (k = 2 ∧ (0 ≤ u ∧ u ≤ x 0 0 9 - 1) ∧ ¬ (0 ≤ v ∧ v ≤ 11))) (hm : ((¬ (0 ≤ u ∧ u ≤ W 20 0 5 - 1)) ∧ vv = some (zI (0)) ∧ y2 = mCod W 1) ∨ (((0 ≤ u ∧ u ≤ W 20 0 5 - 1) ∧ ¬ (0 ≤ v ∧ v ≤ 11)) ∧ vv = some (zI (0)) ∧ y2 = mCod W 2) ∨ (((0 ≤ u ∧ u ≤ W 20 0 5 - 1) ∧ (0 ≤ v ∧ v ≤ 11) ∧ mOn (mCod W 0) v 11 u = true) ∧ vv = some (zI (1)) ∧ y2 = mCod W 0) ∨ (((0 ≤ u ∧ u ≤ W 20 0 5 - 1) ∧ (0 ≤ v ∧ v ≤ 11) ∧ ¬ mOn (mCod W 0) v 11 u = true) ∧ vv = some (zI (0)) ∧ y2 = mCod W 0)) : (∃ b : Int, vv = some (zI b)) ∧ zGo x y2 W q k := by
  have C := jw_c H
  rcases g with ⟨rfl, g⟩ | ⟨rfl, g⟩
  · rcases hm with ⟨c, e, y⟩ | ⟨c, e, y⟩ | ⟨c, e, y⟩ | ⟨c, e, y⟩
    · rw [y, e]
      exact ⟨⟨_, rfl⟩, z_cod H⟩
    · exfalso
      omega
    · exfalso
      have := c.1
      omega
    · exfalso
      have := c.1
      omega
  · rcases hm with ⟨c, e, y⟩ | ⟨c, e, y⟩ | ⟨c, e, y⟩ | ⟨c, e, y⟩
    · exfalso
      omega
    · rw [y, e]
      exact ⟨⟨_, rfl⟩, z_cod H⟩
    · exact absurd c.2.1 g.2
    · exact absurd c.2.1 g.2
theorem s_owners {x W y2 : zSt} {vv : Option Value} {u q : Int} (H : JV x (mCod W 0) q) (g : (0 ≤ u ∧ u ≤ x 0 0 9 - 1)) (hm : ((¬ (0 ≤ u ∧ u ≤ W 20 0 5 - 1)) ∧ vv = some (zI (0)) ∧ y2 = mCod W 1) ∨ (((0 ≤ u ∧ u ≤ W 20 0 5 - 1)) ∧ vv = some (zI (mOw (mCod W 0) u 12)) ∧ y2 = mCod W 0)) : vv = some (zI (xOw x u 12)) ∧ zGo (x) y2 W (q) 0 := by
  have C := jw_c H
  have e5 : (mCod W 0) 20 0 5 = W 20 0 5 := mCod_j (by decide)
  have a := j_ow (c := u) H.1 (by omega) H.2.1.1 12 (Nat.le_refl 12)
  rcases hm with ⟨c, e, y⟩ | ⟨c, e, y⟩
  · exfalso
    omega
  · rw [a, e, y]
    exact ⟨rfl, z_cod H⟩
theorem f_owners {x W y2 : zSt} {vv : Option Value} {k u q : Int} (H : JV x (mCod W 0) q) (g : (k = 1 ∧ ¬ (0 ≤ u ∧ u ≤ x 0 0 9 - 1))) (hm : ((¬ (0 ≤ u ∧ u ≤ W 20 0 5 - 1)) ∧ vv = some (zI (0)) ∧ y2 = mCod W 1) ∨ (((0 ≤ u ∧ u ≤ W 20 0 5 - 1)) ∧ vv = some (zI (mOw (mCod W 0) u 12)) ∧ y2 = mCod W 0)) : (∃ b : Int, vv = some (zI b)) ∧ zGo x y2 W q k := by
  have C := jw_c H
  obtain ⟨rfl, g⟩ := g
  rcases hm with ⟨c, e, y⟩ | ⟨c, e, y⟩
  · rw [y, e]
    exact ⟨⟨_, rfl⟩, z_cod H⟩
  · exfalso
    omega
theorem s_dependents {x W y2 : zSt} {vv : Option Value} {v q : Int} (H : JV x (mCod W 0) q) (g : (0 ≤ v ∧ v ≤ 11)) (hm : ((¬ (0 ≤ v ∧ v ≤ 11)) ∧ vv = some (zI (0)) ∧ y2 = mCod W 1) ∨ (((0 ≤ v ∧ v ≤ 11)) ∧ vv = some (zI (mDp (mCod W 0) v (W 20 0 5).toNat)) ∧ y2 = mCod W 0)) : vv = some (zI (xDp x v (x 0 0 9).toNat)) ∧ zGo (x) y2 W (q) 0 := by
  have C := jw_c H
  have n5 := (jw_I H).1.1
  have e5 : (mCod W 0) 20 0 5 = W 20 0 5 := mCod_j (by decide)
  have a := j_dp (v := v) H.1 g (W 20 0 5).toNat (by omega)
  rcases hm with ⟨c, e, y⟩ | ⟨c, e, y⟩
  · exfalso
    omega
  · rw [C.2.1, a, e, y]
    exact ⟨rfl, z_cod H⟩
theorem f_dependents {x W y2 : zSt} {vv : Option Value} {k v q : Int} (H : JV x (mCod W 0) q) (g : (k = 1 ∧ ¬ (0 ≤ v ∧ v ≤ 11))) (hm : ((¬ (0 ≤ v ∧ v ≤ 11)) ∧ vv = some (zI (0)) ∧ y2 = mCod W 1) ∨ (((0 ≤ v ∧ v ≤ 11)) ∧ vv = some (zI (mDp (mCod W 0) v (W 20 0 5).toNat)) ∧ y2 = mCod W 0)) : (∃ b : Int, vv = some (zI b)) ∧ zGo x y2 W q k := by
  have C := jw_c H
  obtain ⟨rfl, g⟩ := g
  rcases hm with ⟨c, e, y⟩ | ⟨c, e, y⟩
  · rw [y, e]
    exact ⟨⟨_, rfl⟩, z_cod H⟩
  · exfalso
    omega
theorem s_addKernel {x W y2 : zSt} {vv : Option Value} {r q : Int} (H : JV x (mCod W 0) q) (g : (1 ≤ r ∧ r ≤ 20) ∧ x 0 0 10 < 3) (hm : ((¬ (1 ≤ r ∧ r ≤ 20)) ∧ vv = some (zI (0)) ∧ y2 = mCod W 1) ∨ (((1 ≤ r ∧ r ≤ 20) ∧ W 20 0 28 = 3) ∧ vv = some (zI (0)) ∧ y2 = mCod W 2) ∨ (((1 ≤ r ∧ r ≤ 20) ∧ W 20 0 28 ≠ 3) ∧ vv = some (zI (W 20 0 28)) ∧ y2 = zup (zup (mCod W 0) 49 0 (W 20 0 28) r) 20 0 28 (W 20 0 28 + 1))) : vv = some (zI (x 0 0 10)) ∧ zGo (zup (zup x 16 (x 0 0 10) 0 r) 0 0 10 (x 0 0 10 + 1)) y2 W (q) 0 := by
  have C := jw_c H
  have e28 : (mCod W 0) 20 0 28 = W 20 0 28 := mCod_j (by decide)
  rcases hm with ⟨c, e, y⟩ | ⟨c, e, y⟩ | ⟨c, e, y⟩
  · exfalso
    omega
  · exfalso
    omega
  · have Z := JV_ker (r := r) H g.1 (by omega)
    rw [e28] at Z
    rw [C.2.2.1, e]
    refine ⟨rfl, z_fin (by rw [y]; exact Z) (by rw [y]; simp only [zup_d, Nat.reduceEqDiff, Int.reduceEq, Int.reduceNeg, eq_self, false_and, and_false, true_and, and_true, and_self, if_false, if_true, iff_self, or_true, true_or, or_false, false_or]; exact mCod_k (by decide)) (by rw [y]; simp only [zup_d, Nat.reduceEqDiff, Int.reduceEq, Int.reduceNeg, eq_self, false_and, and_false, true_and, and_true, and_self, if_false, if_true, iff_self, or_true, true_or, or_false, false_or]; exact mCod_k (by decide))⟩
theorem f_addKernel {x W y2 : zSt} {vv : Option Value} {k r q : Int} (H : JV x (mCod W 0) q) (g : (k = 1 ∧ ¬ (1 ≤ r ∧ r ≤ 20)) ∨ (k = 2 ∧ (1 ≤ r ∧ r ≤ 20) ∧ ¬ x 0 0 10 < 3)) (hm : ((¬ (1 ≤ r ∧ r ≤ 20)) ∧ vv = some (zI (0)) ∧ y2 = mCod W 1) ∨ (((1 ≤ r ∧ r ≤ 20) ∧ W 20 0 28 = 3) ∧ vv = some (zI (0)) ∧ y2 = mCod W 2) ∨ (((1 ≤ r ∧ r ≤ 20) ∧ W 20 0 28 ≠ 3) ∧ vv = some (zI (W 20 0 28)) ∧ y2 = zup (zup (mCod W 0) 49 0 (W 20 0 28) r) 20 0 28 (W 20 0 28 + 1))) : (∃ b : Int, vv = some (zI b)) ∧ zGo x y2 W q k := by
  have C := jw_c H
  rcases g with ⟨rfl, g⟩ | ⟨rfl, g⟩
  · rcases hm with ⟨c, e, y⟩ | ⟨c, e, y⟩ | ⟨c, e, y⟩
    · rw [y, e]
      exact ⟨⟨_, rfl⟩, z_cod H⟩
    · exfalso
      omega
    · exfalso
      omega
  · have n28 := (jw_I H).1.2.1
    rcases hm with ⟨c, e, y⟩ | ⟨c, e, y⟩ | ⟨c, e, y⟩
    · exfalso
      omega
    · rw [y, e]
      exact ⟨⟨_, rfl⟩, z_cod H⟩
    · exfalso
      omega
theorem s_free {x W y2 : zSt} {vv : Option Value} {u q : Int} (H : JV x (mCod W 0) q) (g : (0 ≤ u ∧ u ≤ x 0 0 10 - 1)) (hm : (((¬ (0 ≤ u ∧ u ≤ W 20 0 28 - 1))) ∧ vv = some (zI (0)) ∧ y2 = mCod W 1) ∨ (((0 ≤ u ∧ u ≤ W 20 0 28 - 1)) ∧ vv = some (zI (mLeft (mCod W 0) u)) ∧ y2 = mCod W 0)) : vv = some (zI (xLeft x u)) ∧ zGo (x) y2 W (q) 0 := by
  have C := jw_c H
  have n28 := (jw_I H).1.2.1
  have e28 : (mCod W 0) 20 0 28 = W 20 0 28 := mCod_j (by decide)
  have a := j_left (k := u) H.1 (by omega) (by omega)
  rcases hm with ⟨c, e, y⟩ | ⟨c, e, y⟩
  · exfalso
    omega
  · rw [a, e, y]
    exact ⟨rfl, z_cod H⟩
theorem f_free {x W y2 : zSt} {vv : Option Value} {k u q : Int} (H : JV x (mCod W 0) q) (g : (k = 1 ∧ ¬ (0 ≤ u ∧ u ≤ x 0 0 10 - 1))) (hm : (((¬ (0 ≤ u ∧ u ≤ W 20 0 28 - 1))) ∧ vv = some (zI (0)) ∧ y2 = mCod W 1) ∨ (((0 ≤ u ∧ u ≤ W 20 0 28 - 1)) ∧ vv = some (zI (mLeft (mCod W 0) u)) ∧ y2 = mCod W 0)) : (∃ b : Int, vv = some (zI b)) ∧ zGo x y2 W q k := by
  have C := jw_c H
  obtain ⟨rfl, g⟩ := g
  rcases hm with ⟨c, e, y⟩ | ⟨c, e, y⟩
  · rw [y, e]
    exact ⟨⟨_, rfl⟩, z_cod H⟩
  · exfalso
    omega
theorem s_pass {x W y2 : zSt} {vv : Option Value} {s q : Int} (H : JV x (mCod W 0) q) (g : ((1 ≤ s ∧ s ≤ 50) ∧ ¬ 5000 < x 0 0 12 + s) ∧ q + 561 < 1000000) (hm : ((¬ (1 ≤ s ∧ s ≤ 50)) ∧ vv = some (zI (0)) ∧ y2 = mCod W 1) ∨ (((1 ≤ s ∧ s ≤ 50) ∧ 5000 < W 20 0 37 + s) ∧ vv = some (zI (0)) ∧ y2 = mCod W 2) ∨ (((1 ≤ s ∧ s ≤ 50) ∧ ¬ 5000 < W 20 0 37 + s) ∧ vv = some (zI (mPn (mCod W 0) s.toNat)) ∧ y2 = mPs (mCod W 0) s.toNat)) : vv = some (zI (xPn x s.toNat)) ∧ zGo (xPs x s.toNat) y2 W (q + 11 * s) 0 := by
  have C := jw_c H
  have e37 : (mCod W 0) 20 0 37 = W 20 0 37 := mCod_j (by decide)
  have a := JV_ps (T := s) H (by omega) (by omega) (by omega) s.toNat (by omega)
  rcases hm with ⟨c, e, y⟩ | ⟨c, e, y⟩ | ⟨c, e, y⟩
  · exfalso
    omega
  · exfalso
    omega
  · rw [a.2.2.2, e]
    have hs : ((s.toNat : Nat) : Int) = s := by omega
    have Z := a.1
    rw [hs] at Z
    refine ⟨rfl, z_fin (by rw [y]; exact Z) (by rw [y, mPs_o (by decide)]; exact mCod_k (by decide)) (by rw [y, mPs_o (by decide)]; exact mCod_k (by decide))⟩
theorem f_pass {x W y2 : zSt} {vv : Option Value} {k s q : Int} (H : JV x (mCod W 0) q) (g : (k = 1 ∧ ¬ (1 ≤ s ∧ s ≤ 50)) ∨ (k = 2 ∧ (1 ≤ s ∧ s ≤ 50) ∧ 5000 < x 0 0 12 + s)) (hm : ((¬ (1 ≤ s ∧ s ≤ 50)) ∧ vv = some (zI (0)) ∧ y2 = mCod W 1) ∨ (((1 ≤ s ∧ s ≤ 50) ∧ 5000 < W 20 0 37 + s) ∧ vv = some (zI (0)) ∧ y2 = mCod W 2) ∨ (((1 ≤ s ∧ s ≤ 50) ∧ ¬ 5000 < W 20 0 37 + s) ∧ vv = some (zI (mPn (mCod W 0) s.toNat)) ∧ y2 = mPs (mCod W 0) s.toNat)) : (∃ b : Int, vv = some (zI b)) ∧ zGo x y2 W q k := by
  have C := jw_c H
  rcases g with ⟨rfl, g⟩ | ⟨rfl, g⟩
  · rcases hm with ⟨c, e, y⟩ | ⟨c, e, y⟩ | ⟨c, e, y⟩
    · rw [y, e]
      exact ⟨⟨_, rfl⟩, z_cod H⟩
    · exfalso
      omega
    · exfalso
      omega
  · rcases hm with ⟨c, e, y⟩ | ⟨c, e, y⟩ | ⟨c, e, y⟩
    · exfalso
      omega
    · rw [y, e]
      exact ⟨⟨_, rfl⟩, z_cod H⟩
    · exfalso
      omega
theorem s_publish {x W y2 : zSt} {vv : Option Value} {u q : Int} (H : JV x (mCod W 0) q) (g : (0 ≤ u ∧ u ≤ x 0 0 9 - 1) ∧ zand (xFr x (x 0 0 9).toNat) (zshl 1 u) ≠ 0 ∧ x 0 0 11 < 20) (hm : ((¬ (0 ≤ u ∧ u ≤ W 20 0 5 - 1)) ∧ vv = some (zI (0)) ∧ y2 = mCod W 1) ∨ (((0 ≤ u ∧ u ≤ W 20 0 5 - 1) ∧ ¬ (mFr (mCod W 0) 11 u = true ∧ W 20 0 34 ≠ 20)) ∧ vv = some (zI (0)) ∧ y2 = mCod W 2) ∨ (((0 ≤ u ∧ u ≤ W 20 0 5 - 1) ∧ (mFr (mCod W 0) 11 u = true ∧ W 20 0 34 ≠ 20)) ∧ vv = some (zI (W 20 0 34)) ∧ y2 = zup (zup (zup (mCod W 0) 55 0 (W 20 0 34) u) 56 0 (W 20 0 34) (W 23 0 (W 30 0 u))) 20 0 34 (W 20 0 34 + 1))) : vv = some (zI (x 0 0 11)) ∧ zGo (zup (zup (zup x 7 0 (x 0 0 11) u) 8 0 (x 0 0 11) (x 1 0 (x 9 u 4))) 0 0 11 (x 0 0 11 + 1)) y2 W q 0 := by
  have C := jw_c H
  have hc : 0 ≤ u ∧ u < W 20 0 5 := by omega
  have f := (jw_fr H hc).mp g.2.1
  have e5 : (mCod W 0) 20 0 5 = W 20 0 5 := mCod_j (by decide)
  have e34 : (mCod W 0) 20 0 34 = W 20 0 34 := mCod_j (by decide)
  have t4 := (jw_t H hc).2.2.2.2
  have w := (jw_I H).2.2.1 u hc.1 hc.2
  have b := (jw_v H (v := W 30 0 u) w.2.2.2.1).1
  rcases hm with ⟨c, e, y⟩ | ⟨c, e, y⟩ | ⟨c, e, y⟩
  · exfalso
    omega
  · exfalso
    exact c.2 ⟨f, by omega⟩
  · have Z := JV_pub (c := u) (w := W 23 0 (W 30 0 u)) H (by omega) (by omega)
    rw [e34] at Z
    rw [C.2.2.2.1, t4, b, e]
    refine ⟨rfl, z_fin (by rw [y]; exact Z) (by rw [y]; simp only [zup_d, Nat.reduceEqDiff, Int.reduceEq, Int.reduceNeg, eq_self, false_and, and_false, true_and, and_true, and_self, if_false, if_true, iff_self, or_true, true_or, or_false, false_or]; exact mCod_k (by decide)) (by rw [y]; simp only [zup_d, Nat.reduceEqDiff, Int.reduceEq, Int.reduceNeg, eq_self, false_and, and_false, true_and, and_true, and_self, if_false, if_true, iff_self, or_true, true_or, or_false, false_or]; exact mCod_k (by decide))⟩
theorem f_publish {x W y2 : zSt} {vv : Option Value} {k u q : Int} (H : JV x (mCod W 0) q) (g : (k = 1 ∧ ¬ (0 ≤ u ∧ u ≤ x 0 0 9 - 1)) ∨ (k = 2 ∧ (0 ≤ u ∧ u ≤ x 0 0 9 - 1) ∧ ¬ (zand (xFr x (x 0 0 9).toNat) (zshl 1 u) ≠ 0 ∧ x 0 0 11 < 20))) (hm : ((¬ (0 ≤ u ∧ u ≤ W 20 0 5 - 1)) ∧ vv = some (zI (0)) ∧ y2 = mCod W 1) ∨ (((0 ≤ u ∧ u ≤ W 20 0 5 - 1) ∧ ¬ (mFr (mCod W 0) 11 u = true ∧ W 20 0 34 ≠ 20)) ∧ vv = some (zI (0)) ∧ y2 = mCod W 2) ∨ (((0 ≤ u ∧ u ≤ W 20 0 5 - 1) ∧ (mFr (mCod W 0) 11 u = true ∧ W 20 0 34 ≠ 20)) ∧ vv = some (zI (W 20 0 34)) ∧ y2 = zup (zup (zup (mCod W 0) 55 0 (W 20 0 34) u) 56 0 (W 20 0 34) (W 23 0 (W 30 0 u))) 20 0 34 (W 20 0 34 + 1))) : (∃ b : Int, vv = some (zI b)) ∧ zGo x y2 W q k := by
  have C := jw_c H
  rcases g with ⟨rfl, g⟩ | ⟨rfl, g⟩
  · rcases hm with ⟨c, e, y⟩ | ⟨c, e, y⟩ | ⟨c, e, y⟩
    · rw [y, e]
      exact ⟨⟨_, rfl⟩, z_cod H⟩
    · exfalso
      have := c.1
      omega
    · exfalso
      have := c.1
      omega
  · have hc : 0 ≤ u ∧ u < W 20 0 5 := by omega
    have f := jw_fr H hc
    have n34 := (jw_I H).1.2.2.1
    rcases hm with ⟨c, e, y⟩ | ⟨c, e, y⟩ | ⟨c, e, y⟩
    · exfalso
      omega
    · rw [y, e]
      exact ⟨⟨_, rfl⟩, z_cod H⟩
    · exfalso
      exact g.2 ⟨f.mpr c.2.1, by have := c.2.2; omega⟩
theorem s_held {x W y2 : zSt} {vv : Option Value} {u q : Int} (H : JV x (mCod W 0) q) (g : (0 ≤ u ∧ u ≤ x 0 0 11 - 1)) (hm : ((¬ (0 ≤ u ∧ u ≤ W 20 0 34 - 1)) ∧ vv = some (zI (0)) ∧ y2 = mCod W 1) ∨ (((0 ≤ u ∧ u ≤ W 20 0 34 - 1)) ∧ vv = some (zI (W 56 0 u)) ∧ y2 = mCod W 0)) : vv = some (zI (x 8 0 u)) ∧ zGo (x) y2 W (q) 0 := by
  have C := jw_c H
  have a := jw_w H (i := u) (by omega)
  rcases hm with ⟨c, e, y⟩ | ⟨c, e, y⟩
  · exfalso
    omega
  · rw [a.2.1, e, y]
    exact ⟨rfl, z_cod H⟩
theorem f_held {x W y2 : zSt} {vv : Option Value} {k u q : Int} (H : JV x (mCod W 0) q) (g : (k = 1 ∧ ¬ (0 ≤ u ∧ u ≤ x 0 0 11 - 1))) (hm : ((¬ (0 ≤ u ∧ u ≤ W 20 0 34 - 1)) ∧ vv = some (zI (0)) ∧ y2 = mCod W 1) ∨ (((0 ≤ u ∧ u ≤ W 20 0 34 - 1)) ∧ vv = some (zI (W 56 0 u)) ∧ y2 = mCod W 0)) : (∃ b : Int, vv = some (zI b)) ∧ zGo x y2 W q k := by
  have C := jw_c H
  obtain ⟨rfl, g⟩ := g
  rcases hm with ⟨c, e, y⟩ | ⟨c, e, y⟩
  · rw [y, e]
    exact ⟨⟨_, rfl⟩, z_cod H⟩
  · exfalso
    omega
theorem s_isCurrent {x W y2 : zSt} {vv : Option Value} {u q : Int} (H : JV x (mCod W 0) q) (g : (0 ≤ u ∧ u ≤ x 0 0 11 - 1)) (hm : ((¬ (0 ≤ u ∧ u ≤ W 20 0 34 - 1)) ∧ vv = some (zI (0)) ∧ y2 = mCod W 1) ∨ (((0 ≤ u ∧ u ≤ W 20 0 34 - 1) ∧ ¬ (mFr (mCod W 0) 11 (W 55 0 u) = true ∧ W 23 0 (W 30 0 (W 55 0 u)) = W 56 0 u)) ∧ vv = some (zI (0)) ∧ y2 = mCod W 0) ∨ (((0 ≤ u ∧ u ≤ W 20 0 34 - 1) ∧ mFr (mCod W 0) 11 (W 55 0 u) = true ∧ W 23 0 (W 30 0 (W 55 0 u)) = W 56 0 u) ∧ vv = some (zI (1)) ∧ y2 = mCod W 0)) : vv = some (zI (zb (zand (xFr x (x 0 0 9).toNat) (zshl 1 (x 7 0 u)) ≠ 0 ∧ x 1 0 (x 9 (x 7 0 u) 4) = x 8 0 u))) ∧ zGo x y2 W q 0 := by
  have C := jw_c H
  have a := jw_w H (i := u) (by omega)
  have f := jw_fr H a.2.2
  have t4 := (jw_t H a.2.2).2.2.2.2
  have w := (jw_I H).2.2.1 _ a.2.2.1 a.2.2.2
  have b := (jw_v H (v := W 30 0 (W 55 0 u)) w.2.2.2.1).1
  rw [a.1, t4, b, a.2.1]
  rcases hm with ⟨c, e, y⟩ | ⟨c, e, y⟩ | ⟨c, e, y⟩
  · exfalso
    omega
  · rw [zb_f (fun p => c.2 ⟨f.mp p.1, p.2⟩), e, y]
    exact ⟨rfl, z_cod H⟩
  · rw [zb_t ⟨f.mpr c.2.1, c.2.2⟩, e, y]
    exact ⟨rfl, z_cod H⟩
theorem f_isCurrent {x W y2 : zSt} {vv : Option Value} {k u q : Int} (H : JV x (mCod W 0) q) (g : k = 1 ∧ ¬ (0 ≤ u ∧ u ≤ x 0 0 11 - 1)) (hm : ((¬ (0 ≤ u ∧ u ≤ W 20 0 34 - 1)) ∧ vv = some (zI (0)) ∧ y2 = mCod W 1) ∨ (((0 ≤ u ∧ u ≤ W 20 0 34 - 1) ∧ ¬ (mFr (mCod W 0) 11 (W 55 0 u) = true ∧ W 23 0 (W 30 0 (W 55 0 u)) = W 56 0 u)) ∧ vv = some (zI (0)) ∧ y2 = mCod W 0) ∨ (((0 ≤ u ∧ u ≤ W 20 0 34 - 1) ∧ mFr (mCod W 0) 11 (W 55 0 u) = true ∧ W 23 0 (W 30 0 (W 55 0 u)) = W 56 0 u) ∧ vv = some (zI (1)) ∧ y2 = mCod W 0)) : (∃ b : Int, vv = some (zI b)) ∧ zGo x y2 W q k := by
  have C := jw_c H
  obtain ⟨rfl, g⟩ := g
  rcases hm with ⟨c, e, y⟩ | ⟨c, e, y⟩ | ⟨c, e, y⟩
  · rw [y, e]
    exact ⟨⟨_, rfl⟩, z_cod H⟩
  · exfalso
    have := c.1
    omega
  · exfalso
    have := c.1
    omega
theorem s_addCell {x W y2 : zSt} {vv : Option Value} {k0 a b r w n s q : Int} (H : JV x (mCod W 0) q) (g : (xCellOk k0 a b r w n s ∧ xCanAdd x a b w) ∧ q ≤ 1000000) (hm : ((¬ xCellOk k0 a b r w n s) ∧ vv = some (zI (0)) ∧ y2 = mCod W 1) ∨ ((xCellOk k0 a b r w n s ∧ ¬ (mThere W a ∧ (b = -1 ∨ mThere W b) ∧ ¬ mThere W w)) ∧ vv = some (zI (0)) ∧ y2 = mCod W 2) ∨ ((xCellOk k0 a b r w n s ∧ (mThere W a ∧ (b = -1 ∨ mThere W b) ∧ ¬ mThere W w)) ∧ vv = some (zI (W 20 0 5)) ∧ y2 = zup (zup (zup (zup (zup (zup (zup (zup (zup (mCod W 0) 26 0 (W 20 0 5) k0) 27 0 (W 20 0 5) a) 28 0 (W 20 0 5) b) 29 0 (W 20 0 5) r) 30 0 (W 20 0 5) w) 31 0 (W 20 0 5) n) 32 0 (W 20 0 5) s) 24 0 w (W 20 0 5)) 20 0 5 (W 20 0 5 + 1))) : vv = some (zI (x 0 0 9)) ∧ zGo (xAddCell x k0 a b r w n s) y2 W q 0 := by
  have C := jw_c H
  have can : xCellOk k0 a b r w n s → (xCanAdd x a b w ↔ (mThere W a ∧ (b = -1 ∨ mThere W b) ∧ ¬ mThere W w)) := fun ok => by
    have d1 := jw_def H ok.2.1
    have d3 := jw_def H ok.2.2.2.2.1
    unfold xCanAdd xDef mThere
    rw [d1, d3]
    rcases ok.2.2.1 with g | g
    · constructor
      · rintro ⟨p1, p2, p3⟩
        exact ⟨p1, Or.inl g, p3⟩
      · rintro ⟨p1, p2, p3⟩
        exact ⟨p1, Or.inl g, p3⟩
    · rw [jw_def H g]
  rcases hm with ⟨c, e, y⟩ | ⟨c, e, y⟩ | ⟨c, e, y⟩
  · exact absurd g.1.1 c
  · exact absurd ((can g.1.1).mp g.1.2) c.2
  · have Z := JV_cell (k := k0) (a := a) (b := b) (r := r) (w := w) (n := n) (s := s) H g.2 c.1 (by rw [mCod_k (k := 21) (by decide), mCod_k (k := 24) (by decide)]; exact c.2.1) (by rw [mCod_k (k := 21) (by decide), mCod_k (k := 24) (by decide)]; exact c.2.2.1) (by rw [mCod_k (k := 21) (by decide), mCod_k (k := 24) (by decide)]; exact c.2.2.2)
    rw [show (mCod W 0) 20 0 5 = W 20 0 5 from mCod_j (by decide)] at Z
    rw [C.2.1, e]
    refine ⟨rfl, z_fin (by rw [y]; exact Z) (by rw [y]; simp only [zup_d, Nat.reduceEqDiff, Int.reduceEq, Int.reduceNeg, eq_self, false_and, and_false, true_and, and_true, and_self, if_false, if_true, iff_self, or_true, true_or, or_false, false_or]; exact mCod_k (by decide)) (by rw [y]; simp only [zup_d, Nat.reduceEqDiff, Int.reduceEq, Int.reduceNeg, eq_self, false_and, and_false, true_and, and_true, and_self, if_false, if_true, iff_self, or_true, true_or, or_false, false_or]; exact mCod_k (by decide))⟩
theorem f_addCell {x W y2 : zSt} {vv : Option Value} {k k0 a b r w n s q : Int} (H : JV x (mCod W 0) q) (g : (k = 1 ∧ ¬ xCellOk k0 a b r w n s) ∨ (k = 2 ∧ xCellOk k0 a b r w n s ∧ ¬ xCanAdd x a b w)) (hm : ((¬ xCellOk k0 a b r w n s) ∧ vv = some (zI (0)) ∧ y2 = mCod W 1) ∨ ((xCellOk k0 a b r w n s ∧ ¬ (mThere W a ∧ (b = -1 ∨ mThere W b) ∧ ¬ mThere W w)) ∧ vv = some (zI (0)) ∧ y2 = mCod W 2) ∨ ((xCellOk k0 a b r w n s ∧ (mThere W a ∧ (b = -1 ∨ mThere W b) ∧ ¬ mThere W w)) ∧ vv = some (zI (W 20 0 5)) ∧ y2 = zup (zup (zup (zup (zup (zup (zup (zup (zup (mCod W 0) 26 0 (W 20 0 5) k0) 27 0 (W 20 0 5) a) 28 0 (W 20 0 5) b) 29 0 (W 20 0 5) r) 30 0 (W 20 0 5) w) 31 0 (W 20 0 5) n) 32 0 (W 20 0 5) s) 24 0 w (W 20 0 5)) 20 0 5 (W 20 0 5 + 1))) : (∃ b : Int, vv = some (zI b)) ∧ zGo x y2 W q k := by
  have C := jw_c H
  have can : xCellOk k0 a b r w n s → (xCanAdd x a b w ↔ (mThere W a ∧ (b = -1 ∨ mThere W b) ∧ ¬ mThere W w)) := fun ok => by
    have d1 := jw_def H ok.2.1
    have d3 := jw_def H ok.2.2.2.2.1
    unfold xCanAdd xDef mThere
    rw [d1, d3]
    rcases ok.2.2.1 with g | g
    · constructor
      · rintro ⟨p1, p2, p3⟩
        exact ⟨p1, Or.inl g, p3⟩
      · rintro ⟨p1, p2, p3⟩
        exact ⟨p1, Or.inl g, p3⟩
    · rw [jw_def H g]
  rcases g with ⟨rfl, g⟩ | ⟨rfl, g⟩
  · rcases hm with ⟨c, e, y⟩ | ⟨c, e, y⟩ | ⟨c, e, y⟩
    · rw [y, e]
      exact ⟨⟨_, rfl⟩, z_cod H⟩
    · exact absurd c.1 g
    · exact absurd c.1 g
  · rcases hm with ⟨c, e, y⟩ | ⟨c, e, y⟩ | ⟨c, e, y⟩
    · exact absurd g.1 c
    · rw [y, e]
      exact ⟨⟨_, rfl⟩, z_cod H⟩
    · exact absurd ((can g.1).mpr c.2) g.2
