set_option maxRecDepth 100000 in
set_option maxHeartbeats 4000000 in
theorem c_X5_failure {ad : Nat → Int → Nat} {x y : zSt} {c : Int} (hc : zR c) (hI : mI y) : zC yX5_failure cX5_failure 2 (some .char) 4 0 0 [.ref (ad 20 0), zI c] ad x y (fun vv x1 y1 => x1 = x ∧ (((¬ ((0 ≤ c ∧ c ≤ y 20 0 5 - 1) ∧ y 34 0 c = 120)) ∧ vv = some (zI (97)) ∧ y1 = mCod y (if (0 ≤ c ∧ c ≤ y 20 0 5 - 1) then (if y 34 0 c = 120 then 0 else 2) else 1)) ∨ ((((0 ≤ c ∧ c ≤ y 20 0 5 - 1) ∧ y 34 0 c = 120)) ∧ vv = some (zI (y 42 0 c)) ∧ y1 = mCod y 0))) (zF) := by
  refine zC_ofV (by decide) (by intro v hv; simp only [List.mem_cons, List.not_mem_nil, or_false] at hv; rcases hv with rfl | rfl <;> rfl) (Nat.le_of_ble_eq_true rfl) (fun Γ hX hN hM hT => ?_)
  show zV Γ ad 0 0 x y 0 [some (.ref (ad 20 0)), some (zI c)] []
  have n5 := hI.1.1
  have j3 := hI.2.2.1
  refine zV_aloadn hX dX5_failure_0 rfl ?_
  refine zV_iloadn hX dX5_failure_1 rfl ?_
  refine zV_cVS (n := 1) hX rfl hN 20 rfl rfl ⟨by decide, by decide⟩ (c_X5_isNoFailure (by omega) hI) zw_co_yX5_isNoFailure zw_mX5_221 zw_in_RX5 zw_im_yX5_isNoFailure zw_se_yX5_isNoFailure ⟨by decide, by decide, by decide +kernel⟩ rfl (by omega) (by decide) (by omega) (by omega) rfl (Nat.le_of_ble_eq_true rfl) dX5_failure_2 ?_ 
  refine zV_ifeq_b (tgt := 13) hX dX5_failure_5 (by decide) (fun b5 => ?_) (fun b5 => ?_)
  · have w := j3 c (by omega) (by omega)
    rw [if_pos (show (0 ≤ c ∧ c ≤ y 20 0 5 - 1) by omega), if_pos (show y 34 0 c = 120 by omega)]
    refine zV_aloadn hX dX5_failure_13 rfl ?_
    refine GF_X5_72 hX  dX5_failure_14 ?_
    refine zV_iloadn hX dX5_failure_17 rfl ?_
    refine AL_42 hX  ⟨by omega, by omega⟩ dX5_failure_18 (fun r18 => ?_)
    try simp only [mCod_k, mCod_j, zup_d, Nat.reduceEqDiff, Int.reduceEq, reduceCtorEq, not_false_eq_true, false_and, true_and, and_true, and_false, and_self, if_false, if_true, Int.reduceNeg] at r18 ⊢
    exact zV_iret hX hM (by omega) (by omega) (zn_char (by omega)) dX5_failure_19 (by first | exact ⟨rfl, Or.inl ⟨by first | omega | assumption | exact ⟨by omega, by assumption⟩ | exact ⟨by omega, by omega, by assumption⟩ | exact ⟨by omega, by assumption, by omega⟩ | exact ⟨by omega, fun q => absurd q.1 (by assumption)⟩ | exact ⟨by omega, fun q => absurd q.2 (by omega)⟩ | exact ⟨by assumption, by omega⟩ | exact ⟨by assumption, by assumption⟩, by first | rfl | (congr 2; omega), by first | rfl | (simp only [mCod_cod])⟩⟩ | exact ⟨rfl, Or.inr (⟨by first | omega | assumption | exact ⟨by omega, by assumption⟩ | exact ⟨by omega, by omega, by assumption⟩ | exact ⟨by omega, by assumption, by omega⟩ | exact ⟨by omega, fun q => absurd q.1 (by assumption)⟩ | exact ⟨by omega, fun q => absurd q.2 (by omega)⟩ | exact ⟨by assumption, by omega⟩ | exact ⟨by assumption, by assumption⟩, by first | rfl | (congr 2; omega), by first | rfl | (simp only [mCod_cod])⟩)⟩)
  · refine zV_bipush hX dX5_failure_8 (by decide) ?_
    refine zV_goto (tgt := 19) hX dX5_failure_10 (by decide) ?_
    exact zV_iret hX hM (by omega) (by omega) (zn_char (by omega)) dX5_failure_19 (by first | exact ⟨rfl, Or.inl ⟨by first | omega | assumption | exact ⟨by omega, by assumption⟩ | exact ⟨by omega, by omega, by assumption⟩ | exact ⟨by omega, by assumption, by omega⟩ | exact ⟨by omega, fun q => absurd q.1 (by assumption)⟩ | exact ⟨by omega, fun q => absurd q.2 (by omega)⟩ | exact ⟨by assumption, by omega⟩ | exact ⟨by assumption, by assumption⟩, by first | rfl | (congr 2; omega), by first | rfl | (simp only [mCod_cod])⟩⟩ | exact ⟨rfl, Or.inr (⟨by first | omega | assumption | exact ⟨by omega, by assumption⟩ | exact ⟨by omega, by omega, by assumption⟩ | exact ⟨by omega, by assumption, by omega⟩ | exact ⟨by omega, fun q => absurd q.1 (by assumption)⟩ | exact ⟨by omega, fun q => absurd q.2 (by omega)⟩ | exact ⟨by assumption, by omega⟩ | exact ⟨by assumption, by assumption⟩, by first | rfl | (congr 2; omega), by first | rfl | (simp only [mCod_cod])⟩)⟩)
set_option maxRecDepth 100000 in
set_option maxHeartbeats 4000000 in
theorem c_X5_root {ad : Nat → Int → Nat} {x y : zSt} {c : Int} (hc : zR c) (hI : mI y) : zC yX5_root cX5_root 2 (some .int) 4 0 0 [.ref (ad 20 0), zI c] ad x y (fun vv x1 y1 => x1 = x ∧ (((¬ ((0 ≤ c ∧ c ≤ y 20 0 5 - 1) ∧ y 34 0 c = 120)) ∧ vv = some (zI (0)) ∧ y1 = mCod y (if (0 ≤ c ∧ c ≤ y 20 0 5 - 1) then (if y 34 0 c = 120 then 0 else 2) else 1)) ∨ ((((0 ≤ c ∧ c ≤ y 20 0 5 - 1) ∧ y 34 0 c = 120)) ∧ vv = some (zI (y 40 0 c)) ∧ y1 = mCod y 0))) (zF) := by
  refine zC_ofV (by decide) (by intro v hv; simp only [List.mem_cons, List.not_mem_nil, or_false] at hv; rcases hv with rfl | rfl <;> rfl) (Nat.le_of_ble_eq_true rfl) (fun Γ hX hN hM hT => ?_)
  show zV Γ ad 0 0 x y 0 [some (.ref (ad 20 0)), some (zI c)] []
  have n5 := hI.1.1
  have j3 := hI.2.2.1
  refine zV_aloadn hX dX5_root_0 rfl ?_
  refine zV_iloadn hX dX5_root_1 rfl ?_
  refine zV_cVS (n := 1) hX rfl hN 20 rfl rfl ⟨by decide, by decide⟩ (c_X5_isNoFailure (by omega) hI) zw_co_yX5_isNoFailure zw_mX5_221 zw_in_RX5 zw_im_yX5_isNoFailure zw_se_yX5_isNoFailure ⟨by decide, by decide, by decide +kernel⟩ rfl (by omega) (by decide) (by omega) (by omega) rfl (Nat.le_of_ble_eq_true rfl) dX5_root_2 ?_ 
  refine zV_ifeq_b (tgt := 12) hX dX5_root_5 (by decide) (fun b5 => ?_) (fun b5 => ?_)
  · have w := j3 c (by omega) (by omega)
    rw [if_pos (show (0 ≤ c ∧ c ≤ y 20 0 5 - 1) by omega), if_pos (show y 34 0 c = 120 by omega)]
    refine zV_aloadn hX dX5_root_12 rfl ?_
    refine GF_X5_66 hX  dX5_root_13 ?_
    refine zV_iloadn hX dX5_root_16 rfl ?_
    refine AL_40 hX  ⟨by omega, by omega⟩ dX5_root_17 (fun r17 => ?_)
    try simp only [mCod_k, mCod_j, zup_d, Nat.reduceEqDiff, Int.reduceEq, reduceCtorEq, not_false_eq_true, false_and, true_and, and_true, and_false, and_self, if_false, if_true, Int.reduceNeg] at r17 ⊢
    exact zV_iret hX hM (by omega) (by omega) rfl dX5_root_18 (by first | exact ⟨rfl, Or.inl ⟨by first | omega | assumption | exact ⟨by omega, by assumption⟩ | exact ⟨by omega, by omega, by assumption⟩ | exact ⟨by omega, by assumption, by omega⟩ | exact ⟨by omega, fun q => absurd q.1 (by assumption)⟩ | exact ⟨by omega, fun q => absurd q.2 (by omega)⟩ | exact ⟨by assumption, by omega⟩ | exact ⟨by assumption, by assumption⟩, by first | rfl | (congr 2; omega), by first | rfl | (simp only [mCod_cod])⟩⟩ | exact ⟨rfl, Or.inr (⟨by first | omega | assumption | exact ⟨by omega, by assumption⟩ | exact ⟨by omega, by omega, by assumption⟩ | exact ⟨by omega, by assumption, by omega⟩ | exact ⟨by omega, fun q => absurd q.1 (by assumption)⟩ | exact ⟨by omega, fun q => absurd q.2 (by omega)⟩ | exact ⟨by assumption, by omega⟩ | exact ⟨by assumption, by assumption⟩, by first | rfl | (congr 2; omega), by first | rfl | (simp only [mCod_cod])⟩)⟩)
  · refine zV_iconst hX dX5_root_8 ?_
    refine zV_goto (tgt := 18) hX dX5_root_9 (by decide) ?_
    exact zV_iret hX hM (by omega) (by omega) rfl dX5_root_18 (by first | exact ⟨rfl, Or.inl ⟨by first | omega | assumption | exact ⟨by omega, by assumption⟩ | exact ⟨by omega, by omega, by assumption⟩ | exact ⟨by omega, by assumption, by omega⟩ | exact ⟨by omega, fun q => absurd q.1 (by assumption)⟩ | exact ⟨by omega, fun q => absurd q.2 (by omega)⟩ | exact ⟨by assumption, by omega⟩ | exact ⟨by assumption, by assumption⟩, by first | rfl | (congr 2; omega), by first | rfl | (simp only [mCod_cod])⟩⟩ | exact ⟨rfl, Or.inr (⟨by first | omega | assumption | exact ⟨by omega, by assumption⟩ | exact ⟨by omega, by omega, by assumption⟩ | exact ⟨by omega, by assumption, by omega⟩ | exact ⟨by omega, fun q => absurd q.1 (by assumption)⟩ | exact ⟨by omega, fun q => absurd q.2 (by omega)⟩ | exact ⟨by assumption, by omega⟩ | exact ⟨by assumption, by assumption⟩, by first | rfl | (congr 2; omega), by first | rfl | (simp only [mCod_cod])⟩)⟩)
set_option maxRecDepth 100000 in
set_option maxHeartbeats 4000000 in
theorem c_X5_rootFailure {ad : Nat → Int → Nat} {x y : zSt} {c : Int} (hc : zR c) (hI : mI y) : zC yX5_rootFailure cX5_rootFailure 2 (some .char) 4 0 0 [.ref (ad 20 0), zI c] ad x y (fun vv x1 y1 => x1 = x ∧ (((¬ ((0 ≤ c ∧ c ≤ y 20 0 5 - 1) ∧ y 34 0 c = 120)) ∧ vv = some (zI (97)) ∧ y1 = mCod y (if (0 ≤ c ∧ c ≤ y 20 0 5 - 1) then (if y 34 0 c = 120 then 0 else 2) else 1)) ∨ ((((0 ≤ c ∧ c ≤ y 20 0 5 - 1) ∧ y 34 0 c = 120)) ∧ vv = some (zI (y 41 0 c)) ∧ y1 = mCod y 0))) (zF) := by
  refine zC_ofV (by decide) (by intro v hv; simp only [List.mem_cons, List.not_mem_nil, or_false] at hv; rcases hv with rfl | rfl <;> rfl) (Nat.le_of_ble_eq_true rfl) (fun Γ hX hN hM hT => ?_)
  show zV Γ ad 0 0 x y 0 [some (.ref (ad 20 0)), some (zI c)] []
  have n5 := hI.1.1
  have j3 := hI.2.2.1
  refine zV_aloadn hX dX5_rootFailure_0 rfl ?_
  refine zV_iloadn hX dX5_rootFailure_1 rfl ?_
  refine zV_cVS (n := 1) hX rfl hN 20 rfl rfl ⟨by decide, by decide⟩ (c_X5_isNoFailure (by omega) hI) zw_co_yX5_isNoFailure zw_mX5_221 zw_in_RX5 zw_im_yX5_isNoFailure zw_se_yX5_isNoFailure ⟨by decide, by decide, by decide +kernel⟩ rfl (by omega) (by decide) (by omega) (by omega) rfl (Nat.le_of_ble_eq_true rfl) dX5_rootFailure_2 ?_ 
  refine zV_ifeq_b (tgt := 13) hX dX5_rootFailure_5 (by decide) (fun b5 => ?_) (fun b5 => ?_)
  · have w := j3 c (by omega) (by omega)
    rw [if_pos (show (0 ≤ c ∧ c ≤ y 20 0 5 - 1) by omega), if_pos (show y 34 0 c = 120 by omega)]
    refine zV_aloadn hX dX5_rootFailure_13 rfl ?_
    refine GF_X5_69 hX  dX5_rootFailure_14 ?_
    refine zV_iloadn hX dX5_rootFailure_17 rfl ?_
    refine AL_41 hX  ⟨by omega, by omega⟩ dX5_rootFailure_18 (fun r18 => ?_)
    try simp only [mCod_k, mCod_j, zup_d, Nat.reduceEqDiff, Int.reduceEq, reduceCtorEq, not_false_eq_true, false_and, true_and, and_true, and_false, and_self, if_false, if_true, Int.reduceNeg] at r18 ⊢
    exact zV_iret hX hM (by omega) (by omega) (zn_char (by omega)) dX5_rootFailure_19 (by first | exact ⟨rfl, Or.inl ⟨by first | omega | assumption | exact ⟨by omega, by assumption⟩ | exact ⟨by omega, by omega, by assumption⟩ | exact ⟨by omega, by assumption, by omega⟩ | exact ⟨by omega, fun q => absurd q.1 (by assumption)⟩ | exact ⟨by omega, fun q => absurd q.2 (by omega)⟩ | exact ⟨by assumption, by omega⟩ | exact ⟨by assumption, by assumption⟩, by first | rfl | (congr 2; omega), by first | rfl | (simp only [mCod_cod])⟩⟩ | exact ⟨rfl, Or.inr (⟨by first | omega | assumption | exact ⟨by omega, by assumption⟩ | exact ⟨by omega, by omega, by assumption⟩ | exact ⟨by omega, by assumption, by omega⟩ | exact ⟨by omega, fun q => absurd q.1 (by assumption)⟩ | exact ⟨by omega, fun q => absurd q.2 (by omega)⟩ | exact ⟨by assumption, by omega⟩ | exact ⟨by assumption, by assumption⟩, by first | rfl | (congr 2; omega), by first | rfl | (simp only [mCod_cod])⟩)⟩)
  · refine zV_bipush hX dX5_rootFailure_8 (by decide) ?_
    refine zV_goto (tgt := 19) hX dX5_rootFailure_10 (by decide) ?_
    exact zV_iret hX hM (by omega) (by omega) (zn_char (by omega)) dX5_rootFailure_19 (by first | exact ⟨rfl, Or.inl ⟨by first | omega | assumption | exact ⟨by omega, by assumption⟩ | exact ⟨by omega, by omega, by assumption⟩ | exact ⟨by omega, by assumption, by omega⟩ | exact ⟨by omega, fun q => absurd q.1 (by assumption)⟩ | exact ⟨by omega, fun q => absurd q.2 (by omega)⟩ | exact ⟨by assumption, by omega⟩ | exact ⟨by assumption, by assumption⟩, by first | rfl | (congr 2; omega), by first | rfl | (simp only [mCod_cod])⟩⟩ | exact ⟨rfl, Or.inr (⟨by first | omega | assumption | exact ⟨by omega, by assumption⟩ | exact ⟨by omega, by omega, by assumption⟩ | exact ⟨by omega, by assumption, by omega⟩ | exact ⟨by omega, fun q => absurd q.1 (by assumption)⟩ | exact ⟨by omega, fun q => absurd q.2 (by omega)⟩ | exact ⟨by assumption, by omega⟩ | exact ⟨by assumption, by assumption⟩, by first | rfl | (congr 2; omega), by first | rfl | (simp only [mCod_cod])⟩)⟩)
set_option maxRecDepth 100000 in
set_option maxHeartbeats 4000000 in
theorem c_X5_causes {ad : Nat → Int → Nat} {x y : zSt} {c : Int} (hc : zR c) (hI : mI y) : zC yX5_causes cX5_causes 2 (some .int) 4 0 0 [.ref (ad 20 0), zI c] ad x y (fun vv x1 y1 => x1 = x ∧ (((¬ ((0 ≤ c ∧ c ≤ y 20 0 5 - 1) ∧ y 34 0 c = 120)) ∧ vv = some (zI (0)) ∧ y1 = mCod y (if (0 ≤ c ∧ c ≤ y 20 0 5 - 1) then (if y 34 0 c = 120 then 0 else 2) else 1)) ∨ ((((0 ≤ c ∧ c ≤ y 20 0 5 - 1) ∧ y 34 0 c = 120)) ∧ vv = some (zI (y 43 0 c)) ∧ y1 = mCod y 0))) (zF) := by
  refine zC_ofV (by decide) (by intro v hv; simp only [List.mem_cons, List.not_mem_nil, or_false] at hv; rcases hv with rfl | rfl <;> rfl) (Nat.le_of_ble_eq_true rfl) (fun Γ hX hN hM hT => ?_)
  show zV Γ ad 0 0 x y 0 [some (.ref (ad 20 0)), some (zI c)] []
  have n5 := hI.1.1
  have j3 := hI.2.2.1
  refine zV_aloadn hX dX5_causes_0 rfl ?_
  refine zV_iloadn hX dX5_causes_1 rfl ?_
  refine zV_cVS (n := 1) hX rfl hN 20 rfl rfl ⟨by decide, by decide⟩ (c_X5_isNoFailure (by omega) hI) zw_co_yX5_isNoFailure zw_mX5_221 zw_in_RX5 zw_im_yX5_isNoFailure zw_se_yX5_isNoFailure ⟨by decide, by decide, by decide +kernel⟩ rfl (by omega) (by decide) (by omega) (by omega) rfl (Nat.le_of_ble_eq_true rfl) dX5_causes_2 ?_ 
  refine zV_ifeq_b (tgt := 12) hX dX5_causes_5 (by decide) (fun b5 => ?_) (fun b5 => ?_)
  · have w := j3 c (by omega) (by omega)
    rw [if_pos (show (0 ≤ c ∧ c ≤ y 20 0 5 - 1) by omega), if_pos (show y 34 0 c = 120 by omega)]
    refine zV_aloadn hX dX5_causes_12 rfl ?_
    refine GF_X5_75 hX  dX5_causes_13 ?_
    refine zV_iloadn hX dX5_causes_16 rfl ?_
    refine AL_43 hX  ⟨by omega, by omega⟩ dX5_causes_17 (fun r17 => ?_)
    try simp only [mCod_k, mCod_j, zup_d, Nat.reduceEqDiff, Int.reduceEq, reduceCtorEq, not_false_eq_true, false_and, true_and, and_true, and_false, and_self, if_false, if_true, Int.reduceNeg] at r17 ⊢
    exact zV_iret hX hM (by omega) (by omega) rfl dX5_causes_18 (by first | exact ⟨rfl, Or.inl ⟨by first | omega | assumption | exact ⟨by omega, by assumption⟩ | exact ⟨by omega, by omega, by assumption⟩ | exact ⟨by omega, by assumption, by omega⟩ | exact ⟨by omega, fun q => absurd q.1 (by assumption)⟩ | exact ⟨by omega, fun q => absurd q.2 (by omega)⟩ | exact ⟨by assumption, by omega⟩ | exact ⟨by assumption, by assumption⟩, by first | rfl | (congr 2; omega), by first | rfl | (simp only [mCod_cod])⟩⟩ | exact ⟨rfl, Or.inr (⟨by first | omega | assumption | exact ⟨by omega, by assumption⟩ | exact ⟨by omega, by omega, by assumption⟩ | exact ⟨by omega, by assumption, by omega⟩ | exact ⟨by omega, fun q => absurd q.1 (by assumption)⟩ | exact ⟨by omega, fun q => absurd q.2 (by omega)⟩ | exact ⟨by assumption, by omega⟩ | exact ⟨by assumption, by assumption⟩, by first | rfl | (congr 2; omega), by first | rfl | (simp only [mCod_cod])⟩)⟩)
  · refine zV_iconst hX dX5_causes_8 ?_
    refine zV_goto (tgt := 18) hX dX5_causes_9 (by decide) ?_
    exact zV_iret hX hM (by omega) (by omega) rfl dX5_causes_18 (by first | exact ⟨rfl, Or.inl ⟨by first | omega | assumption | exact ⟨by omega, by assumption⟩ | exact ⟨by omega, by omega, by assumption⟩ | exact ⟨by omega, by assumption, by omega⟩ | exact ⟨by omega, fun q => absurd q.1 (by assumption)⟩ | exact ⟨by omega, fun q => absurd q.2 (by omega)⟩ | exact ⟨by assumption, by omega⟩ | exact ⟨by assumption, by assumption⟩, by first | rfl | (congr 2; omega), by first | rfl | (simp only [mCod_cod])⟩⟩ | exact ⟨rfl, Or.inr (⟨by first | omega | assumption | exact ⟨by omega, by assumption⟩ | exact ⟨by omega, by omega, by assumption⟩ | exact ⟨by omega, by assumption, by omega⟩ | exact ⟨by omega, fun q => absurd q.1 (by assumption)⟩ | exact ⟨by omega, fun q => absurd q.2 (by omega)⟩ | exact ⟨by assumption, by omega⟩ | exact ⟨by assumption, by assumption⟩, by first | rfl | (congr 2; omega), by first | rfl | (simp only [mCod_cod])⟩)⟩)
set_option maxRecDepth 100000 in
set_option maxHeartbeats 4000000 in
theorem c_X5_run {ad : Nat → Int → Nat} {x y : zSt} {c : Int} (hc : zR c) (hI : mI y) (hR : (0 ≤ c ∧ c ≤ y 20 0 5 - 1) → 0 ≤ mKer (mCod y 0) c → y 20 0 30 ≤ 59) : zC yX5_run cX5_run 2 (some .char) 4 0 0 [.ref (ad 20 0), zI c] ad x y (fun vv x1 y1 => x1 = x ∧ (((¬ (0 ≤ c ∧ c ≤ y 20 0 5 - 1)) ∧ vv = some (zI (97)) ∧ y1 = mCod y 1) ∨ (((0 ≤ c ∧ c ≤ y 20 0 5 - 1)) ∧ vv = some (zI (mDoR (mCod y 0) c)) ∧ y1 = mDoS (mCod y 0) c))) (zF) := by
  refine zC_ofV (by decide) (by intro v hv; simp only [List.mem_cons, List.not_mem_nil, or_false] at hv; rcases hv with rfl | rfl <;> rfl) (Nat.le_of_ble_eq_true rfl) (fun Γ hX hN hM hT => ?_)
  show zV Γ ad 0 0 x y 0 [some (.ref (ad 20 0)), some (zI c)] []
  have n5 := hI.1.1
  have db := mDoR_b (y := mCod y 0) (c := c)
  refine zV_aloadn hX dX5_run_0 rfl ?_
  refine zV_iloadn hX dX5_run_1 rfl ?_
  refine zV_cVS (n := 1) hX rfl hN 20 rfl rfl ⟨by decide, by decide⟩ (c_X5_isNoCell (by omega) hI) zw_co_yX5_isNoCell zw_mX5_140 zw_in_RX5 zw_im_yX5_isNoCell zw_se_yX5_isNoCell ⟨by decide, by decide, by decide +kernel⟩ rfl (by omega) (by decide) (by omega) (by omega) rfl (Nat.le_of_ble_eq_true rfl) dX5_run_2 ?_ 
  refine zV_ifeq_b (tgt := 13) hX dX5_run_5 (by decide) (fun b5 => ?_) (fun b5 => ?_)
  · rw [if_pos (by omega)]
    refine zV_aloadn hX dX5_run_13 rfl ?_
    refine zV_iloadn hX dX5_run_14 rfl ?_
    refine zV_cVS (n := 1) hX rfl hN 20 rfl rfl ⟨by decide, by decide⟩ (c_X5_does (y := mCod y 0) (c := c) ⟨by omega, by rw [mCod_j (by decide)]; omega⟩ (mI_cod hI) (fun g => by rw [mCod_j (by decide)]; exact hR (by omega) g)) zw_co_yX5_does zw_mX5_207 zw_in_RX5 zw_im_yX5_does zw_se_yX5_does ⟨by decide, by decide, by decide +kernel⟩ rfl (by omega) (by decide) (by omega) (by omega) rfl (Nat.le_of_ble_eq_true rfl) dX5_run_15 ?_ 
    exact zV_iret hX hM (by omega) (by omega) (zn_char (by omega)) dX5_run_18 (by first | exact ⟨rfl, Or.inl ⟨by first | omega | assumption | exact ⟨by omega, by assumption⟩ | exact ⟨by omega, by omega, by assumption⟩ | exact ⟨by omega, by assumption, by omega⟩ | exact ⟨by omega, fun q => absurd q.1 (by assumption)⟩ | exact ⟨by omega, fun q => absurd q.2 (by omega)⟩ | exact ⟨by assumption, by omega⟩ | exact ⟨by assumption, by assumption⟩, by first | rfl | (congr 2; omega), by first | rfl | (simp only [mCod_cod])⟩⟩ | exact ⟨rfl, Or.inr (⟨by first | omega | assumption | exact ⟨by omega, by assumption⟩ | exact ⟨by omega, by omega, by assumption⟩ | exact ⟨by omega, by assumption, by omega⟩ | exact ⟨by omega, fun q => absurd q.1 (by assumption)⟩ | exact ⟨by omega, fun q => absurd q.2 (by omega)⟩ | exact ⟨by assumption, by omega⟩ | exact ⟨by assumption, by assumption⟩, by first | rfl | (congr 2; omega), by first | rfl | (simp only [mCod_cod])⟩)⟩)
  · rw [if_neg (by omega)]
    refine zV_bipush hX dX5_run_8 (by decide) ?_
    refine zV_goto (tgt := 18) hX dX5_run_10 (by decide) ?_
    exact zV_iret hX hM (by omega) (by omega) (zn_char (by omega)) dX5_run_18 (by first | exact ⟨rfl, Or.inl ⟨by first | omega | assumption | exact ⟨by omega, by assumption⟩ | exact ⟨by omega, by omega, by assumption⟩ | exact ⟨by omega, by assumption, by omega⟩ | exact ⟨by omega, fun q => absurd q.1 (by assumption)⟩ | exact ⟨by omega, fun q => absurd q.2 (by omega)⟩ | exact ⟨by assumption, by omega⟩ | exact ⟨by assumption, by assumption⟩, by first | rfl | (congr 2; omega), by first | rfl | (simp only [mCod_cod])⟩⟩ | exact ⟨rfl, Or.inr (⟨by first | omega | assumption | exact ⟨by omega, by assumption⟩ | exact ⟨by omega, by omega, by assumption⟩ | exact ⟨by omega, by assumption, by omega⟩ | exact ⟨by omega, fun q => absurd q.1 (by assumption)⟩ | exact ⟨by omega, fun q => absurd q.2 (by omega)⟩ | exact ⟨by assumption, by omega⟩ | exact ⟨by assumption, by assumption⟩, by first | rfl | (congr 2; omega), by first | rfl | (simp only [mCod_cod])⟩)⟩)
set_option maxRecDepth 100000 in
set_option maxHeartbeats 4000000 in
theorem c_X5_state {ad : Nat → Int → Nat} {x y : zSt} {c : Int} (hc : zR c) (hI : mI y) : zC yX5_state cX5_state 2 (some .char) 26 0 0 [.ref (ad 20 0), zI c] ad x y (fun vv x1 y1 => x1 = x ∧ (((¬ (0 ≤ c ∧ c ≤ y 20 0 5 - 1)) ∧ vv = some (zI (97)) ∧ y1 = mCod y 1) ∨ (((0 ≤ c ∧ c ≤ y 20 0 5 - 1) ∧ y 34 0 c ≠ 102) ∧ vv = some (zI (y 34 0 c)) ∧ y1 = mCod y 0) ∨ (((0 ≤ c ∧ c ≤ y 20 0 5 - 1) ∧ y 34 0 c = 102 ∧ mFr (mCod y 0) 11 c = true) ∧ vv = some (zI (102)) ∧ y1 = mCod y 0) ∨ (((0 ≤ c ∧ c ≤ y 20 0 5 - 1) ∧ y 34 0 c = 102 ∧ ¬ mFr (mCod y 0) 11 c = true) ∧ vv = some (zI (115)) ∧ y1 = mCod y 0))) (zF) := by
  refine zC_ofV (by decide) (by intro v hv; simp only [List.mem_cons, List.not_mem_nil, or_false] at hv; rcases hv with rfl | rfl <;> rfl) (Nat.le_of_ble_eq_true rfl) (fun Γ hX hN hM hT => ?_)
  show zV Γ ad 0 0 x y 0 [some (.ref (ad 20 0)), some (zI c)] []
  have n5 := hI.1.1
  have j3 := hI.2.2.1
  refine zV_aloadn hX dX5_state_0 rfl ?_
  refine zV_iloadn hX dX5_state_1 rfl ?_
  refine zV_cVS (n := 1) hX rfl hN 20 rfl rfl ⟨by decide, by decide⟩ (c_X5_isNoCell (by omega) hI) zw_co_yX5_isNoCell zw_mX5_140 zw_in_RX5 zw_im_yX5_isNoCell zw_se_yX5_isNoCell ⟨by decide, by decide, by decide +kernel⟩ rfl (by omega) (by decide) (by omega) (by omega) rfl (Nat.le_of_ble_eq_true rfl) dX5_state_2 ?_ 
  refine zV_ifeq_b (tgt := 13) hX dX5_state_5 (by decide) (fun b5 => ?_) (fun b5 => ?_)
  · rw [if_pos (by omega)]
    have w := j3 c (by omega) (by omega)
    refine zV_aloadn hX dX5_state_13 rfl ?_
    refine GF_X5_48 hX  dX5_state_14 ?_
    refine zV_iloadn hX dX5_state_17 rfl ?_
    refine AL_34 hX  ⟨by omega, by omega⟩ dX5_state_18 (fun r18 => ?_)
    try simp only [mCod_k, mCod_j, zup_d, Nat.reduceEqDiff, Int.reduceEq, reduceCtorEq, not_false_eq_true, false_and, true_and, and_true, and_false, and_self, if_false, if_true, Int.reduceNeg] at r18 ⊢
    refine zV_bipush hX dX5_state_19 (by decide) ?_
    refine zV_icmp_eq (tgt := 33) hX dX5_state_21 (by decide) (by omega) (by omega) (fun b21 => ?_) (fun b21 => ?_)
    · refine zV_aloadn hX dX5_state_33 rfl ?_
      refine zV_iloadn hX dX5_state_34 rfl ?_
      refine zV_cVS (n := 1) hX rfl hN 20 rfl rfl ⟨by decide, by decide⟩ (c_X5_isFresh (mI_cod hI) 11 c (by omega) (by rw [mCod_j (by decide)]; omega) (by omega)) zw_co_yX5_isFresh zw_mX5_211 zw_in_RX5 zw_im_yX5_isFresh zw_se_yX5_isFresh ⟨by decide, by decide, by decide +kernel⟩ rfl (by omega) (by decide) (by omega) (by omega) rfl (Nat.le_of_ble_eq_true rfl) dX5_state_35 ?_ 
      refine zV_ifeq_b (tgt := 46) hX dX5_state_38 (by decide) (fun b38 => ?_) (fun b38 => ?_)
      · refine zV_bipush hX dX5_state_46 (by decide) ?_
        exact zV_iret hX hM (by omega) (by omega) (zn_char (by omega)) dX5_state_48 (by first | exact ⟨rfl, Or.inl ⟨by first | omega | assumption | exact ⟨by omega, by assumption⟩ | exact ⟨by omega, by omega, by assumption⟩ | exact ⟨by omega, by assumption, by omega⟩ | exact ⟨by omega, fun q => absurd q.1 (by assumption)⟩ | exact ⟨by omega, fun q => absurd q.2 (by omega)⟩ | exact ⟨by assumption, by omega⟩ | exact ⟨by assumption, by assumption⟩, by first | rfl | (congr 2; omega), by first | rfl | (simp only [mCod_cod])⟩⟩ | exact ⟨rfl, Or.inr (Or.inl ⟨by first | omega | assumption | exact ⟨by omega, by assumption⟩ | exact ⟨by omega, by omega, by assumption⟩ | exact ⟨by omega, by assumption, by omega⟩ | exact ⟨by omega, fun q => absurd q.1 (by assumption)⟩ | exact ⟨by omega, fun q => absurd q.2 (by omega)⟩ | exact ⟨by assumption, by omega⟩ | exact ⟨by assumption, by assumption⟩, by first | rfl | (congr 2; omega), by first | rfl | (simp only [mCod_cod])⟩)⟩ | exact ⟨rfl, Or.inr (Or.inr (Or.inl ⟨by first | omega | assumption | exact ⟨by omega, by assumption⟩ | exact ⟨by omega, by omega, by assumption⟩ | exact ⟨by omega, by assumption, by omega⟩ | exact ⟨by omega, fun q => absurd q.1 (by assumption)⟩ | exact ⟨by omega, fun q => absurd q.2 (by omega)⟩ | exact ⟨by assumption, by omega⟩ | exact ⟨by assumption, by assumption⟩, by first | rfl | (congr 2; omega), by first | rfl | (simp only [mCod_cod])⟩))⟩ | exact ⟨rfl, Or.inr (Or.inr (Or.inr (⟨by first | omega | assumption | exact ⟨by omega, by assumption⟩ | exact ⟨by omega, by omega, by assumption⟩ | exact ⟨by omega, by assumption, by omega⟩ | exact ⟨by omega, fun q => absurd q.1 (by assumption)⟩ | exact ⟨by omega, fun q => absurd q.2 (by omega)⟩ | exact ⟨by assumption, by omega⟩ | exact ⟨by assumption, by assumption⟩, by first | rfl | (congr 2; omega), by first | rfl | (simp only [mCod_cod])⟩)))⟩)
      · refine zV_bipush hX dX5_state_41 (by decide) ?_
        refine zV_goto (tgt := 48) hX dX5_state_43 (by decide) ?_
        exact zV_iret hX hM (by omega) (by omega) (zn_char (by omega)) dX5_state_48 (by first | exact ⟨rfl, Or.inl ⟨by first | omega | assumption | exact ⟨by omega, by assumption⟩ | exact ⟨by omega, by omega, by assumption⟩ | exact ⟨by omega, by assumption, by omega⟩ | exact ⟨by omega, fun q => absurd q.1 (by assumption)⟩ | exact ⟨by omega, fun q => absurd q.2 (by omega)⟩ | exact ⟨by assumption, by omega⟩ | exact ⟨by assumption, by assumption⟩, by first | rfl | (congr 2; omega), by first | rfl | (simp only [mCod_cod])⟩⟩ | exact ⟨rfl, Or.inr (Or.inl ⟨by first | omega | assumption | exact ⟨by omega, by assumption⟩ | exact ⟨by omega, by omega, by assumption⟩ | exact ⟨by omega, by assumption, by omega⟩ | exact ⟨by omega, fun q => absurd q.1 (by assumption)⟩ | exact ⟨by omega, fun q => absurd q.2 (by omega)⟩ | exact ⟨by assumption, by omega⟩ | exact ⟨by assumption, by assumption⟩, by first | rfl | (congr 2; omega), by first | rfl | (simp only [mCod_cod])⟩)⟩ | exact ⟨rfl, Or.inr (Or.inr (Or.inl ⟨by first | omega | assumption | exact ⟨by omega, by assumption⟩ | exact ⟨by omega, by omega, by assumption⟩ | exact ⟨by omega, by assumption, by omega⟩ | exact ⟨by omega, fun q => absurd q.1 (by assumption)⟩ | exact ⟨by omega, fun q => absurd q.2 (by omega)⟩ | exact ⟨by assumption, by omega⟩ | exact ⟨by assumption, by assumption⟩, by first | rfl | (congr 2; omega), by first | rfl | (simp only [mCod_cod])⟩))⟩ | exact ⟨rfl, Or.inr (Or.inr (Or.inr (⟨by first | omega | assumption | exact ⟨by omega, by assumption⟩ | exact ⟨by omega, by omega, by assumption⟩ | exact ⟨by omega, by assumption, by omega⟩ | exact ⟨by omega, fun q => absurd q.1 (by assumption)⟩ | exact ⟨by omega, fun q => absurd q.2 (by omega)⟩ | exact ⟨by assumption, by omega⟩ | exact ⟨by assumption, by assumption⟩, by first | rfl | (congr 2; omega), by first | rfl | (simp only [mCod_cod])⟩)))⟩)
    · refine zV_aloadn hX dX5_state_24 rfl ?_
      refine GF_X5_48 hX  dX5_state_25 ?_
      refine zV_iloadn hX dX5_state_28 rfl ?_
      refine AL_34 hX  ⟨by omega, by omega⟩ dX5_state_29 (fun r29 => ?_)
      try simp only [mCod_k, mCod_j, zup_d, Nat.reduceEqDiff, Int.reduceEq, reduceCtorEq, not_false_eq_true, false_and, true_and, and_true, and_false, and_self, if_false, if_true, Int.reduceNeg] at r29 ⊢
      refine zV_goto (tgt := 48) hX dX5_state_30 (by decide) ?_
      exact zV_iret hX hM (by omega) (by omega) (zn_char (by omega)) dX5_state_48 (by first | exact ⟨rfl, Or.inl ⟨by first | omega | assumption | exact ⟨by omega, by assumption⟩ | exact ⟨by omega, by omega, by assumption⟩ | exact ⟨by omega, by assumption, by omega⟩ | exact ⟨by omega, fun q => absurd q.1 (by assumption)⟩ | exact ⟨by omega, fun q => absurd q.2 (by omega)⟩ | exact ⟨by assumption, by omega⟩ | exact ⟨by assumption, by assumption⟩, by first | rfl | (congr 2; omega), by first | rfl | (simp only [mCod_cod])⟩⟩ | exact ⟨rfl, Or.inr (Or.inl ⟨by first | omega | assumption | exact ⟨by omega, by assumption⟩ | exact ⟨by omega, by omega, by assumption⟩ | exact ⟨by omega, by assumption, by omega⟩ | exact ⟨by omega, fun q => absurd q.1 (by assumption)⟩ | exact ⟨by omega, fun q => absurd q.2 (by omega)⟩ | exact ⟨by assumption, by omega⟩ | exact ⟨by assumption, by assumption⟩, by first | rfl | (congr 2; omega), by first | rfl | (simp only [mCod_cod])⟩)⟩ | exact ⟨rfl, Or.inr (Or.inr (Or.inl ⟨by first | omega | assumption | exact ⟨by omega, by assumption⟩ | exact ⟨by omega, by omega, by assumption⟩ | exact ⟨by omega, by assumption, by omega⟩ | exact ⟨by omega, fun q => absurd q.1 (by assumption)⟩ | exact ⟨by omega, fun q => absurd q.2 (by omega)⟩ | exact ⟨by assumption, by omega⟩ | exact ⟨by assumption, by assumption⟩, by first | rfl | (congr 2; omega), by first | rfl | (simp only [mCod_cod])⟩))⟩ | exact ⟨rfl, Or.inr (Or.inr (Or.inr (⟨by first | omega | assumption | exact ⟨by omega, by assumption⟩ | exact ⟨by omega, by omega, by assumption⟩ | exact ⟨by omega, by assumption, by omega⟩ | exact ⟨by omega, fun q => absurd q.1 (by assumption)⟩ | exact ⟨by omega, fun q => absurd q.2 (by omega)⟩ | exact ⟨by assumption, by omega⟩ | exact ⟨by assumption, by assumption⟩, by first | rfl | (congr 2; omega), by first | rfl | (simp only [mCod_cod])⟩)))⟩)
  · rw [if_neg (by omega)]
    refine zV_bipush hX dX5_state_8 (by decide) ?_
    refine zV_goto (tgt := 48) hX dX5_state_10 (by decide) ?_
    exact zV_iret hX hM (by omega) (by omega) (zn_char (by omega)) dX5_state_48 (by first | exact ⟨rfl, Or.inl ⟨by first | omega | assumption | exact ⟨by omega, by assumption⟩ | exact ⟨by omega, by omega, by assumption⟩ | exact ⟨by omega, by assumption, by omega⟩ | exact ⟨by omega, fun q => absurd q.1 (by assumption)⟩ | exact ⟨by omega, fun q => absurd q.2 (by omega)⟩ | exact ⟨by assumption, by omega⟩ | exact ⟨by assumption, by assumption⟩, by first | rfl | (congr 2; omega), by first | rfl | (simp only [mCod_cod])⟩⟩ | exact ⟨rfl, Or.inr (Or.inl ⟨by first | omega | assumption | exact ⟨by omega, by assumption⟩ | exact ⟨by omega, by omega, by assumption⟩ | exact ⟨by omega, by assumption, by omega⟩ | exact ⟨by omega, fun q => absurd q.1 (by assumption)⟩ | exact ⟨by omega, fun q => absurd q.2 (by omega)⟩ | exact ⟨by assumption, by omega⟩ | exact ⟨by assumption, by assumption⟩, by first | rfl | (congr 2; omega), by first | rfl | (simp only [mCod_cod])⟩)⟩ | exact ⟨rfl, Or.inr (Or.inr (Or.inl ⟨by first | omega | assumption | exact ⟨by omega, by assumption⟩ | exact ⟨by omega, by omega, by assumption⟩ | exact ⟨by omega, by assumption, by omega⟩ | exact ⟨by omega, fun q => absurd q.1 (by assumption)⟩ | exact ⟨by omega, fun q => absurd q.2 (by omega)⟩ | exact ⟨by assumption, by omega⟩ | exact ⟨by assumption, by assumption⟩, by first | rfl | (congr 2; omega), by first | rfl | (simp only [mCod_cod])⟩))⟩ | exact ⟨rfl, Or.inr (Or.inr (Or.inr (⟨by first | omega | assumption | exact ⟨by omega, by assumption⟩ | exact ⟨by omega, by omega, by assumption⟩ | exact ⟨by omega, by assumption, by omega⟩ | exact ⟨by omega, fun q => absurd q.1 (by assumption)⟩ | exact ⟨by omega, fun q => absurd q.2 (by omega)⟩ | exact ⟨by assumption, by omega⟩ | exact ⟨by assumption, by assumption⟩, by first | rfl | (congr 2; omega), by first | rfl | (simp only [mCod_cod])⟩)))⟩)
set_option maxRecDepth 100000 in
set_option maxHeartbeats 4000000 in
theorem c_X5_resultAnew {ad : Nat → Int → Nat} {x y : zSt} {c : Int} (hc : zR c) (hI : mI y) : zC yX5_resultAnew cX5_resultAnew 2 (some .int) 37 0 0 [.ref (ad 20 0), zI c] ad x y (fun vv x1 y1 => x1 = x ∧ (((¬ (0 ≤ c ∧ c ≤ y 20 0 5 - 1)) ∧ vv = some (zI (0)) ∧ y1 = mCod y 1) ∨ (((0 ≤ c ∧ c ≤ y 20 0 5 - 1) ∧ mAn (mCod y 0) 11 c < 0) ∧ vv = some (zI (0)) ∧ y1 = mCod y 2) ∨ (((0 ≤ c ∧ c ≤ y 20 0 5 - 1) ∧ ¬ mAn (mCod y 0) 11 c < 0) ∧ vv = some (zI (mAn (mCod y 0) 11 c)) ∧ y1 = mCod y 0))) (zF) := by
  refine zC_ofV (by decide) (by intro v hv; simp only [List.mem_cons, List.not_mem_nil, or_false] at hv; rcases hv with rfl | rfl <;> rfl) (Nat.le_of_ble_eq_true rfl) (fun Γ hX hN hM hT => ?_)
  show zV Γ ad 0 0 x y 0 [some (.ref (ad 20 0)), some (zI c)] []
  have n5 := hI.1.1
  have ab := mAn_b (y := mCod y 0) 11 c
  refine zV_aloadn hX dX5_resultAnew_0 rfl ?_
  refine zV_iloadn hX dX5_resultAnew_1 rfl ?_
  refine zV_cVS (n := 1) hX rfl hN 20 rfl rfl ⟨by decide, by decide⟩ (c_X5_isNoCell (by omega) hI) zw_co_yX5_isNoCell zw_mX5_140 zw_in_RX5 zw_im_yX5_isNoCell zw_se_yX5_isNoCell ⟨by decide, by decide, by decide +kernel⟩ rfl (by omega) (by decide) (by omega) (by omega) rfl (Nat.le_of_ble_eq_true rfl) dX5_resultAnew_2 ?_ 
  refine zV_ifne_b (tgt := 28) hX dX5_resultAnew_5 (by decide) (fun b5 => ?_) (fun b5 => ?_)
  · rw [if_neg (by omega)]
    refine zV_iconst hX dX5_resultAnew_28 ?_
    refine zV_goto (tgt := 37) hX dX5_resultAnew_29 (by decide) ?_
    exact zV_iret hX hM (by omega) (by omega) rfl dX5_resultAnew_37 (by first | exact ⟨rfl, Or.inl ⟨by first | omega | assumption | exact ⟨by omega, by assumption⟩ | exact ⟨by omega, by omega, by assumption⟩ | exact ⟨by omega, by assumption, by omega⟩ | exact ⟨by omega, fun q => absurd q.1 (by assumption)⟩ | exact ⟨by omega, fun q => absurd q.2 (by omega)⟩ | exact ⟨by assumption, by omega⟩ | exact ⟨by assumption, by assumption⟩, by first | rfl | (congr 2; omega), by first | rfl | (simp only [mCod_cod])⟩⟩ | exact ⟨rfl, Or.inr (Or.inl ⟨by first | omega | assumption | exact ⟨by omega, by assumption⟩ | exact ⟨by omega, by omega, by assumption⟩ | exact ⟨by omega, by assumption, by omega⟩ | exact ⟨by omega, fun q => absurd q.1 (by assumption)⟩ | exact ⟨by omega, fun q => absurd q.2 (by omega)⟩ | exact ⟨by assumption, by omega⟩ | exact ⟨by assumption, by assumption⟩, by first | rfl | (congr 2; omega), by first | rfl | (simp only [mCod_cod])⟩)⟩ | exact ⟨rfl, Or.inr (Or.inr (⟨by first | omega | assumption | exact ⟨by omega, by assumption⟩ | exact ⟨by omega, by omega, by assumption⟩ | exact ⟨by omega, by assumption, by omega⟩ | exact ⟨by omega, fun q => absurd q.1 (by assumption)⟩ | exact ⟨by omega, fun q => absurd q.2 (by omega)⟩ | exact ⟨by assumption, by omega⟩ | exact ⟨by assumption, by assumption⟩, by first | rfl | (congr 2; omega), by first | rfl | (simp only [mCod_cod])⟩))⟩)
  · rw [if_pos (by omega)]
    refine zV_aloadn hX dX5_resultAnew_8 rfl ?_
    refine zV_aloadn hX dX5_resultAnew_9 rfl ?_
    refine zV_iloadn hX dX5_resultAnew_10 rfl ?_
    refine zV_cVS (n := 1) hX rfl hN 20 rfl rfl ⟨by decide, by decide⟩ (c_X5_anew (mI_cod hI) 11 c (by omega) (by rw [mCod_j (by decide)]; omega) (by omega)) zw_co_yX5_anew zw_mX5_158 zw_in_RX5 zw_im_yX5_anew zw_se_yX5_anew ⟨by decide, by decide, by decide +kernel⟩ rfl (by omega) (by decide) (by omega) (by omega) rfl (Nat.le_of_ble_eq_true rfl) dX5_resultAnew_11 ?_ 
    refine zV_if_ge (tgt := 21) hX dX5_resultAnew_14 (by decide) (by omega) (fun b14 => ?_) (fun b14 => ?_)
    · refine zV_iconst hX dX5_resultAnew_21 ?_
      refine zV_cVS (n := 1) hX rfl hN 20 rfl rfl ⟨by decide, by decide⟩ (c_X5_fails (by decide)) zw_co_yX5_fails zw_mX5_119 zw_in_RX5 zw_im_yX5_fails zw_se_yX5_fails ⟨by decide, by decide, by decide +kernel⟩ rfl (by omega) (by decide) (by omega) (by omega) rfl (Nat.le_of_ble_eq_true rfl) dX5_resultAnew_22 ?_ 
      refine zV_ifeq_b (tgt := 32) hX dX5_resultAnew_25 (by decide) (fun b25 => ?_) (fun b => by exfalso; omega)
      rw [mCod_cod]
      refine zV_aloadn hX dX5_resultAnew_32 rfl ?_
      refine zV_iloadn hX dX5_resultAnew_33 rfl ?_
      refine zV_cVS (n := 1) hX rfl hN 20 rfl rfl ⟨by decide, by decide⟩ (c_X5_anew (mI_cod hI) 11 c (by omega) (by rw [mCod_j (by decide)]; omega) (by omega)) zw_co_yX5_anew zw_mX5_158 zw_in_RX5 zw_im_yX5_anew zw_se_yX5_anew ⟨by decide, by decide, by decide +kernel⟩ rfl (by omega) (by decide) (by omega) (by omega) rfl (Nat.le_of_ble_eq_true rfl) dX5_resultAnew_34 ?_ 
      exact zV_iret hX hM (by omega) (by omega) rfl dX5_resultAnew_37 (by first | exact ⟨rfl, Or.inl ⟨by first | omega | assumption | exact ⟨by omega, by assumption⟩ | exact ⟨by omega, by omega, by assumption⟩ | exact ⟨by omega, by assumption, by omega⟩ | exact ⟨by omega, fun q => absurd q.1 (by assumption)⟩ | exact ⟨by omega, fun q => absurd q.2 (by omega)⟩ | exact ⟨by assumption, by omega⟩ | exact ⟨by assumption, by assumption⟩, by first | rfl | (congr 2; omega), by first | rfl | (simp only [mCod_cod])⟩⟩ | exact ⟨rfl, Or.inr (Or.inl ⟨by first | omega | assumption | exact ⟨by omega, by assumption⟩ | exact ⟨by omega, by omega, by assumption⟩ | exact ⟨by omega, by assumption, by omega⟩ | exact ⟨by omega, fun q => absurd q.1 (by assumption)⟩ | exact ⟨by omega, fun q => absurd q.2 (by omega)⟩ | exact ⟨by assumption, by omega⟩ | exact ⟨by assumption, by assumption⟩, by first | rfl | (congr 2; omega), by first | rfl | (simp only [mCod_cod])⟩)⟩ | exact ⟨rfl, Or.inr (Or.inr (⟨by first | omega | assumption | exact ⟨by omega, by assumption⟩ | exact ⟨by omega, by omega, by assumption⟩ | exact ⟨by omega, by assumption, by omega⟩ | exact ⟨by omega, fun q => absurd q.1 (by assumption)⟩ | exact ⟨by omega, fun q => absurd q.2 (by omega)⟩ | exact ⟨by assumption, by omega⟩ | exact ⟨by assumption, by assumption⟩, by first | rfl | (congr 2; omega), by first | rfl | (simp only [mCod_cod])⟩))⟩)
    · refine zV_iconst hX dX5_resultAnew_17 ?_
      refine zV_goto (tgt := 22) hX dX5_resultAnew_18 (by decide) ?_
      refine zV_cVS (n := 1) hX rfl hN 20 rfl rfl ⟨by decide, by decide⟩ (c_X5_fails (by decide)) zw_co_yX5_fails zw_mX5_119 zw_in_RX5 zw_im_yX5_fails zw_se_yX5_fails ⟨by decide, by decide, by decide +kernel⟩ rfl (by omega) (by decide) (by omega) (by omega) rfl (Nat.le_of_ble_eq_true rfl) dX5_resultAnew_22 ?_ 
      refine zV_ifeq_b (tgt := 32) hX dX5_resultAnew_25 (by decide) (fun b => by exfalso; omega) (fun b25 => ?_)
      refine zV_iconst hX dX5_resultAnew_28 ?_
      refine zV_goto (tgt := 37) hX dX5_resultAnew_29 (by decide) ?_
      exact zV_iret hX hM (by omega) (by omega) rfl dX5_resultAnew_37 (by first | exact ⟨rfl, Or.inl ⟨by first | omega | assumption | exact ⟨by omega, by assumption⟩ | exact ⟨by omega, by omega, by assumption⟩ | exact ⟨by omega, by assumption, by omega⟩ | exact ⟨by omega, fun q => absurd q.1 (by assumption)⟩ | exact ⟨by omega, fun q => absurd q.2 (by omega)⟩ | exact ⟨by assumption, by omega⟩ | exact ⟨by assumption, by assumption⟩, by first | rfl | (congr 2; omega), by first | rfl | (simp only [mCod_cod])⟩⟩ | exact ⟨rfl, Or.inr (Or.inl ⟨by first | omega | assumption | exact ⟨by omega, by assumption⟩ | exact ⟨by omega, by omega, by assumption⟩ | exact ⟨by omega, by assumption, by omega⟩ | exact ⟨by omega, fun q => absurd q.1 (by assumption)⟩ | exact ⟨by omega, fun q => absurd q.2 (by omega)⟩ | exact ⟨by assumption, by omega⟩ | exact ⟨by assumption, by assumption⟩, by first | rfl | (congr 2; omega), by first | rfl | (simp only [mCod_cod])⟩)⟩ | exact ⟨rfl, Or.inr (Or.inr (⟨by first | omega | assumption | exact ⟨by omega, by assumption⟩ | exact ⟨by omega, by omega, by assumption⟩ | exact ⟨by omega, by assumption, by omega⟩ | exact ⟨by omega, fun q => absurd q.1 (by assumption)⟩ | exact ⟨by omega, fun q => absurd q.2 (by omega)⟩ | exact ⟨by assumption, by omega⟩ | exact ⟨by assumption, by assumption⟩, by first | rfl | (congr 2; omega), by first | rfl | (simp only [mCod_cod])⟩))⟩)
set_option maxRecDepth 100000 in
set_option maxHeartbeats 4000000 in
theorem c_X5_depends {ad : Nat → Int → Nat} {x y : zSt} {c v : Int} (hc : zR c) (hv : zR v) (hI : mI y) : zC yX5_depends cX5_depends 3 (some .boolean) 26 0 0 [.ref (ad 20 0), zI c, zI v] ad x y (fun vv x1 y1 => x1 = x ∧ (((¬ (0 ≤ c ∧ c ≤ y 20 0 5 - 1)) ∧ vv = some (zI (0)) ∧ y1 = mCod y 1) ∨ (((0 ≤ c ∧ c ≤ y 20 0 5 - 1) ∧ ¬ (0 ≤ v ∧ v ≤ 11)) ∧ vv = some (zI (0)) ∧ y1 = mCod y 2) ∨ (((0 ≤ c ∧ c ≤ y 20 0 5 - 1) ∧ (0 ≤ v ∧ v ≤ 11) ∧ mOn (mCod y 0) v 11 c = true) ∧ vv = some (zI (1)) ∧ y1 = mCod y 0) ∨ (((0 ≤ c ∧ c ≤ y 20 0 5 - 1) ∧ (0 ≤ v ∧ v ≤ 11) ∧ ¬ mOn (mCod y 0) v 11 c = true) ∧ vv = some (zI (0)) ∧ y1 = mCod y 0))) (zF) := by
  refine zC_ofV (by decide) (by intro v hv; simp only [List.mem_cons, List.not_mem_nil, or_false] at hv; rcases hv with rfl | rfl | rfl <;> rfl) (Nat.le_of_ble_eq_true rfl) (fun Γ hX hN hM hT => ?_)
  show zV Γ ad 0 0 x y 0 [some (.ref (ad 20 0)), some (zI c), some (zI v)] []
  have n5 := hI.1.1
  refine zV_aloadn hX dX5_depends_0 rfl ?_
  refine zV_iloadn hX dX5_depends_1 rfl ?_
  refine zV_cVS (n := 1) hX rfl hN 20 rfl rfl ⟨by decide, by decide⟩ (c_X5_isNoCell (by omega) hI) zw_co_yX5_isNoCell zw_mX5_140 zw_in_RX5 zw_im_yX5_isNoCell zw_se_yX5_isNoCell ⟨by decide, by decide, by decide +kernel⟩ rfl (by omega) (by decide) (by omega) (by omega) rfl (Nat.le_of_ble_eq_true rfl) dX5_depends_2 ?_ 
  refine zV_ifne_b (tgt := 40) hX dX5_depends_5 (by decide) (fun b5 => ?_) (fun b5 => ?_)
  · rw [if_neg (by omega)]
    refine zV_iconst hX dX5_depends_40 ?_
    exact zV_iret hX hM (by omega) (by omega) (zn_bool (by omega)) dX5_depends_41 (by first | exact ⟨rfl, Or.inl ⟨by first | omega | assumption | exact ⟨by omega, by assumption⟩ | exact ⟨by omega, by omega, by assumption⟩ | exact ⟨by omega, by assumption, by omega⟩ | exact ⟨by omega, fun q => absurd q.1 (by assumption)⟩ | exact ⟨by omega, fun q => absurd q.2 (by omega)⟩ | exact ⟨by assumption, by omega⟩ | exact ⟨by assumption, by assumption⟩, by first | rfl | (congr 2; omega), by first | rfl | (simp only [mCod_cod])⟩⟩ | exact ⟨rfl, Or.inr (Or.inl ⟨by first | omega | assumption | exact ⟨by omega, by assumption⟩ | exact ⟨by omega, by omega, by assumption⟩ | exact ⟨by omega, by assumption, by omega⟩ | exact ⟨by omega, fun q => absurd q.1 (by assumption)⟩ | exact ⟨by omega, fun q => absurd q.2 (by omega)⟩ | exact ⟨by assumption, by omega⟩ | exact ⟨by assumption, by assumption⟩, by first | rfl | (congr 2; omega), by first | rfl | (simp only [mCod_cod])⟩)⟩ | exact ⟨rfl, Or.inr (Or.inr (Or.inl ⟨by first | omega | assumption | exact ⟨by omega, by assumption⟩ | exact ⟨by omega, by omega, by assumption⟩ | exact ⟨by omega, by assumption, by omega⟩ | exact ⟨by omega, fun q => absurd q.1 (by assumption)⟩ | exact ⟨by omega, fun q => absurd q.2 (by omega)⟩ | exact ⟨by assumption, by omega⟩ | exact ⟨by assumption, by assumption⟩, by first | rfl | (congr 2; omega), by first | rfl | (simp only [mCod_cod])⟩))⟩ | exact ⟨rfl, Or.inr (Or.inr (Or.inr (⟨by first | omega | assumption | exact ⟨by omega, by assumption⟩ | exact ⟨by omega, by omega, by assumption⟩ | exact ⟨by omega, by assumption, by omega⟩ | exact ⟨by omega, fun q => absurd q.1 (by assumption)⟩ | exact ⟨by omega, fun q => absurd q.2 (by omega)⟩ | exact ⟨by assumption, by omega⟩ | exact ⟨by assumption, by assumption⟩, by first | rfl | (congr 2; omega), by first | rfl | (simp only [mCod_cod])⟩)))⟩)
  · rw [if_pos (by omega)]
    refine zV_aloadn hX dX5_depends_8 rfl ?_
    refine zV_iloadn hX dX5_depends_9 rfl ?_
    refine zV_cSS (n := 1) hX rfl hN (c_X5_isNoVariable (by omega) ) zw_co_yX5_isNoVariable zw_mX5_123 zw_in_RX5 zw_st_yX5_isNoVariable ⟨by decide, by decide, by decide +kernel⟩ rfl (by omega) (by decide) (by omega) (by omega) rfl (Nat.le_of_ble_eq_true rfl) dX5_depends_10 ?_ 
    refine zV_ifeq_b (tgt := 20) hX dX5_depends_13 (by decide) (fun b13 => ?_) (fun b13 => ?_)
    · refine zV_iconst hX dX5_depends_20 ?_
      refine zV_cVS (n := 1) hX rfl hN 20 rfl rfl ⟨by decide, by decide⟩ (c_X5_fails (by decide)) zw_co_yX5_fails zw_mX5_119 zw_in_RX5 zw_im_yX5_fails zw_se_yX5_fails ⟨by decide, by decide, by decide +kernel⟩ rfl (by omega) (by decide) (by omega) (by omega) rfl (Nat.le_of_ble_eq_true rfl) dX5_depends_21 ?_ 
      refine zV_ifne_b (tgt := 40) hX dX5_depends_24 (by decide) (fun b => by exfalso; omega) (fun b24 => ?_)
      rw [mCod_cod]
      refine zV_aloadn hX dX5_depends_27 rfl ?_
      refine zV_iloadn hX dX5_depends_28 rfl ?_
      refine zV_iloadn hX dX5_depends_29 rfl ?_
      refine zV_cVS (n := 2) hX rfl hN 20 rfl rfl ⟨by decide, by decide⟩ (c_X5_isOn hv (mI_cod hI) 11 c (by omega) (by rw [mCod_j (by decide)]; omega) (by omega)) zw_co_yX5_isOn zw_mX5_224 zw_in_RX5 zw_im_yX5_isOn zw_se_yX5_isOn ⟨by decide, by decide, by decide +kernel⟩ rfl (by omega) (by decide) (by omega) (by omega) rfl (Nat.le_of_ble_eq_true rfl) dX5_depends_30 ?_ 
      refine zV_ifeq_b (tgt := 40) hX dX5_depends_33 (by decide) (fun b33 => ?_) (fun b33 => ?_)
      · refine zV_iconst hX dX5_depends_40 ?_
        exact zV_iret hX hM (by omega) (by omega) (zn_bool (by omega)) dX5_depends_41 (by first | exact ⟨rfl, Or.inl ⟨by first | omega | assumption | exact ⟨by omega, by assumption⟩ | exact ⟨by omega, by omega, by assumption⟩ | exact ⟨by omega, by assumption, by omega⟩ | exact ⟨by omega, fun q => absurd q.1 (by assumption)⟩ | exact ⟨by omega, fun q => absurd q.2 (by omega)⟩ | exact ⟨by assumption, by omega⟩ | exact ⟨by assumption, by assumption⟩, by first | rfl | (congr 2; omega), by first | rfl | (simp only [mCod_cod])⟩⟩ | exact ⟨rfl, Or.inr (Or.inl ⟨by first | omega | assumption | exact ⟨by omega, by assumption⟩ | exact ⟨by omega, by omega, by assumption⟩ | exact ⟨by omega, by assumption, by omega⟩ | exact ⟨by omega, fun q => absurd q.1 (by assumption)⟩ | exact ⟨by omega, fun q => absurd q.2 (by omega)⟩ | exact ⟨by assumption, by omega⟩ | exact ⟨by assumption, by assumption⟩, by first | rfl | (congr 2; omega), by first | rfl | (simp only [mCod_cod])⟩)⟩ | exact ⟨rfl, Or.inr (Or.inr (Or.inl ⟨by first | omega | assumption | exact ⟨by omega, by assumption⟩ | exact ⟨by omega, by omega, by assumption⟩ | exact ⟨by omega, by assumption, by omega⟩ | exact ⟨by omega, fun q => absurd q.1 (by assumption)⟩ | exact ⟨by omega, fun q => absurd q.2 (by omega)⟩ | exact ⟨by assumption, by omega⟩ | exact ⟨by assumption, by assumption⟩, by first | rfl | (congr 2; omega), by first | rfl | (simp only [mCod_cod])⟩))⟩ | exact ⟨rfl, Or.inr (Or.inr (Or.inr (⟨by first | omega | assumption | exact ⟨by omega, by assumption⟩ | exact ⟨by omega, by omega, by assumption⟩ | exact ⟨by omega, by assumption, by omega⟩ | exact ⟨by omega, fun q => absurd q.1 (by assumption)⟩ | exact ⟨by omega, fun q => absurd q.2 (by omega)⟩ | exact ⟨by assumption, by omega⟩ | exact ⟨by assumption, by assumption⟩, by first | rfl | (congr 2; omega), by first | rfl | (simp only [mCod_cod])⟩)))⟩)
      · refine zV_iconst hX dX5_depends_36 ?_
        refine zV_goto (tgt := 41) hX dX5_depends_37 (by decide) ?_
        exact zV_iret hX hM (by omega) (by omega) (zn_bool (by omega)) dX5_depends_41 (by first | exact ⟨rfl, Or.inl ⟨by first | omega | assumption | exact ⟨by omega, by assumption⟩ | exact ⟨by omega, by omega, by assumption⟩ | exact ⟨by omega, by assumption, by omega⟩ | exact ⟨by omega, fun q => absurd q.1 (by assumption)⟩ | exact ⟨by omega, fun q => absurd q.2 (by omega)⟩ | exact ⟨by assumption, by omega⟩ | exact ⟨by assumption, by assumption⟩, by first | rfl | (congr 2; omega), by first | rfl | (simp only [mCod_cod])⟩⟩ | exact ⟨rfl, Or.inr (Or.inl ⟨by first | omega | assumption | exact ⟨by omega, by assumption⟩ | exact ⟨by omega, by omega, by assumption⟩ | exact ⟨by omega, by assumption, by omega⟩ | exact ⟨by omega, fun q => absurd q.1 (by assumption)⟩ | exact ⟨by omega, fun q => absurd q.2 (by omega)⟩ | exact ⟨by assumption, by omega⟩ | exact ⟨by assumption, by assumption⟩, by first | rfl | (congr 2; omega), by first | rfl | (simp only [mCod_cod])⟩)⟩ | exact ⟨rfl, Or.inr (Or.inr (Or.inl ⟨by first | omega | assumption | exact ⟨by omega, by assumption⟩ | exact ⟨by omega, by omega, by assumption⟩ | exact ⟨by omega, by assumption, by omega⟩ | exact ⟨by omega, fun q => absurd q.1 (by assumption)⟩ | exact ⟨by omega, fun q => absurd q.2 (by omega)⟩ | exact ⟨by assumption, by omega⟩ | exact ⟨by assumption, by assumption⟩, by first | rfl | (congr 2; omega), by first | rfl | (simp only [mCod_cod])⟩))⟩ | exact ⟨rfl, Or.inr (Or.inr (Or.inr (⟨by first | omega | assumption | exact ⟨by omega, by assumption⟩ | exact ⟨by omega, by omega, by assumption⟩ | exact ⟨by omega, by assumption, by omega⟩ | exact ⟨by omega, fun q => absurd q.1 (by assumption)⟩ | exact ⟨by omega, fun q => absurd q.2 (by omega)⟩ | exact ⟨by assumption, by omega⟩ | exact ⟨by assumption, by assumption⟩, by first | rfl | (congr 2; omega), by first | rfl | (simp only [mCod_cod])⟩)))⟩)
    · refine zV_iconst hX dX5_depends_16 ?_
      refine zV_goto (tgt := 21) hX dX5_depends_17 (by decide) ?_
      refine zV_cVS (n := 1) hX rfl hN 20 rfl rfl ⟨by decide, by decide⟩ (c_X5_fails (by decide)) zw_co_yX5_fails zw_mX5_119 zw_in_RX5 zw_im_yX5_fails zw_se_yX5_fails ⟨by decide, by decide, by decide +kernel⟩ rfl (by omega) (by decide) (by omega) (by omega) rfl (Nat.le_of_ble_eq_true rfl) dX5_depends_21 ?_ 
      refine zV_ifne_b (tgt := 40) hX dX5_depends_24 (by decide) (fun b24 => ?_) (fun b => by exfalso; omega)
      refine zV_iconst hX dX5_depends_40 ?_
      exact zV_iret hX hM (by omega) (by omega) (zn_bool (by omega)) dX5_depends_41 (by first | exact ⟨rfl, Or.inl ⟨by first | omega | assumption | exact ⟨by omega, by assumption⟩ | exact ⟨by omega, by omega, by assumption⟩ | exact ⟨by omega, by assumption, by omega⟩ | exact ⟨by omega, fun q => absurd q.1 (by assumption)⟩ | exact ⟨by omega, fun q => absurd q.2 (by omega)⟩ | exact ⟨by assumption, by omega⟩ | exact ⟨by assumption, by assumption⟩, by first | rfl | (congr 2; omega), by first | rfl | (simp only [mCod_cod])⟩⟩ | exact ⟨rfl, Or.inr (Or.inl ⟨by first | omega | assumption | exact ⟨by omega, by assumption⟩ | exact ⟨by omega, by omega, by assumption⟩ | exact ⟨by omega, by assumption, by omega⟩ | exact ⟨by omega, fun q => absurd q.1 (by assumption)⟩ | exact ⟨by omega, fun q => absurd q.2 (by omega)⟩ | exact ⟨by assumption, by omega⟩ | exact ⟨by assumption, by assumption⟩, by first | rfl | (congr 2; omega), by first | rfl | (simp only [mCod_cod])⟩)⟩ | exact ⟨rfl, Or.inr (Or.inr (Or.inl ⟨by first | omega | assumption | exact ⟨by omega, by assumption⟩ | exact ⟨by omega, by omega, by assumption⟩ | exact ⟨by omega, by assumption, by omega⟩ | exact ⟨by omega, fun q => absurd q.1 (by assumption)⟩ | exact ⟨by omega, fun q => absurd q.2 (by omega)⟩ | exact ⟨by assumption, by omega⟩ | exact ⟨by assumption, by assumption⟩, by first | rfl | (congr 2; omega), by first | rfl | (simp only [mCod_cod])⟩))⟩ | exact ⟨rfl, Or.inr (Or.inr (Or.inr (⟨by first | omega | assumption | exact ⟨by omega, by assumption⟩ | exact ⟨by omega, by omega, by assumption⟩ | exact ⟨by omega, by assumption, by omega⟩ | exact ⟨by omega, fun q => absurd q.1 (by assumption)⟩ | exact ⟨by omega, fun q => absurd q.2 (by omega)⟩ | exact ⟨by assumption, by omega⟩ | exact ⟨by assumption, by assumption⟩, by first | rfl | (congr 2; omega), by first | rfl | (simp only [mCod_cod])⟩)))⟩)
set_option maxRecDepth 100000 in
set_option maxHeartbeats 4000000 in
theorem c_X5_addKernel {ad : Nat → Int → Nat} {x y : zSt} {r : Int} (hr : zR r) (hI : mI y) : zC yX5_addKernel cX5_addKernel 2 (some .int) 3 0 0 [.ref (ad 20 0), zI r] ad x y (fun vv x1 y1 => x1 = x ∧ (((¬ (1 ≤ r ∧ r ≤ 20)) ∧ vv = some (zI (0)) ∧ y1 = mCod y 1) ∨ (((1 ≤ r ∧ r ≤ 20) ∧ y 20 0 28 = 3) ∧ vv = some (zI (0)) ∧ y1 = mCod y 2) ∨ (((1 ≤ r ∧ r ≤ 20) ∧ y 20 0 28 ≠ 3) ∧ vv = some (zI (y 20 0 28)) ∧ y1 = zup (zup (mCod y 0) 49 0 (y 20 0 28) r) 20 0 28 (y 20 0 28 + 1)))) (zF) := by
  refine zC_ofV (by decide) (by intro v hv; simp only [List.mem_cons, List.not_mem_nil, or_false] at hv; rcases hv with rfl | rfl <;> rfl) (Nat.le_of_ble_eq_true rfl) (fun Γ hX hN hM hT => ?_)
  show zV Γ ad 0 0 x y 0 [some (.ref (ad 20 0)), some (zI r)] []
  have n5 := hI.1.2.1
  refine zV_aloadn hX dX5_addKernel_0 rfl ?_
  refine zV_iloadn hX dX5_addKernel_1 rfl ?_
  refine zV_iconst hX dX5_addKernel_2 ?_
  refine zV_bipush hX dX5_addKernel_3 (by decide) ?_
  refine zV_cSS (n := 3) hX rfl hN (c_X5_in (by omega) (by omega) (by omega) ) zw_co_yX5_in zw_mX5_112 zw_in_RX5 zw_st_yX5_in ⟨by decide, by decide, by decide +kernel⟩ rfl (by omega) (by decide) (by omega) (by omega) rfl (Nat.le_of_ble_eq_true rfl) dX5_addKernel_5 ?_ 
  refine zV_ifne_b (tgt := 15) hX dX5_addKernel_8 (by decide) (fun b8 => ?_) (fun b8 => ?_)
  · refine zV_aloadn hX dX5_addKernel_15 rfl ?_
    refine GF_X5_171 hX  dX5_addKernel_16 (fun r16 => ?_)
    refine zV_iconst hX dX5_addKernel_19 ?_
    refine zV_icmp_ne (tgt := 27) hX dX5_addKernel_20 (by decide) (by omega) (by omega) (fun b20 => ?_) (fun b20 => ?_)
    · refine zV_iconst hX dX5_addKernel_27 ?_
      refine zV_cVS (n := 1) hX rfl hN 20 rfl rfl ⟨by decide, by decide⟩ (c_X5_fails (by decide)) zw_co_yX5_fails zw_mX5_119 zw_in_RX5 zw_im_yX5_fails zw_se_yX5_fails ⟨by decide, by decide, by decide +kernel⟩ rfl (by omega) (by decide) (by omega) (by omega) rfl (Nat.le_of_ble_eq_true rfl) dX5_addKernel_28 ?_ 
      refine zV_ifeq_b (tgt := 36) hX dX5_addKernel_31 (by decide) (fun b31 => ?_) (fun b => by exfalso; omega)
      refine zV_aloadn hX dX5_addKernel_36 rfl ?_
      refine GF_X5_90 hX  dX5_addKernel_37 ?_
      refine zV_aloadn hX dX5_addKernel_40 rfl ?_
      refine GF_X5_171 hX  dX5_addKernel_41 (fun r41 => ?_)
      try simp only [mCod_k, mCod_j, zup_d, Nat.reduceEqDiff, Int.reduceEq, reduceCtorEq, not_false_eq_true, false_and, true_and, and_true, and_false, and_self, if_false, if_true, Int.reduceNeg] at r41 ⊢
      refine zV_iloadn hX dX5_addKernel_44 rfl ?_
      refine AS_49 hX  ⟨by omega, by omega⟩ (by omega) dX5_addKernel_45 ?_
      refine zV_aloadn hX dX5_addKernel_46 rfl ?_
      refine zV_dup hX dX5_addKernel_47 rfl ?_
      refine GF_X5_171 hX  dX5_addKernel_48 (fun r48 => ?_)
      try simp only [mCod_k, mCod_j, zup_d, Nat.reduceEqDiff, Int.reduceEq, reduceCtorEq, not_false_eq_true, false_and, true_and, and_true, and_false, and_self, if_false, if_true, Int.reduceNeg] at r48 ⊢
      refine zV_iconst hX dX5_addKernel_51 ?_
      refine zV_iadd hX dX5_addKernel_52 ?_
      refine PF_X5_171 hX  (by omega) dX5_addKernel_53 ?_
      refine zV_aloadn hX dX5_addKernel_56 rfl ?_
      refine GF_X5_171 hX  dX5_addKernel_57 (fun r57 => ?_)
      try simp only [mCod_k, mCod_j, zup_d, Nat.reduceEqDiff, Int.reduceEq, reduceCtorEq, not_false_eq_true, false_and, true_and, and_true, and_false, and_self, if_false, if_true, Int.reduceNeg] at r57 ⊢
      refine zV_iconst hX dX5_addKernel_60 ?_
      refine zV_isub hX dX5_addKernel_61 ?_
      exact zV_iret hX hM (by omega) (by omega) rfl dX5_addKernel_62 (by first | exact ⟨rfl, Or.inl ⟨by first | omega | assumption | exact ⟨by omega, by assumption⟩ | exact ⟨by omega, by omega, by assumption⟩ | exact ⟨by omega, by assumption, by omega⟩ | exact ⟨by omega, fun q => absurd q.1 (by assumption)⟩ | exact ⟨by omega, fun q => absurd q.2 (by omega)⟩ | exact ⟨by assumption, by omega⟩ | exact ⟨by assumption, by assumption⟩, by first | rfl | (congr 2; omega), by first | rfl | (simp only [mCod_cod])⟩⟩ | exact ⟨rfl, Or.inr (Or.inl ⟨by first | omega | assumption | exact ⟨by omega, by assumption⟩ | exact ⟨by omega, by omega, by assumption⟩ | exact ⟨by omega, by assumption, by omega⟩ | exact ⟨by omega, fun q => absurd q.1 (by assumption)⟩ | exact ⟨by omega, fun q => absurd q.2 (by omega)⟩ | exact ⟨by assumption, by omega⟩ | exact ⟨by assumption, by assumption⟩, by first | rfl | (congr 2; omega), by first | rfl | (simp only [mCod_cod])⟩)⟩ | exact ⟨rfl, Or.inr (Or.inr (⟨by first | omega | assumption | exact ⟨by omega, by assumption⟩ | exact ⟨by omega, by omega, by assumption⟩ | exact ⟨by omega, by assumption, by omega⟩ | exact ⟨by omega, fun q => absurd q.1 (by assumption)⟩ | exact ⟨by omega, fun q => absurd q.2 (by omega)⟩ | exact ⟨by assumption, by omega⟩ | exact ⟨by assumption, by assumption⟩, by first | rfl | (congr 2; omega), by first | rfl | (simp only [mCod_cod])⟩))⟩)
    · refine zV_iconst hX dX5_addKernel_23 ?_
      refine zV_goto (tgt := 28) hX dX5_addKernel_24 (by decide) ?_
      refine zV_cVS (n := 1) hX rfl hN 20 rfl rfl ⟨by decide, by decide⟩ (c_X5_fails (by decide)) zw_co_yX5_fails zw_mX5_119 zw_in_RX5 zw_im_yX5_fails zw_se_yX5_fails ⟨by decide, by decide, by decide +kernel⟩ rfl (by omega) (by decide) (by omega) (by omega) rfl (Nat.le_of_ble_eq_true rfl) dX5_addKernel_28 ?_ 
      refine zV_ifeq_b (tgt := 36) hX dX5_addKernel_31 (by decide) (fun b => by exfalso; omega) (fun b31 => ?_)
      refine zV_iconst hX dX5_addKernel_34 ?_
      exact zV_iret hX hM (by omega) (by omega) rfl dX5_addKernel_35 (by first | exact ⟨rfl, Or.inl ⟨by first | omega | assumption | exact ⟨by omega, by assumption⟩ | exact ⟨by omega, by omega, by assumption⟩ | exact ⟨by omega, by assumption, by omega⟩ | exact ⟨by omega, fun q => absurd q.1 (by assumption)⟩ | exact ⟨by omega, fun q => absurd q.2 (by omega)⟩ | exact ⟨by assumption, by omega⟩ | exact ⟨by assumption, by assumption⟩, by first | rfl | (congr 2; omega), by first | rfl | (simp only [mCod_cod])⟩⟩ | exact ⟨rfl, Or.inr (Or.inl ⟨by first | omega | assumption | exact ⟨by omega, by assumption⟩ | exact ⟨by omega, by omega, by assumption⟩ | exact ⟨by omega, by assumption, by omega⟩ | exact ⟨by omega, fun q => absurd q.1 (by assumption)⟩ | exact ⟨by omega, fun q => absurd q.2 (by omega)⟩ | exact ⟨by assumption, by omega⟩ | exact ⟨by assumption, by assumption⟩, by first | rfl | (congr 2; omega), by first | rfl | (simp only [mCod_cod])⟩)⟩ | exact ⟨rfl, Or.inr (Or.inr (⟨by first | omega | assumption | exact ⟨by omega, by assumption⟩ | exact ⟨by omega, by omega, by assumption⟩ | exact ⟨by omega, by assumption, by omega⟩ | exact ⟨by omega, fun q => absurd q.1 (by assumption)⟩ | exact ⟨by omega, fun q => absurd q.2 (by omega)⟩ | exact ⟨by assumption, by omega⟩ | exact ⟨by assumption, by assumption⟩, by first | rfl | (congr 2; omega), by first | rfl | (simp only [mCod_cod])⟩))⟩)
  · refine zV_iconst hX dX5_addKernel_11 ?_
    refine zV_goto (tgt := 28) hX dX5_addKernel_12 (by decide) ?_
    refine zV_cVS (n := 1) hX rfl hN 20 rfl rfl ⟨by decide, by decide⟩ (c_X5_fails (by decide)) zw_co_yX5_fails zw_mX5_119 zw_in_RX5 zw_im_yX5_fails zw_se_yX5_fails ⟨by decide, by decide, by decide +kernel⟩ rfl (by omega) (by decide) (by omega) (by omega) rfl (Nat.le_of_ble_eq_true rfl) dX5_addKernel_28 ?_ 
    refine zV_ifeq_b (tgt := 36) hX dX5_addKernel_31 (by decide) (fun b => by exfalso; omega) (fun b31 => ?_)
    refine zV_iconst hX dX5_addKernel_34 ?_
    exact zV_iret hX hM (by omega) (by omega) rfl dX5_addKernel_35 (by first | exact ⟨rfl, Or.inl ⟨by first | omega | assumption | exact ⟨by omega, by assumption⟩ | exact ⟨by omega, by omega, by assumption⟩ | exact ⟨by omega, by assumption, by omega⟩ | exact ⟨by omega, fun q => absurd q.1 (by assumption)⟩ | exact ⟨by omega, fun q => absurd q.2 (by omega)⟩ | exact ⟨by assumption, by omega⟩ | exact ⟨by assumption, by assumption⟩, by first | rfl | (congr 2; omega), by first | rfl | (simp only [mCod_cod])⟩⟩ | exact ⟨rfl, Or.inr (Or.inl ⟨by first | omega | assumption | exact ⟨by omega, by assumption⟩ | exact ⟨by omega, by omega, by assumption⟩ | exact ⟨by omega, by assumption, by omega⟩ | exact ⟨by omega, fun q => absurd q.1 (by assumption)⟩ | exact ⟨by omega, fun q => absurd q.2 (by omega)⟩ | exact ⟨by assumption, by omega⟩ | exact ⟨by assumption, by assumption⟩, by first | rfl | (congr 2; omega), by first | rfl | (simp only [mCod_cod])⟩)⟩ | exact ⟨rfl, Or.inr (Or.inr (⟨by first | omega | assumption | exact ⟨by omega, by assumption⟩ | exact ⟨by omega, by omega, by assumption⟩ | exact ⟨by omega, by assumption, by omega⟩ | exact ⟨by omega, fun q => absurd q.1 (by assumption)⟩ | exact ⟨by omega, fun q => absurd q.2 (by omega)⟩ | exact ⟨by assumption, by omega⟩ | exact ⟨by assumption, by assumption⟩, by first | rfl | (congr 2; omega), by first | rfl | (simp only [mCod_cod])⟩))⟩)
set_option maxRecDepth 100000 in
set_option maxHeartbeats 4000000 in
theorem c_X5_free {ad : Nat → Int → Nat} {x y : zSt} {k : Int} (hk : zR k) (hI : mI y) : zC yX5_free cX5_free 2 (some .int) 3 0 0 [.ref (ad 20 0), zI k] ad x y (fun vv x1 y1 => x1 = x ∧ ((((¬ (0 ≤ k ∧ k ≤ y 20 0 28 - 1))) ∧ vv = some (zI (0)) ∧ y1 = mCod y 1) ∨ (((0 ≤ k ∧ k ≤ y 20 0 28 - 1)) ∧ vv = some (zI (mLeft (mCod y 0) k)) ∧ y1 = mCod y 0))) (zF) := by
  refine zC_ofV (by decide) (by intro v hv; simp only [List.mem_cons, List.not_mem_nil, or_false] at hv; rcases hv with rfl | rfl <;> rfl) (Nat.le_of_ble_eq_true rfl) (fun Γ hX hN hM hT => ?_)
  show zV Γ ad 0 0 x y 0 [some (.ref (ad 20 0)), some (zI k)] []
  have n5 := hI.1.2.1
  have lb : 0 ≤ k → k ≤ 2 → _ := fun g1 g2 => mLeft_b (mI_cod (p := 0) hI) (k := k) ⟨g1, g2⟩
  refine zV_aloadn hX dX5_free_0 rfl ?_
  refine zV_iloadn hX dX5_free_1 rfl ?_
  refine zV_iconst hX dX5_free_2 ?_
  refine zV_aloadn hX dX5_free_3 rfl ?_
  refine GF_X5_171 hX  dX5_free_4 (fun r4 => ?_)
  refine zV_iconst hX dX5_free_7 ?_
  refine zV_isub hX dX5_free_8 ?_
  refine zV_cSS (n := 3) hX rfl hN (c_X5_in (by omega) (by omega) (by omega) ) zw_co_yX5_in zw_mX5_112 zw_in_RX5 zw_st_yX5_in ⟨by decide, by decide, by decide +kernel⟩ rfl (by omega) (by decide) (by omega) (by omega) rfl (Nat.le_of_ble_eq_true rfl) dX5_free_9 ?_ 
  refine zV_ifeq_b (tgt := 19) hX dX5_free_12 (by decide) (fun b12 => ?_) (fun b12 => ?_)
  · refine zV_iconst hX dX5_free_19 ?_
    refine zV_cVS (n := 1) hX rfl hN 20 rfl rfl ⟨by decide, by decide⟩ (c_X5_fails (by decide)) zw_co_yX5_fails zw_mX5_119 zw_in_RX5 zw_im_yX5_fails zw_se_yX5_fails ⟨by decide, by decide, by decide +kernel⟩ rfl (by omega) (by decide) (by omega) (by omega) rfl (Nat.le_of_ble_eq_true rfl) dX5_free_20 ?_ 
    refine zV_ifeq_b (tgt := 30) hX dX5_free_23 (by decide) (fun b => by exfalso; omega) (fun b23 => ?_)
    refine zV_iconst hX dX5_free_26 ?_
    refine zV_goto (tgt := 35) hX dX5_free_27 (by decide) ?_
    exact zV_iret hX hM (by omega) (by omega) rfl dX5_free_35 (by first | exact ⟨rfl, Or.inl ⟨by first | omega | assumption | exact ⟨by omega, by assumption⟩ | exact ⟨by omega, by omega, by assumption⟩ | exact ⟨by omega, by assumption, by omega⟩ | exact ⟨by omega, fun q => absurd q.1 (by assumption)⟩ | exact ⟨by omega, fun q => absurd q.2 (by omega)⟩ | exact ⟨by assumption, by omega⟩ | exact ⟨by assumption, by assumption⟩, by first | rfl | (congr 2; omega), by first | rfl | (simp only [mCod_cod])⟩⟩ | exact ⟨rfl, Or.inr (⟨by first | omega | assumption | exact ⟨by omega, by assumption⟩ | exact ⟨by omega, by omega, by assumption⟩ | exact ⟨by omega, by assumption, by omega⟩ | exact ⟨by omega, fun q => absurd q.1 (by assumption)⟩ | exact ⟨by omega, fun q => absurd q.2 (by omega)⟩ | exact ⟨by assumption, by omega⟩ | exact ⟨by assumption, by assumption⟩, by first | rfl | (congr 2; omega), by first | rfl | (simp only [mCod_cod])⟩)⟩)
  · refine zV_iconst hX dX5_free_15 ?_
    refine zV_goto (tgt := 20) hX dX5_free_16 (by decide) ?_
    refine zV_cVS (n := 1) hX rfl hN 20 rfl rfl ⟨by decide, by decide⟩ (c_X5_fails (by decide)) zw_co_yX5_fails zw_mX5_119 zw_in_RX5 zw_im_yX5_fails zw_se_yX5_fails ⟨by decide, by decide, by decide +kernel⟩ rfl (by omega) (by decide) (by omega) (by omega) rfl (Nat.le_of_ble_eq_true rfl) dX5_free_20 ?_ 
    refine zV_ifeq_b (tgt := 30) hX dX5_free_23 (by decide) (fun b23 => ?_) (fun b => by exfalso; omega)
    refine zV_aloadn hX dX5_free_30 rfl ?_
    refine zV_iloadn hX dX5_free_31 rfl ?_
    refine zV_cVS (n := 1) hX rfl hN 20 rfl rfl ⟨by decide, by decide⟩ (c_X5_freeOf ⟨by omega, by omega⟩ (mI_cod hI)) zw_co_yX5_freeOf zw_mX5_174 zw_in_RX5 zw_im_yX5_freeOf zw_se_yX5_freeOf ⟨by decide, by decide, by decide +kernel⟩ rfl (by omega) (by decide) (by omega) (by omega) rfl (Nat.le_of_ble_eq_true rfl) dX5_free_32 ?_ 
    exact zV_iret hX hM (by omega) (by omega) rfl dX5_free_35 (by first | exact ⟨rfl, Or.inl ⟨by first | omega | assumption | exact ⟨by omega, by assumption⟩ | exact ⟨by omega, by omega, by assumption⟩ | exact ⟨by omega, by assumption, by omega⟩ | exact ⟨by omega, fun q => absurd q.1 (by assumption)⟩ | exact ⟨by omega, fun q => absurd q.2 (by omega)⟩ | exact ⟨by assumption, by omega⟩ | exact ⟨by assumption, by assumption⟩, by first | rfl | (congr 2; omega), by first | rfl | (simp only [mCod_cod])⟩⟩ | exact ⟨rfl, Or.inr (⟨by first | omega | assumption | exact ⟨by omega, by assumption⟩ | exact ⟨by omega, by omega, by assumption⟩ | exact ⟨by omega, by assumption, by omega⟩ | exact ⟨by omega, fun q => absurd q.1 (by assumption)⟩ | exact ⟨by omega, fun q => absurd q.2 (by omega)⟩ | exact ⟨by assumption, by omega⟩ | exact ⟨by assumption, by assumption⟩, by first | rfl | (congr 2; omega), by first | rfl | (simp only [mCod_cod])⟩)⟩)
set_option maxRecDepth 100000 in
set_option maxHeartbeats 4000000 in
theorem c_X5_isNoView {ad : Nat → Int → Nat} {x y : zSt} {c : Int} (hc : zR c) (hI : mI y) : zC yX5_isNoView cX5_isNoView 2 (some .boolean) 1 0 0 [.ref (ad 20 0), zI c] ad x y (zpS (zb (¬ (0 ≤ c ∧ c ≤ y 20 0 34 - 1))) x (mCod y (if 0 ≤ c ∧ c ≤ y 20 0 34 - 1 then 0 else 1))) (zF) := by
  refine zC_ofV (by decide) (by intro v hv; simp only [List.mem_cons, List.not_mem_nil, or_false] at hv; rcases hv with rfl | rfl <;> rfl) (Nat.le_of_ble_eq_true rfl) (fun Γ hX hN hM hT => ?_)
  show zV Γ ad 0 0 x y 0 [some (.ref (ad 20 0)), some (zI c)] []
  have hn := hI.1.2.2.1
  refine zV_aloadn hX dX5_isNoView_0 rfl ?_
  refine zV_iloadn hX dX5_isNoView_1 rfl ?_
  refine zV_iconst hX dX5_isNoView_2 ?_
  refine zV_aloadn hX dX5_isNoView_3 rfl ?_
  refine GF_X5_237 hX  dX5_isNoView_4 (fun r4 => ?_)
  refine zV_iconst hX dX5_isNoView_7 ?_
  refine zV_isub hX dX5_isNoView_8 ?_
  refine zV_cSS (n := 3) hX rfl hN (c_X5_in (by omega) (by omega) (by omega) ) zw_co_yX5_in zw_mX5_112 zw_in_RX5 zw_st_yX5_in ⟨by decide, by decide, by decide +kernel⟩ rfl (by omega) (by decide) (by omega) (by omega) rfl (Nat.le_of_ble_eq_true rfl) dX5_isNoView_9 ?_ 
  refine zV_ifeq_b (tgt := 19) hX dX5_isNoView_12 (by decide) (fun b12 => ?_) (fun b12 => ?_)
  · refine zV_iconst hX dX5_isNoView_19 ?_
    refine zV_cVS (n := 1) hX rfl hN 20 rfl rfl ⟨by decide, by decide⟩ (c_X5_fails (by omega) ) zw_co_yX5_fails zw_mX5_119 zw_in_RX5 zw_im_yX5_fails zw_se_yX5_fails ⟨by decide, by decide, by decide +kernel⟩ rfl (by omega) (by decide) (by omega) (by omega) rfl (Nat.le_of_ble_eq_true rfl) dX5_isNoView_20 ?_ 
    exact zV_iret hX hM (by omega) (by omega) zn_b dX5_isNoView_23 (zpS_j (zb_congr (by first | omega | (constructor <;> intro _ <;> omega))) rfl (by first | rw [if_pos (by omega)] | rw [if_neg (by omega)]))
  · refine zV_iconst hX dX5_isNoView_15 ?_
    refine zV_goto (tgt := 20) hX dX5_isNoView_16 (by decide) ?_
    refine zV_cVS (n := 1) hX rfl hN 20 rfl rfl ⟨by decide, by decide⟩ (c_X5_fails (by omega) ) zw_co_yX5_fails zw_mX5_119 zw_in_RX5 zw_im_yX5_fails zw_se_yX5_fails ⟨by decide, by decide, by decide +kernel⟩ rfl (by omega) (by decide) (by omega) (by omega) rfl (Nat.le_of_ble_eq_true rfl) dX5_isNoView_20 ?_ 
    exact zV_iret hX hM (by omega) (by omega) zn_b dX5_isNoView_23 (zpS_j (zb_congr (by first | omega | (constructor <;> intro _ <;> omega))) rfl (by first | rw [if_pos (by omega)] | rw [if_neg (by omega)]))
set_option maxRecDepth 100000 in
set_option maxHeartbeats 4000000 in
theorem c_X5_held {ad : Nat → Int → Nat} {x y : zSt} {c : Int} (hc : zR c) (hI : mI y) : zC yX5_held cX5_held 2 (some .int) 3 0 0 [.ref (ad 20 0), zI c] ad x y (fun vv x1 y1 => x1 = x ∧ (((¬ (0 ≤ c ∧ c ≤ y 20 0 34 - 1)) ∧ vv = some (zI (0)) ∧ y1 = mCod y 1) ∨ (((0 ≤ c ∧ c ≤ y 20 0 34 - 1)) ∧ vv = some (zI (y 56 0 c)) ∧ y1 = mCod y 0))) (zF) := by
  refine zC_ofV (by decide) (by intro v hv; simp only [List.mem_cons, List.not_mem_nil, or_false] at hv; rcases hv with rfl | rfl <;> rfl) (Nat.le_of_ble_eq_true rfl) (fun Γ hX hN hM hT => ?_)
  show zV Γ ad 0 0 x y 0 [some (.ref (ad 20 0)), some (zI c)] []
  have n5 := hI.1.2.2.1
  refine zV_aloadn hX dX5_held_0 rfl ?_
  refine zV_iloadn hX dX5_held_1 rfl ?_
  refine zV_cVS (n := 1) hX rfl hN 20 rfl rfl ⟨by decide, by decide⟩ (c_X5_isNoView hc hI) zw_co_yX5_isNoView zw_mX5_240 zw_in_RX5 zw_im_yX5_isNoView zw_se_yX5_isNoView ⟨by decide, by decide, by decide +kernel⟩ rfl (by omega) (by decide) (by omega) (by omega) rfl (Nat.le_of_ble_eq_true rfl) dX5_held_2 ?_ 
  refine zV_ifeq_b (tgt := 12) hX dX5_held_5 (by decide) (fun b5 => ?_) (fun b5 => ?_)
  · rw [if_pos (by omega)]
    refine zV_aloadn hX dX5_held_12 rfl ?_
    refine GF_X5_105 hX  dX5_held_13 ?_
    refine zV_iloadn hX dX5_held_16 rfl ?_
    refine AL_56 hX  ⟨by omega, by omega⟩ dX5_held_17 (fun r17 => ?_)
    try simp only [mCod_k, mCod_j, zup_d, Nat.reduceEqDiff, Int.reduceEq, reduceCtorEq, not_false_eq_true, false_and, true_and, and_true, and_false, and_self, if_false, if_true, Int.reduceNeg] at r17 ⊢
    exact zV_iret hX hM (by omega) (by omega) rfl dX5_held_18 (by first | exact ⟨rfl, Or.inl ⟨by first | omega | assumption | exact ⟨by omega, by assumption⟩ | exact ⟨by omega, by omega, by assumption⟩ | exact ⟨by omega, by assumption, by omega⟩ | exact ⟨by omega, fun q => absurd q.1 (by assumption)⟩ | exact ⟨by omega, fun q => absurd q.2 (by omega)⟩ | exact ⟨by assumption, by omega⟩ | exact ⟨by assumption, by assumption⟩, by first | rfl | (congr 2; omega), by first | rfl | (simp only [mCod_cod])⟩⟩ | exact ⟨rfl, Or.inr (⟨by first | omega | assumption | exact ⟨by omega, by assumption⟩ | exact ⟨by omega, by omega, by assumption⟩ | exact ⟨by omega, by assumption, by omega⟩ | exact ⟨by omega, fun q => absurd q.1 (by assumption)⟩ | exact ⟨by omega, fun q => absurd q.2 (by omega)⟩ | exact ⟨by assumption, by omega⟩ | exact ⟨by assumption, by assumption⟩, by first | rfl | (congr 2; omega), by first | rfl | (simp only [mCod_cod])⟩)⟩)
  · rw [if_neg (by omega)]
    refine zV_iconst hX dX5_held_8 ?_
    refine zV_goto (tgt := 18) hX dX5_held_9 (by decide) ?_
    exact zV_iret hX hM (by omega) (by omega) rfl dX5_held_18 (by first | exact ⟨rfl, Or.inl ⟨by first | omega | assumption | exact ⟨by omega, by assumption⟩ | exact ⟨by omega, by omega, by assumption⟩ | exact ⟨by omega, by assumption, by omega⟩ | exact ⟨by omega, fun q => absurd q.1 (by assumption)⟩ | exact ⟨by omega, fun q => absurd q.2 (by omega)⟩ | exact ⟨by assumption, by omega⟩ | exact ⟨by assumption, by assumption⟩, by first | rfl | (congr 2; omega), by first | rfl | (simp only [mCod_cod])⟩⟩ | exact ⟨rfl, Or.inr (⟨by first | omega | assumption | exact ⟨by omega, by assumption⟩ | exact ⟨by omega, by omega, by assumption⟩ | exact ⟨by omega, by assumption, by omega⟩ | exact ⟨by omega, fun q => absurd q.1 (by assumption)⟩ | exact ⟨by omega, fun q => absurd q.2 (by omega)⟩ | exact ⟨by assumption, by omega⟩ | exact ⟨by assumption, by assumption⟩, by first | rfl | (congr 2; omega), by first | rfl | (simp only [mCod_cod])⟩)⟩)
set_option maxRecDepth 100000 in
set_option maxHeartbeats 4000000 in
theorem c_X5_isCurrent {ad : Nat → Int → Nat} {x y : zSt} {c : Int} (hc : zR c) (hI : mI y) : zC yX5_isCurrent cX5_isCurrent 2 (some .boolean) 26 0 0 [.ref (ad 20 0), zI c] ad x y (fun vv x1 y1 => x1 = x ∧ (((¬ (0 ≤ c ∧ c ≤ y 20 0 34 - 1)) ∧ vv = some (zI (0)) ∧ y1 = mCod y 1) ∨ (((0 ≤ c ∧ c ≤ y 20 0 34 - 1) ∧ ¬ (mFr (mCod y 0) 11 (y 55 0 c) = true ∧ y 23 0 (y 30 0 (y 55 0 c)) = y 56 0 c)) ∧ vv = some (zI (0)) ∧ y1 = mCod y 0) ∨ (((0 ≤ c ∧ c ≤ y 20 0 34 - 1) ∧ mFr (mCod y 0) 11 (y 55 0 c) = true ∧ y 23 0 (y 30 0 (y 55 0 c)) = y 56 0 c) ∧ vv = some (zI (1)) ∧ y1 = mCod y 0))) (zF) := by
  refine zC_ofV (by decide) (by intro v hv; simp only [List.mem_cons, List.not_mem_nil, or_false] at hv; rcases hv with rfl | rfl <;> rfl) (Nat.le_of_ble_eq_true rfl) (fun Γ hX hN hM hT => ?_)
  show zV Γ ad 0 0 x y 0 [some (.ref (ad 20 0)), some (zI c)] []
  have n5 := hI.1.2.2.1
  have j7 := hI.2.2.2.2.2.2
  have n6 := hI.1.1
  have j3 := hI.2.2.1
  refine zV_aloadn hX dX5_isCurrent_0 rfl ?_
  refine zV_iloadn hX dX5_isCurrent_1 rfl ?_
  refine zV_cVS (n := 1) hX rfl hN 20 rfl rfl ⟨by decide, by decide⟩ (c_X5_isNoView hc hI) zw_co_yX5_isNoView zw_mX5_240 zw_in_RX5 zw_im_yX5_isNoView zw_se_yX5_isNoView ⟨by decide, by decide, by decide +kernel⟩ rfl (by omega) (by decide) (by omega) (by omega) rfl (Nat.le_of_ble_eq_true rfl) dX5_isCurrent_2 ?_ 
  refine zV_ifne_b (tgt := 50) hX dX5_isCurrent_5 (by decide) (fun b5 => ?_) (fun b5 => ?_)
  · rw [if_neg (by omega)]
    refine zV_iconst hX dX5_isCurrent_50 ?_
    exact zV_iret hX hM (by omega) (by omega) (zn_bool (by omega)) dX5_isCurrent_51 (by first | exact ⟨rfl, Or.inl ⟨by first | omega | assumption | exact ⟨by omega, by assumption⟩ | exact ⟨by omega, by omega, by assumption⟩ | exact ⟨by omega, by assumption, by omega⟩ | exact ⟨by omega, fun q => absurd q.1 (by assumption)⟩ | exact ⟨by omega, fun q => absurd q.2 (by omega)⟩ | exact ⟨by assumption, by omega⟩ | exact ⟨by assumption, by assumption⟩, by first | rfl | (congr 2; omega), by first | rfl | (simp only [mCod_cod])⟩⟩ | exact ⟨rfl, Or.inr (Or.inl ⟨by first | omega | assumption | exact ⟨by omega, by assumption⟩ | exact ⟨by omega, by omega, by assumption⟩ | exact ⟨by omega, by assumption, by omega⟩ | exact ⟨by omega, fun q => absurd q.1 (by assumption)⟩ | exact ⟨by omega, fun q => absurd q.2 (by omega)⟩ | exact ⟨by assumption, by omega⟩ | exact ⟨by assumption, by assumption⟩, by first | rfl | (congr 2; omega), by first | rfl | (simp only [mCod_cod])⟩)⟩ | exact ⟨rfl, Or.inr (Or.inr (⟨by first | omega | assumption | exact ⟨by omega, by assumption⟩ | exact ⟨by omega, by omega, by assumption⟩ | exact ⟨by omega, by assumption, by omega⟩ | exact ⟨by omega, fun q => absurd q.1 (by assumption)⟩ | exact ⟨by omega, fun q => absurd q.2 (by omega)⟩ | exact ⟨by assumption, by omega⟩ | exact ⟨by assumption, by assumption⟩, by first | rfl | (congr 2; omega), by first | rfl | (simp only [mCod_cod])⟩))⟩)
  · rw [if_pos (by omega)]
    have q7 := j7 c (by omega) (by omega)
    have w := j3 _ q7.1 q7.2
    refine zV_aloadn hX dX5_isCurrent_8 rfl ?_
    refine zV_aloadn hX dX5_isCurrent_9 rfl ?_
    refine GF_X5_102 hX  dX5_isCurrent_10 ?_
    refine zV_iloadn hX dX5_isCurrent_13 rfl ?_
    refine AL_55 hX  ⟨by omega, by omega⟩ dX5_isCurrent_14 (fun r14 => ?_)
    try simp only [mCod_k, mCod_j, zup_d, Nat.reduceEqDiff, Int.reduceEq, reduceCtorEq, not_false_eq_true, false_and, true_and, and_true, and_false, and_self, if_false, if_true, Int.reduceNeg] at r14 ⊢
    refine zV_cVS (n := 1) hX rfl hN 20 rfl rfl ⟨by decide, by decide⟩ (c_X5_isFresh (mI_cod hI) 11 (y 55 0 c) (by omega) (by rw [mCod_j (by decide)]; omega) (by omega)) zw_co_yX5_isFresh zw_mX5_211 zw_in_RX5 zw_im_yX5_isFresh zw_se_yX5_isFresh ⟨by decide, by decide, by decide +kernel⟩ rfl (by omega) (by decide) (by omega) (by omega) rfl (Nat.le_of_ble_eq_true rfl) dX5_isCurrent_15 ?_ 
    refine zV_ifeq_b (tgt := 50) hX dX5_isCurrent_18 (by decide) (fun b18 => ?_) (fun b18 => ?_)
    · refine zV_iconst hX dX5_isCurrent_50 ?_
      exact zV_iret hX hM (by omega) (by omega) (zn_bool (by omega)) dX5_isCurrent_51 (by first | exact ⟨rfl, Or.inl ⟨by first | omega | assumption | exact ⟨by omega, by assumption⟩ | exact ⟨by omega, by omega, by assumption⟩ | exact ⟨by omega, by assumption, by omega⟩ | exact ⟨by omega, fun q => absurd q.1 (by assumption)⟩ | exact ⟨by omega, fun q => absurd q.2 (by omega)⟩ | exact ⟨by assumption, by omega⟩ | exact ⟨by assumption, by assumption⟩, by first | rfl | (congr 2; omega), by first | rfl | (simp only [mCod_cod])⟩⟩ | exact ⟨rfl, Or.inr (Or.inl ⟨by first | omega | assumption | exact ⟨by omega, by assumption⟩ | exact ⟨by omega, by omega, by assumption⟩ | exact ⟨by omega, by assumption, by omega⟩ | exact ⟨by omega, fun q => absurd q.1 (by assumption)⟩ | exact ⟨by omega, fun q => absurd q.2 (by omega)⟩ | exact ⟨by assumption, by omega⟩ | exact ⟨by assumption, by assumption⟩, by first | rfl | (congr 2; omega), by first | rfl | (simp only [mCod_cod])⟩)⟩ | exact ⟨rfl, Or.inr (Or.inr (⟨by first | omega | assumption | exact ⟨by omega, by assumption⟩ | exact ⟨by omega, by omega, by assumption⟩ | exact ⟨by omega, by assumption, by omega⟩ | exact ⟨by omega, fun q => absurd q.1 (by assumption)⟩ | exact ⟨by omega, fun q => absurd q.2 (by omega)⟩ | exact ⟨by assumption, by omega⟩ | exact ⟨by assumption, by assumption⟩, by first | rfl | (congr 2; omega), by first | rfl | (simp only [mCod_cod])⟩))⟩)
    · refine zV_aloadn hX dX5_isCurrent_21 rfl ?_
      refine GF_X5_17 hX  dX5_isCurrent_22 ?_
      refine zV_aloadn hX dX5_isCurrent_25 rfl ?_
      refine GF_X5_36 hX  dX5_isCurrent_26 ?_
      refine zV_aloadn hX dX5_isCurrent_29 rfl ?_
      refine GF_X5_102 hX  dX5_isCurrent_30 ?_
      refine zV_iloadn hX dX5_isCurrent_33 rfl ?_
      refine AL_55 hX  ⟨by omega, by omega⟩ dX5_isCurrent_34 (fun r34 => ?_)
      try simp only [mCod_k, mCod_j, zup_d, Nat.reduceEqDiff, Int.reduceEq, reduceCtorEq, not_false_eq_true, false_and, true_and, and_true, and_false, and_self, if_false, if_true, Int.reduceNeg] at r34 ⊢
      refine AL_30 hX  ⟨by omega, by omega⟩ dX5_isCurrent_35 (fun r35 => ?_)
      try simp only [mCod_k, mCod_j, zup_d, Nat.reduceEqDiff, Int.reduceEq, reduceCtorEq, not_false_eq_true, false_and, true_and, and_true, and_false, and_self, if_false, if_true, Int.reduceNeg] at r35 ⊢
      refine AL_23 hX  ⟨by omega, by omega⟩ dX5_isCurrent_36 (fun r36 => ?_)
      try simp only [mCod_k, mCod_j, zup_d, Nat.reduceEqDiff, Int.reduceEq, reduceCtorEq, not_false_eq_true, false_and, true_and, and_true, and_false, and_self, if_false, if_true, Int.reduceNeg] at r36 ⊢
      refine zV_aloadn hX dX5_isCurrent_37 rfl ?_
      refine GF_X5_105 hX  dX5_isCurrent_38 ?_
      refine zV_iloadn hX dX5_isCurrent_41 rfl ?_
      refine AL_56 hX  ⟨by omega, by omega⟩ dX5_isCurrent_42 (fun r42 => ?_)
      try simp only [mCod_k, mCod_j, zup_d, Nat.reduceEqDiff, Int.reduceEq, reduceCtorEq, not_false_eq_true, false_and, true_and, and_true, and_false, and_self, if_false, if_true, Int.reduceNeg] at r42 ⊢
      refine zV_icmp_ne (tgt := 50) hX dX5_isCurrent_43 (by decide) (by omega) (by omega) (fun b43 => ?_) (fun b43 => ?_)
      · refine zV_iconst hX dX5_isCurrent_50 ?_
        exact zV_iret hX hM (by omega) (by omega) (zn_bool (by omega)) dX5_isCurrent_51 (by first | exact ⟨rfl, Or.inl ⟨by first | omega | assumption | exact ⟨by omega, by assumption⟩ | exact ⟨by omega, by omega, by assumption⟩ | exact ⟨by omega, by assumption, by omega⟩ | exact ⟨by omega, fun q => absurd q.1 (by assumption)⟩ | exact ⟨by omega, fun q => absurd q.2 (by omega)⟩ | exact ⟨by assumption, by omega⟩ | exact ⟨by assumption, by assumption⟩, by first | rfl | (congr 2; omega), by first | rfl | (simp only [mCod_cod])⟩⟩ | exact ⟨rfl, Or.inr (Or.inl ⟨by first | omega | assumption | exact ⟨by omega, by assumption⟩ | exact ⟨by omega, by omega, by assumption⟩ | exact ⟨by omega, by assumption, by omega⟩ | exact ⟨by omega, fun q => absurd q.1 (by assumption)⟩ | exact ⟨by omega, fun q => absurd q.2 (by omega)⟩ | exact ⟨by assumption, by omega⟩ | exact ⟨by assumption, by assumption⟩, by first | rfl | (congr 2; omega), by first | rfl | (simp only [mCod_cod])⟩)⟩ | exact ⟨rfl, Or.inr (Or.inr (⟨by first | omega | assumption | exact ⟨by omega, by assumption⟩ | exact ⟨by omega, by omega, by assumption⟩ | exact ⟨by omega, by assumption, by omega⟩ | exact ⟨by omega, fun q => absurd q.1 (by assumption)⟩ | exact ⟨by omega, fun q => absurd q.2 (by omega)⟩ | exact ⟨by assumption, by omega⟩ | exact ⟨by assumption, by assumption⟩, by first | rfl | (congr 2; omega), by first | rfl | (simp only [mCod_cod])⟩))⟩)
      · refine zV_iconst hX dX5_isCurrent_46 ?_
        refine zV_goto (tgt := 51) hX dX5_isCurrent_47 (by decide) ?_
        exact zV_iret hX hM (by omega) (by omega) (zn_bool (by omega)) dX5_isCurrent_51 (by first | exact ⟨rfl, Or.inl ⟨by first | omega | assumption | exact ⟨by omega, by assumption⟩ | exact ⟨by omega, by omega, by assumption⟩ | exact ⟨by omega, by assumption, by omega⟩ | exact ⟨by omega, fun q => absurd q.1 (by assumption)⟩ | exact ⟨by omega, fun q => absurd q.2 (by omega)⟩ | exact ⟨by assumption, by omega⟩ | exact ⟨by assumption, by assumption⟩, by first | rfl | (congr 2; omega), by first | rfl | (simp only [mCod_cod])⟩⟩ | exact ⟨rfl, Or.inr (Or.inl ⟨by first | omega | assumption | exact ⟨by omega, by assumption⟩ | exact ⟨by omega, by omega, by assumption⟩ | exact ⟨by omega, by assumption, by omega⟩ | exact ⟨by omega, fun q => absurd q.1 (by assumption)⟩ | exact ⟨by omega, fun q => absurd q.2 (by omega)⟩ | exact ⟨by assumption, by omega⟩ | exact ⟨by assumption, by assumption⟩, by first | rfl | (congr 2; omega), by first | rfl | (simp only [mCod_cod])⟩)⟩ | exact ⟨rfl, Or.inr (Or.inr (⟨by first | omega | assumption | exact ⟨by omega, by assumption⟩ | exact ⟨by omega, by omega, by assumption⟩ | exact ⟨by omega, by assumption, by omega⟩ | exact ⟨by omega, fun q => absurd q.1 (by assumption)⟩ | exact ⟨by omega, fun q => absurd q.2 (by omega)⟩ | exact ⟨by assumption, by omega⟩ | exact ⟨by assumption, by assumption⟩, by first | rfl | (congr 2; omega), by first | rfl | (simp only [mCod_cod])⟩))⟩)
set_option maxRecDepth 100000 in
set_option maxHeartbeats 4000000 in
theorem c_X5_publish {ad : Nat → Int → Nat} {x y : zSt} {c : Int} (hc : zR c) (hI : mI y) : zC yX5_publish cX5_publish 2 (some .int) 26 0 0 [.ref (ad 20 0), zI c] ad x y (fun vv x1 y1 => x1 = x ∧ (((¬ (0 ≤ c ∧ c ≤ y 20 0 5 - 1)) ∧ vv = some (zI (0)) ∧ y1 = mCod y 1) ∨ (((0 ≤ c ∧ c ≤ y 20 0 5 - 1) ∧ ¬ (mFr (mCod y 0) 11 c = true ∧ y 20 0 34 ≠ 20)) ∧ vv = some (zI (0)) ∧ y1 = mCod y 2) ∨ (((0 ≤ c ∧ c ≤ y 20 0 5 - 1) ∧ (mFr (mCod y 0) 11 c = true ∧ y 20 0 34 ≠ 20)) ∧ vv = some (zI (y 20 0 34)) ∧ y1 = zup (zup (zup (mCod y 0) 55 0 (y 20 0 34) c) 56 0 (y 20 0 34) (y 23 0 (y 30 0 c))) 20 0 34 (y 20 0 34 + 1)))) (zF) := by
  refine zC_ofV (by decide) (by intro v hv; simp only [List.mem_cons, List.not_mem_nil, or_false] at hv; rcases hv with rfl | rfl <;> rfl) (Nat.le_of_ble_eq_true rfl) (fun Γ hX hN hM hT => ?_)
  show zV Γ ad 0 0 x y 0 [some (.ref (ad 20 0)), some (zI c)] []
  have n5 := hI.1.1
  have n6 := hI.1.2.2.1
  have j3 := hI.2.2.1
  refine zV_aloadn hX dX5_publish_0 rfl ?_
  refine zV_iloadn hX dX5_publish_1 rfl ?_
  refine zV_cVS (n := 1) hX rfl hN 20 rfl rfl ⟨by decide, by decide⟩ (c_X5_isNoCell (by omega) hI) zw_co_yX5_isNoCell zw_mX5_140 zw_in_RX5 zw_im_yX5_isNoCell zw_se_yX5_isNoCell ⟨by decide, by decide, by decide +kernel⟩ rfl (by omega) (by decide) (by omega) (by omega) rfl (Nat.le_of_ble_eq_true rfl) dX5_publish_2 ?_ 
  refine zV_ifne_b (tgt := 37) hX dX5_publish_5 (by decide) (fun b5 => ?_) (fun b5 => ?_)
  · rw [if_neg (by omega)]
    refine zV_iconst hX dX5_publish_37 ?_
    exact zV_iret hX hM (by omega) (by omega) rfl dX5_publish_38 (by first | exact ⟨rfl, Or.inl ⟨by first | omega | assumption | exact ⟨by omega, by assumption⟩ | exact ⟨by omega, by omega, by assumption⟩ | exact ⟨by omega, by assumption, by omega⟩ | exact ⟨by omega, fun q => absurd q.1 (by assumption)⟩ | exact ⟨by omega, fun q => absurd q.2 (by omega)⟩ | exact ⟨by assumption, by omega⟩ | exact ⟨by assumption, by assumption⟩, by first | rfl | (congr 2; omega), by first | rfl | (simp only [mCod_cod])⟩⟩ | exact ⟨rfl, Or.inr (Or.inl ⟨by first | omega | assumption | exact ⟨by omega, by assumption⟩ | exact ⟨by omega, by omega, by assumption⟩ | exact ⟨by omega, by assumption, by omega⟩ | exact ⟨by omega, fun q => absurd q.1 (by assumption)⟩ | exact ⟨by omega, fun q => absurd q.2 (by omega)⟩ | exact ⟨by assumption, by omega⟩ | exact ⟨by assumption, by assumption⟩, by first | rfl | (congr 2; omega), by first | rfl | (simp only [mCod_cod])⟩)⟩ | exact ⟨rfl, Or.inr (Or.inr (⟨by first | omega | assumption | exact ⟨by omega, by assumption⟩ | exact ⟨by omega, by omega, by assumption⟩ | exact ⟨by omega, by assumption, by omega⟩ | exact ⟨by omega, fun q => absurd q.1 (by assumption)⟩ | exact ⟨by omega, fun q => absurd q.2 (by omega)⟩ | exact ⟨by assumption, by omega⟩ | exact ⟨by assumption, by assumption⟩, by first | rfl | (congr 2; omega), by first | rfl | (simp only [mCod_cod])⟩))⟩)
  · rw [if_pos (by omega)]
    have w := j3 c (by omega) (by omega)
    refine zV_aloadn hX dX5_publish_8 rfl ?_
    refine zV_aloadn hX dX5_publish_9 rfl ?_
    refine zV_iloadn hX dX5_publish_10 rfl ?_
    refine zV_cVS (n := 1) hX rfl hN 20 rfl rfl ⟨by decide, by decide⟩ (c_X5_isFresh (mI_cod hI) 11 c (by omega) (by rw [mCod_j (by decide)]; omega) (by omega)) zw_co_yX5_isFresh zw_mX5_211 zw_in_RX5 zw_im_yX5_isFresh zw_se_yX5_isFresh ⟨by decide, by decide, by decide +kernel⟩ rfl (by omega) (by decide) (by omega) (by omega) rfl (Nat.le_of_ble_eq_true rfl) dX5_publish_11 ?_ 
    refine zV_ifeq_b (tgt := 26) hX dX5_publish_14 (by decide) (fun b14 => ?_) (fun b14 => ?_)
    · refine zV_iconst hX dX5_publish_26 ?_
      refine zV_goto (tgt := 31) hX dX5_publish_27 (by decide) ?_
      refine zV_cVS (n := 1) hX rfl hN 20 rfl rfl ⟨by decide, by decide⟩ (c_X5_fails (by decide)) zw_co_yX5_fails zw_mX5_119 zw_in_RX5 zw_im_yX5_fails zw_se_yX5_fails ⟨by decide, by decide, by decide +kernel⟩ rfl (by omega) (by decide) (by omega) (by omega) rfl (Nat.le_of_ble_eq_true rfl) dX5_publish_31 ?_ 
      refine zV_ifeq_b (tgt := 39) hX dX5_publish_34 (by decide) (fun b => by exfalso; omega) (fun b34 => ?_)
      refine zV_iconst hX dX5_publish_37 ?_
      exact zV_iret hX hM (by omega) (by omega) rfl dX5_publish_38 (by first | exact ⟨rfl, Or.inl ⟨by first | omega | assumption | exact ⟨by omega, by assumption⟩ | exact ⟨by omega, by omega, by assumption⟩ | exact ⟨by omega, by assumption, by omega⟩ | exact ⟨by omega, fun q => absurd q.1 (by assumption)⟩ | exact ⟨by omega, fun q => absurd q.2 (by omega)⟩ | exact ⟨by assumption, by omega⟩ | exact ⟨by assumption, by assumption⟩, by first | rfl | (congr 2; omega), by first | rfl | (simp only [mCod_cod])⟩⟩ | exact ⟨rfl, Or.inr (Or.inl ⟨by first | omega | assumption | exact ⟨by omega, by assumption⟩ | exact ⟨by omega, by omega, by assumption⟩ | exact ⟨by omega, by assumption, by omega⟩ | exact ⟨by omega, fun q => absurd q.1 (by assumption)⟩ | exact ⟨by omega, fun q => absurd q.2 (by omega)⟩ | exact ⟨by assumption, by omega⟩ | exact ⟨by assumption, by assumption⟩, by first | rfl | (congr 2; omega), by first | rfl | (simp only [mCod_cod])⟩)⟩ | exact ⟨rfl, Or.inr (Or.inr (⟨by first | omega | assumption | exact ⟨by omega, by assumption⟩ | exact ⟨by omega, by omega, by assumption⟩ | exact ⟨by omega, by assumption, by omega⟩ | exact ⟨by omega, fun q => absurd q.1 (by assumption)⟩ | exact ⟨by omega, fun q => absurd q.2 (by omega)⟩ | exact ⟨by assumption, by omega⟩ | exact ⟨by assumption, by assumption⟩, by first | rfl | (congr 2; omega), by first | rfl | (simp only [mCod_cod])⟩))⟩)
    · refine zV_aloadn hX dX5_publish_17 rfl ?_
      refine GF_X5_237 hX  dX5_publish_18 (fun r18 => ?_)
      try simp only [mCod_k, mCod_j, zup_d, Nat.reduceEqDiff, Int.reduceEq, reduceCtorEq, not_false_eq_true, false_and, true_and, and_true, and_false, and_self, if_false, if_true, Int.reduceNeg] at r18 ⊢
      refine zV_bipush hX dX5_publish_21 (by decide) ?_
      refine zV_icmp_ne (tgt := 30) hX dX5_publish_23 (by decide) (by omega) (by omega) (fun b23 => ?_) (fun b23 => ?_)
      · refine zV_iconst hX dX5_publish_30 ?_
        refine zV_cVS (n := 1) hX rfl hN 20 rfl rfl ⟨by decide, by decide⟩ (c_X5_fails (by decide)) zw_co_yX5_fails zw_mX5_119 zw_in_RX5 zw_im_yX5_fails zw_se_yX5_fails ⟨by decide, by decide, by decide +kernel⟩ rfl (by omega) (by decide) (by omega) (by omega) rfl (Nat.le_of_ble_eq_true rfl) dX5_publish_31 ?_ 
        refine zV_ifeq_b (tgt := 39) hX dX5_publish_34 (by decide) (fun b34 => ?_) (fun b => by exfalso; omega)
        rw [mCod_cod]
        refine zV_aloadn hX dX5_publish_39 rfl ?_
        refine GF_X5_102 hX  dX5_publish_40 ?_
        refine zV_aloadn hX dX5_publish_43 rfl ?_
        refine GF_X5_237 hX  dX5_publish_44 (fun r44 => ?_)
        try simp only [mCod_k, mCod_j, zup_d, Nat.reduceEqDiff, Int.reduceEq, reduceCtorEq, not_false_eq_true, false_and, true_and, and_true, and_false, and_self, if_false, if_true, Int.reduceNeg] at r44 ⊢
        refine zV_iloadn hX dX5_publish_47 rfl ?_
        refine AS_55 hX  ⟨by omega, by omega⟩ (by omega) dX5_publish_48 ?_
        refine zV_aloadn hX dX5_publish_49 rfl ?_
        refine GF_X5_105 hX  dX5_publish_50 ?_
        refine zV_aloadn hX dX5_publish_53 rfl ?_
        refine GF_X5_237 hX  dX5_publish_54 (fun r54 => ?_)
        try simp only [mCod_k, mCod_j, zup_d, Nat.reduceEqDiff, Int.reduceEq, reduceCtorEq, not_false_eq_true, false_and, true_and, and_true, and_false, and_self, if_false, if_true, Int.reduceNeg] at r54 ⊢
        refine zV_aloadn hX dX5_publish_57 rfl ?_
        refine GF_X5_17 hX  dX5_publish_58 ?_
        refine zV_aloadn hX dX5_publish_61 rfl ?_
        refine GF_X5_36 hX  dX5_publish_62 ?_
        refine zV_iloadn hX dX5_publish_65 rfl ?_
        refine AL_30 hX  ⟨by omega, by omega⟩ dX5_publish_66 (fun r66 => ?_)
        try simp only [mCod_k, mCod_j, zup_d, Nat.reduceEqDiff, Int.reduceEq, reduceCtorEq, not_false_eq_true, false_and, true_and, and_true, and_false, and_self, if_false, if_true, Int.reduceNeg] at r66 ⊢
        refine AL_23 hX  ⟨by omega, by omega⟩ dX5_publish_67 (fun r67 => ?_)
        try simp only [mCod_k, mCod_j, zup_d, Nat.reduceEqDiff, Int.reduceEq, reduceCtorEq, not_false_eq_true, false_and, true_and, and_true, and_false, and_self, if_false, if_true, Int.reduceNeg] at r67 ⊢
        refine AS_56 hX  ⟨by omega, by omega⟩ (by omega) dX5_publish_68 ?_
        refine zV_aloadn hX dX5_publish_69 rfl ?_
        refine zV_dup hX dX5_publish_70 rfl ?_
        refine GF_X5_237 hX  dX5_publish_71 (fun r71 => ?_)
        try simp only [mCod_k, mCod_j, zup_d, Nat.reduceEqDiff, Int.reduceEq, reduceCtorEq, not_false_eq_true, false_and, true_and, and_true, and_false, and_self, if_false, if_true, Int.reduceNeg] at r71 ⊢
        refine zV_iconst hX dX5_publish_74 ?_
        refine zV_iadd hX dX5_publish_75 ?_
        refine PF_X5_237 hX  (by omega) dX5_publish_76 ?_
        refine zV_aloadn hX dX5_publish_79 rfl ?_
        refine GF_X5_237 hX  dX5_publish_80 (fun r80 => ?_)
        try simp only [mCod_k, mCod_j, zup_d, Nat.reduceEqDiff, Int.reduceEq, reduceCtorEq, not_false_eq_true, false_and, true_and, and_true, and_false, and_self, if_false, if_true, Int.reduceNeg] at r80 ⊢
        refine zV_iconst hX dX5_publish_83 ?_
        refine zV_isub hX dX5_publish_84 ?_
        exact zV_iret hX hM (by omega) (by omega) rfl dX5_publish_85 (by first | exact ⟨rfl, Or.inl ⟨by first | omega | assumption | exact ⟨by omega, by assumption⟩ | exact ⟨by omega, by omega, by assumption⟩ | exact ⟨by omega, by assumption, by omega⟩ | exact ⟨by omega, fun q => absurd q.1 (by assumption)⟩ | exact ⟨by omega, fun q => absurd q.2 (by omega)⟩ | exact ⟨by assumption, by omega⟩ | exact ⟨by assumption, by assumption⟩, by first | rfl | (congr 2; omega), by first | rfl | (simp only [mCod_cod])⟩⟩ | exact ⟨rfl, Or.inr (Or.inl ⟨by first | omega | assumption | exact ⟨by omega, by assumption⟩ | exact ⟨by omega, by omega, by assumption⟩ | exact ⟨by omega, by assumption, by omega⟩ | exact ⟨by omega, fun q => absurd q.1 (by assumption)⟩ | exact ⟨by omega, fun q => absurd q.2 (by omega)⟩ | exact ⟨by assumption, by omega⟩ | exact ⟨by assumption, by assumption⟩, by first | rfl | (congr 2; omega), by first | rfl | (simp only [mCod_cod])⟩)⟩ | exact ⟨rfl, Or.inr (Or.inr (⟨by first | omega | assumption | exact ⟨by omega, by assumption⟩ | exact ⟨by omega, by omega, by assumption⟩ | exact ⟨by omega, by assumption, by omega⟩ | exact ⟨by omega, fun q => absurd q.1 (by assumption)⟩ | exact ⟨by omega, fun q => absurd q.2 (by omega)⟩ | exact ⟨by assumption, by omega⟩ | exact ⟨by assumption, by assumption⟩, by first | rfl | (congr 2; omega), by first | rfl | (simp only [mCod_cod])⟩))⟩)
      · refine zV_iconst hX dX5_publish_26 ?_
        refine zV_goto (tgt := 31) hX dX5_publish_27 (by decide) ?_
        refine zV_cVS (n := 1) hX rfl hN 20 rfl rfl ⟨by decide, by decide⟩ (c_X5_fails (by decide)) zw_co_yX5_fails zw_mX5_119 zw_in_RX5 zw_im_yX5_fails zw_se_yX5_fails ⟨by decide, by decide, by decide +kernel⟩ rfl (by omega) (by decide) (by omega) (by omega) rfl (Nat.le_of_ble_eq_true rfl) dX5_publish_31 ?_ 
        refine zV_ifeq_b (tgt := 39) hX dX5_publish_34 (by decide) (fun b => by exfalso; omega) (fun b34 => ?_)
        refine zV_iconst hX dX5_publish_37 ?_
        exact zV_iret hX hM (by omega) (by omega) rfl dX5_publish_38 (by first | exact ⟨rfl, Or.inl ⟨by first | omega | assumption | exact ⟨by omega, by assumption⟩ | exact ⟨by omega, by omega, by assumption⟩ | exact ⟨by omega, by assumption, by omega⟩ | exact ⟨by omega, fun q => absurd q.1 (by assumption)⟩ | exact ⟨by omega, fun q => absurd q.2 (by omega)⟩ | exact ⟨by assumption, by omega⟩ | exact ⟨by assumption, by assumption⟩, by first | rfl | (congr 2; omega), by first | rfl | (simp only [mCod_cod])⟩⟩ | exact ⟨rfl, Or.inr (Or.inl ⟨by first | omega | assumption | exact ⟨by omega, by assumption⟩ | exact ⟨by omega, by omega, by assumption⟩ | exact ⟨by omega, by assumption, by omega⟩ | exact ⟨by omega, fun q => absurd q.1 (by assumption)⟩ | exact ⟨by omega, fun q => absurd q.2 (by omega)⟩ | exact ⟨by assumption, by omega⟩ | exact ⟨by assumption, by assumption⟩, by first | rfl | (congr 2; omega), by first | rfl | (simp only [mCod_cod])⟩)⟩ | exact ⟨rfl, Or.inr (Or.inr (⟨by first | omega | assumption | exact ⟨by omega, by assumption⟩ | exact ⟨by omega, by omega, by assumption⟩ | exact ⟨by omega, by assumption, by omega⟩ | exact ⟨by omega, fun q => absurd q.1 (by assumption)⟩ | exact ⟨by omega, fun q => absurd q.2 (by omega)⟩ | exact ⟨by assumption, by omega⟩ | exact ⟨by assumption, by assumption⟩, by first | rfl | (congr 2; omega), by first | rfl | (simp only [mCod_cod])⟩))⟩)
set_option maxRecDepth 100000 in
set_option maxHeartbeats 4000000 in
theorem c_X5_isCell {ad : Nat → Int → Nat} {x y : zSt} {k a b q w n t : Int} (hk : zR k) (ha : zR a) (hb : zR b) (hq : zR q) (hw : zR w) (hn : zR n) (ht : zR t) : zC yX5_isCell cX5_isCell 7 (some .boolean) 2 0 0 [zI k, zI a, zI b, zI q, zI w, zI n, zI t] ad x y (zpS (zb (xCellOk k a b q w n t)) x y) (zF) := by
  refine zC_ofV (by decide) (by intro v hv; simp only [List.mem_cons, List.not_mem_nil, or_false] at hv; rcases hv with rfl | rfl | rfl | rfl | rfl | rfl | rfl <;> rfl) (Nat.le_of_ble_eq_true rfl) (fun Γ hX hN hM hT => ?_)
  show zV Γ ad 0 0 x y 0 [some (zI k), some (zI a), some (zI b), some (zI q), some (zI w), some (zI n), some (zI t)] []
  refine zV_iloadn hX dX5_isCell_0 rfl ?_
  refine zV_cSS (n := 1) hX rfl hN (c_X5_isKind hk) zw_co_yX5_isKind zw_mX5_132 zw_in_RX5 zw_st_yX5_isKind ⟨by decide, by decide, by decide +kernel⟩ rfl (by omega) (by decide) (by omega) (by omega) rfl (Nat.le_of_ble_eq_true rfl) dX5_isCell_1 ?_ 
  refine zV_ifeq_b (tgt := 67) hX dX5_isCell_4 (by decide) (fun b4 => ?_) (fun b4 => ?_)
  · refine zV_iconst hX dX5_isCell_67 ?_
    exact zV_iret hX hM (by omega) (by omega) (zn_bool (by omega)) dX5_isCell_68 (zpS_i (by first | exact (zb_t (P := xCellOk k a b q w n t) (by simp only [xCellOk]; omega)).symm | exact (zb_f (P := xCellOk k a b q w n t) (by simp only [xCellOk]; omega)).symm))
  · refine zV_iloadn hX dX5_isCell_7 rfl ?_
    refine zV_cSS (n := 1) hX rfl hN (c_X5_isNoVariable (by omega) ) zw_co_yX5_isNoVariable zw_mX5_123 zw_in_RX5 zw_st_yX5_isNoVariable ⟨by decide, by decide, by decide +kernel⟩ rfl (by omega) (by decide) (by omega) (by omega) rfl (Nat.le_of_ble_eq_true rfl) dX5_isCell_8 ?_ 
    refine zV_ifne_b (tgt := 67) hX dX5_isCell_11 (by decide) (fun b11 => ?_) (fun b11 => ?_)
    · refine zV_iconst hX dX5_isCell_67 ?_
      exact zV_iret hX hM (by omega) (by omega) (zn_bool (by omega)) dX5_isCell_68 (zpS_i (by first | exact (zb_t (P := xCellOk k a b q w n t) (by simp only [xCellOk]; omega)).symm | exact (zb_f (P := xCellOk k a b q w n t) (by simp only [xCellOk]; omega)).symm))
    · refine zV_iloadn hX dX5_isCell_14 rfl ?_
      refine zV_iconst hX dX5_isCell_15 ?_
      refine zV_bipush hX dX5_isCell_16 (by decide) ?_
      refine zV_cSS (n := 3) hX rfl hN (c_X5_in (by omega) (by omega) (by omega) ) zw_co_yX5_in zw_mX5_112 zw_in_RX5 zw_st_yX5_in ⟨by decide, by decide, by decide +kernel⟩ rfl (by omega) (by decide) (by omega) (by omega) rfl (Nat.le_of_ble_eq_true rfl) dX5_isCell_18 ?_ 
      refine zV_ifeq_b (tgt := 67) hX dX5_isCell_21 (by decide) (fun b21 => ?_) (fun b21 => ?_)
      · refine zV_iconst hX dX5_isCell_67 ?_
        exact zV_iret hX hM (by omega) (by omega) (zn_bool (by omega)) dX5_isCell_68 (zpS_i (by first | exact (zb_t (P := xCellOk k a b q w n t) (by simp only [xCellOk]; omega)).symm | exact (zb_f (P := xCellOk k a b q w n t) (by simp only [xCellOk]; omega)).symm))
      · refine zV_iloadn hX dX5_isCell_24 rfl ?_
        refine zV_iconst hX dX5_isCell_25 ?_
        refine zV_bipush hX dX5_isCell_26 (by decide) ?_
        refine zV_cSS (n := 3) hX rfl hN (c_X5_in (by omega) (by omega) (by omega) ) zw_co_yX5_in zw_mX5_112 zw_in_RX5 zw_st_yX5_in ⟨by decide, by decide, by decide +kernel⟩ rfl (by omega) (by decide) (by omega) (by omega) rfl (Nat.le_of_ble_eq_true rfl) dX5_isCell_28 ?_ 
        refine zV_ifeq_b (tgt := 67) hX dX5_isCell_31 (by decide) (fun b31 => ?_) (fun b31 => ?_)
        · refine zV_iconst hX dX5_isCell_67 ?_
          exact zV_iret hX hM (by omega) (by omega) (zn_bool (by omega)) dX5_isCell_68 (zpS_i (by first | exact (zb_t (P := xCellOk k a b q w n t) (by simp only [xCellOk]; omega)).symm | exact (zb_f (P := xCellOk k a b q w n t) (by simp only [xCellOk]; omega)).symm))
        · refine zV_iload hX dX5_isCell_34 rfl ?_
          refine zV_cSS (n := 1) hX rfl hN (c_X5_isNoVariable (by omega) ) zw_co_yX5_isNoVariable zw_mX5_123 zw_in_RX5 zw_st_yX5_isNoVariable ⟨by decide, by decide, by decide +kernel⟩ rfl (by omega) (by decide) (by omega) (by omega) rfl (Nat.le_of_ble_eq_true rfl) dX5_isCell_36 ?_ 
          refine zV_ifne_b (tgt := 67) hX dX5_isCell_39 (by decide) (fun b39 => ?_) (fun b39 => ?_)
          · refine zV_iconst hX dX5_isCell_67 ?_
            exact zV_iret hX hM (by omega) (by omega) (zn_bool (by omega)) dX5_isCell_68 (zpS_i (by first | exact (zb_t (P := xCellOk k a b q w n t) (by simp only [xCellOk]; omega)).symm | exact (zb_f (P := xCellOk k a b q w n t) (by simp only [xCellOk]; omega)).symm))
          · refine zV_iload hX dX5_isCell_42 rfl ?_
            refine zV_iconst hX dX5_isCell_44 ?_
            refine zV_iconst hX dX5_isCell_45 ?_
            refine zV_cSS (n := 3) hX rfl hN (c_X5_in (by omega) (by omega) (by omega) ) zw_co_yX5_in zw_mX5_112 zw_in_RX5 zw_st_yX5_in ⟨by decide, by decide, by decide +kernel⟩ rfl (by omega) (by decide) (by omega) (by omega) rfl (Nat.le_of_ble_eq_true rfl) dX5_isCell_46 ?_ 
            refine zV_ifeq_b (tgt := 67) hX dX5_isCell_49 (by decide) (fun b49 => ?_) (fun b49 => ?_)
            · refine zV_iconst hX dX5_isCell_67 ?_
              exact zV_iret hX hM (by omega) (by omega) (zn_bool (by omega)) dX5_isCell_68 (zpS_i (by first | exact (zb_t (P := xCellOk k a b q w n t) (by simp only [xCellOk]; omega)).symm | exact (zb_f (P := xCellOk k a b q w n t) (by simp only [xCellOk]; omega)).symm))
            · refine zV_iload hX dX5_isCell_52 rfl ?_
              refine zV_iconst hX dX5_isCell_54 ?_
              refine zV_bipush hX dX5_isCell_55 (by decide) ?_
              refine zV_cSS (n := 3) hX rfl hN (c_X5_in (by omega) (by omega) (by omega) ) zw_co_yX5_in zw_mX5_112 zw_in_RX5 zw_st_yX5_in ⟨by decide, by decide, by decide +kernel⟩ rfl (by omega) (by decide) (by omega) (by omega) rfl (Nat.le_of_ble_eq_true rfl) dX5_isCell_57 ?_ 
              refine zV_ifeq_b (tgt := 67) hX dX5_isCell_60 (by decide) (fun b60 => ?_) (fun b60 => ?_)
              · refine zV_iconst hX dX5_isCell_67 ?_
                exact zV_iret hX hM (by omega) (by omega) (zn_bool (by omega)) dX5_isCell_68 (zpS_i (by first | exact (zb_t (P := xCellOk k a b q w n t) (by simp only [xCellOk]; omega)).symm | exact (zb_f (P := xCellOk k a b q w n t) (by simp only [xCellOk]; omega)).symm))
              · refine zV_iconst hX dX5_isCell_63 ?_
                refine zV_goto (tgt := 68) hX dX5_isCell_64 (by decide) ?_
                exact zV_iret hX hM (by omega) (by omega) (zn_bool (by omega)) dX5_isCell_68 (zpS_i (by first | exact (zb_t (P := xCellOk k a b q w n t) (by simp only [xCellOk]; omega)).symm | exact (zb_f (P := xCellOk k a b q w n t) (by simp only [xCellOk]; omega)).symm))
set_option maxRecDepth 100000 in
set_option maxHeartbeats 4000000 in
theorem c_X5_addCell {ad : Nat → Int → Nat} {x y : zSt} {k a b q w n t : Int} (hk : zR k) (ha : zR a) (hb : zR b) (hq : zR q) (hw : zR w) (hn : zR n) (ht : zR t) (h11 : xCellOk k a b q w n t → (mThere y a ∧ (b = -1 ∨ mThere y b) ∧ ¬ mThere y w) → y 20 0 5 ≤ 10) (hI : mI y) : zC yX5_addCell cX5_addCell 8 (some .int) 3 0 0 [.ref (ad 20 0), zI k, zI a, zI b, zI q, zI w, zI n, zI t] ad x y (fun vv x1 y1 => x1 = x ∧ (((¬ xCellOk k a b q w n t) ∧ vv = some (zI (0)) ∧ y1 = mCod y 1) ∨ ((xCellOk k a b q w n t ∧ ¬ (mThere y a ∧ (b = -1 ∨ mThere y b) ∧ ¬ mThere y w)) ∧ vv = some (zI (0)) ∧ y1 = mCod y 2) ∨ ((xCellOk k a b q w n t ∧ (mThere y a ∧ (b = -1 ∨ mThere y b) ∧ ¬ mThere y w)) ∧ vv = some (zI (y 20 0 5)) ∧ y1 = zup (zup (zup (zup (zup (zup (zup (zup (zup (mCod y 0) 26 0 (y 20 0 5) k) 27 0 (y 20 0 5) a) 28 0 (y 20 0 5) b) 29 0 (y 20 0 5) q) 30 0 (y 20 0 5) w) 31 0 (y 20 0 5) n) 32 0 (y 20 0 5) t) 24 0 w (y 20 0 5)) 20 0 5 (y 20 0 5 + 1)))) (zF) := by
  refine zC_ofV (by decide) (by intro v hv; simp only [List.mem_cons, List.not_mem_nil, or_false] at hv; rcases hv with rfl | rfl | rfl | rfl | rfl | rfl | rfl | rfl <;> rfl) (Nat.le_of_ble_eq_true rfl) (fun Γ hX hN hM hT => ?_)
  show zV Γ ad 0 0 x y 0 [some (.ref (ad 20 0)), some (zI k), some (zI a), some (zI b), some (zI q), some (zI w), some (zI n), some (zI t)] []
  have n5 := hI.1.1
  refine zV_aloadn hX dX5_addCell_0 rfl ?_
  refine zV_iloadn hX dX5_addCell_1 rfl ?_
  refine zV_iloadn hX dX5_addCell_2 rfl ?_
  refine zV_iloadn hX dX5_addCell_3 rfl ?_
  refine zV_iload hX dX5_addCell_4 rfl ?_
  refine zV_iload hX dX5_addCell_6 rfl ?_
  refine zV_iload hX dX5_addCell_8 rfl ?_
  refine zV_iload hX dX5_addCell_10 rfl ?_
  refine zV_cSS (n := 7) hX rfl hN (c_X5_isCell hk ha hb hq hw hn ht) zw_co_yX5_isCell zw_mX5_136 zw_in_RX5 zw_st_yX5_isCell ⟨by decide, by decide, by decide +kernel⟩ rfl (by omega) (by decide) (by omega) (by omega) rfl (Nat.le_of_ble_eq_true rfl) dX5_addCell_12 ?_ 
  refine zV_ifne_b (tgt := 22) hX dX5_addCell_15 (by decide) (fun b15 => ?_) (fun b15 => ?_)
  · have ck : xCellOk k a b q w n t := by assumption
    have ck2 := ck
    simp only [xCellOk] at ck2
    refine zV_aloadn hX dX5_addCell_22 rfl ?_
    refine zV_iloadn hX dX5_addCell_23 rfl ?_
    refine zV_cVS (n := 1) hX rfl hN 20 rfl rfl ⟨by decide, by decide⟩ (c_X5_isThere ⟨by omega, by omega⟩) zw_co_yX5_isThere zw_mX5_126 zw_in_RX5 zw_im_yX5_isThere zw_se_yX5_isThere ⟨by decide, by decide, by decide +kernel⟩ rfl (by omega) (by decide) (by omega) (by omega) rfl (Nat.le_of_ble_eq_true rfl) dX5_addCell_24 ?_ 
    refine zV_ifeq_b (tgt := 51) hX dX5_addCell_27 (by decide) (fun b27 => ?_) (fun b27 => ?_)
    · refine zV_iconst hX dX5_addCell_51 ?_
      refine zV_goto (tgt := 56) hX dX5_addCell_52 (by decide) ?_
      refine zV_cVS (n := 1) hX rfl hN 20 rfl rfl ⟨by decide, by decide⟩ (c_X5_fails (by decide)) zw_co_yX5_fails zw_mX5_119 zw_in_RX5 zw_im_yX5_fails zw_se_yX5_fails ⟨by decide, by decide, by decide +kernel⟩ rfl (by omega) (by decide) (by omega) (by omega) rfl (Nat.le_of_ble_eq_true rfl) dX5_addCell_56 ?_ 
      refine zV_ifeq_b (tgt := 64) hX dX5_addCell_59 (by decide) (fun b => by exfalso; omega) (fun b59 => ?_)
      refine zV_iconst hX dX5_addCell_62 ?_
      exact zV_iret hX hM (by omega) (by omega) rfl dX5_addCell_63 (by first | exact ⟨rfl, Or.inl ⟨by first | omega | assumption | exact ⟨by omega, by assumption⟩ | exact ⟨by omega, by omega, by assumption⟩ | exact ⟨by omega, by assumption, by omega⟩ | exact ⟨by omega, fun q => absurd q.1 (by assumption)⟩ | exact ⟨by omega, fun q => absurd q.2 (by omega)⟩ | exact ⟨by assumption, by omega⟩ | exact ⟨by assumption, by assumption⟩, by first | rfl | (congr 2; omega), by first | rfl | (simp only [mCod_cod])⟩⟩ | exact ⟨rfl, Or.inr (Or.inl ⟨by first | omega | assumption | exact ⟨by omega, by assumption⟩ | exact ⟨by omega, by omega, by assumption⟩ | exact ⟨by omega, by assumption, by omega⟩ | exact ⟨by omega, fun q => absurd q.1 (by assumption)⟩ | exact ⟨by omega, fun q => absurd q.2 (by omega)⟩ | exact ⟨by assumption, by omega⟩ | exact ⟨by assumption, by assumption⟩, by first | rfl | (congr 2; omega), by first | rfl | (simp only [mCod_cod])⟩)⟩ | exact ⟨rfl, Or.inr (Or.inr (⟨by first | omega | assumption | exact ⟨by omega, by assumption⟩ | exact ⟨by omega, by omega, by assumption⟩ | exact ⟨by omega, by assumption, by omega⟩ | exact ⟨by omega, fun q => absurd q.1 (by assumption)⟩ | exact ⟨by omega, fun q => absurd q.2 (by omega)⟩ | exact ⟨by assumption, by omega⟩ | exact ⟨by assumption, by assumption⟩, by first | rfl | (congr 2; omega), by first | rfl | (simp only [mCod_cod])⟩))⟩)
    · refine zV_iloadn hX dX5_addCell_30 rfl ?_
      refine zV_if_lt (tgt := 42) hX dX5_addCell_31 (by decide) (by omega) (fun b31 => ?_) (fun b31 => ?_)
      · refine zV_aloadn hX dX5_addCell_42 rfl ?_
        refine zV_iload hX dX5_addCell_43 rfl ?_
        refine zV_cVS (n := 1) hX rfl hN 20 rfl rfl ⟨by decide, by decide⟩ (c_X5_isThere ⟨by omega, by omega⟩) zw_co_yX5_isThere zw_mX5_126 zw_in_RX5 zw_im_yX5_isThere zw_se_yX5_isThere ⟨by decide, by decide, by decide +kernel⟩ rfl (by omega) (by decide) (by omega) (by omega) rfl (Nat.le_of_ble_eq_true rfl) dX5_addCell_45 ?_ 
        refine zV_ifeq_b (tgt := 55) hX dX5_addCell_48 (by decide) (fun b48 => ?_) (fun b48 => ?_)
        · refine zV_iconst hX dX5_addCell_55 ?_
          refine zV_cVS (n := 1) hX rfl hN 20 rfl rfl ⟨by decide, by decide⟩ (c_X5_fails (by decide)) zw_co_yX5_fails zw_mX5_119 zw_in_RX5 zw_im_yX5_fails zw_se_yX5_fails ⟨by decide, by decide, by decide +kernel⟩ rfl (by omega) (by decide) (by omega) (by omega) rfl (Nat.le_of_ble_eq_true rfl) dX5_addCell_56 ?_ 
          refine zV_ifeq_b (tgt := 64) hX dX5_addCell_59 (by decide) (fun b59 => ?_) (fun b => by exfalso; omega)
          have hok : (mThere y a ∧ (b = -1 ∨ mThere y b) ∧ ¬ mThere y w) := by omega
          have n11 := h11 ck hok
          refine zV_aloadn hX dX5_addCell_64 rfl ?_
          refine GF_X5_23 hX  dX5_addCell_65 ?_
          refine zV_aloadn hX dX5_addCell_68 rfl ?_
          refine GF_X5_116 hX  dX5_addCell_69 (fun r69 => ?_)
          try simp only [mCod_k, mCod_j, zup_d, Nat.reduceEqDiff, Int.reduceEq, reduceCtorEq, not_false_eq_true, false_and, true_and, and_true, and_false, and_self, if_false, if_true, Int.reduceNeg] at r69 ⊢
          refine zV_iloadn hX dX5_addCell_72 rfl ?_
          refine AS_26 hX  ⟨by omega, by omega⟩ (by omega) dX5_addCell_73 ?_
          refine zV_aloadn hX dX5_addCell_74 rfl ?_
          refine GF_X5_27 hX  dX5_addCell_75 ?_
          refine zV_aloadn hX dX5_addCell_78 rfl ?_
          refine GF_X5_116 hX  dX5_addCell_79 (fun r79 => ?_)
          try simp only [mCod_k, mCod_j, zup_d, Nat.reduceEqDiff, Int.reduceEq, reduceCtorEq, not_false_eq_true, false_and, true_and, and_true, and_false, and_self, if_false, if_true, Int.reduceNeg] at r79 ⊢
          refine zV_iloadn hX dX5_addCell_82 rfl ?_
          refine AS_27 hX  ⟨by omega, by omega⟩ (by omega) dX5_addCell_83 ?_
          refine zV_aloadn hX dX5_addCell_84 rfl ?_
          refine GF_X5_30 hX  dX5_addCell_85 ?_
          refine zV_aloadn hX dX5_addCell_88 rfl ?_
          refine GF_X5_116 hX  dX5_addCell_89 (fun r89 => ?_)
          try simp only [mCod_k, mCod_j, zup_d, Nat.reduceEqDiff, Int.reduceEq, reduceCtorEq, not_false_eq_true, false_and, true_and, and_true, and_false, and_self, if_false, if_true, Int.reduceNeg] at r89 ⊢
          refine zV_iloadn hX dX5_addCell_92 rfl ?_
          refine AS_28 hX  ⟨by omega, by omega⟩ (by omega) dX5_addCell_93 ?_
          refine zV_aloadn hX dX5_addCell_94 rfl ?_
          refine GF_X5_33 hX  dX5_addCell_95 ?_
          refine zV_aloadn hX dX5_addCell_98 rfl ?_
          refine GF_X5_116 hX  dX5_addCell_99 (fun r99 => ?_)
          try simp only [mCod_k, mCod_j, zup_d, Nat.reduceEqDiff, Int.reduceEq, reduceCtorEq, not_false_eq_true, false_and, true_and, and_true, and_false, and_self, if_false, if_true, Int.reduceNeg] at r99 ⊢
          refine zV_iload hX dX5_addCell_102 rfl ?_
          refine AS_29 hX  ⟨by omega, by omega⟩ (by omega) dX5_addCell_104 ?_
          refine zV_aloadn hX dX5_addCell_105 rfl ?_
          refine GF_X5_36 hX  dX5_addCell_106 ?_
          refine zV_aloadn hX dX5_addCell_109 rfl ?_
          refine GF_X5_116 hX  dX5_addCell_110 (fun r110 => ?_)
          try simp only [mCod_k, mCod_j, zup_d, Nat.reduceEqDiff, Int.reduceEq, reduceCtorEq, not_false_eq_true, false_and, true_and, and_true, and_false, and_self, if_false, if_true, Int.reduceNeg] at r110 ⊢
          refine zV_iload hX dX5_addCell_113 rfl ?_
          refine AS_30 hX  ⟨by omega, by omega⟩ (by omega) dX5_addCell_115 ?_
          refine zV_aloadn hX dX5_addCell_116 rfl ?_
          refine GF_X5_39 hX  dX5_addCell_117 ?_
          refine zV_aloadn hX dX5_addCell_120 rfl ?_
          refine GF_X5_116 hX  dX5_addCell_121 (fun r121 => ?_)
          try simp only [mCod_k, mCod_j, zup_d, Nat.reduceEqDiff, Int.reduceEq, reduceCtorEq, not_false_eq_true, false_and, true_and, and_true, and_false, and_self, if_false, if_true, Int.reduceNeg] at r121 ⊢
          refine zV_iload hX dX5_addCell_124 rfl ?_
          refine AS_31 hX  ⟨by omega, by omega⟩ (by omega) dX5_addCell_126 ?_
          refine zV_aloadn hX dX5_addCell_127 rfl ?_
          refine GF_X5_42 hX  dX5_addCell_128 ?_
          refine zV_aloadn hX dX5_addCell_131 rfl ?_
          refine GF_X5_116 hX  dX5_addCell_132 (fun r132 => ?_)
          try simp only [mCod_k, mCod_j, zup_d, Nat.reduceEqDiff, Int.reduceEq, reduceCtorEq, not_false_eq_true, false_and, true_and, and_true, and_false, and_self, if_false, if_true, Int.reduceNeg] at r132 ⊢
          refine zV_iload hX dX5_addCell_135 rfl ?_
          refine AS_32 hX  ⟨by omega, by omega⟩ (by omega) dX5_addCell_137 ?_
          refine zV_aloadn hX dX5_addCell_138 rfl ?_
          refine GF_X5_20 hX  dX5_addCell_139 ?_
          refine zV_iload hX dX5_addCell_142 rfl ?_
          refine zV_aloadn hX dX5_addCell_144 rfl ?_
          refine GF_X5_116 hX  dX5_addCell_145 (fun r145 => ?_)
          try simp only [mCod_k, mCod_j, zup_d, Nat.reduceEqDiff, Int.reduceEq, reduceCtorEq, not_false_eq_true, false_and, true_and, and_true, and_false, and_self, if_false, if_true, Int.reduceNeg] at r145 ⊢
          refine AS_24 hX  ⟨by omega, by omega⟩ (by omega) dX5_addCell_148 ?_
          refine zV_aloadn hX dX5_addCell_149 rfl ?_
          refine zV_dup hX dX5_addCell_150 rfl ?_
          refine GF_X5_116 hX  dX5_addCell_151 (fun r151 => ?_)
          try simp only [mCod_k, mCod_j, zup_d, Nat.reduceEqDiff, Int.reduceEq, reduceCtorEq, not_false_eq_true, false_and, true_and, and_true, and_false, and_self, if_false, if_true, Int.reduceNeg] at r151 ⊢
          refine zV_iconst hX dX5_addCell_154 ?_
          refine zV_iadd hX dX5_addCell_155 ?_
          refine PF_X5_116 hX  (by omega) dX5_addCell_156 ?_
          refine zV_aloadn hX dX5_addCell_159 rfl ?_
          refine GF_X5_116 hX  dX5_addCell_160 (fun r160 => ?_)
          try simp only [mCod_k, mCod_j, zup_d, Nat.reduceEqDiff, Int.reduceEq, reduceCtorEq, not_false_eq_true, false_and, true_and, and_true, and_false, and_self, if_false, if_true, Int.reduceNeg] at r160 ⊢
          refine zV_iconst hX dX5_addCell_163 ?_
          refine zV_isub hX dX5_addCell_164 ?_
          exact zV_iret hX hM (by omega) (by omega) rfl dX5_addCell_165 (by first | exact ⟨rfl, Or.inl ⟨by first | omega | assumption | exact ⟨by omega, by assumption⟩ | exact ⟨by omega, by omega, by assumption⟩ | exact ⟨by omega, by assumption, by omega⟩ | exact ⟨by omega, fun q => absurd q.1 (by assumption)⟩ | exact ⟨by omega, fun q => absurd q.2 (by omega)⟩ | exact ⟨by assumption, by omega⟩ | exact ⟨by assumption, by assumption⟩, by first | rfl | (congr 2; omega), by first | rfl | (simp only [mCod_cod])⟩⟩ | exact ⟨rfl, Or.inr (Or.inl ⟨by first | omega | assumption | exact ⟨by omega, by assumption⟩ | exact ⟨by omega, by omega, by assumption⟩ | exact ⟨by omega, by assumption, by omega⟩ | exact ⟨by omega, fun q => absurd q.1 (by assumption)⟩ | exact ⟨by omega, fun q => absurd q.2 (by omega)⟩ | exact ⟨by assumption, by omega⟩ | exact ⟨by assumption, by assumption⟩, by first | rfl | (congr 2; omega), by first | rfl | (simp only [mCod_cod])⟩)⟩ | exact ⟨rfl, Or.inr (Or.inr (⟨by first | omega | assumption | exact ⟨by omega, by assumption⟩ | exact ⟨by omega, by omega, by assumption⟩ | exact ⟨by omega, by assumption, by omega⟩ | exact ⟨by omega, fun q => absurd q.1 (by assumption)⟩ | exact ⟨by omega, fun q => absurd q.2 (by omega)⟩ | exact ⟨by assumption, by omega⟩ | exact ⟨by assumption, by assumption⟩, by first | rfl | (congr 2; omega), by first | rfl | (simp only [mCod_cod])⟩))⟩)
        · refine zV_iconst hX dX5_addCell_51 ?_
          refine zV_goto (tgt := 56) hX dX5_addCell_52 (by decide) ?_
          refine zV_cVS (n := 1) hX rfl hN 20 rfl rfl ⟨by decide, by decide⟩ (c_X5_fails (by decide)) zw_co_yX5_fails zw_mX5_119 zw_in_RX5 zw_im_yX5_fails zw_se_yX5_fails ⟨by decide, by decide, by decide +kernel⟩ rfl (by omega) (by decide) (by omega) (by omega) rfl (Nat.le_of_ble_eq_true rfl) dX5_addCell_56 ?_ 
          refine zV_ifeq_b (tgt := 64) hX dX5_addCell_59 (by decide) (fun b => by exfalso; omega) (fun b59 => ?_)
          refine zV_iconst hX dX5_addCell_62 ?_
          exact zV_iret hX hM (by omega) (by omega) rfl dX5_addCell_63 (by first | exact ⟨rfl, Or.inl ⟨by first | omega | assumption | exact ⟨by omega, by assumption⟩ | exact ⟨by omega, by omega, by assumption⟩ | exact ⟨by omega, by assumption, by omega⟩ | exact ⟨by omega, fun q => absurd q.1 (by assumption)⟩ | exact ⟨by omega, fun q => absurd q.2 (by omega)⟩ | exact ⟨by assumption, by omega⟩ | exact ⟨by assumption, by assumption⟩, by first | rfl | (congr 2; omega), by first | rfl | (simp only [mCod_cod])⟩⟩ | exact ⟨rfl, Or.inr (Or.inl ⟨by first | omega | assumption | exact ⟨by omega, by assumption⟩ | exact ⟨by omega, by omega, by assumption⟩ | exact ⟨by omega, by assumption, by omega⟩ | exact ⟨by omega, fun q => absurd q.1 (by assumption)⟩ | exact ⟨by omega, fun q => absurd q.2 (by omega)⟩ | exact ⟨by assumption, by omega⟩ | exact ⟨by assumption, by assumption⟩, by first | rfl | (congr 2; omega), by first | rfl | (simp only [mCod_cod])⟩)⟩ | exact ⟨rfl, Or.inr (Or.inr (⟨by first | omega | assumption | exact ⟨by omega, by assumption⟩ | exact ⟨by omega, by omega, by assumption⟩ | exact ⟨by omega, by assumption, by omega⟩ | exact ⟨by omega, fun q => absurd q.1 (by assumption)⟩ | exact ⟨by omega, fun q => absurd q.2 (by omega)⟩ | exact ⟨by assumption, by omega⟩ | exact ⟨by assumption, by assumption⟩, by first | rfl | (congr 2; omega), by first | rfl | (simp only [mCod_cod])⟩))⟩)
      · refine zV_aloadn hX dX5_addCell_34 rfl ?_
        refine zV_iloadn hX dX5_addCell_35 rfl ?_
        refine zV_cVS (n := 1) hX rfl hN 20 rfl rfl ⟨by decide, by decide⟩ (c_X5_isThere ⟨by omega, by omega⟩) zw_co_yX5_isThere zw_mX5_126 zw_in_RX5 zw_im_yX5_isThere zw_se_yX5_isThere ⟨by decide, by decide, by decide +kernel⟩ rfl (by omega) (by decide) (by omega) (by omega) rfl (Nat.le_of_ble_eq_true rfl) dX5_addCell_36 ?_ 
        refine zV_ifeq_b (tgt := 51) hX dX5_addCell_39 (by decide) (fun b39 => ?_) (fun b39 => ?_)
        · refine zV_iconst hX dX5_addCell_51 ?_
          refine zV_goto (tgt := 56) hX dX5_addCell_52 (by decide) ?_
          refine zV_cVS (n := 1) hX rfl hN 20 rfl rfl ⟨by decide, by decide⟩ (c_X5_fails (by decide)) zw_co_yX5_fails zw_mX5_119 zw_in_RX5 zw_im_yX5_fails zw_se_yX5_fails ⟨by decide, by decide, by decide +kernel⟩ rfl (by omega) (by decide) (by omega) (by omega) rfl (Nat.le_of_ble_eq_true rfl) dX5_addCell_56 ?_ 
          refine zV_ifeq_b (tgt := 64) hX dX5_addCell_59 (by decide) (fun b => by exfalso; omega) (fun b59 => ?_)
          refine zV_iconst hX dX5_addCell_62 ?_
          exact zV_iret hX hM (by omega) (by omega) rfl dX5_addCell_63 (by first | exact ⟨rfl, Or.inl ⟨by first | omega | assumption | exact ⟨by omega, by assumption⟩ | exact ⟨by omega, by omega, by assumption⟩ | exact ⟨by omega, by assumption, by omega⟩ | exact ⟨by omega, fun q => absurd q.1 (by assumption)⟩ | exact ⟨by omega, fun q => absurd q.2 (by omega)⟩ | exact ⟨by assumption, by omega⟩ | exact ⟨by assumption, by assumption⟩, by first | rfl | (congr 2; omega), by first | rfl | (simp only [mCod_cod])⟩⟩ | exact ⟨rfl, Or.inr (Or.inl ⟨by first | omega | assumption | exact ⟨by omega, by assumption⟩ | exact ⟨by omega, by omega, by assumption⟩ | exact ⟨by omega, by assumption, by omega⟩ | exact ⟨by omega, fun q => absurd q.1 (by assumption)⟩ | exact ⟨by omega, fun q => absurd q.2 (by omega)⟩ | exact ⟨by assumption, by omega⟩ | exact ⟨by assumption, by assumption⟩, by first | rfl | (congr 2; omega), by first | rfl | (simp only [mCod_cod])⟩)⟩ | exact ⟨rfl, Or.inr (Or.inr (⟨by first | omega | assumption | exact ⟨by omega, by assumption⟩ | exact ⟨by omega, by omega, by assumption⟩ | exact ⟨by omega, by assumption, by omega⟩ | exact ⟨by omega, fun q => absurd q.1 (by assumption)⟩ | exact ⟨by omega, fun q => absurd q.2 (by omega)⟩ | exact ⟨by assumption, by omega⟩ | exact ⟨by assumption, by assumption⟩, by first | rfl | (congr 2; omega), by first | rfl | (simp only [mCod_cod])⟩))⟩)
        · refine zV_aloadn hX dX5_addCell_42 rfl ?_
          refine zV_iload hX dX5_addCell_43 rfl ?_
          refine zV_cVS (n := 1) hX rfl hN 20 rfl rfl ⟨by decide, by decide⟩ (c_X5_isThere ⟨by omega, by omega⟩) zw_co_yX5_isThere zw_mX5_126 zw_in_RX5 zw_im_yX5_isThere zw_se_yX5_isThere ⟨by decide, by decide, by decide +kernel⟩ rfl (by omega) (by decide) (by omega) (by omega) rfl (Nat.le_of_ble_eq_true rfl) dX5_addCell_45 ?_ 
          refine zV_ifeq_b (tgt := 55) hX dX5_addCell_48 (by decide) (fun b48 => ?_) (fun b48 => ?_)
          · refine zV_iconst hX dX5_addCell_55 ?_
            refine zV_cVS (n := 1) hX rfl hN 20 rfl rfl ⟨by decide, by decide⟩ (c_X5_fails (by decide)) zw_co_yX5_fails zw_mX5_119 zw_in_RX5 zw_im_yX5_fails zw_se_yX5_fails ⟨by decide, by decide, by decide +kernel⟩ rfl (by omega) (by decide) (by omega) (by omega) rfl (Nat.le_of_ble_eq_true rfl) dX5_addCell_56 ?_ 
            refine zV_ifeq_b (tgt := 64) hX dX5_addCell_59 (by decide) (fun b59 => ?_) (fun b => by exfalso; omega)
            have hok : (mThere y a ∧ (b = -1 ∨ mThere y b) ∧ ¬ mThere y w) := by omega
            have n11 := h11 ck hok
            refine zV_aloadn hX dX5_addCell_64 rfl ?_
            refine GF_X5_23 hX  dX5_addCell_65 ?_
            refine zV_aloadn hX dX5_addCell_68 rfl ?_
            refine GF_X5_116 hX  dX5_addCell_69 (fun r69 => ?_)
            try simp only [mCod_k, mCod_j, zup_d, Nat.reduceEqDiff, Int.reduceEq, reduceCtorEq, not_false_eq_true, false_and, true_and, and_true, and_false, and_self, if_false, if_true, Int.reduceNeg] at r69 ⊢
            refine zV_iloadn hX dX5_addCell_72 rfl ?_
            refine AS_26 hX  ⟨by omega, by omega⟩ (by omega) dX5_addCell_73 ?_
            refine zV_aloadn hX dX5_addCell_74 rfl ?_
            refine GF_X5_27 hX  dX5_addCell_75 ?_
            refine zV_aloadn hX dX5_addCell_78 rfl ?_
            refine GF_X5_116 hX  dX5_addCell_79 (fun r79 => ?_)
            try simp only [mCod_k, mCod_j, zup_d, Nat.reduceEqDiff, Int.reduceEq, reduceCtorEq, not_false_eq_true, false_and, true_and, and_true, and_false, and_self, if_false, if_true, Int.reduceNeg] at r79 ⊢
            refine zV_iloadn hX dX5_addCell_82 rfl ?_
            refine AS_27 hX  ⟨by omega, by omega⟩ (by omega) dX5_addCell_83 ?_
            refine zV_aloadn hX dX5_addCell_84 rfl ?_
            refine GF_X5_30 hX  dX5_addCell_85 ?_
            refine zV_aloadn hX dX5_addCell_88 rfl ?_
            refine GF_X5_116 hX  dX5_addCell_89 (fun r89 => ?_)
            try simp only [mCod_k, mCod_j, zup_d, Nat.reduceEqDiff, Int.reduceEq, reduceCtorEq, not_false_eq_true, false_and, true_and, and_true, and_false, and_self, if_false, if_true, Int.reduceNeg] at r89 ⊢
            refine zV_iloadn hX dX5_addCell_92 rfl ?_
            refine AS_28 hX  ⟨by omega, by omega⟩ (by omega) dX5_addCell_93 ?_
            refine zV_aloadn hX dX5_addCell_94 rfl ?_
            refine GF_X5_33 hX  dX5_addCell_95 ?_
            refine zV_aloadn hX dX5_addCell_98 rfl ?_
            refine GF_X5_116 hX  dX5_addCell_99 (fun r99 => ?_)
            try simp only [mCod_k, mCod_j, zup_d, Nat.reduceEqDiff, Int.reduceEq, reduceCtorEq, not_false_eq_true, false_and, true_and, and_true, and_false, and_self, if_false, if_true, Int.reduceNeg] at r99 ⊢
            refine zV_iload hX dX5_addCell_102 rfl ?_
            refine AS_29 hX  ⟨by omega, by omega⟩ (by omega) dX5_addCell_104 ?_
            refine zV_aloadn hX dX5_addCell_105 rfl ?_
            refine GF_X5_36 hX  dX5_addCell_106 ?_
            refine zV_aloadn hX dX5_addCell_109 rfl ?_
            refine GF_X5_116 hX  dX5_addCell_110 (fun r110 => ?_)
            try simp only [mCod_k, mCod_j, zup_d, Nat.reduceEqDiff, Int.reduceEq, reduceCtorEq, not_false_eq_true, false_and, true_and, and_true, and_false, and_self, if_false, if_true, Int.reduceNeg] at r110 ⊢
            refine zV_iload hX dX5_addCell_113 rfl ?_
            refine AS_30 hX  ⟨by omega, by omega⟩ (by omega) dX5_addCell_115 ?_
            refine zV_aloadn hX dX5_addCell_116 rfl ?_
            refine GF_X5_39 hX  dX5_addCell_117 ?_
            refine zV_aloadn hX dX5_addCell_120 rfl ?_
            refine GF_X5_116 hX  dX5_addCell_121 (fun r121 => ?_)
            try simp only [mCod_k, mCod_j, zup_d, Nat.reduceEqDiff, Int.reduceEq, reduceCtorEq, not_false_eq_true, false_and, true_and, and_true, and_false, and_self, if_false, if_true, Int.reduceNeg] at r121 ⊢
            refine zV_iload hX dX5_addCell_124 rfl ?_
            refine AS_31 hX  ⟨by omega, by omega⟩ (by omega) dX5_addCell_126 ?_
            refine zV_aloadn hX dX5_addCell_127 rfl ?_
            refine GF_X5_42 hX  dX5_addCell_128 ?_
            refine zV_aloadn hX dX5_addCell_131 rfl ?_
            refine GF_X5_116 hX  dX5_addCell_132 (fun r132 => ?_)
            try simp only [mCod_k, mCod_j, zup_d, Nat.reduceEqDiff, Int.reduceEq, reduceCtorEq, not_false_eq_true, false_and, true_and, and_true, and_false, and_self, if_false, if_true, Int.reduceNeg] at r132 ⊢
            refine zV_iload hX dX5_addCell_135 rfl ?_
            refine AS_32 hX  ⟨by omega, by omega⟩ (by omega) dX5_addCell_137 ?_
            refine zV_aloadn hX dX5_addCell_138 rfl ?_
            refine GF_X5_20 hX  dX5_addCell_139 ?_
            refine zV_iload hX dX5_addCell_142 rfl ?_
            refine zV_aloadn hX dX5_addCell_144 rfl ?_
            refine GF_X5_116 hX  dX5_addCell_145 (fun r145 => ?_)
            try simp only [mCod_k, mCod_j, zup_d, Nat.reduceEqDiff, Int.reduceEq, reduceCtorEq, not_false_eq_true, false_and, true_and, and_true, and_false, and_self, if_false, if_true, Int.reduceNeg] at r145 ⊢
            refine AS_24 hX  ⟨by omega, by omega⟩ (by omega) dX5_addCell_148 ?_
            refine zV_aloadn hX dX5_addCell_149 rfl ?_
            refine zV_dup hX dX5_addCell_150 rfl ?_
            refine GF_X5_116 hX  dX5_addCell_151 (fun r151 => ?_)
            try simp only [mCod_k, mCod_j, zup_d, Nat.reduceEqDiff, Int.reduceEq, reduceCtorEq, not_false_eq_true, false_and, true_and, and_true, and_false, and_self, if_false, if_true, Int.reduceNeg] at r151 ⊢
            refine zV_iconst hX dX5_addCell_154 ?_
            refine zV_iadd hX dX5_addCell_155 ?_
            refine PF_X5_116 hX  (by omega) dX5_addCell_156 ?_
            refine zV_aloadn hX dX5_addCell_159 rfl ?_
            refine GF_X5_116 hX  dX5_addCell_160 (fun r160 => ?_)
            try simp only [mCod_k, mCod_j, zup_d, Nat.reduceEqDiff, Int.reduceEq, reduceCtorEq, not_false_eq_true, false_and, true_and, and_true, and_false, and_self, if_false, if_true, Int.reduceNeg] at r160 ⊢
            refine zV_iconst hX dX5_addCell_163 ?_
            refine zV_isub hX dX5_addCell_164 ?_
            exact zV_iret hX hM (by omega) (by omega) rfl dX5_addCell_165 (by first | exact ⟨rfl, Or.inl ⟨by first | omega | assumption | exact ⟨by omega, by assumption⟩ | exact ⟨by omega, by omega, by assumption⟩ | exact ⟨by omega, by assumption, by omega⟩ | exact ⟨by omega, fun q => absurd q.1 (by assumption)⟩ | exact ⟨by omega, fun q => absurd q.2 (by omega)⟩ | exact ⟨by assumption, by omega⟩ | exact ⟨by assumption, by assumption⟩, by first | rfl | (congr 2; omega), by first | rfl | (simp only [mCod_cod])⟩⟩ | exact ⟨rfl, Or.inr (Or.inl ⟨by first | omega | assumption | exact ⟨by omega, by assumption⟩ | exact ⟨by omega, by omega, by assumption⟩ | exact ⟨by omega, by assumption, by omega⟩ | exact ⟨by omega, fun q => absurd q.1 (by assumption)⟩ | exact ⟨by omega, fun q => absurd q.2 (by omega)⟩ | exact ⟨by assumption, by omega⟩ | exact ⟨by assumption, by assumption⟩, by first | rfl | (congr 2; omega), by first | rfl | (simp only [mCod_cod])⟩)⟩ | exact ⟨rfl, Or.inr (Or.inr (⟨by first | omega | assumption | exact ⟨by omega, by assumption⟩ | exact ⟨by omega, by omega, by assumption⟩ | exact ⟨by omega, by assumption, by omega⟩ | exact ⟨by omega, fun q => absurd q.1 (by assumption)⟩ | exact ⟨by omega, fun q => absurd q.2 (by omega)⟩ | exact ⟨by assumption, by omega⟩ | exact ⟨by assumption, by assumption⟩, by first | rfl | (congr 2; omega), by first | rfl | (simp only [mCod_cod])⟩))⟩)
          · refine zV_iconst hX dX5_addCell_51 ?_
            refine zV_goto (tgt := 56) hX dX5_addCell_52 (by decide) ?_
            refine zV_cVS (n := 1) hX rfl hN 20 rfl rfl ⟨by decide, by decide⟩ (c_X5_fails (by decide)) zw_co_yX5_fails zw_mX5_119 zw_in_RX5 zw_im_yX5_fails zw_se_yX5_fails ⟨by decide, by decide, by decide +kernel⟩ rfl (by omega) (by decide) (by omega) (by omega) rfl (Nat.le_of_ble_eq_true rfl) dX5_addCell_56 ?_ 
            refine zV_ifeq_b (tgt := 64) hX dX5_addCell_59 (by decide) (fun b => by exfalso; omega) (fun b59 => ?_)
            refine zV_iconst hX dX5_addCell_62 ?_
            exact zV_iret hX hM (by omega) (by omega) rfl dX5_addCell_63 (by first | exact ⟨rfl, Or.inl ⟨by first | omega | assumption | exact ⟨by omega, by assumption⟩ | exact ⟨by omega, by omega, by assumption⟩ | exact ⟨by omega, by assumption, by omega⟩ | exact ⟨by omega, fun q => absurd q.1 (by assumption)⟩ | exact ⟨by omega, fun q => absurd q.2 (by omega)⟩ | exact ⟨by assumption, by omega⟩ | exact ⟨by assumption, by assumption⟩, by first | rfl | (congr 2; omega), by first | rfl | (simp only [mCod_cod])⟩⟩ | exact ⟨rfl, Or.inr (Or.inl ⟨by first | omega | assumption | exact ⟨by omega, by assumption⟩ | exact ⟨by omega, by omega, by assumption⟩ | exact ⟨by omega, by assumption, by omega⟩ | exact ⟨by omega, fun q => absurd q.1 (by assumption)⟩ | exact ⟨by omega, fun q => absurd q.2 (by omega)⟩ | exact ⟨by assumption, by omega⟩ | exact ⟨by assumption, by assumption⟩, by first | rfl | (congr 2; omega), by first | rfl | (simp only [mCod_cod])⟩)⟩ | exact ⟨rfl, Or.inr (Or.inr (⟨by first | omega | assumption | exact ⟨by omega, by assumption⟩ | exact ⟨by omega, by omega, by assumption⟩ | exact ⟨by omega, by assumption, by omega⟩ | exact ⟨by omega, fun q => absurd q.1 (by assumption)⟩ | exact ⟨by omega, fun q => absurd q.2 (by omega)⟩ | exact ⟨by assumption, by omega⟩ | exact ⟨by assumption, by assumption⟩, by first | rfl | (congr 2; omega), by first | rfl | (simp only [mCod_cod])⟩))⟩)
  · refine zV_iconst hX dX5_addCell_18 ?_
    refine zV_goto (tgt := 56) hX dX5_addCell_19 (by decide) ?_
    refine zV_cVS (n := 1) hX rfl hN 20 rfl rfl ⟨by decide, by decide⟩ (c_X5_fails (by decide)) zw_co_yX5_fails zw_mX5_119 zw_in_RX5 zw_im_yX5_fails zw_se_yX5_fails ⟨by decide, by decide, by decide +kernel⟩ rfl (by omega) (by decide) (by omega) (by omega) rfl (Nat.le_of_ble_eq_true rfl) dX5_addCell_56 ?_ 
    refine zV_ifeq_b (tgt := 64) hX dX5_addCell_59 (by decide) (fun b => by exfalso; omega) (fun b59 => ?_)
    refine zV_iconst hX dX5_addCell_62 ?_
    exact zV_iret hX hM (by omega) (by omega) rfl dX5_addCell_63 (by first | exact ⟨rfl, Or.inl ⟨by first | omega | assumption | exact ⟨by omega, by assumption⟩ | exact ⟨by omega, by omega, by assumption⟩ | exact ⟨by omega, by assumption, by omega⟩ | exact ⟨by omega, fun q => absurd q.1 (by assumption)⟩ | exact ⟨by omega, fun q => absurd q.2 (by omega)⟩ | exact ⟨by assumption, by omega⟩ | exact ⟨by assumption, by assumption⟩, by first | rfl | (congr 2; omega), by first | rfl | (simp only [mCod_cod])⟩⟩ | exact ⟨rfl, Or.inr (Or.inl ⟨by first | omega | assumption | exact ⟨by omega, by assumption⟩ | exact ⟨by omega, by omega, by assumption⟩ | exact ⟨by omega, by assumption, by omega⟩ | exact ⟨by omega, fun q => absurd q.1 (by assumption)⟩ | exact ⟨by omega, fun q => absurd q.2 (by omega)⟩ | exact ⟨by assumption, by omega⟩ | exact ⟨by assumption, by assumption⟩, by first | rfl | (congr 2; omega), by first | rfl | (simp only [mCod_cod])⟩)⟩ | exact ⟨rfl, Or.inr (Or.inr (⟨by first | omega | assumption | exact ⟨by omega, by assumption⟩ | exact ⟨by omega, by omega, by assumption⟩ | exact ⟨by omega, by assumption, by omega⟩ | exact ⟨by omega, fun q => absurd q.1 (by assumption)⟩ | exact ⟨by omega, fun q => absurd q.2 (by omega)⟩ | exact ⟨by assumption, by omega⟩ | exact ⟨by assumption, by assumption⟩, by first | rfl | (congr 2; omega), by first | rfl | (simp only [mCod_cod])⟩))⟩)
