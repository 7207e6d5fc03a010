set_option maxRecDepth 100000 in
set_option maxHeartbeats 4000000 in
theorem c_X5_addData {ad : Nat → Int → Nat} {x y : zSt} {v o w : Int} (hv : zR v) (ho : zR o) (hw : zR w) (hI : mI y) : zC yX5_addData cX5_addData 4 (some .int) 3 0 0 [.ref (ad 20 0), zI v, zI o, zI w] ad x y (fun vv x1 y1 => x1 = x ∧ (((¬ ((0 ≤ v ∧ v ≤ 11) ∧ (0 ≤ o ∧ o ≤ 3) ∧ (0 ≤ w ∧ w ≤ 999))) ∧ vv = some (zI (0)) ∧ y1 = mCod y 1) ∨ ((((0 ≤ v ∧ v ≤ 11) ∧ (0 ≤ o ∧ o ≤ 3) ∧ (0 ≤ w ∧ w ≤ 999)) ∧ mThere y v) ∧ vv = some (zI (0)) ∧ y1 = mCod y 2) ∨ ((((0 ≤ v ∧ v ≤ 11) ∧ (0 ≤ o ∧ o ≤ 3) ∧ (0 ≤ w ∧ w ≤ 999)) ∧ ¬ mThere y v) ∧ vv = some (zI (y 20 0 0 + 1)) ∧ y1 = zup (zup (zup (zup (mCod y 0) 21 0 v 1) 22 0 v o) 23 0 v w) 20 0 0 (y 20 0 0 + 1)))) (zF) := by
  refine zC_ofV (by decide) (by intro v hv; simp only [List.mem_cons, List.not_mem_nil, or_false] at hv; rcases hv with rfl | rfl | rfl | rfl <;> rfl) (Nat.le_of_ble_eq_true rfl) (fun Γ hX hN hM hT => ?_)
  show zV Γ ad 0 0 x y 0 [some (.ref (ad 20 0)), some (zI v), some (zI o), some (zI w)] []
  have n6 := hI.1.2.2.2.2.2
  refine zV_aloadn hX dX5_addData_0 rfl ?_
  refine zV_iloadn hX dX5_addData_1 rfl ?_
  refine zV_cSS (n := 1) hX rfl hN (c_X5_isNoVariable (by omega) ) zw_co_yX5_isNoVariable zw_mX5_123 zw_in_RX5 zw_st_yX5_isNoVariable ⟨by decide, by decide, by decide +kernel⟩ rfl (by omega) (by decide) (by omega) (by omega) rfl (Nat.le_of_ble_eq_true rfl) dX5_addData_2 ?_ 
  refine zV_ifne_b (tgt := 28) hX dX5_addData_5 (by decide) (fun b5 => ?_) (fun b5 => ?_)
  · refine zV_iconst hX dX5_addData_28 ?_
    refine zV_goto (tgt := 45) hX dX5_addData_29 (by decide) ?_
    refine zV_cVS (n := 1) hX rfl hN 20 rfl rfl ⟨by decide, by decide⟩ (c_X5_fails (by decide)) zw_co_yX5_fails zw_mX5_119 zw_in_RX5 zw_im_yX5_fails zw_se_yX5_fails ⟨by decide, by decide, by decide +kernel⟩ rfl (by omega) (by decide) (by omega) (by omega) rfl (Nat.le_of_ble_eq_true rfl) dX5_addData_45 ?_ 
    refine zV_ifeq_b (tgt := 53) hX dX5_addData_48 (by decide) (fun b => by exfalso; omega) (fun b48 => ?_)
    refine zV_iconst hX dX5_addData_51 ?_
    exact zV_iret hX hM (by omega) (by omega) rfl dX5_addData_52 (by first | exact ⟨rfl, Or.inl ⟨by first | omega | assumption | exact ⟨by omega, by assumption⟩, by first | rfl | (congr 2; omega), by first | rfl | (simp only [mCod_cod])⟩⟩ | exact ⟨rfl, Or.inr (Or.inl ⟨by first | omega | assumption | exact ⟨by omega, by assumption⟩, by first | rfl | (congr 2; omega), by first | rfl | (simp only [mCod_cod])⟩)⟩ | exact ⟨rfl, Or.inr (Or.inr (⟨by first | omega | assumption | exact ⟨by omega, by assumption⟩, by first | rfl | (congr 2; omega), by first | rfl | (simp only [mCod_cod])⟩))⟩)
  · refine zV_iloadn hX dX5_addData_8 rfl ?_
    refine zV_iconst hX dX5_addData_9 ?_
    refine zV_iconst hX dX5_addData_10 ?_
    refine zV_cSS (n := 3) hX rfl hN (c_X5_in (by omega) (by omega) (by omega) ) zw_co_yX5_in zw_mX5_112 zw_in_RX5 zw_st_yX5_in ⟨by decide, by decide, by decide +kernel⟩ rfl (by omega) (by decide) (by omega) (by omega) rfl (Nat.le_of_ble_eq_true rfl) dX5_addData_11 ?_ 
    refine zV_ifeq_b (tgt := 28) hX dX5_addData_14 (by decide) (fun b14 => ?_) (fun b14 => ?_)
    · refine zV_iconst hX dX5_addData_28 ?_
      refine zV_goto (tgt := 45) hX dX5_addData_29 (by decide) ?_
      refine zV_cVS (n := 1) hX rfl hN 20 rfl rfl ⟨by decide, by decide⟩ (c_X5_fails (by decide)) zw_co_yX5_fails zw_mX5_119 zw_in_RX5 zw_im_yX5_fails zw_se_yX5_fails ⟨by decide, by decide, by decide +kernel⟩ rfl (by omega) (by decide) (by omega) (by omega) rfl (Nat.le_of_ble_eq_true rfl) dX5_addData_45 ?_ 
      refine zV_ifeq_b (tgt := 53) hX dX5_addData_48 (by decide) (fun b => by exfalso; omega) (fun b48 => ?_)
      refine zV_iconst hX dX5_addData_51 ?_
      exact zV_iret hX hM (by omega) (by omega) rfl dX5_addData_52 (by first | exact ⟨rfl, Or.inl ⟨by first | omega | assumption | exact ⟨by omega, by assumption⟩, by first | rfl | (congr 2; omega), by first | rfl | (simp only [mCod_cod])⟩⟩ | exact ⟨rfl, Or.inr (Or.inl ⟨by first | omega | assumption | exact ⟨by omega, by assumption⟩, by first | rfl | (congr 2; omega), by first | rfl | (simp only [mCod_cod])⟩)⟩ | exact ⟨rfl, Or.inr (Or.inr (⟨by first | omega | assumption | exact ⟨by omega, by assumption⟩, by first | rfl | (congr 2; omega), by first | rfl | (simp only [mCod_cod])⟩))⟩)
    · refine zV_iloadn hX dX5_addData_17 rfl ?_
      refine zV_iconst hX dX5_addData_18 ?_
      refine zV_sipush hX dX5_addData_19 (by decide) ?_
      refine zV_cSS (n := 3) hX rfl hN (c_X5_in (by omega) (by omega) (by omega) ) zw_co_yX5_in zw_mX5_112 zw_in_RX5 zw_st_yX5_in ⟨by decide, by decide, by decide +kernel⟩ rfl (by omega) (by decide) (by omega) (by omega) rfl (Nat.le_of_ble_eq_true rfl) dX5_addData_22 ?_ 
      refine zV_ifne_b (tgt := 32) hX dX5_addData_25 (by decide) (fun b25 => ?_) (fun b25 => ?_)
      · refine zV_aloadn hX dX5_addData_32 rfl ?_
        refine zV_iloadn hX dX5_addData_33 rfl ?_
        refine zV_cVS (n := 1) hX rfl hN 20 rfl rfl ⟨by decide, by decide⟩ (c_X5_isThere ⟨by omega, by omega⟩) zw_co_yX5_isThere zw_mX5_126 zw_in_RX5 zw_im_yX5_isThere zw_se_yX5_isThere ⟨by decide, by decide, by decide +kernel⟩ rfl (by omega) (by decide) (by omega) (by omega) rfl (Nat.le_of_ble_eq_true rfl) dX5_addData_34 ?_ 
        refine zV_ifeq_b (tgt := 44) hX dX5_addData_37 (by decide) (fun b37 => ?_) (fun b37 => ?_)
        · refine zV_iconst hX dX5_addData_44 ?_
          refine zV_cVS (n := 1) hX rfl hN 20 rfl rfl ⟨by decide, by decide⟩ (c_X5_fails (by decide)) zw_co_yX5_fails zw_mX5_119 zw_in_RX5 zw_im_yX5_fails zw_se_yX5_fails ⟨by decide, by decide, by decide +kernel⟩ rfl (by omega) (by decide) (by omega) (by omega) rfl (Nat.le_of_ble_eq_true rfl) dX5_addData_45 ?_ 
          refine zV_ifeq_b (tgt := 53) hX dX5_addData_48 (by decide) (fun b48 => ?_) (fun b => by exfalso; omega)
          refine zV_aloadn hX dX5_addData_53 rfl ?_
          refine GF_X5_7 hX  dX5_addData_54 ?_
          refine zV_iloadn hX dX5_addData_57 rfl ?_
          refine zV_iconst hX dX5_addData_58 ?_
          refine AS_21 hX  ⟨by omega, by omega⟩ (by omega) dX5_addData_59 ?_
          refine zV_aloadn hX dX5_addData_60 rfl ?_
          refine GF_X5_13 hX  dX5_addData_61 ?_
          refine zV_iloadn hX dX5_addData_64 rfl ?_
          refine zV_iloadn hX dX5_addData_65 rfl ?_
          refine AS_22 hX  ⟨by omega, by omega⟩ (by omega) dX5_addData_66 ?_
          refine zV_aloadn hX dX5_addData_67 rfl ?_
          refine GF_X5_17 hX  dX5_addData_68 ?_
          refine zV_iloadn hX dX5_addData_71 rfl ?_
          refine zV_iloadn hX dX5_addData_72 rfl ?_
          refine AS_23 hX  ⟨by omega, by omega⟩ (by omega) dX5_addData_73 ?_
          refine zV_aloadn hX dX5_addData_74 rfl ?_
          refine zV_dup hX dX5_addData_75 rfl ?_
          refine GF_X5_129 hX  dX5_addData_76 (fun r76 => ?_)
          try simp only [mCod_k, mCod_j, zup_d, Nat.reduceEqDiff, Int.reduceEq, reduceCtorEq, not_false_eq_true, false_and, true_and, and_true, and_false, and_self, if_false, if_true, Int.reduceNeg] at r76 ⊢
          refine zV_iconst hX dX5_addData_79 ?_
          refine zV_iadd hX dX5_addData_80 ?_
          refine PF_X5_129 hX  (by omega) dX5_addData_81 ?_
          refine zV_aloadn hX dX5_addData_84 rfl ?_
          refine GF_X5_129 hX  dX5_addData_85 (fun r85 => ?_)
          try simp only [mCod_k, mCod_j, zup_d, Nat.reduceEqDiff, Int.reduceEq, reduceCtorEq, not_false_eq_true, false_and, true_and, and_true, and_false, and_self, if_false, if_true, Int.reduceNeg] at r85 ⊢
          exact zV_iret hX hM (by omega) (by omega) rfl dX5_addData_88 (by first | exact ⟨rfl, Or.inl ⟨by first | omega | assumption | exact ⟨by omega, by assumption⟩, by first | rfl | (congr 2; omega), by first | rfl | (simp only [mCod_cod])⟩⟩ | exact ⟨rfl, Or.inr (Or.inl ⟨by first | omega | assumption | exact ⟨by omega, by assumption⟩, by first | rfl | (congr 2; omega), by first | rfl | (simp only [mCod_cod])⟩)⟩ | exact ⟨rfl, Or.inr (Or.inr (⟨by first | omega | assumption | exact ⟨by omega, by assumption⟩, by first | rfl | (congr 2; omega), by first | rfl | (simp only [mCod_cod])⟩))⟩)
        · refine zV_iconst hX dX5_addData_40 ?_
          refine zV_goto (tgt := 45) hX dX5_addData_41 (by decide) ?_
          refine zV_cVS (n := 1) hX rfl hN 20 rfl rfl ⟨by decide, by decide⟩ (c_X5_fails (by decide)) zw_co_yX5_fails zw_mX5_119 zw_in_RX5 zw_im_yX5_fails zw_se_yX5_fails ⟨by decide, by decide, by decide +kernel⟩ rfl (by omega) (by decide) (by omega) (by omega) rfl (Nat.le_of_ble_eq_true rfl) dX5_addData_45 ?_ 
          refine zV_ifeq_b (tgt := 53) hX dX5_addData_48 (by decide) (fun b => by exfalso; omega) (fun b48 => ?_)
          refine zV_iconst hX dX5_addData_51 ?_
          exact zV_iret hX hM (by omega) (by omega) rfl dX5_addData_52 (by first | exact ⟨rfl, Or.inl ⟨by first | omega | assumption | exact ⟨by omega, by assumption⟩, by first | rfl | (congr 2; omega), by first | rfl | (simp only [mCod_cod])⟩⟩ | exact ⟨rfl, Or.inr (Or.inl ⟨by first | omega | assumption | exact ⟨by omega, by assumption⟩, by first | rfl | (congr 2; omega), by first | rfl | (simp only [mCod_cod])⟩)⟩ | exact ⟨rfl, Or.inr (Or.inr (⟨by first | omega | assumption | exact ⟨by omega, by assumption⟩, by first | rfl | (congr 2; omega), by first | rfl | (simp only [mCod_cod])⟩))⟩)
      · refine zV_iconst hX dX5_addData_28 ?_
        refine zV_goto (tgt := 45) hX dX5_addData_29 (by decide) ?_
        refine zV_cVS (n := 1) hX rfl hN 20 rfl rfl ⟨by decide, by decide⟩ (c_X5_fails (by decide)) zw_co_yX5_fails zw_mX5_119 zw_in_RX5 zw_im_yX5_fails zw_se_yX5_fails ⟨by decide, by decide, by decide +kernel⟩ rfl (by omega) (by decide) (by omega) (by omega) rfl (Nat.le_of_ble_eq_true rfl) dX5_addData_45 ?_ 
        refine zV_ifeq_b (tgt := 53) hX dX5_addData_48 (by decide) (fun b => by exfalso; omega) (fun b48 => ?_)
        refine zV_iconst hX dX5_addData_51 ?_
        exact zV_iret hX hM (by omega) (by omega) rfl dX5_addData_52 (by first | exact ⟨rfl, Or.inl ⟨by first | omega | assumption | exact ⟨by omega, by assumption⟩, by first | rfl | (congr 2; omega), by first | rfl | (simp only [mCod_cod])⟩⟩ | exact ⟨rfl, Or.inr (Or.inl ⟨by first | omega | assumption | exact ⟨by omega, by assumption⟩, by first | rfl | (congr 2; omega), by first | rfl | (simp only [mCod_cod])⟩)⟩ | exact ⟨rfl, Or.inr (Or.inr (⟨by first | omega | assumption | exact ⟨by omega, by assumption⟩, by first | rfl | (congr 2; omega), by first | rfl | (simp only [mCod_cod])⟩))⟩)
set_option maxRecDepth 100000 in
set_option maxHeartbeats 4000000 in
theorem c_X5_setData {ad : Nat → Int → Nat} {x y : zSt} {v w : Int} (hv : zR v) (hw : zR w) : zC yX5_setData cX5_setData 4 (some .int) 3 0 0 [.ref (ad 20 0), zI v, zI w] ad x y (fun vv x1 y1 => x1 = x ∧ (((¬ ((0 ≤ v ∧ v ≤ 11) ∧ (0 ≤ w ∧ w ≤ 999))) ∧ vv = some (zI (0)) ∧ y1 = mCod y 1) ∨ ((((0 ≤ v ∧ v ≤ 11) ∧ (0 ≤ w ∧ w ≤ 999)) ∧ y 21 0 v = 0) ∧ vv = some (zI (0)) ∧ y1 = mCod y 2) ∨ ((((0 ≤ v ∧ v ≤ 11) ∧ (0 ≤ w ∧ w ≤ 999)) ∧ y 21 0 v ≠ 0) ∧ vv = some (zI (y 23 0 v)) ∧ y1 = zup (mCod y 0) 23 0 v w))) (zF) := by
  refine zC_ofV (by decide) (by intro v hv; simp only [List.mem_cons, List.not_mem_nil, or_false] at hv; rcases hv with rfl | rfl | rfl <;> rfl) (Nat.le_of_ble_eq_true rfl) (fun Γ hX hN hM hT => ?_)
  show zV Γ ad 0 0 x y 0 [some (.ref (ad 20 0)), some (zI v), some (zI w), none] []
  refine zV_aloadn hX dX5_setData_0 rfl ?_
  refine zV_iloadn hX dX5_setData_1 rfl ?_
  refine zV_cSS (n := 1) hX rfl hN (c_X5_isNoVariable (by omega) ) zw_co_yX5_isNoVariable zw_mX5_123 zw_in_RX5 zw_st_yX5_isNoVariable ⟨by decide, by decide, by decide +kernel⟩ rfl (by omega) (by decide) (by omega) (by omega) rfl (Nat.le_of_ble_eq_true rfl) dX5_setData_2 ?_ 
  refine zV_ifne_b (tgt := 19) hX dX5_setData_5 (by decide) (fun b5 => ?_) (fun b5 => ?_)
  · refine zV_iconst hX dX5_setData_19 ?_
    refine zV_goto (tgt := 37) hX dX5_setData_20 (by decide) ?_
    refine zV_cVS (n := 1) hX rfl hN 20 rfl rfl ⟨by decide, by decide⟩ (c_X5_fails (by decide)) zw_co_yX5_fails zw_mX5_119 zw_in_RX5 zw_im_yX5_fails zw_se_yX5_fails ⟨by decide, by decide, by decide +kernel⟩ rfl (by omega) (by decide) (by omega) (by omega) rfl (Nat.le_of_ble_eq_true rfl) dX5_setData_37 ?_ 
    refine zV_ifeq_b (tgt := 45) hX dX5_setData_40 (by decide) (fun b => by exfalso; omega) (fun b40 => ?_)
    refine zV_iconst hX dX5_setData_43 ?_
    exact zV_iret hX hM (by omega) (by omega) rfl dX5_setData_44 (by first | exact ⟨rfl, Or.inl ⟨by first | omega | assumption | exact ⟨by omega, by assumption⟩, by first | rfl | (congr 2; omega), by first | rfl | (simp only [mCod_cod])⟩⟩ | exact ⟨rfl, Or.inr (Or.inl ⟨by first | omega | assumption | exact ⟨by omega, by assumption⟩, by first | rfl | (congr 2; omega), by first | rfl | (simp only [mCod_cod])⟩)⟩ | exact ⟨rfl, Or.inr (Or.inr (⟨by first | omega | assumption | exact ⟨by omega, by assumption⟩, by first | rfl | (congr 2; omega), by first | rfl | (simp only [mCod_cod])⟩))⟩)
  · refine zV_iloadn hX dX5_setData_8 rfl ?_
    refine zV_iconst hX dX5_setData_9 ?_
    refine zV_sipush hX dX5_setData_10 (by decide) ?_
    refine zV_cSS (n := 3) hX rfl hN (c_X5_in (by omega) (by omega) (by omega) ) zw_co_yX5_in zw_mX5_112 zw_in_RX5 zw_st_yX5_in ⟨by decide, by decide, by decide +kernel⟩ rfl (by omega) (by decide) (by omega) (by omega) rfl (Nat.le_of_ble_eq_true rfl) dX5_setData_13 ?_ 
    refine zV_ifne_b (tgt := 23) hX dX5_setData_16 (by decide) (fun b16 => ?_) (fun b16 => ?_)
    · refine zV_aloadn hX dX5_setData_23 rfl ?_
      refine GF_X5_7 hX  dX5_setData_24 ?_
      refine zV_iloadn hX dX5_setData_27 rfl ?_
      refine AL_21 hX  ⟨by omega, by omega⟩ dX5_setData_28 (fun r28 => ?_)
      refine zV_if_eq (tgt := 36) hX dX5_setData_29 (by decide) (by omega) (fun b29 => ?_) (fun b29 => ?_)
      · refine zV_iconst hX dX5_setData_36 ?_
        refine zV_cVS (n := 1) hX rfl hN 20 rfl rfl ⟨by decide, by decide⟩ (c_X5_fails (by decide)) zw_co_yX5_fails zw_mX5_119 zw_in_RX5 zw_im_yX5_fails zw_se_yX5_fails ⟨by decide, by decide, by decide +kernel⟩ rfl (by omega) (by decide) (by omega) (by omega) rfl (Nat.le_of_ble_eq_true rfl) dX5_setData_37 ?_ 
        refine zV_ifeq_b (tgt := 45) hX dX5_setData_40 (by decide) (fun b => by exfalso; omega) (fun b40 => ?_)
        refine zV_iconst hX dX5_setData_43 ?_
        exact zV_iret hX hM (by omega) (by omega) rfl dX5_setData_44 (by first | exact ⟨rfl, Or.inl ⟨by first | omega | assumption | exact ⟨by omega, by assumption⟩, by first | rfl | (congr 2; omega), by first | rfl | (simp only [mCod_cod])⟩⟩ | exact ⟨rfl, Or.inr (Or.inl ⟨by first | omega | assumption | exact ⟨by omega, by assumption⟩, by first | rfl | (congr 2; omega), by first | rfl | (simp only [mCod_cod])⟩)⟩ | exact ⟨rfl, Or.inr (Or.inr (⟨by first | omega | assumption | exact ⟨by omega, by assumption⟩, by first | rfl | (congr 2; omega), by first | rfl | (simp only [mCod_cod])⟩))⟩)
      · refine zV_iconst hX dX5_setData_32 ?_
        refine zV_goto (tgt := 37) hX dX5_setData_33 (by decide) ?_
        refine zV_cVS (n := 1) hX rfl hN 20 rfl rfl ⟨by decide, by decide⟩ (c_X5_fails (by decide)) zw_co_yX5_fails zw_mX5_119 zw_in_RX5 zw_im_yX5_fails zw_se_yX5_fails ⟨by decide, by decide, by decide +kernel⟩ rfl (by omega) (by decide) (by omega) (by omega) rfl (Nat.le_of_ble_eq_true rfl) dX5_setData_37 ?_ 
        refine zV_ifeq_b (tgt := 45) hX dX5_setData_40 (by decide) (fun b40 => ?_) (fun b => by exfalso; omega)
        refine zV_aloadn hX dX5_setData_45 rfl ?_
        refine GF_X5_17 hX  dX5_setData_46 ?_
        refine zV_iloadn hX dX5_setData_49 rfl ?_
        refine AL_23 hX  ⟨by omega, by omega⟩ dX5_setData_50 (fun r50 => ?_)
        try simp only [mCod_k, mCod_j, zup_d, Nat.reduceEqDiff, Int.reduceEq, reduceCtorEq, not_false_eq_true, false_and, true_and, and_true, and_false, and_self, if_false, if_true, Int.reduceNeg] at r50 ⊢
        refine zV_istoren3 hX dX5_setData_51 ?_
        refine zV_aloadn hX dX5_setData_52 rfl ?_
        refine GF_X5_17 hX  dX5_setData_53 ?_
        refine zV_iloadn hX dX5_setData_56 rfl ?_
        refine zV_iloadn hX dX5_setData_57 rfl ?_
        refine AS_23 hX  ⟨by omega, by omega⟩ (by omega) dX5_setData_58 ?_
        refine zV_iloadn hX dX5_setData_59 rfl ?_
        exact zV_iret hX hM (by omega) (by omega) rfl dX5_setData_60 (by first | exact ⟨rfl, Or.inl ⟨by first | omega | assumption | exact ⟨by omega, by assumption⟩, by first | rfl | (congr 2; omega), by first | rfl | (simp only [mCod_cod])⟩⟩ | exact ⟨rfl, Or.inr (Or.inl ⟨by first | omega | assumption | exact ⟨by omega, by assumption⟩, by first | rfl | (congr 2; omega), by first | rfl | (simp only [mCod_cod])⟩)⟩ | exact ⟨rfl, Or.inr (Or.inr (⟨by first | omega | assumption | exact ⟨by omega, by assumption⟩, by first | rfl | (congr 2; omega), by first | rfl | (simp only [mCod_cod])⟩))⟩)
    · refine zV_iconst hX dX5_setData_19 ?_
      refine zV_goto (tgt := 37) hX dX5_setData_20 (by decide) ?_
      refine zV_cVS (n := 1) hX rfl hN 20 rfl rfl ⟨by decide, by decide⟩ (c_X5_fails (by decide)) zw_co_yX5_fails zw_mX5_119 zw_in_RX5 zw_im_yX5_fails zw_se_yX5_fails ⟨by decide, by decide, by decide +kernel⟩ rfl (by omega) (by decide) (by omega) (by omega) rfl (Nat.le_of_ble_eq_true rfl) dX5_setData_37 ?_ 
      refine zV_ifeq_b (tgt := 45) hX dX5_setData_40 (by decide) (fun b => by exfalso; omega) (fun b40 => ?_)
      refine zV_iconst hX dX5_setData_43 ?_
      exact zV_iret hX hM (by omega) (by omega) rfl dX5_setData_44 (by first | exact ⟨rfl, Or.inl ⟨by first | omega | assumption | exact ⟨by omega, by assumption⟩, by first | rfl | (congr 2; omega), by first | rfl | (simp only [mCod_cod])⟩⟩ | exact ⟨rfl, Or.inr (Or.inl ⟨by first | omega | assumption | exact ⟨by omega, by assumption⟩, by first | rfl | (congr 2; omega), by first | rfl | (simp only [mCod_cod])⟩)⟩ | exact ⟨rfl, Or.inr (Or.inr (⟨by first | omega | assumption | exact ⟨by omega, by assumption⟩, by first | rfl | (congr 2; omega), by first | rfl | (simp only [mCod_cod])⟩))⟩)
set_option maxRecDepth 100000 in
set_option maxHeartbeats 4000000 in
theorem c_X5_loseData {ad : Nat → Int → Nat} {x y : zSt} {v : Int} (hv : zR v) : zC yX5_loseData cX5_loseData 3 (some .int) 3 0 0 [.ref (ad 20 0), zI v] ad x y (fun vv x1 y1 => x1 = x ∧ (((¬ (0 ≤ v ∧ v ≤ 11)) ∧ vv = some (zI (0)) ∧ y1 = mCod y 1) ∨ (((0 ≤ v ∧ v ≤ 11) ∧ y 21 0 v = 0) ∧ vv = some (zI (0)) ∧ y1 = mCod y 2) ∨ (((0 ≤ v ∧ v ≤ 11) ∧ y 21 0 v ≠ 0 ∧ y 23 0 v < 0) ∧ vv = some (zI (0)) ∧ y1 = mCod y 3) ∨ (((0 ≤ v ∧ v ≤ 11) ∧ y 21 0 v ≠ 0 ∧ ¬ y 23 0 v < 0) ∧ vv = some (zI (y 23 0 v)) ∧ y1 = zup (mCod y 0) 23 0 v (-1)))) (zF) := by
  refine zC_ofV (by decide) (by intro v hv; simp only [List.mem_cons, List.not_mem_nil, or_false] at hv; rcases hv with rfl | rfl <;> rfl) (Nat.le_of_ble_eq_true rfl) (fun Γ hX hN hM hT => ?_)
  show zV Γ ad 0 0 x y 0 [some (.ref (ad 20 0)), some (zI v), none] []
  refine zV_aloadn hX dX5_loseData_0 rfl ?_
  refine zV_iloadn hX dX5_loseData_1 rfl ?_
  refine zV_cSS (n := 1) hX rfl hN (c_X5_isNoVariable (by omega) ) zw_co_yX5_isNoVariable zw_mX5_123 zw_in_RX5 zw_st_yX5_isNoVariable ⟨by decide, by decide, by decide +kernel⟩ rfl (by omega) (by decide) (by omega) (by omega) rfl (Nat.le_of_ble_eq_true rfl) dX5_loseData_2 ?_ 
  refine zV_ifeq_b (tgt := 12) hX dX5_loseData_5 (by decide) (fun b5 => ?_) (fun b5 => ?_)
  · refine zV_aloadn hX dX5_loseData_12 rfl ?_
    refine GF_X5_7 hX  dX5_loseData_13 ?_
    refine zV_iloadn hX dX5_loseData_16 rfl ?_
    refine AL_21 hX  ⟨by omega, by omega⟩ dX5_loseData_17 (fun r17 => ?_)
    refine zV_if_ne (tgt := 25) hX dX5_loseData_18 (by decide) (by omega) (fun b18 => ?_) (fun b18 => ?_)
    · refine zV_aloadn hX dX5_loseData_25 rfl ?_
      refine GF_X5_17 hX  dX5_loseData_26 ?_
      refine zV_iloadn hX dX5_loseData_29 rfl ?_
      refine AL_23 hX  ⟨by omega, by omega⟩ dX5_loseData_30 (fun r30 => ?_)
      refine zV_if_ge (tgt := 38) hX dX5_loseData_31 (by decide) (by omega) (fun b31 => ?_) (fun b31 => ?_)
      · refine zV_iconst hX dX5_loseData_38 ?_
        refine zV_cVS (n := 1) hX rfl hN 20 rfl rfl ⟨by decide, by decide⟩ (c_X5_fails (by decide)) zw_co_yX5_fails zw_mX5_119 zw_in_RX5 zw_im_yX5_fails zw_se_yX5_fails ⟨by decide, by decide, by decide +kernel⟩ rfl (by omega) (by decide) (by omega) (by omega) rfl (Nat.le_of_ble_eq_true rfl) dX5_loseData_39 ?_ 
        refine zV_ifeq_b (tgt := 47) hX dX5_loseData_42 (by decide) (fun b42 => ?_) (fun b => by exfalso; omega)
        refine zV_aloadn hX dX5_loseData_47 rfl ?_
        refine GF_X5_17 hX  dX5_loseData_48 ?_
        refine zV_iloadn hX dX5_loseData_51 rfl ?_
        refine AL_23 hX  ⟨by omega, by omega⟩ dX5_loseData_52 (fun r52 => ?_)
        try simp only [mCod_k, mCod_j, zup_d, Nat.reduceEqDiff, Int.reduceEq, reduceCtorEq, not_false_eq_true, false_and, true_and, and_true, and_false, and_self, if_false, if_true, Int.reduceNeg] at r52 ⊢
        refine zV_istoren2 hX dX5_loseData_53 ?_
        refine zV_aloadn hX dX5_loseData_54 rfl ?_
        refine GF_X5_17 hX  dX5_loseData_55 ?_
        refine zV_iloadn hX dX5_loseData_58 rfl ?_
        refine zV_iconst hX dX5_loseData_59 ?_
        refine AS_23 hX  ⟨by omega, by omega⟩ (by omega) dX5_loseData_60 ?_
        refine zV_iloadn hX dX5_loseData_61 rfl ?_
        exact zV_iret hX hM (by omega) (by omega) rfl dX5_loseData_62 (by first | exact ⟨rfl, Or.inl ⟨by first | omega | assumption | exact ⟨by omega, by assumption⟩, by first | rfl | (congr 2; omega), by first | rfl | (simp only [mCod_cod])⟩⟩ | exact ⟨rfl, Or.inr (Or.inl ⟨by first | omega | assumption | exact ⟨by omega, by assumption⟩, by first | rfl | (congr 2; omega), by first | rfl | (simp only [mCod_cod])⟩)⟩ | exact ⟨rfl, Or.inr (Or.inr (Or.inl ⟨by first | omega | assumption | exact ⟨by omega, by assumption⟩, by first | rfl | (congr 2; omega), by first | rfl | (simp only [mCod_cod])⟩))⟩ | exact ⟨rfl, Or.inr (Or.inr (Or.inr (⟨by first | omega | assumption | exact ⟨by omega, by assumption⟩, by first | rfl | (congr 2; omega), by first | rfl | (simp only [mCod_cod])⟩)))⟩)
      · refine zV_iconst hX dX5_loseData_34 ?_
        refine zV_goto (tgt := 39) hX dX5_loseData_35 (by decide) ?_
        refine zV_cVS (n := 1) hX rfl hN 20 rfl rfl ⟨by decide, by decide⟩ (c_X5_fails (by decide)) zw_co_yX5_fails zw_mX5_119 zw_in_RX5 zw_im_yX5_fails zw_se_yX5_fails ⟨by decide, by decide, by decide +kernel⟩ rfl (by omega) (by decide) (by omega) (by omega) rfl (Nat.le_of_ble_eq_true rfl) dX5_loseData_39 ?_ 
        refine zV_ifeq_b (tgt := 47) hX dX5_loseData_42 (by decide) (fun b => by exfalso; omega) (fun b42 => ?_)
        refine zV_iconst hX dX5_loseData_45 ?_
        exact zV_iret hX hM (by omega) (by omega) rfl dX5_loseData_46 (by first | exact ⟨rfl, Or.inl ⟨by first | omega | assumption | exact ⟨by omega, by assumption⟩, by first | rfl | (congr 2; omega), by first | rfl | (simp only [mCod_cod])⟩⟩ | exact ⟨rfl, Or.inr (Or.inl ⟨by first | omega | assumption | exact ⟨by omega, by assumption⟩, by first | rfl | (congr 2; omega), by first | rfl | (simp only [mCod_cod])⟩)⟩ | exact ⟨rfl, Or.inr (Or.inr (Or.inl ⟨by first | omega | assumption | exact ⟨by omega, by assumption⟩, by first | rfl | (congr 2; omega), by first | rfl | (simp only [mCod_cod])⟩))⟩ | exact ⟨rfl, Or.inr (Or.inr (Or.inr (⟨by first | omega | assumption | exact ⟨by omega, by assumption⟩, by first | rfl | (congr 2; omega), by first | rfl | (simp only [mCod_cod])⟩)))⟩)
    · refine zV_iconst hX dX5_loseData_21 ?_
      refine zV_goto (tgt := 39) hX dX5_loseData_22 (by decide) ?_
      refine zV_cVS (n := 1) hX rfl hN 20 rfl rfl ⟨by decide, by decide⟩ (c_X5_fails (by decide)) zw_co_yX5_fails zw_mX5_119 zw_in_RX5 zw_im_yX5_fails zw_se_yX5_fails ⟨by decide, by decide, by decide +kernel⟩ rfl (by omega) (by decide) (by omega) (by omega) rfl (Nat.le_of_ble_eq_true rfl) dX5_loseData_39 ?_ 
      refine zV_ifeq_b (tgt := 47) hX dX5_loseData_42 (by decide) (fun b => by exfalso; omega) (fun b42 => ?_)
      refine zV_iconst hX dX5_loseData_45 ?_
      exact zV_iret hX hM (by omega) (by omega) rfl dX5_loseData_46 (by first | exact ⟨rfl, Or.inl ⟨by first | omega | assumption | exact ⟨by omega, by assumption⟩, by first | rfl | (congr 2; omega), by first | rfl | (simp only [mCod_cod])⟩⟩ | exact ⟨rfl, Or.inr (Or.inl ⟨by first | omega | assumption | exact ⟨by omega, by assumption⟩, by first | rfl | (congr 2; omega), by first | rfl | (simp only [mCod_cod])⟩)⟩ | exact ⟨rfl, Or.inr (Or.inr (Or.inl ⟨by first | omega | assumption | exact ⟨by omega, by assumption⟩, by first | rfl | (congr 2; omega), by first | rfl | (simp only [mCod_cod])⟩))⟩ | exact ⟨rfl, Or.inr (Or.inr (Or.inr (⟨by first | omega | assumption | exact ⟨by omega, by assumption⟩, by first | rfl | (congr 2; omega), by first | rfl | (simp only [mCod_cod])⟩)))⟩)
  · refine zV_iconst hX dX5_loseData_8 ?_
    refine zV_goto (tgt := 39) hX dX5_loseData_9 (by decide) ?_
    refine zV_cVS (n := 1) hX rfl hN 20 rfl rfl ⟨by decide, by decide⟩ (c_X5_fails (by decide)) zw_co_yX5_fails zw_mX5_119 zw_in_RX5 zw_im_yX5_fails zw_se_yX5_fails ⟨by decide, by decide, by decide +kernel⟩ rfl (by omega) (by decide) (by omega) (by omega) rfl (Nat.le_of_ble_eq_true rfl) dX5_loseData_39 ?_ 
    refine zV_ifeq_b (tgt := 47) hX dX5_loseData_42 (by decide) (fun b => by exfalso; omega) (fun b42 => ?_)
    refine zV_iconst hX dX5_loseData_45 ?_
    exact zV_iret hX hM (by omega) (by omega) rfl dX5_loseData_46 (by first | exact ⟨rfl, Or.inl ⟨by first | omega | assumption | exact ⟨by omega, by assumption⟩, by first | rfl | (congr 2; omega), by first | rfl | (simp only [mCod_cod])⟩⟩ | exact ⟨rfl, Or.inr (Or.inl ⟨by first | omega | assumption | exact ⟨by omega, by assumption⟩, by first | rfl | (congr 2; omega), by first | rfl | (simp only [mCod_cod])⟩)⟩ | exact ⟨rfl, Or.inr (Or.inr (Or.inl ⟨by first | omega | assumption | exact ⟨by omega, by assumption⟩, by first | rfl | (congr 2; omega), by first | rfl | (simp only [mCod_cod])⟩))⟩ | exact ⟨rfl, Or.inr (Or.inr (Or.inr (⟨by first | omega | assumption | exact ⟨by omega, by assumption⟩, by first | rfl | (congr 2; omega), by first | rfl | (simp only [mCod_cod])⟩)))⟩)
set_option maxRecDepth 100000 in
set_option maxHeartbeats 4000000 in
theorem c_X5_setConstant {ad : Nat → Int → Nat} {x y : zSt} {c w : Int} (hc : zR c) (hw : zR w) (hI : mI y) : zC yX5_setConstant cX5_setConstant 4 (some .int) 3 0 0 [.ref (ad 20 0), zI c, zI w] ad x y (fun vv x1 y1 => x1 = x ∧ (((¬ (0 ≤ c ∧ c ≤ y 20 0 5 - 1)) ∧ vv = some (zI (0)) ∧ y1 = mCod y 1) ∨ (((0 ≤ c ∧ c ≤ y 20 0 5 - 1) ∧ ¬ (0 ≤ w ∧ w ≤ 99)) ∧ vv = some (zI (0)) ∧ y1 = mCod y 2) ∨ (((0 ≤ c ∧ c ≤ y 20 0 5 - 1) ∧ (0 ≤ w ∧ w ≤ 99)) ∧ vv = some (zI (y 29 0 c)) ∧ y1 = zup (mCod y 0) 29 0 c w))) (zF) := by
  refine zC_ofV (by decide) (by intro v hv; simp only [List.mem_cons, List.not_mem_nil, or_false] at hv; rcases hv with rfl | rfl | rfl <;> rfl) (Nat.le_of_ble_eq_true rfl) (fun Γ hX hN hM hT => ?_)
  show zV Γ ad 0 0 x y 0 [some (.ref (ad 20 0)), some (zI c), some (zI w), none] []
  have n5 := hI.1.1
  refine zV_aloadn hX dX5_setConstant_0 rfl ?_
  refine zV_iloadn hX dX5_setConstant_1 rfl ?_
  refine zV_cVS (n := 1) hX rfl hN 20 rfl rfl ⟨by decide, by decide⟩ (c_X5_isNoCell (by omega) hI) zw_co_yX5_isNoCell zw_mX5_140 zw_in_RX5 zw_im_yX5_isNoCell zw_se_yX5_isNoCell ⟨by decide, by decide, by decide +kernel⟩ rfl (by omega) (by decide) (by omega) (by omega) rfl (Nat.le_of_ble_eq_true rfl) dX5_setConstant_2 ?_ 
  refine zV_ifne_b (tgt := 30) hX dX5_setConstant_5 (by decide) (fun b5 => ?_) (fun b5 => ?_)
  · rw [if_neg (by omega)]
    refine zV_iconst hX dX5_setConstant_30 ?_
    exact zV_iret hX hM (by omega) (by omega) rfl dX5_setConstant_31 (by first | exact ⟨rfl, Or.inl ⟨by first | omega | assumption | exact ⟨by omega, by assumption⟩, by first | rfl | (congr 2; omega), by first | rfl | (simp only [mCod_cod])⟩⟩ | exact ⟨rfl, Or.inr (Or.inl ⟨by first | omega | assumption | exact ⟨by omega, by assumption⟩, by first | rfl | (congr 2; omega), by first | rfl | (simp only [mCod_cod])⟩)⟩ | exact ⟨rfl, Or.inr (Or.inr (⟨by first | omega | assumption | exact ⟨by omega, by assumption⟩, by first | rfl | (congr 2; omega), by first | rfl | (simp only [mCod_cod])⟩))⟩)
  · rw [if_pos (by omega)]
    refine zV_aloadn hX dX5_setConstant_8 rfl ?_
    refine zV_iloadn hX dX5_setConstant_9 rfl ?_
    refine zV_iconst hX dX5_setConstant_10 ?_
    refine zV_bipush hX dX5_setConstant_11 (by decide) ?_
    refine zV_cSS (n := 3) hX rfl hN (c_X5_in (by omega) (by omega) (by omega) ) zw_co_yX5_in zw_mX5_112 zw_in_RX5 zw_st_yX5_in ⟨by decide, by decide, by decide +kernel⟩ rfl (by omega) (by decide) (by omega) (by omega) rfl (Nat.le_of_ble_eq_true rfl) dX5_setConstant_13 ?_ 
    refine zV_ifeq_b (tgt := 23) hX dX5_setConstant_16 (by decide) (fun b16 => ?_) (fun b16 => ?_)
    · refine zV_iconst hX dX5_setConstant_23 ?_
      refine zV_cVS (n := 1) hX rfl hN 20 rfl rfl ⟨by decide, by decide⟩ (c_X5_fails (by decide)) zw_co_yX5_fails zw_mX5_119 zw_in_RX5 zw_im_yX5_fails zw_se_yX5_fails ⟨by decide, by decide, by decide +kernel⟩ rfl (by omega) (by decide) (by omega) (by omega) rfl (Nat.le_of_ble_eq_true rfl) dX5_setConstant_24 ?_ 
      refine zV_ifeq_b (tgt := 32) hX dX5_setConstant_27 (by decide) (fun b => by exfalso; omega) (fun b27 => ?_)
      refine zV_iconst hX dX5_setConstant_30 ?_
      exact zV_iret hX hM (by omega) (by omega) rfl dX5_setConstant_31 (by first | exact ⟨rfl, Or.inl ⟨by first | omega | assumption | exact ⟨by omega, by assumption⟩, by first | rfl | (congr 2; omega), by first | rfl | (simp only [mCod_cod])⟩⟩ | exact ⟨rfl, Or.inr (Or.inl ⟨by first | omega | assumption | exact ⟨by omega, by assumption⟩, by first | rfl | (congr 2; omega), by first | rfl | (simp only [mCod_cod])⟩)⟩ | exact ⟨rfl, Or.inr (Or.inr (⟨by first | omega | assumption | exact ⟨by omega, by assumption⟩, by first | rfl | (congr 2; omega), by first | rfl | (simp only [mCod_cod])⟩))⟩)
    · refine zV_iconst hX dX5_setConstant_19 ?_
      refine zV_goto (tgt := 24) hX dX5_setConstant_20 (by decide) ?_
      refine zV_cVS (n := 1) hX rfl hN 20 rfl rfl ⟨by decide, by decide⟩ (c_X5_fails (by decide)) zw_co_yX5_fails zw_mX5_119 zw_in_RX5 zw_im_yX5_fails zw_se_yX5_fails ⟨by decide, by decide, by decide +kernel⟩ rfl (by omega) (by decide) (by omega) (by omega) rfl (Nat.le_of_ble_eq_true rfl) dX5_setConstant_24 ?_ 
      refine zV_ifeq_b (tgt := 32) hX dX5_setConstant_27 (by decide) (fun b27 => ?_) (fun b => by exfalso; omega)
      rw [mCod_cod]
      refine zV_aloadn hX dX5_setConstant_32 rfl ?_
      refine GF_X5_33 hX  dX5_setConstant_33 ?_
      refine zV_iloadn hX dX5_setConstant_36 rfl ?_
      refine AL_29 hX  ⟨by omega, by omega⟩ dX5_setConstant_37 (fun r37 => ?_)
      try simp only [mCod_k, mCod_j, zup_d, Nat.reduceEqDiff, Int.reduceEq, reduceCtorEq, not_false_eq_true, false_and, true_and, and_true, and_false, and_self, if_false, if_true, Int.reduceNeg] at r37 ⊢
      refine zV_istoren3 hX dX5_setConstant_38 ?_
      refine zV_aloadn hX dX5_setConstant_39 rfl ?_
      refine GF_X5_33 hX  dX5_setConstant_40 ?_
      refine zV_iloadn hX dX5_setConstant_43 rfl ?_
      refine zV_iloadn hX dX5_setConstant_44 rfl ?_
      refine AS_29 hX  ⟨by omega, by omega⟩ (by omega) dX5_setConstant_45 ?_
      refine zV_iloadn hX dX5_setConstant_46 rfl ?_
      exact zV_iret hX hM (by omega) (by omega) rfl dX5_setConstant_47 (by first | exact ⟨rfl, Or.inl ⟨by first | omega | assumption | exact ⟨by omega, by assumption⟩, by first | rfl | (congr 2; omega), by first | rfl | (simp only [mCod_cod])⟩⟩ | exact ⟨rfl, Or.inr (Or.inl ⟨by first | omega | assumption | exact ⟨by omega, by assumption⟩, by first | rfl | (congr 2; omega), by first | rfl | (simp only [mCod_cod])⟩)⟩ | exact ⟨rfl, Or.inr (Or.inr (⟨by first | omega | assumption | exact ⟨by omega, by assumption⟩, by first | rfl | (congr 2; omega), by first | rfl | (simp only [mCod_cod])⟩))⟩)
set_option maxRecDepth 100000 in
set_option maxHeartbeats 4000000 in
theorem c_X5_schedule {ad : Nat → Int → Nat} {x y : zSt} {c w : Int} (hc : zR c) (hw : zR w) (hI : mI y) : zC yX5_schedule cX5_schedule 4 (some .int) 3 0 0 [.ref (ad 20 0), zI c, zI w] ad x y (fun vv x1 y1 => x1 = x ∧ (((¬ (0 ≤ c ∧ c ≤ y 20 0 5 - 1)) ∧ vv = some (zI (0)) ∧ y1 = mCod y 1) ∨ (((0 ≤ c ∧ c ≤ y 20 0 5 - 1) ∧ ¬ (0 ≤ w ∧ w ≤ 50)) ∧ vv = some (zI (0)) ∧ y1 = mCod y 2) ∨ (((0 ≤ c ∧ c ≤ y 20 0 5 - 1) ∧ (0 ≤ w ∧ w ≤ 50)) ∧ vv = some (zI (y 33 0 c)) ∧ y1 = zup (mCod y 0) 33 0 c w))) (zF) := by
  refine zC_ofV (by decide) (by intro v hv; simp only [List.mem_cons, List.not_mem_nil, or_false] at hv; rcases hv with rfl | rfl | rfl <;> rfl) (Nat.le_of_ble_eq_true rfl) (fun Γ hX hN hM hT => ?_)
  show zV Γ ad 0 0 x y 0 [some (.ref (ad 20 0)), some (zI c), some (zI w), none] []
  have n5 := hI.1.1
  refine zV_aloadn hX dX5_schedule_0 rfl ?_
  refine zV_iloadn hX dX5_schedule_1 rfl ?_
  refine zV_cVS (n := 1) hX rfl hN 20 rfl rfl ⟨by decide, by decide⟩ (c_X5_isNoCell (by omega) hI) zw_co_yX5_isNoCell zw_mX5_140 zw_in_RX5 zw_im_yX5_isNoCell zw_se_yX5_isNoCell ⟨by decide, by decide, by decide +kernel⟩ rfl (by omega) (by decide) (by omega) (by omega) rfl (Nat.le_of_ble_eq_true rfl) dX5_schedule_2 ?_ 
  refine zV_ifne_b (tgt := 30) hX dX5_schedule_5 (by decide) (fun b5 => ?_) (fun b5 => ?_)
  · rw [if_neg (by omega)]
    refine zV_iconst hX dX5_schedule_30 ?_
    exact zV_iret hX hM (by omega) (by omega) rfl dX5_schedule_31 (by first | exact ⟨rfl, Or.inl ⟨by first | omega | assumption | exact ⟨by omega, by assumption⟩, by first | rfl | (congr 2; omega), by first | rfl | (simp only [mCod_cod])⟩⟩ | exact ⟨rfl, Or.inr (Or.inl ⟨by first | omega | assumption | exact ⟨by omega, by assumption⟩, by first | rfl | (congr 2; omega), by first | rfl | (simp only [mCod_cod])⟩)⟩ | exact ⟨rfl, Or.inr (Or.inr (⟨by first | omega | assumption | exact ⟨by omega, by assumption⟩, by first | rfl | (congr 2; omega), by first | rfl | (simp only [mCod_cod])⟩))⟩)
  · rw [if_pos (by omega)]
    refine zV_aloadn hX dX5_schedule_8 rfl ?_
    refine zV_iloadn hX dX5_schedule_9 rfl ?_
    refine zV_iconst hX dX5_schedule_10 ?_
    refine zV_bipush hX dX5_schedule_11 (by decide) ?_
    refine zV_cSS (n := 3) hX rfl hN (c_X5_in (by omega) (by omega) (by omega) ) zw_co_yX5_in zw_mX5_112 zw_in_RX5 zw_st_yX5_in ⟨by decide, by decide, by decide +kernel⟩ rfl (by omega) (by decide) (by omega) (by omega) rfl (Nat.le_of_ble_eq_true rfl) dX5_schedule_13 ?_ 
    refine zV_ifeq_b (tgt := 23) hX dX5_schedule_16 (by decide) (fun b16 => ?_) (fun b16 => ?_)
    · refine zV_iconst hX dX5_schedule_23 ?_
      refine zV_cVS (n := 1) hX rfl hN 20 rfl rfl ⟨by decide, by decide⟩ (c_X5_fails (by decide)) zw_co_yX5_fails zw_mX5_119 zw_in_RX5 zw_im_yX5_fails zw_se_yX5_fails ⟨by decide, by decide, by decide +kernel⟩ rfl (by omega) (by decide) (by omega) (by omega) rfl (Nat.le_of_ble_eq_true rfl) dX5_schedule_24 ?_ 
      refine zV_ifeq_b (tgt := 32) hX dX5_schedule_27 (by decide) (fun b => by exfalso; omega) (fun b27 => ?_)
      refine zV_iconst hX dX5_schedule_30 ?_
      exact zV_iret hX hM (by omega) (by omega) rfl dX5_schedule_31 (by first | exact ⟨rfl, Or.inl ⟨by first | omega | assumption | exact ⟨by omega, by assumption⟩, by first | rfl | (congr 2; omega), by first | rfl | (simp only [mCod_cod])⟩⟩ | exact ⟨rfl, Or.inr (Or.inl ⟨by first | omega | assumption | exact ⟨by omega, by assumption⟩, by first | rfl | (congr 2; omega), by first | rfl | (simp only [mCod_cod])⟩)⟩ | exact ⟨rfl, Or.inr (Or.inr (⟨by first | omega | assumption | exact ⟨by omega, by assumption⟩, by first | rfl | (congr 2; omega), by first | rfl | (simp only [mCod_cod])⟩))⟩)
    · refine zV_iconst hX dX5_schedule_19 ?_
      refine zV_goto (tgt := 24) hX dX5_schedule_20 (by decide) ?_
      refine zV_cVS (n := 1) hX rfl hN 20 rfl rfl ⟨by decide, by decide⟩ (c_X5_fails (by decide)) zw_co_yX5_fails zw_mX5_119 zw_in_RX5 zw_im_yX5_fails zw_se_yX5_fails ⟨by decide, by decide, by decide +kernel⟩ rfl (by omega) (by decide) (by omega) (by omega) rfl (Nat.le_of_ble_eq_true rfl) dX5_schedule_24 ?_ 
      refine zV_ifeq_b (tgt := 32) hX dX5_schedule_27 (by decide) (fun b27 => ?_) (fun b => by exfalso; omega)
      rw [mCod_cod]
      refine zV_aloadn hX dX5_schedule_32 rfl ?_
      refine GF_X5_45 hX  dX5_schedule_33 ?_
      refine zV_iloadn hX dX5_schedule_36 rfl ?_
      refine AL_33 hX  ⟨by omega, by omega⟩ dX5_schedule_37 (fun r37 => ?_)
      try simp only [mCod_k, mCod_j, zup_d, Nat.reduceEqDiff, Int.reduceEq, reduceCtorEq, not_false_eq_true, false_and, true_and, and_true, and_false, and_self, if_false, if_true, Int.reduceNeg] at r37 ⊢
      refine zV_istoren3 hX dX5_schedule_38 ?_
      refine zV_aloadn hX dX5_schedule_39 rfl ?_
      refine GF_X5_45 hX  dX5_schedule_40 ?_
      refine zV_iloadn hX dX5_schedule_43 rfl ?_
      refine zV_iloadn hX dX5_schedule_44 rfl ?_
      refine AS_33 hX  ⟨by omega, by omega⟩ (by omega) dX5_schedule_45 ?_
      refine zV_iloadn hX dX5_schedule_46 rfl ?_
      exact zV_iret hX hM (by omega) (by omega) rfl dX5_schedule_47 (by first | exact ⟨rfl, Or.inl ⟨by first | omega | assumption | exact ⟨by omega, by assumption⟩, by first | rfl | (congr 2; omega), by first | rfl | (simp only [mCod_cod])⟩⟩ | exact ⟨rfl, Or.inr (Or.inl ⟨by first | omega | assumption | exact ⟨by omega, by assumption⟩, by first | rfl | (congr 2; omega), by first | rfl | (simp only [mCod_cod])⟩)⟩ | exact ⟨rfl, Or.inr (Or.inr (⟨by first | omega | assumption | exact ⟨by omega, by assumption⟩, by first | rfl | (congr 2; omega), by first | rfl | (simp only [mCod_cod])⟩))⟩)
set_option maxRecDepth 100000 in
set_option maxHeartbeats 4000000 in
theorem c_X5_cellCount {ad : Nat → Int → Nat} {x y : zSt}  : zC yX5_cellCount cX5_cellCount 1 (some .int) 1 0 0 [.ref (ad 20 0)] ad x y (zpS (y 20 0 5) x (mCod y 0)) (zF) := by
  refine zC_ofV (by decide) (by intro v hv; simp only [List.mem_cons, List.not_mem_nil, or_false] at hv; subst hv; rfl) (Nat.le_of_ble_eq_true rfl) (fun Γ hX hN hM hT => ?_)
  show zV Γ ad 0 0 x y 0 [some (.ref (ad 20 0))] []
  refine zV_aloadn hX dX5_cellCount_0 rfl ?_
  refine zV_aloadn hX dX5_cellCount_1 rfl ?_
  refine GF_X5_116 hX  dX5_cellCount_2 (fun r2 => ?_)
  refine zV_cVS (n := 1) hX rfl hN 20 rfl rfl ⟨by decide, by decide⟩ (c_X5_tells (by omega) ) zw_co_yX5_tells zw_mX5_143 zw_in_RX5 zw_im_yX5_tells zw_se_yX5_tells ⟨by decide, by decide, by decide +kernel⟩ rfl (by omega) (by decide) (by omega) (by omega) rfl (Nat.le_of_ble_eq_true rfl) dX5_cellCount_5 ?_ 
  exact zV_iret hX hM (by omega) (by omega) rfl dX5_cellCount_8 (zpS_j rfl rfl rfl)
set_option maxRecDepth 100000 in
set_option maxHeartbeats 4000000 in
theorem c_X5_tick {ad : Nat → Int → Nat} {x y : zSt}  : zC yX5_tick cX5_tick 1 (some .int) 1 0 0 [.ref (ad 20 0)] ad x y (zpS (y 20 0 37) x (mCod y 0)) (zF) := by
  refine zC_ofV (by decide) (by intro v hv; simp only [List.mem_cons, List.not_mem_nil, or_false] at hv; subst hv; rfl) (Nat.le_of_ble_eq_true rfl) (fun Γ hX hN hM hT => ?_)
  show zV Γ ad 0 0 x y 0 [some (.ref (ad 20 0))] []
  refine zV_aloadn hX dX5_tick_0 rfl ?_
  refine zV_aloadn hX dX5_tick_1 rfl ?_
  refine GF_X5_177 hX  dX5_tick_2 (fun r2 => ?_)
  refine zV_cVS (n := 1) hX rfl hN 20 rfl rfl ⟨by decide, by decide⟩ (c_X5_tells (by omega) ) zw_co_yX5_tells zw_mX5_143 zw_in_RX5 zw_im_yX5_tells zw_se_yX5_tells ⟨by decide, by decide, by decide +kernel⟩ rfl (by omega) (by decide) (by omega) (by omega) rfl (Nat.le_of_ble_eq_true rfl) dX5_tick_5 ?_ 
  exact zV_iret hX hM (by omega) (by omega) rfl dX5_tick_8 (zpS_j rfl rfl rfl)
set_option maxRecDepth 100000 in
set_option maxHeartbeats 4000000 in
theorem c_X5_value {ad : Nat → Int → Nat} {x y : zSt} {v : Int} (hv : zR v) : zC yX5_value cX5_value 2 (some .int) 3 0 0 [.ref (ad 20 0), zI v] ad x y (fun vv x1 y1 => x1 = x ∧ (((¬ (0 ≤ v ∧ v ≤ 11)) ∧ vv = some (zI (0)) ∧ y1 = mCod y 1) ∨ (((0 ≤ v ∧ v ≤ 11) ∧ y 23 0 v < 0) ∧ vv = some (zI (0)) ∧ y1 = mCod y 2) ∨ (((0 ≤ v ∧ v ≤ 11) ∧ ¬ y 23 0 v < 0) ∧ vv = some (zI (y 23 0 v)) ∧ y1 = mCod y 0))) (zF) := by
  refine zC_ofV (by decide) (by intro v hv; simp only [List.mem_cons, List.not_mem_nil, or_false] at hv; rcases hv with rfl | rfl <;> rfl) (Nat.le_of_ble_eq_true rfl) (fun Γ hX hN hM hT => ?_)
  show zV Γ ad 0 0 x y 0 [some (.ref (ad 20 0)), some (zI v)] []
  refine zV_aloadn hX dX5_value_0 rfl ?_
  refine zV_iloadn hX dX5_value_1 rfl ?_
  refine zV_cSS (n := 1) hX rfl hN (c_X5_isNoVariable (by omega) ) zw_co_yX5_isNoVariable zw_mX5_123 zw_in_RX5 zw_st_yX5_isNoVariable ⟨by decide, by decide, by decide +kernel⟩ rfl (by omega) (by decide) (by omega) (by omega) rfl (Nat.le_of_ble_eq_true rfl) dX5_value_2 ?_ 
  refine zV_ifeq_b (tgt := 12) hX dX5_value_5 (by decide) (fun b5 => ?_) (fun b5 => ?_)
  · refine zV_aloadn hX dX5_value_12 rfl ?_
    refine GF_X5_17 hX  dX5_value_13 ?_
    refine zV_iloadn hX dX5_value_16 rfl ?_
    refine AL_23 hX  ⟨by omega, by omega⟩ dX5_value_17 (fun r17 => ?_)
    refine zV_if_ge (tgt := 25) hX dX5_value_18 (by decide) (by omega) (fun b18 => ?_) (fun b18 => ?_)
    · refine zV_iconst hX dX5_value_25 ?_
      refine zV_cVS (n := 1) hX rfl hN 20 rfl rfl ⟨by decide, by decide⟩ (c_X5_fails (by decide)) zw_co_yX5_fails zw_mX5_119 zw_in_RX5 zw_im_yX5_fails zw_se_yX5_fails ⟨by decide, by decide, by decide +kernel⟩ rfl (by omega) (by decide) (by omega) (by omega) rfl (Nat.le_of_ble_eq_true rfl) dX5_value_26 ?_ 
      refine zV_ifeq_b (tgt := 36) hX dX5_value_29 (by decide) (fun b29 => ?_) (fun b => by exfalso; omega)
      refine zV_aloadn hX dX5_value_36 rfl ?_
      refine GF_X5_17 hX  dX5_value_37 ?_
      refine zV_iloadn hX dX5_value_40 rfl ?_
      refine AL_23 hX  ⟨by omega, by omega⟩ dX5_value_41 (fun r41 => ?_)
      try simp only [mCod_k, mCod_j, zup_d, Nat.reduceEqDiff, Int.reduceEq, reduceCtorEq, not_false_eq_true, false_and, true_and, and_true, and_false, and_self, if_false, if_true, Int.reduceNeg] at r41 ⊢
      exact zV_iret hX hM (by omega) (by omega) rfl dX5_value_42 (by first | exact ⟨rfl, Or.inl ⟨by first | omega | assumption | exact ⟨by omega, by assumption⟩, by first | rfl | (congr 2; omega), by first | rfl | (simp only [mCod_cod])⟩⟩ | exact ⟨rfl, Or.inr (Or.inl ⟨by first | omega | assumption | exact ⟨by omega, by assumption⟩, by first | rfl | (congr 2; omega), by first | rfl | (simp only [mCod_cod])⟩)⟩ | exact ⟨rfl, Or.inr (Or.inr (⟨by first | omega | assumption | exact ⟨by omega, by assumption⟩, by first | rfl | (congr 2; omega), by first | rfl | (simp only [mCod_cod])⟩))⟩)
    · refine zV_iconst hX dX5_value_21 ?_
      refine zV_goto (tgt := 26) hX dX5_value_22 (by decide) ?_
      refine zV_cVS (n := 1) hX rfl hN 20 rfl rfl ⟨by decide, by decide⟩ (c_X5_fails (by decide)) zw_co_yX5_fails zw_mX5_119 zw_in_RX5 zw_im_yX5_fails zw_se_yX5_fails ⟨by decide, by decide, by decide +kernel⟩ rfl (by omega) (by decide) (by omega) (by omega) rfl (Nat.le_of_ble_eq_true rfl) dX5_value_26 ?_ 
      refine zV_ifeq_b (tgt := 36) hX dX5_value_29 (by decide) (fun b => by exfalso; omega) (fun b29 => ?_)
      refine zV_iconst hX dX5_value_32 ?_
      refine zV_goto (tgt := 42) hX dX5_value_33 (by decide) ?_
      exact zV_iret hX hM (by omega) (by omega) rfl dX5_value_42 (by first | exact ⟨rfl, Or.inl ⟨by first | omega | assumption | exact ⟨by omega, by assumption⟩, by first | rfl | (congr 2; omega), by first | rfl | (simp only [mCod_cod])⟩⟩ | exact ⟨rfl, Or.inr (Or.inl ⟨by first | omega | assumption | exact ⟨by omega, by assumption⟩, by first | rfl | (congr 2; omega), by first | rfl | (simp only [mCod_cod])⟩)⟩ | exact ⟨rfl, Or.inr (Or.inr (⟨by first | omega | assumption | exact ⟨by omega, by assumption⟩, by first | rfl | (congr 2; omega), by first | rfl | (simp only [mCod_cod])⟩))⟩)
  · refine zV_iconst hX dX5_value_8 ?_
    refine zV_goto (tgt := 26) hX dX5_value_9 (by decide) ?_
    refine zV_cVS (n := 1) hX rfl hN 20 rfl rfl ⟨by decide, by decide⟩ (c_X5_fails (by decide)) zw_co_yX5_fails zw_mX5_119 zw_in_RX5 zw_im_yX5_fails zw_se_yX5_fails ⟨by decide, by decide, by decide +kernel⟩ rfl (by omega) (by decide) (by omega) (by omega) rfl (Nat.le_of_ble_eq_true rfl) dX5_value_26 ?_ 
    refine zV_ifeq_b (tgt := 36) hX dX5_value_29 (by decide) (fun b => by exfalso; omega) (fun b29 => ?_)
    refine zV_iconst hX dX5_value_32 ?_
    refine zV_goto (tgt := 42) hX dX5_value_33 (by decide) ?_
    exact zV_iret hX hM (by omega) (by omega) rfl dX5_value_42 (by first | exact ⟨rfl, Or.inl ⟨by first | omega | assumption | exact ⟨by omega, by assumption⟩, by first | rfl | (congr 2; omega), by first | rfl | (simp only [mCod_cod])⟩⟩ | exact ⟨rfl, Or.inr (Or.inl ⟨by first | omega | assumption | exact ⟨by omega, by assumption⟩, by first | rfl | (congr 2; omega), by first | rfl | (simp only [mCod_cod])⟩)⟩ | exact ⟨rfl, Or.inr (Or.inr (⟨by first | omega | assumption | exact ⟨by omega, by assumption⟩, by first | rfl | (congr 2; omega), by first | rfl | (simp only [mCod_cod])⟩))⟩)
set_option maxRecDepth 100000 in
set_option maxHeartbeats 4000000 in
theorem c_X5_writer {ad : Nat → Int → Nat} {x y : zSt} {v : Int} (hv : zR v) : zC yX5_writer cX5_writer 2 (some .int) 3 0 0 [.ref (ad 20 0), zI v] ad x y (fun vv x1 y1 => x1 = x ∧ (((¬ (0 ≤ v ∧ v ≤ 11)) ∧ vv = some (zI (0)) ∧ y1 = mCod y 1) ∨ (((0 ≤ v ∧ v ≤ 11) ∧ y 24 0 v < 0) ∧ vv = some (zI (0)) ∧ y1 = mCod y 2) ∨ (((0 ≤ v ∧ v ≤ 11) ∧ ¬ y 24 0 v < 0) ∧ vv = some (zI (y 24 0 v)) ∧ y1 = mCod y 0))) (zF) := by
  refine zC_ofV (by decide) (by intro v hv; simp only [List.mem_cons, List.not_mem_nil, or_false] at hv; rcases hv with rfl | rfl <;> rfl) (Nat.le_of_ble_eq_true rfl) (fun Γ hX hN hM hT => ?_)
  show zV Γ ad 0 0 x y 0 [some (.ref (ad 20 0)), some (zI v)] []
  refine zV_aloadn hX dX5_writer_0 rfl ?_
  refine zV_iloadn hX dX5_writer_1 rfl ?_
  refine zV_cSS (n := 1) hX rfl hN (c_X5_isNoVariable (by omega) ) zw_co_yX5_isNoVariable zw_mX5_123 zw_in_RX5 zw_st_yX5_isNoVariable ⟨by decide, by decide, by decide +kernel⟩ rfl (by omega) (by decide) (by omega) (by omega) rfl (Nat.le_of_ble_eq_true rfl) dX5_writer_2 ?_ 
  refine zV_ifeq_b (tgt := 12) hX dX5_writer_5 (by decide) (fun b5 => ?_) (fun b5 => ?_)
  · refine zV_aloadn hX dX5_writer_12 rfl ?_
    refine GF_X5_20 hX  dX5_writer_13 ?_
    refine zV_iloadn hX dX5_writer_16 rfl ?_
    refine AL_24 hX  ⟨by omega, by omega⟩ dX5_writer_17 (fun r17 => ?_)
    refine zV_if_ge (tgt := 25) hX dX5_writer_18 (by decide) (by omega) (fun b18 => ?_) (fun b18 => ?_)
    · refine zV_iconst hX dX5_writer_25 ?_
      refine zV_cVS (n := 1) hX rfl hN 20 rfl rfl ⟨by decide, by decide⟩ (c_X5_fails (by decide)) zw_co_yX5_fails zw_mX5_119 zw_in_RX5 zw_im_yX5_fails zw_se_yX5_fails ⟨by decide, by decide, by decide +kernel⟩ rfl (by omega) (by decide) (by omega) (by omega) rfl (Nat.le_of_ble_eq_true rfl) dX5_writer_26 ?_ 
      refine zV_ifeq_b (tgt := 36) hX dX5_writer_29 (by decide) (fun b29 => ?_) (fun b => by exfalso; omega)
      refine zV_aloadn hX dX5_writer_36 rfl ?_
      refine GF_X5_20 hX  dX5_writer_37 ?_
      refine zV_iloadn hX dX5_writer_40 rfl ?_
      refine AL_24 hX  ⟨by omega, by omega⟩ dX5_writer_41 (fun r41 => ?_)
      try simp only [mCod_k, mCod_j, zup_d, Nat.reduceEqDiff, Int.reduceEq, reduceCtorEq, not_false_eq_true, false_and, true_and, and_true, and_false, and_self, if_false, if_true, Int.reduceNeg] at r41 ⊢
      exact zV_iret hX hM (by omega) (by omega) rfl dX5_writer_42 (by first | exact ⟨rfl, Or.inl ⟨by first | omega | assumption | exact ⟨by omega, by assumption⟩, by first | rfl | (congr 2; omega), by first | rfl | (simp only [mCod_cod])⟩⟩ | exact ⟨rfl, Or.inr (Or.inl ⟨by first | omega | assumption | exact ⟨by omega, by assumption⟩, by first | rfl | (congr 2; omega), by first | rfl | (simp only [mCod_cod])⟩)⟩ | exact ⟨rfl, Or.inr (Or.inr (⟨by first | omega | assumption | exact ⟨by omega, by assumption⟩, by first | rfl | (congr 2; omega), by first | rfl | (simp only [mCod_cod])⟩))⟩)
    · refine zV_iconst hX dX5_writer_21 ?_
      refine zV_goto (tgt := 26) hX dX5_writer_22 (by decide) ?_
      refine zV_cVS (n := 1) hX rfl hN 20 rfl rfl ⟨by decide, by decide⟩ (c_X5_fails (by decide)) zw_co_yX5_fails zw_mX5_119 zw_in_RX5 zw_im_yX5_fails zw_se_yX5_fails ⟨by decide, by decide, by decide +kernel⟩ rfl (by omega) (by decide) (by omega) (by omega) rfl (Nat.le_of_ble_eq_true rfl) dX5_writer_26 ?_ 
      refine zV_ifeq_b (tgt := 36) hX dX5_writer_29 (by decide) (fun b => by exfalso; omega) (fun b29 => ?_)
      refine zV_iconst hX dX5_writer_32 ?_
      refine zV_goto (tgt := 42) hX dX5_writer_33 (by decide) ?_
      exact zV_iret hX hM (by omega) (by omega) rfl dX5_writer_42 (by first | exact ⟨rfl, Or.inl ⟨by first | omega | assumption | exact ⟨by omega, by assumption⟩, by first | rfl | (congr 2; omega), by first | rfl | (simp only [mCod_cod])⟩⟩ | exact ⟨rfl, Or.inr (Or.inl ⟨by first | omega | assumption | exact ⟨by omega, by assumption⟩, by first | rfl | (congr 2; omega), by first | rfl | (simp only [mCod_cod])⟩)⟩ | exact ⟨rfl, Or.inr (Or.inr (⟨by first | omega | assumption | exact ⟨by omega, by assumption⟩, by first | rfl | (congr 2; omega), by first | rfl | (simp only [mCod_cod])⟩))⟩)
  · refine zV_iconst hX dX5_writer_8 ?_
    refine zV_goto (tgt := 26) hX dX5_writer_9 (by decide) ?_
    refine zV_cVS (n := 1) hX rfl hN 20 rfl rfl ⟨by decide, by decide⟩ (c_X5_fails (by decide)) zw_co_yX5_fails zw_mX5_119 zw_in_RX5 zw_im_yX5_fails zw_se_yX5_fails ⟨by decide, by decide, by decide +kernel⟩ rfl (by omega) (by decide) (by omega) (by omega) rfl (Nat.le_of_ble_eq_true rfl) dX5_writer_26 ?_ 
    refine zV_ifeq_b (tgt := 36) hX dX5_writer_29 (by decide) (fun b => by exfalso; omega) (fun b29 => ?_)
    refine zV_iconst hX dX5_writer_32 ?_
    refine zV_goto (tgt := 42) hX dX5_writer_33 (by decide) ?_
    exact zV_iret hX hM (by omega) (by omega) rfl dX5_writer_42 (by first | exact ⟨rfl, Or.inl ⟨by first | omega | assumption | exact ⟨by omega, by assumption⟩, by first | rfl | (congr 2; omega), by first | rfl | (simp only [mCod_cod])⟩⟩ | exact ⟨rfl, Or.inr (Or.inl ⟨by first | omega | assumption | exact ⟨by omega, by assumption⟩, by first | rfl | (congr 2; omega), by first | rfl | (simp only [mCod_cod])⟩)⟩ | exact ⟨rfl, Or.inr (Or.inr (⟨by first | omega | assumption | exact ⟨by omega, by assumption⟩, by first | rfl | (congr 2; omega), by first | rfl | (simp only [mCod_cod])⟩))⟩)
set_option maxRecDepth 100000 in
set_option maxHeartbeats 4000000 in
theorem c_X5_runs {ad : Nat → Int → Nat} {x y : zSt} {c : Int} (hc : zR c) (hI : mI y) : zC yX5_runs cX5_runs 2 (some .int) 3 0 0 [.ref (ad 20 0), zI c] ad x y (fun vv x1 y1 => x1 = x ∧ (((¬ (0 ≤ c ∧ c ≤ y 20 0 5 - 1)) ∧ vv = some (zI (0)) ∧ y1 = mCod y 1) ∨ (((0 ≤ c ∧ c ≤ y 20 0 5 - 1)) ∧ vv = some (zI (y 38 0 c)) ∧ y1 = mCod y 0))) (zF) := by
  refine zC_ofV (by decide) (by intro v hv; simp only [List.mem_cons, List.not_mem_nil, or_false] at hv; rcases hv with rfl | rfl <;> rfl) (Nat.le_of_ble_eq_true rfl) (fun Γ hX hN hM hT => ?_)
  show zV Γ ad 0 0 x y 0 [some (.ref (ad 20 0)), some (zI c)] []
  have n5 := hI.1.1
  refine zV_aloadn hX dX5_runs_0 rfl ?_
  refine zV_iloadn hX dX5_runs_1 rfl ?_
  refine zV_cVS (n := 1) hX rfl hN 20 rfl rfl ⟨by decide, by decide⟩ (c_X5_isNoCell (by omega) hI) zw_co_yX5_isNoCell zw_mX5_140 zw_in_RX5 zw_im_yX5_isNoCell zw_se_yX5_isNoCell ⟨by decide, by decide, by decide +kernel⟩ rfl (by omega) (by decide) (by omega) (by omega) rfl (Nat.le_of_ble_eq_true rfl) dX5_runs_2 ?_ 
  refine zV_ifeq_b (tgt := 12) hX dX5_runs_5 (by decide) (fun b5 => ?_) (fun b5 => ?_)
  · rw [if_pos (by omega)]
    refine zV_aloadn hX dX5_runs_12 rfl ?_
    refine GF_X5_60 hX  dX5_runs_13 ?_
    refine zV_iloadn hX dX5_runs_16 rfl ?_
    refine AL_38 hX  ⟨by omega, by omega⟩ dX5_runs_17 (fun r17 => ?_)
    try simp only [mCod_k, mCod_j, zup_d, Nat.reduceEqDiff, Int.reduceEq, reduceCtorEq, not_false_eq_true, false_and, true_and, and_true, and_false, and_self, if_false, if_true, Int.reduceNeg] at r17 ⊢
    exact zV_iret hX hM (by omega) (by omega) rfl dX5_runs_18 (by first | exact ⟨rfl, Or.inl ⟨by first | omega | assumption | exact ⟨by omega, by assumption⟩, by first | rfl | (congr 2; omega), by first | rfl | (simp only [mCod_cod])⟩⟩ | exact ⟨rfl, Or.inr (⟨by first | omega | assumption | exact ⟨by omega, by assumption⟩, by first | rfl | (congr 2; omega), by first | rfl | (simp only [mCod_cod])⟩)⟩)
  · rw [if_neg (by omega)]
    refine zV_iconst hX dX5_runs_8 ?_
    refine zV_goto (tgt := 18) hX dX5_runs_9 (by decide) ?_
    exact zV_iret hX hM (by omega) (by omega) rfl dX5_runs_18 (by first | exact ⟨rfl, Or.inl ⟨by first | omega | assumption | exact ⟨by omega, by assumption⟩, by first | rfl | (congr 2; omega), by first | rfl | (simp only [mCod_cod])⟩⟩ | exact ⟨rfl, Or.inr (⟨by first | omega | assumption | exact ⟨by omega, by assumption⟩, by first | rfl | (congr 2; omega), by first | rfl | (simp only [mCod_cod])⟩)⟩)
set_option maxRecDepth 100000 in
set_option maxHeartbeats 4000000 in
theorem c_X5_found {ad : Nat → Int → Nat} {x y : zSt} {c : Int} (hc : zR c) (hI : mI y) : zC yX5_found cX5_found 2 (some .int) 3 0 0 [.ref (ad 20 0), zI c] ad x y (fun vv x1 y1 => x1 = x ∧ (((¬ (0 ≤ c ∧ c ≤ y 20 0 5 - 1)) ∧ vv = some (zI (0)) ∧ y1 = mCod y 1) ∨ (((0 ≤ c ∧ c ≤ y 20 0 5 - 1)) ∧ vv = some (zI (y 39 0 c)) ∧ y1 = mCod y 0))) (zF) := by
  refine zC_ofV (by decide) (by intro v hv; simp only [List.mem_cons, List.not_mem_nil, or_false] at hv; rcases hv with rfl | rfl <;> rfl) (Nat.le_of_ble_eq_true rfl) (fun Γ hX hN hM hT => ?_)
  show zV Γ ad 0 0 x y 0 [some (.ref (ad 20 0)), some (zI c)] []
  have n5 := hI.1.1
  refine zV_aloadn hX dX5_found_0 rfl ?_
  refine zV_iloadn hX dX5_found_1 rfl ?_
  refine zV_cVS (n := 1) hX rfl hN 20 rfl rfl ⟨by decide, by decide⟩ (c_X5_isNoCell (by omega) hI) zw_co_yX5_isNoCell zw_mX5_140 zw_in_RX5 zw_im_yX5_isNoCell zw_se_yX5_isNoCell ⟨by decide, by decide, by decide +kernel⟩ rfl (by omega) (by decide) (by omega) (by omega) rfl (Nat.le_of_ble_eq_true rfl) dX5_found_2 ?_ 
  refine zV_ifeq_b (tgt := 12) hX dX5_found_5 (by decide) (fun b5 => ?_) (fun b5 => ?_)
  · rw [if_pos (by omega)]
    refine zV_aloadn hX dX5_found_12 rfl ?_
    refine GF_X5_63 hX  dX5_found_13 ?_
    refine zV_iloadn hX dX5_found_16 rfl ?_
    refine AL_39 hX  ⟨by omega, by omega⟩ dX5_found_17 (fun r17 => ?_)
    try simp only [mCod_k, mCod_j, zup_d, Nat.reduceEqDiff, Int.reduceEq, reduceCtorEq, not_false_eq_true, false_and, true_and, and_true, and_false, and_self, if_false, if_true, Int.reduceNeg] at r17 ⊢
    exact zV_iret hX hM (by omega) (by omega) rfl dX5_found_18 (by first | exact ⟨rfl, Or.inl ⟨by first | omega | assumption | exact ⟨by omega, by assumption⟩, by first | rfl | (congr 2; omega), by first | rfl | (simp only [mCod_cod])⟩⟩ | exact ⟨rfl, Or.inr (⟨by first | omega | assumption | exact ⟨by omega, by assumption⟩, by first | rfl | (congr 2; omega), by first | rfl | (simp only [mCod_cod])⟩)⟩)
  · rw [if_neg (by omega)]
    refine zV_iconst hX dX5_found_8 ?_
    refine zV_goto (tgt := 18) hX dX5_found_9 (by decide) ?_
    exact zV_iret hX hM (by omega) (by omega) rfl dX5_found_18 (by first | exact ⟨rfl, Or.inl ⟨by first | omega | assumption | exact ⟨by omega, by assumption⟩, by first | rfl | (congr 2; omega), by first | rfl | (simp only [mCod_cod])⟩⟩ | exact ⟨rfl, Or.inr (⟨by first | omega | assumption | exact ⟨by omega, by assumption⟩, by first | rfl | (congr 2; omega), by first | rfl | (simp only [mCod_cod])⟩)⟩)
set_option maxRecDepth 100000 in
set_option maxHeartbeats 4000000 in
theorem c_X5_isNoFailure {ad : Nat → Int → Nat} {x y : zSt} {c : Int} (hc : zR c) (hI : mI y) : zC yX5_isNoFailure cX5_isNoFailure 2 (some .boolean) 3 0 0 [.ref (ad 20 0), zI c] ad x y (zpS (zb (¬ ((0 ≤ c ∧ c ≤ y 20 0 5 - 1) ∧ y 34 0 c = 120))) x (mCod y (if (0 ≤ c ∧ c ≤ y 20 0 5 - 1) then (if y 34 0 c = 120 then 0 else 2) else 1))) (zF) := by
  refine zC_ofV (by decide) (by intro v hv; simp only [List.mem_cons, List.not_mem_nil, or_false] at hv; rcases hv with rfl | rfl <;> rfl) (Nat.le_of_ble_eq_true rfl) (fun Γ hX hN hM hT => ?_)
  show zV Γ ad 0 0 x y 0 [some (.ref (ad 20 0)), some (zI c)] []
  have n5 := hI.1.1
  refine zV_aloadn hX dX5_isNoFailure_0 rfl ?_
  refine zV_iloadn hX dX5_isNoFailure_1 rfl ?_
  refine zV_cVS (n := 1) hX rfl hN 20 rfl rfl ⟨by decide, by decide⟩ (c_X5_isNoCell (by omega) hI) zw_co_yX5_isNoCell zw_mX5_140 zw_in_RX5 zw_im_yX5_isNoCell zw_se_yX5_isNoCell ⟨by decide, by decide, by decide +kernel⟩ rfl (by omega) (by decide) (by omega) (by omega) rfl (Nat.le_of_ble_eq_true rfl) dX5_isNoFailure_2 ?_ 
  refine zV_ifne_b (tgt := 31) hX dX5_isNoFailure_5 (by decide) (fun b5 => ?_) (fun b5 => ?_)
  · rw [if_neg (by omega)]
    refine zV_iconst hX dX5_isNoFailure_31 ?_
    refine zV_goto (tgt := 36) hX dX5_isNoFailure_32 (by decide) ?_
    exact zV_iret hX hM (by omega) (by omega) (zn_bool (by omega)) dX5_isNoFailure_36 (zpS_j (by first | exact (zb_t (by omega)).symm | exact (zb_f (by omega)).symm) rfl (by first | (rw [if_neg (by omega)]) | (rw [if_pos (by omega), if_pos (by omega), mCod_cod]) | (rw [if_pos (by omega), if_neg (by omega), mCod_cod])))
  · rw [if_pos (by omega)]
    refine zV_aloadn hX dX5_isNoFailure_8 rfl ?_
    refine zV_aloadn hX dX5_isNoFailure_9 rfl ?_
    refine GF_X5_48 hX  dX5_isNoFailure_10 ?_
    refine zV_iloadn hX dX5_isNoFailure_13 rfl ?_
    refine AL_34 hX  ⟨by omega, by omega⟩ dX5_isNoFailure_14 (fun r14 => ?_)
    try simp only [mCod_k, mCod_j, zup_d, Nat.reduceEqDiff, Int.reduceEq, reduceCtorEq, not_false_eq_true, false_and, true_and, and_true, and_false, and_self, if_false, if_true, Int.reduceNeg] at r14 ⊢
    refine zV_bipush hX dX5_isNoFailure_15 (by decide) ?_
    refine zV_icmp_ne (tgt := 24) hX dX5_isNoFailure_17 (by decide) (by omega) (by omega) (fun b17 => ?_) (fun b17 => ?_)
    · refine zV_iconst hX dX5_isNoFailure_24 ?_
      refine zV_cVS (n := 1) hX rfl hN 20 rfl rfl ⟨by decide, by decide⟩ (c_X5_fails (by decide)) zw_co_yX5_fails zw_mX5_119 zw_in_RX5 zw_im_yX5_fails zw_se_yX5_fails ⟨by decide, by decide, by decide +kernel⟩ rfl (by omega) (by decide) (by omega) (by omega) rfl (Nat.le_of_ble_eq_true rfl) dX5_isNoFailure_25 ?_ 
      refine zV_ifeq_b (tgt := 35) hX dX5_isNoFailure_28 (by decide) (fun b => by exfalso; omega) (fun b28 => ?_)
      refine zV_iconst hX dX5_isNoFailure_31 ?_
      refine zV_goto (tgt := 36) hX dX5_isNoFailure_32 (by decide) ?_
      exact zV_iret hX hM (by omega) (by omega) (zn_bool (by omega)) dX5_isNoFailure_36 (zpS_j (by first | exact (zb_t (by omega)).symm | exact (zb_f (by omega)).symm) rfl (by first | (rw [if_neg (by omega)]) | (rw [if_pos (by omega), if_pos (by omega), mCod_cod]) | (rw [if_pos (by omega), if_neg (by omega), mCod_cod])))
    · refine zV_iconst hX dX5_isNoFailure_20 ?_
      refine zV_goto (tgt := 25) hX dX5_isNoFailure_21 (by decide) ?_
      refine zV_cVS (n := 1) hX rfl hN 20 rfl rfl ⟨by decide, by decide⟩ (c_X5_fails (by decide)) zw_co_yX5_fails zw_mX5_119 zw_in_RX5 zw_im_yX5_fails zw_se_yX5_fails ⟨by decide, by decide, by decide +kernel⟩ rfl (by omega) (by decide) (by omega) (by omega) rfl (Nat.le_of_ble_eq_true rfl) dX5_isNoFailure_25 ?_ 
      refine zV_ifeq_b (tgt := 35) hX dX5_isNoFailure_28 (by decide) (fun b28 => ?_) (fun b => by exfalso; omega)
      refine zV_iconst hX dX5_isNoFailure_35 ?_
      exact zV_iret hX hM (by omega) (by omega) (zn_bool (by omega)) dX5_isNoFailure_36 (zpS_j (by first | exact (zb_t (by omega)).symm | exact (zb_f (by omega)).symm) rfl (by first | (rw [if_neg (by omega)]) | (rw [if_pos (by omega), if_pos (by omega), mCod_cod]) | (rw [if_pos (by omega), if_neg (by omega), mCod_cod])))
