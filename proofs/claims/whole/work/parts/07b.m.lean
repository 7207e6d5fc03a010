set_option maxRecDepth 100000 in
set_option maxHeartbeats 4000000 in
theorem c_X5_has {ad : Nat → Int → Nat} {x y : zSt} {c r : Int} (hr : zR r) (w : (0 ≤ c ∧ c < 11) ∧ (0 ≤ y 27 0 c ∧ y 27 0 c ≤ 11) ∧ (-1 ≤ y 28 0 c ∧ y 28 0 c ≤ 11) ∧ (0 ≤ y 30 0 c ∧ y 30 0 c ≤ 11)) (hs : zR (mSec y c)) : zC yX5_has cX5_has 3 none 1 0 0 [.ref (ad 20 0), zI c, zI r] ad x y (zpV x (mHas y c r)) (zF) := by
  refine zC_ofV (by decide) (by intro v hv; simp only [List.mem_cons, List.not_mem_nil, or_false] at hv; rcases hv with rfl | rfl | rfl <;> rfl) (Nat.le_of_ble_eq_true rfl) (fun Γ hX hN hM hT => ?_)
  show zV Γ ad 0 0 x y 0 [some (.ref (ad 20 0)), some (zI c), some (zI r)] []
  refine zV_aloadn hX dX5_has_0 rfl ?_
  refine GF_X5_48 hX  dX5_has_1 ?_
  refine zV_iloadn hX dX5_has_4 rfl ?_
  refine zV_bipush hX dX5_has_5 (by decide) ?_
  refine AS_34 hX  ⟨by omega, by omega⟩ (by omega) dX5_has_7 ?_
  refine zV_aloadn hX dX5_has_8 rfl ?_
  refine GF_X5_51 hX  dX5_has_9 ?_
  refine zV_iloadn hX dX5_has_12 rfl ?_
  refine zV_aloadn hX dX5_has_13 rfl ?_
  refine GF_X5_17 hX  dX5_has_14 ?_
  refine zV_aloadn hX dX5_has_17 rfl ?_
  refine GF_X5_27 hX  dX5_has_18 ?_
  refine zV_iloadn hX dX5_has_21 rfl ?_
  refine AL_27 hX  ⟨by omega, by omega⟩ dX5_has_22 (fun r22 => ?_)
  try simp only [zup_d, Nat.reduceEqDiff, Int.reduceEq, reduceCtorEq, false_and, true_and, and_true, and_false, and_self, if_false, if_true, Int.reduceNeg] at r22 ⊢
  refine AL_23 hX  ⟨by omega, by omega⟩ dX5_has_23 (fun r23 => ?_)
  try simp only [zup_d, Nat.reduceEqDiff, Int.reduceEq, reduceCtorEq, false_and, true_and, and_true, and_false, and_self, if_false, if_true, Int.reduceNeg] at r23 ⊢
  refine AS_35 hX  ⟨by omega, by omega⟩ (by omega) dX5_has_24 ?_
  refine zV_aloadn hX dX5_has_25 rfl ?_
  refine GF_X5_54 hX  dX5_has_26 ?_
  refine zV_iloadn hX dX5_has_29 rfl ?_
  refine zV_aloadn hX dX5_has_30 rfl ?_
  refine zV_iloadn hX dX5_has_31 rfl ?_
  refine zV_cVS (n := 1) hX rfl hN 20 rfl rfl ⟨by decide, by decide⟩ (c_X5_second (c := c) (by omega) (by simp only [zup_d, Nat.reduceEqDiff, Int.reduceEq, false_and, and_false, true_and, and_true, if_false, if_true]; omega)) zw_co_yX5_second zw_mX5_165 zw_in_RX5 zw_im_yX5_second zw_se_yX5_second ⟨by decide, by decide, by decide +kernel⟩ rfl (by omega) (by decide) (by omega) (by omega) rfl (Nat.le_of_ble_eq_true rfl) dX5_has_32 ?_ 
  rw [show mSec _ c = mSec y c from by simp only [mSec, zup_d, Nat.reduceEqDiff, false_and, if_false]]
  refine AS_36 hX  ⟨by omega, by omega⟩ (by omega) dX5_has_35 ?_
  refine zV_aloadn hX dX5_has_36 rfl ?_
  refine GF_X5_57 hX  dX5_has_37 ?_
  refine zV_iloadn hX dX5_has_40 rfl ?_
  refine zV_aloadn hX dX5_has_41 rfl ?_
  refine GF_X5_33 hX  dX5_has_42 ?_
  refine zV_iloadn hX dX5_has_45 rfl ?_
  refine AL_29 hX  ⟨by omega, by omega⟩ dX5_has_46 (fun r46 => ?_)
  try simp only [zup_d, Nat.reduceEqDiff, Int.reduceEq, reduceCtorEq, false_and, true_and, and_true, and_false, and_self, if_false, if_true, Int.reduceNeg] at r46 ⊢
  refine AS_37 hX  ⟨by omega, by omega⟩ (by omega) dX5_has_47 ?_
  refine zV_aloadn hX dX5_has_48 rfl ?_
  refine GF_X5_17 hX  dX5_has_49 ?_
  refine zV_aloadn hX dX5_has_52 rfl ?_
  refine GF_X5_36 hX  dX5_has_53 ?_
  refine zV_iloadn hX dX5_has_56 rfl ?_
  refine AL_30 hX  ⟨by omega, by omega⟩ dX5_has_57 (fun r57 => ?_)
  try simp only [zup_d, Nat.reduceEqDiff, Int.reduceEq, reduceCtorEq, false_and, true_and, and_true, and_false, and_self, if_false, if_true, Int.reduceNeg] at r57 ⊢
  refine zV_iloadn hX dX5_has_58 rfl ?_
  refine AS_23 hX  ⟨by omega, by omega⟩ (by omega) dX5_has_59 ?_
  exact zV_vret hX hM (by omega) (by omega) dX5_has_60 (⟨rfl, rfl, rfl⟩)
set_option maxRecDepth 100000 in
set_option maxHeartbeats 4000000 in
theorem c_X5_keeps {ad : Nat → Int → Nat} {x y : zSt} {c r : Int} (hr : zR r) (w : (0 ≤ c ∧ c < 11) ∧ (0 ≤ y 27 0 c ∧ y 27 0 c ≤ 11) ∧ (-1 ≤ y 28 0 c ∧ y 28 0 c ≤ 11) ∧ (0 ≤ y 30 0 c ∧ y 30 0 c ≤ 11) ∧ (0 ≤ y 38 0 c ∧ y 38 0 c ≤ 1000000)) (hs : zR (mSec y c)) : zC yX5_keeps cX5_keeps 4 none 1 0 0 [.ref (ad 20 0), zI c, zI r] ad x y (zpV x (mKeeps y c r)) (zF) := by
  refine zC_ofV (by decide) (by intro v hv; simp only [List.mem_cons, List.not_mem_nil, or_false] at hv; rcases hv with rfl | rfl | rfl <;> rfl) (Nat.le_of_ble_eq_true rfl) (fun Γ hX hN hM hT => ?_)
  show zV Γ ad 0 0 x y 0 [some (.ref (ad 20 0)), some (zI c), some (zI r), none] []
  refine zV_iconst hX dX5_keeps_0 ?_
  refine zV_iloadn hX dX5_keeps_1 rfl ?_
  refine zV_imul hX dX5_keeps_2 ?_
  refine zV_aloadn hX dX5_keeps_3 rfl ?_
  refine GF_X5_60 hX  dX5_keeps_4 ?_
  refine zV_iloadn hX dX5_keeps_7 rfl ?_
  refine AL_38 hX  ⟨by omega, by omega⟩ dX5_keeps_8 (fun r8 => ?_)
  refine zV_iconst hX dX5_keeps_9 ?_
  refine zV_irem hX dX5_keeps_10 ⟨by omega, by omega⟩ ⟨by omega, by omega⟩ ?_
  refine zV_iadd hX dX5_keeps_11 ?_
  refine zV_istoren3 hX dX5_keeps_12 ?_
  refine zV_aloadn hX dX5_keeps_13 rfl ?_
  refine GF_X5_78 hX  dX5_keeps_14 ?_
  refine zV_iloadn hX dX5_keeps_17 rfl ?_
  refine zV_aloadn hX dX5_keeps_18 rfl ?_
  refine GF_X5_17 hX  dX5_keeps_19 ?_
  refine zV_aloadn hX dX5_keeps_22 rfl ?_
  refine GF_X5_27 hX  dX5_keeps_23 ?_
  refine zV_iloadn hX dX5_keeps_26 rfl ?_
  refine AL_27 hX  ⟨by omega, by omega⟩ dX5_keeps_27 (fun r27 => ?_)
  refine AL_23 hX  ⟨by omega, by omega⟩ dX5_keeps_28 (fun r28 => ?_)
  refine AS_44 hX  ⟨by omega, by omega⟩ (by omega) dX5_keeps_29 ?_
  refine zV_aloadn hX dX5_keeps_30 rfl ?_
  refine GF_X5_81 hX  dX5_keeps_31 ?_
  refine zV_iloadn hX dX5_keeps_34 rfl ?_
  refine zV_aloadn hX dX5_keeps_35 rfl ?_
  refine zV_iloadn hX dX5_keeps_36 rfl ?_
  refine zV_cVS (n := 1) hX rfl hN 20 rfl rfl ⟨by decide, by decide⟩ (c_X5_second (c := c) (by omega) (by simp only [zup_d, Nat.reduceEqDiff, Int.reduceEq, false_and, and_false, true_and, and_true, if_false, if_true]; omega)) zw_co_yX5_second zw_mX5_165 zw_in_RX5 zw_im_yX5_second zw_se_yX5_second ⟨by decide, by decide, by decide +kernel⟩ rfl (by omega) (by decide) (by omega) (by omega) rfl (Nat.le_of_ble_eq_true rfl) dX5_keeps_37 ?_ 
  rw [show mSec _ c = mSec y c from by simp only [mSec, zup_d, Nat.reduceEqDiff, false_and, if_false]]
  refine AS_45 hX  ⟨by omega, by omega⟩ (by omega) dX5_keeps_40 ?_
  refine zV_aloadn hX dX5_keeps_41 rfl ?_
  refine GF_X5_84 hX  dX5_keeps_42 ?_
  refine zV_iloadn hX dX5_keeps_45 rfl ?_
  refine zV_aloadn hX dX5_keeps_46 rfl ?_
  refine GF_X5_33 hX  dX5_keeps_47 ?_
  refine zV_iloadn hX dX5_keeps_50 rfl ?_
  refine AL_29 hX  ⟨by omega, by omega⟩ dX5_keeps_51 (fun r51 => ?_)
  try simp only [zup_d, Nat.reduceEqDiff, Int.reduceEq, reduceCtorEq, false_and, true_and, and_true, and_false, and_self, if_false, if_true, Int.reduceNeg] at r51 ⊢
  refine AS_46 hX  ⟨by omega, by omega⟩ (by omega) dX5_keeps_52 ?_
  refine zV_aloadn hX dX5_keeps_53 rfl ?_
  refine GF_X5_87 hX  dX5_keeps_54 ?_
  refine zV_iloadn hX dX5_keeps_57 rfl ?_
  refine zV_iloadn hX dX5_keeps_58 rfl ?_
  refine AS_47 hX  ⟨by omega, by omega⟩ (by omega) dX5_keeps_59 ?_
  refine zV_aloadn hX dX5_keeps_60 rfl ?_
  refine GF_X5_60 hX  dX5_keeps_61 ?_
  refine zV_iloadn hX dX5_keeps_64 rfl ?_
  refine zV_dup2 hX dX5_keeps_65 rfl rfl ?_
  refine AL_38 hX  ⟨by omega, by omega⟩ dX5_keeps_66 (fun r66 => ?_)
  try simp only [zup_d, Nat.reduceEqDiff, Int.reduceEq, reduceCtorEq, false_and, true_and, and_true, and_false, and_self, if_false, if_true, Int.reduceNeg] at r66 ⊢
  refine zV_iconst hX dX5_keeps_67 ?_
  refine zV_iadd hX dX5_keeps_68 ?_
  refine AS_38 hX  ⟨by omega, by omega⟩ (by omega) dX5_keeps_69 ?_
  exact zV_vret hX hM (by omega) (by omega) dX5_keeps_70 (⟨rfl, rfl, rfl⟩)
set_option maxRecDepth 100000 in
set_option maxHeartbeats 4000000 in
theorem c_X5_takes {ad : Nat → Int → Nat} {x y : zSt} {c k : Int} (hk : zR k) (hc : 0 ≤ c ∧ c < 11) (hn : 1 ≤ y 31 0 c ∧ y 31 0 c ≤ 5) (ht : 1 ≤ y 32 0 c ∧ y 32 0 c ≤ 9) (htk : 0 ≤ y 20 0 37 ∧ y 20 0 37 ≤ 5000) (h30 : 0 ≤ y 20 0 30 ∧ y 20 0 30 ≤ 59) : zC yX5_takes cX5_takes 3 none 0 0 0 [.ref (ad 20 0), zI c, zI k] ad x y (zpV x (mTakes y c k)) (zF) := by
  refine zC_ofV (by decide) (by intro v hv; simp only [List.mem_cons, List.not_mem_nil, or_false] at hv; rcases hv with rfl | rfl | rfl <;> rfl) (Nat.le_of_ble_eq_true rfl) (fun Γ hX hN hM hT => ?_)
  show zV Γ ad 0 0 x y 0 [some (.ref (ad 20 0)), some (zI c), some (zI k)] []
  have hm := zmul_b (a := y 31 0 c) (b := y 32 0 c) (A := 5) (B := 9) (by omega) (by omega)
  refine zV_aloadn hX dX5_takes_0 rfl ?_
  refine GF_X5_93 hX  dX5_takes_1 ?_
  refine zV_aloadn hX dX5_takes_4 rfl ?_
  refine GF_X5_168 hX  dX5_takes_5 (fun r5 => ?_)
  refine zV_iloadn hX dX5_takes_8 rfl ?_
  refine AS_51 hX  ⟨by omega, by omega⟩ (by omega) dX5_takes_9 ?_
  refine zV_aloadn hX dX5_takes_10 rfl ?_
  refine GF_X5_96 hX  dX5_takes_11 ?_
  refine zV_aloadn hX dX5_takes_14 rfl ?_
  refine GF_X5_168 hX  dX5_takes_15 (fun r15 => ?_)
  try simp only [zup_d, Nat.reduceEqDiff, Int.reduceEq, reduceCtorEq, false_and, true_and, and_true, and_false, and_self, if_false, if_true, Int.reduceNeg] at r15 ⊢
  refine zV_aloadn hX dX5_takes_18 rfl ?_
  refine GF_X5_39 hX  dX5_takes_19 ?_
  refine zV_iloadn hX dX5_takes_22 rfl ?_
  refine AL_31 hX  ⟨by omega, by omega⟩ dX5_takes_23 (fun r23 => ?_)
  try simp only [zup_d, Nat.reduceEqDiff, Int.reduceEq, reduceCtorEq, false_and, true_and, and_true, and_false, and_self, if_false, if_true, Int.reduceNeg] at r23 ⊢
  refine AS_52 hX  ⟨by omega, by omega⟩ (by omega) dX5_takes_24 ?_
  refine zV_aloadn hX dX5_takes_25 rfl ?_
  refine GF_X5_99 hX  dX5_takes_26 ?_
  refine zV_aloadn hX dX5_takes_29 rfl ?_
  refine GF_X5_168 hX  dX5_takes_30 (fun r30 => ?_)
  try simp only [zup_d, Nat.reduceEqDiff, Int.reduceEq, reduceCtorEq, false_and, true_and, and_true, and_false, and_self, if_false, if_true, Int.reduceNeg] at r30 ⊢
  refine zV_aloadn hX dX5_takes_33 rfl ?_
  refine GF_X5_177 hX  dX5_takes_34 (fun r34 => ?_)
  try simp only [zup_d, Nat.reduceEqDiff, Int.reduceEq, reduceCtorEq, false_and, true_and, and_true, and_false, and_self, if_false, if_true, Int.reduceNeg] at r34 ⊢
  refine zV_aloadn hX dX5_takes_37 rfl ?_
  refine GF_X5_42 hX  dX5_takes_38 ?_
  refine zV_iloadn hX dX5_takes_41 rfl ?_
  refine AL_32 hX  ⟨by omega, by omega⟩ dX5_takes_42 (fun r42 => ?_)
  try simp only [zup_d, Nat.reduceEqDiff, Int.reduceEq, reduceCtorEq, false_and, true_and, and_true, and_false, and_self, if_false, if_true, Int.reduceNeg] at r42 ⊢
  refine zV_iadd hX dX5_takes_43 ?_
  refine AS_53 hX  ⟨by omega, by omega⟩ (by omega) dX5_takes_44 ?_
  refine zV_aloadn hX dX5_takes_45 rfl ?_
  refine zV_dup hX dX5_takes_46 rfl ?_
  refine GF_X5_168 hX  dX5_takes_47 (fun r47 => ?_)
  try simp only [zup_d, Nat.reduceEqDiff, Int.reduceEq, reduceCtorEq, false_and, true_and, and_true, and_false, and_self, if_false, if_true, Int.reduceNeg] at r47 ⊢
  refine zV_iconst hX dX5_takes_50 ?_
  refine zV_iadd hX dX5_takes_51 ?_
  refine PF_X5_168 hX  (by omega) dX5_takes_52 ?_
  refine zV_aloadn hX dX5_takes_55 rfl ?_
  refine zV_dup hX dX5_takes_56 rfl ?_
  refine GF_X5_180 hX  dX5_takes_57 ?_
  refine zV_aloadn hX dX5_takes_60 rfl ?_
  refine GF_X5_39 hX  dX5_takes_61 ?_
  refine zV_iloadn hX dX5_takes_64 rfl ?_
  refine AL_31 hX  ⟨by omega, by omega⟩ dX5_takes_65 (fun r65 => ?_)
  try simp only [zup_d, Nat.reduceEqDiff, Int.reduceEq, reduceCtorEq, false_and, true_and, and_true, and_false, and_self, if_false, if_true, Int.reduceNeg] at r65 ⊢
  refine zV_aloadn hX dX5_takes_66 rfl ?_
  refine GF_X5_42 hX  dX5_takes_67 ?_
  refine zV_iloadn hX dX5_takes_70 rfl ?_
  refine AL_32 hX  ⟨by omega, by omega⟩ dX5_takes_71 (fun r71 => ?_)
  try simp only [zup_d, Nat.reduceEqDiff, Int.reduceEq, reduceCtorEq, false_and, true_and, and_true, and_false, and_self, if_false, if_true, Int.reduceNeg] at r71 ⊢
  refine zV_imul hX dX5_takes_72 ?_
  refine zV_i2l hX dX5_takes_73 (by omega) ?_
  refine zV_ladd hX dX5_takes_74 ?_
  refine PF_X5_180 hX   dX5_takes_75 ?_
  exact zV_vret hX hM (by omega) (by omega) dX5_takes_78 (⟨rfl, rfl, rfl⟩)
set_option maxRecDepth 100000 in
set_option maxHeartbeats 4000000 in
theorem lp_X5_keptAt {ad : Nat → Int → Nat} {x y : zSt} {Γ : zG} {c r : Int} (w : (0 ≤ c ∧ c < 11) ∧ (0 ≤ y 27 0 c ∧ y 27 0 c ≤ 11) ∧ (-1 ≤ y 28 0 c ∧ y 28 0 c ≤ 11) ∧ (0 ≤ y 30 0 c ∧ y 30 0 c ≤ 11) ∧ (0 ≤ y 38 0 c ∧ y 38 0 c ≤ 1000000)) (hs : zR (mSec y c)) (hX : zX Γ ad RX5 cX5_keptAt 3) (hN : zN Γ 1 0 0) (hM : zM Γ ad 0 0 (some .int) (zpS r x y) zF) (hT : zNT Γ) : ∀ (f n : Nat) (i : Int), n < f → 4 * c ≤ i → i + n = 4 * c + (if y 38 0 c < 4 then y 38 0 c else 4) → r = mKa y c n i → zV Γ ad 0 0 x y 4 [some (.ref (ad 20 0)), some (zI c), some (zI i)] [] := by
  intro f
  induction f with
  | zero => intro n i h1 h2 h3 h4; omega
  | succ f ih =>
    intro n i h1 h2 h3 h4
    have h5 : (if y 38 0 c < 4 then y 38 0 c else 4) ≤ 4 ∧ (if y 38 0 c < 4 then y 38 0 c else 4) ≤ y 38 0 c := by split <;> omega
    have h6 : y 38 0 c < 4 ∨ ¬ y 38 0 c < 4 := by omega
    refine zV_iloadn hX dX5_keptAt_4 rfl ?_
    refine zV_iconst hX dX5_keptAt_5 ?_
    refine zV_iloadn hX dX5_keptAt_6 rfl ?_
    refine zV_imul hX dX5_keptAt_7 ?_
    refine zV_iconst hX dX5_keptAt_8 ?_
    refine zV_iadd hX dX5_keptAt_9 ?_
    refine zV_icmp_ge (tgt := 84) hX dX5_keptAt_10 (by decide) (by omega) (by omega) (fun b10 => ?_) (fun b10 => ?_)
    · obtain rfl : n = 0 := by split at h3 <;> omega
      refine zV_iconst hX dX5_keptAt_84 ?_
      exact zV_iret hX hM (by omega) (by omega) rfl dX5_keptAt_85 (zpS_i (by rw [h4]; rfl))
    · refine zV_iloadn hX dX5_keptAt_13 rfl ?_
      refine zV_iconst hX dX5_keptAt_14 ?_
      refine zV_iloadn hX dX5_keptAt_15 rfl ?_
      refine zV_imul hX dX5_keptAt_16 ?_
      refine zV_aloadn hX dX5_keptAt_17 rfl ?_
      refine GF_X5_60 hX  dX5_keptAt_18 ?_
      refine zV_iloadn hX dX5_keptAt_21 rfl ?_
      refine AL_38 hX  ⟨by omega, by omega⟩ dX5_keptAt_22 (fun r22 => ?_)
      refine zV_iadd hX dX5_keptAt_23 ?_
      refine zV_icmp_ge (tgt := 84) hX dX5_keptAt_24 (by decide) (by omega) (by omega) (fun b24 => ?_) (fun b24 => ?_)
      · obtain rfl : n = 0 := by split at h3 <;> omega
        refine zV_iconst hX dX5_keptAt_84 ?_
        exact zV_iret hX hM (by omega) (by omega) rfl dX5_keptAt_85 (zpS_i (by rw [h4]; rfl))
      · obtain ⟨n, rfl⟩ : ∃ q, n = q + 1 := ⟨n - 1, by split at h3 <;> omega⟩
        simp only [mKa] at h4
        refine zV_aloadn hX dX5_keptAt_27 rfl ?_
        refine GF_X5_78 hX  dX5_keptAt_28 ?_
        refine zV_iloadn hX dX5_keptAt_31 rfl ?_
        refine AL_44 hX  ⟨by omega, by omega⟩ dX5_keptAt_32 (fun r32 => ?_)
        refine zV_aloadn hX dX5_keptAt_33 rfl ?_
        refine GF_X5_17 hX  dX5_keptAt_34 ?_
        refine zV_aloadn hX dX5_keptAt_37 rfl ?_
        refine GF_X5_27 hX  dX5_keptAt_38 ?_
        refine zV_iloadn hX dX5_keptAt_41 rfl ?_
        refine AL_27 hX  ⟨by omega, by omega⟩ dX5_keptAt_42 (fun r42 => ?_)
        refine AL_23 hX  ⟨by omega, by omega⟩ dX5_keptAt_43 (fun r43 => ?_)
        refine zV_icmp_ne (tgt := 78) hX dX5_keptAt_44 (by decide) (by omega) (by omega) (fun b44 => ?_) (fun b44 => ?_)
        · refine zV_iinc2 hX dX5_keptAt_78 ?_
          refine zV_goto (tgt := 4) hX dX5_keptAt_81 (by decide) ?_
          exact ih n (i + 1) (by omega) (by omega) (by omega) (by rw [h4, if_neg (fun q => by unfold mHitAt mFst at q; omega)])
        · refine zV_aloadn hX dX5_keptAt_47 rfl ?_
          refine GF_X5_81 hX  dX5_keptAt_48 ?_
          refine zV_iloadn hX dX5_keptAt_51 rfl ?_
          refine AL_45 hX  ⟨by omega, by omega⟩ dX5_keptAt_52 (fun r52 => ?_)
          refine zV_aloadn hX dX5_keptAt_53 rfl ?_
          refine zV_iloadn hX dX5_keptAt_54 rfl ?_
          refine zV_cVS (n := 1) hX rfl hN 20 rfl rfl ⟨by decide, by decide⟩ (c_X5_second (c := c) (by omega) (by omega)) zw_co_yX5_second zw_mX5_165 zw_in_RX5 zw_im_yX5_second zw_se_yX5_second ⟨by decide, by decide, by decide +kernel⟩ rfl (by omega) (by decide) (by omega) (by omega) rfl (Nat.le_of_ble_eq_true rfl) dX5_keptAt_55 ?_ 
          refine zV_icmp_ne (tgt := 78) hX dX5_keptAt_58 (by decide) (by omega) (by assumption) (fun b58 => ?_) (fun b58 => ?_)
          · refine zV_iinc2 hX dX5_keptAt_78 ?_
            refine zV_goto (tgt := 4) hX dX5_keptAt_81 (by decide) ?_
            exact ih n (i + 1) (by omega) (by omega) (by omega) (by rw [h4, if_neg (fun q => by unfold mHitAt mFst at q; omega)])
          · refine zV_aloadn hX dX5_keptAt_61 rfl ?_
            refine GF_X5_84 hX  dX5_keptAt_62 ?_
            refine zV_iloadn hX dX5_keptAt_65 rfl ?_
            refine AL_46 hX  ⟨by omega, by omega⟩ dX5_keptAt_66 (fun r66 => ?_)
            refine zV_aloadn hX dX5_keptAt_67 rfl ?_
            refine GF_X5_33 hX  dX5_keptAt_68 ?_
            refine zV_iloadn hX dX5_keptAt_71 rfl ?_
            refine AL_29 hX  ⟨by omega, by omega⟩ dX5_keptAt_72 (fun r72 => ?_)
            refine zV_icmp_ne (tgt := 78) hX dX5_keptAt_73 (by decide) (by omega) (by omega) (fun b73 => ?_) (fun b73 => ?_)
            · refine zV_iinc2 hX dX5_keptAt_78 ?_
              refine zV_goto (tgt := 4) hX dX5_keptAt_81 (by decide) ?_
              exact ih n (i + 1) (by omega) (by omega) (by omega) (by rw [h4, if_neg (fun q => by unfold mHitAt mFst at q; omega)])
            · refine zV_iloadn hX dX5_keptAt_76 rfl ?_
              exact zV_iret hX hM (by omega) (by omega) rfl dX5_keptAt_77 (zpS_i (by rw [h4, if_pos ⟨by unfold mFst; omega, by omega, by omega⟩]))
set_option maxRecDepth 100000 in
set_option maxHeartbeats 4000000 in
theorem c_X5_keptAt {ad : Nat → Int → Nat} {x y : zSt} {c : Int} (w : (0 ≤ c ∧ c < 11) ∧ (0 ≤ y 27 0 c ∧ y 27 0 c ≤ 11) ∧ (-1 ≤ y 28 0 c ∧ y 28 0 c ≤ 11) ∧ (0 ≤ y 30 0 c ∧ y 30 0 c ≤ 11) ∧ (0 ≤ y 38 0 c ∧ y 38 0 c ≤ 1000000)) (hs : zR (mSec y c)) : zC yX5_keptAt cX5_keptAt 3 (some .int) 1 0 0 [.ref (ad 20 0), zI c] ad x y (zpS (mKept y c) x y) (zF) := by
  refine zC_ofV (by decide) (by intro v hv; simp only [List.mem_cons, List.not_mem_nil, or_false] at hv; rcases hv with rfl | rfl <;> rfl) (Nat.le_of_ble_eq_true rfl) (fun Γ hX hN hM hT => ?_)
  show zV Γ ad 0 0 x y 0 [some (.ref (ad 20 0)), some (zI c), none] []
  refine zV_iconst hX dX5_keptAt_0 ?_
  refine zV_iloadn hX dX5_keptAt_1 rfl ?_
  refine zV_imul hX dX5_keptAt_2 ?_
  refine zV_istoren2 hX dX5_keptAt_3 ?_
  exact lp_X5_keptAt w hs hX hN hM hT ((if y 38 0 c < 4 then y 38 0 c else 4).toNat + 1) (if y 38 0 c < 4 then y 38 0 c else 4).toNat (4 * c) (by omega) (by omega) (by split <;> omega) rfl
set_option maxRecDepth 100000 in
set_option maxHeartbeats 4000000 in
theorem lp_X5_freeOf {ad : Nat → Int → Nat} {x y : zSt} {Γ : zG} {k : Int} (hk : 0 ≤ k ∧ k ≤ 2) (hI : mI y) (hX : zX Γ ad RX5 cX5_freeOf 4) (hN : zN Γ 0 0 0) (hM : zM Γ ad 0 0 (some .int) (zpS (mLeft y k) x y) zF) (hT : zNT Γ) : ∀ (f n : Nat) (i r : Int), i = n → i ≤ y 20 0 30 → (y 20 0 30).toNat - n < f → r = mFree y k n → zV Γ ad 0 0 x y 9 [some (.ref (ad 20 0)), some (zI k), some (zI r), some (zI i)] [] := by
  intro f
  induction f with
  | zero => intro n i r h1 h2 h3 h4; omega
  | succ f ih =>
    intro n i r h1 h2 h3 h4
    have n5 := hI.1.2.2.2.2.1
    have hb := mFree_b hI hk n (by omega)
    refine zV_iloadn hX dX5_freeOf_9 rfl ?_
    refine zV_aloadn hX dX5_freeOf_10 rfl ?_
    refine GF_X5_168 hX  dX5_freeOf_11 (fun r11 => ?_)
    refine zV_icmp_ge (tgt := 46) hX dX5_freeOf_14 (by decide) (by omega) (by omega) (fun b14 => ?_) (fun b14 => ?_)
    · refine zV_iloadn hX dX5_freeOf_46 rfl ?_
      exact zV_iret hX hM (by omega) (by omega) rfl dX5_freeOf_47 (zpS_i (by rw [h4]; unfold mLeft; congr 1; omega))
    · refine zV_iloadn hX dX5_freeOf_17 rfl ?_
      refine zV_aloadn hX dX5_freeOf_18 rfl ?_
      refine GF_X5_93 hX  dX5_freeOf_19 ?_
      refine zV_iloadn hX dX5_freeOf_22 rfl ?_
      refine AL_51 hX  ⟨by omega, by omega⟩ dX5_freeOf_23 (fun r23 => ?_)
      refine zV_iloadn hX dX5_freeOf_24 rfl ?_
      refine zV_icmp_ne (tgt := 37) hX dX5_freeOf_25 (by decide) (by omega) (by omega) (fun b25 => ?_) (fun b25 => ?_)
      · refine zV_iconst hX dX5_freeOf_37 ?_
        refine zV_isub hX dX5_freeOf_38 ?_
        refine zV_istoren2 hX dX5_freeOf_39 ?_
        refine zV_iinc3 hX dX5_freeOf_40 ?_
        refine zV_goto (tgt := 9) hX dX5_freeOf_43 (by decide) ?_
        exact ih (n + 1) (i + 1) _ (by omega) (by omega) (by omega) (by rw [h4]; subst h1; simp only [mFree]; first | rw [if_pos (by assumption)] | rw [if_neg (by assumption)])
      · refine zV_aloadn hX dX5_freeOf_28 rfl ?_
        refine GF_X5_96 hX  dX5_freeOf_29 ?_
        refine zV_iloadn hX dX5_freeOf_32 rfl ?_
        refine AL_52 hX  ⟨by omega, by omega⟩ dX5_freeOf_33 (fun r33 => ?_)
        refine zV_goto (tgt := 38) hX dX5_freeOf_34 (by decide) ?_
        refine zV_isub hX dX5_freeOf_38 ?_
        refine zV_istoren2 hX dX5_freeOf_39 ?_
        refine zV_iinc3 hX dX5_freeOf_40 ?_
        refine zV_goto (tgt := 9) hX dX5_freeOf_43 (by decide) ?_
        exact ih (n + 1) (i + 1) _ (by omega) (by omega) (by omega) (by rw [h4]; subst h1; simp only [mFree]; first | rw [if_pos (by assumption)] | rw [if_neg (by assumption)])
set_option maxRecDepth 100000 in
set_option maxHeartbeats 4000000 in
theorem c_X5_freeOf {ad : Nat → Int → Nat} {x y : zSt} {k : Int} (hk : 0 ≤ k ∧ k ≤ 2) (hI : mI y) : zC yX5_freeOf cX5_freeOf 4 (some .int) 0 0 0 [.ref (ad 20 0), zI k] ad x y (zpS (mLeft y k) x y) (zF) := by
  refine zC_ofV (by decide) (by intro v hv; simp only [List.mem_cons, List.not_mem_nil, or_false] at hv; rcases hv with rfl | rfl <;> rfl) (Nat.le_of_ble_eq_true rfl) (fun Γ hX hN hM hT => ?_)
  show zV Γ ad 0 0 x y 0 [some (.ref (ad 20 0)), some (zI k), none, none] []
  refine zV_aloadn hX dX5_freeOf_0 rfl ?_
  refine GF_X5_90 hX  dX5_freeOf_1 ?_
  refine zV_iloadn hX dX5_freeOf_4 rfl ?_
  refine AL_49 hX  ⟨by omega, by omega⟩ dX5_freeOf_5 (fun r5 => ?_)
  refine zV_istoren2 hX dX5_freeOf_6 ?_
  refine zV_iconst hX dX5_freeOf_7 ?_
  refine zV_istoren3 hX dX5_freeOf_8 ?_
  exact lp_X5_freeOf hk hI hX hN hM hT ((y 20 0 30).toNat + 1) 0 0 _ rfl hI.1.2.2.2.2.1.1 (by omega) rfl
set_option maxRecDepth 100000 in
set_option maxHeartbeats 4000000 in
theorem lp_X5_kernelFor {ad : Nat → Int → Nat} {x y : zSt} {Γ : zG} {need : Int} (hneed : zR need) (hI : mI y) (hX : zX Γ ad RX5 cX5_kernelFor 4) (hN : zN Γ 1 0 0) (hM : zM Γ ad 0 0 (some .int) (zpS (mKf y need (y 20 0 28).toNat) x y) zF) (hT : zNT Γ) : ∀ (f n : Nat) (i b : Int), i = n → i ≤ y 20 0 28 → (y 20 0 28).toNat - n < f → b = mKf y need n → -1 ≤ b ∧ b < i → zV Γ ad 0 0 x y 4 [some (.ref (ad 20 0)), some (zI need), some (zI b), some (zI i)] [] := by
  intro f
  induction f with
  | zero => intro n i b h1 h2 h3 h4 h5; omega
  | succ f ih =>
    intro n i b h1 h2 h3 h4 h5
    have n5 := hI.1.2.1
    have l1 : i ≤ 2 → _ := fun g => mLeft_b hI (k := i) ⟨by omega, g⟩
    have l2 : 0 ≤ b → b ≤ 2 → _ := fun g g2 => mLeft_b hI (k := b) ⟨g, g2⟩
    refine zV_iloadn hX dX5_kernelFor_4 rfl ?_
    refine zV_aloadn hX dX5_kernelFor_5 rfl ?_
    refine GF_X5_171 hX  dX5_kernelFor_6 (fun r6 => ?_)
    refine zV_icmp_ge (tgt := 46) hX dX5_kernelFor_9 (by decide) (by omega) (by omega) (fun b9 => ?_) (fun b9 => ?_)
    · refine zV_iloadn hX dX5_kernelFor_46 rfl ?_
      exact zV_iret hX hM (by omega) (by omega) rfl dX5_kernelFor_47 (zpS_i (by rw [h4]; congr 1; omega))
    · refine zV_aloadn hX dX5_kernelFor_12 rfl ?_
      refine zV_iloadn hX dX5_kernelFor_13 rfl ?_
      refine zV_cVS (n := 1) hX rfl hN 20 rfl rfl ⟨by decide, by decide⟩ (c_X5_freeOf (k := i) ⟨by omega, by omega⟩ hI) zw_co_yX5_freeOf zw_mX5_174 zw_in_RX5 zw_im_yX5_freeOf zw_se_yX5_freeOf ⟨by decide, by decide, by decide +kernel⟩ rfl (by omega) (by decide) (by omega) (by omega) rfl (Nat.le_of_ble_eq_true rfl) dX5_kernelFor_14 ?_ 
      refine zV_iloadn hX dX5_kernelFor_17 rfl ?_
      refine zV_icmp_lt (tgt := 40) hX dX5_kernelFor_18 (by decide) (by have := l1 (by omega); omega) (by omega) (fun b18 => ?_) (fun b18 => ?_)
      · refine zV_iinc3 hX dX5_kernelFor_40 ?_
        refine zV_goto (tgt := 4) hX dX5_kernelFor_43 (by decide) ?_
        exact ih (n + 1) (i + 1) _ (by omega) (by omega) (by omega) (by rw [h1, h4] at *; simp only [mKf]; first | rw [if_pos ⟨by omega, by first | exact Or.inl (by omega) | exact Or.inr (by omega)⟩] | rw [if_neg (fun q => by first | omega | exact q.2.elim (fun h => by omega) (fun h => by omega))]) (by omega)
      · refine zV_iloadn hX dX5_kernelFor_21 rfl ?_
        refine zV_if_lt (tgt := 38) hX dX5_kernelFor_22 (by decide) (by omega) (fun b22 => ?_) (fun b22 => ?_)
        · refine zV_iloadn hX dX5_kernelFor_38 rfl ?_
          refine zV_istoren2 hX dX5_kernelFor_39 ?_
          refine zV_iinc3 hX dX5_kernelFor_40 ?_
          refine zV_goto (tgt := 4) hX dX5_kernelFor_43 (by decide) ?_
          exact ih (n + 1) (i + 1) _ (by omega) (by omega) (by omega) (by rw [h1, h4] at *; simp only [mKf]; first | rw [if_pos ⟨by omega, by first | exact Or.inl (by omega) | exact Or.inr (by omega)⟩] | rw [if_neg (fun q => by first | omega | exact q.2.elim (fun h => by omega) (fun h => by omega))]) (by omega)
        · refine zV_aloadn hX dX5_kernelFor_25 rfl ?_
          refine zV_iloadn hX dX5_kernelFor_26 rfl ?_
          refine zV_cVS (n := 1) hX rfl hN 20 rfl rfl ⟨by decide, by decide⟩ (c_X5_freeOf (k := i) ⟨by omega, by omega⟩ hI) zw_co_yX5_freeOf zw_mX5_174 zw_in_RX5 zw_im_yX5_freeOf zw_se_yX5_freeOf ⟨by decide, by decide, by decide +kernel⟩ rfl (by omega) (by decide) (by omega) (by omega) rfl (Nat.le_of_ble_eq_true rfl) dX5_kernelFor_27 ?_ 
          refine zV_aloadn hX dX5_kernelFor_30 rfl ?_
          refine zV_iloadn hX dX5_kernelFor_31 rfl ?_
          refine zV_cVS (n := 1) hX rfl hN 20 rfl rfl ⟨by decide, by decide⟩ (c_X5_freeOf (k := b) ⟨by omega, by omega⟩ hI) zw_co_yX5_freeOf zw_mX5_174 zw_in_RX5 zw_im_yX5_freeOf zw_se_yX5_freeOf ⟨by decide, by decide, by decide +kernel⟩ rfl (by omega) (by decide) (by omega) (by omega) rfl (Nat.le_of_ble_eq_true rfl) dX5_kernelFor_32 ?_ 
          refine zV_icmp_ge (tgt := 40) hX dX5_kernelFor_35 (by decide) (by have := l1 (by omega); omega) (by have := l2 (by omega) (by omega); omega) (fun b35 => ?_) (fun b35 => ?_)
          · refine zV_iinc3 hX dX5_kernelFor_40 ?_
            refine zV_goto (tgt := 4) hX dX5_kernelFor_43 (by decide) ?_
            exact ih (n + 1) (i + 1) _ (by omega) (by omega) (by omega) (by rw [h1, h4] at *; simp only [mKf]; first | rw [if_pos ⟨by omega, by first | exact Or.inl (by omega) | exact Or.inr (by omega)⟩] | rw [if_neg (fun q => by first | omega | exact q.2.elim (fun h => by omega) (fun h => by omega))]) (by omega)
          · refine zV_iloadn hX dX5_kernelFor_38 rfl ?_
            refine zV_istoren2 hX dX5_kernelFor_39 ?_
            refine zV_iinc3 hX dX5_kernelFor_40 ?_
            refine zV_goto (tgt := 4) hX dX5_kernelFor_43 (by decide) ?_
            exact ih (n + 1) (i + 1) _ (by omega) (by omega) (by omega) (by rw [h1, h4] at *; simp only [mKf]; first | rw [if_pos ⟨by omega, by first | exact Or.inl (by omega) | exact Or.inr (by omega)⟩] | rw [if_neg (fun q => by first | omega | exact q.2.elim (fun h => by omega) (fun h => by omega))]) (by omega)
set_option maxRecDepth 100000 in
set_option maxHeartbeats 4000000 in
theorem c_X5_kernelFor {ad : Nat → Int → Nat} {x y : zSt} {need : Int} (hneed : zR need) (hI : mI y) : zC yX5_kernelFor cX5_kernelFor 4 (some .int) 1 0 0 [.ref (ad 20 0), zI need] ad x y (zpS (mKf y need (y 20 0 28).toNat) x y) (zF) := by
  refine zC_ofV (by decide) (by intro v hv; simp only [List.mem_cons, List.not_mem_nil, or_false] at hv; rcases hv with rfl | rfl <;> rfl) (Nat.le_of_ble_eq_true rfl) (fun Γ hX hN hM hT => ?_)
  show zV Γ ad 0 0 x y 0 [some (.ref (ad 20 0)), some (zI need), none, none] []
  refine zV_iconst hX dX5_kernelFor_0 ?_
  refine zV_istoren2 hX dX5_kernelFor_1 ?_
  refine zV_iconst hX dX5_kernelFor_2 ?_
  refine zV_istoren3 hX dX5_kernelFor_3 ?_
  exact lp_X5_kernelFor hneed hI hX hN hM hT ((y 20 0 28).toNat + 1) 0 0 (-1) rfl hI.1.2.1.1 (by omega) rfl ⟨by decide, by decide⟩
