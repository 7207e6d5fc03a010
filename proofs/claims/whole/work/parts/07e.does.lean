set_option maxRecDepth 100000 in
set_option maxHeartbeats 4000000 in
theorem c_X5_does {ad : Nat → Int → Nat} {x y : zSt} {c : Int} (hc : 0 ≤ c ∧ c < y 20 0 5) (hI : mI y) (hroom : 0 ≤ mKer y c → y 20 0 30 ≤ 59) : zC yX5_does cX5_does 4 (some .char) 3 0 0 [.ref (ad 20 0), zI c] ad x y (zpS (mDoR y c) x (mDoS y c)) (zF) := by
  refine zC_ofV (by decide) (by intro v hv; simp only [List.mem_cons, List.not_mem_nil, or_false] at hv; rcases hv with rfl | rfl <;> rfl) (Nat.le_of_ble_eq_true rfl) (fun Γ hX hN hM hT => ?_)
  show zV Γ ad 0 0 x y 0 [some (.ref (ad 20 0)), some (zI c), none, none] []
  obtain ⟨⟨n1, n2, n3, n4, n5, n6⟩, j2, j3, j4, j5, j6, j7⟩ := id hI
  have w := j3 c hc.1 hc.2
  have hs := mSec_b hI hc
  have v1 := j2 (y 27 0 c) (by omega) (by omega)
  have v2 : y 28 0 c ≠ -1 → _ := fun h => j2 (y 28 0 c) (by omega) (by omega)
  have rb := mCmp_b (y := y) (c := c) (a := mFst y c) (b := mSec y c)
  have kb : -1 ≤ mKer y c ∧ mKer y c < ((y 20 0 28).toNat : Int) := mKf_b (y := y) (need := y 31 0 c) (y 20 0 28).toNat
  have ka : mKept y c = -1 ∨ (0 ≤ mKept y c ∧ mKept y c ≤ 63) := by
    rcases mKa_b (y := y) (c := c) (if y 38 0 c < 4 then y 38 0 c else 4).toNat (4 * c) (by omega) with h | h
    · exact Or.inl h
    · refine Or.inr ?_
      unfold mKept
      split at h <;> split <;> omega
  have lk : mLacks y c → _ := fun h => mReas_b hI hc h
  have cc : ∀ q : Int, 0 ≤ q → q < c → _ := fun q g1 g2 => j3 q g1 (by omega)
  have nl : ¬ mLacks y c → (0 ≤ mFst y c ∧ mFst y c ≤ 999) ∧ (y 28 0 c ≠ -1 → 0 ≤ mSec y c ∧ mSec y c ≤ 999) := by
    intro h
    refine ⟨by simp only [mLacks, mFst] at h ⊢; omega, fun h2 => ?_⟩
    have := v2 h2
    unfold mSec
    rw [if_neg (by omega)]
    simp only [mLacks, mFst] at h
    omega
  refine zV_aloadn hX dX5_does_0 rfl ?_
  refine zV_iloadn hX dX5_does_1 rfl ?_
  refine zV_cVS (n := 1) hX rfl hN 20 rfl rfl ⟨by decide, by decide⟩ (c_X5_lacks hc hI) zw_co_yX5_lacks zw_mX5_184 zw_in_RX5 zw_im_yX5_lacks zw_se_yX5_lacks ⟨by decide, by decide, by decide +kernel⟩ rfl (by omega) (by decide) (by omega) (by omega) rfl (Nat.le_of_ble_eq_true rfl) dX5_does_2 ?_ 
  refine zV_ifeq_b (tgt := 16) hX dX5_does_5 (by decide) (fun b5 => ?_) (fun b5 => ?_)
  · refine zV_aloadn hX dX5_does_16 rfl ?_
    refine zV_iloadn hX dX5_does_17 rfl ?_
    refine zV_aloadn hX dX5_does_18 rfl ?_
    refine GF_X5_17 hX  dX5_does_19 ?_
    refine zV_aloadn hX dX5_does_22 rfl ?_
    refine GF_X5_27 hX  dX5_does_23 ?_
    refine zV_iloadn hX dX5_does_26 rfl ?_
    refine AL_27 hX  ⟨by omega, by omega⟩ dX5_does_27 (fun r27 => ?_)
    refine AL_23 hX  ⟨by omega, by omega⟩ dX5_does_28 (fun r28 => ?_)
    refine zV_aloadn hX dX5_does_29 rfl ?_
    refine zV_iloadn hX dX5_does_30 rfl ?_
    refine zV_cVS (n := 1) hX rfl hN 20 rfl rfl ⟨by decide, by decide⟩ (c_X5_second (c := c) (by omega) (by omega)) zw_co_yX5_second zw_mX5_165 zw_in_RX5 zw_im_yX5_second zw_se_yX5_second ⟨by decide, by decide, by decide +kernel⟩ rfl (by omega) (by decide) (by omega) (by omega) rfl (Nat.le_of_ble_eq_true rfl) dX5_does_31 ?_ 
    refine zV_cVS (n := 3) hX rfl hN 20 rfl rfl ⟨by decide, by decide⟩ (c_X5_computes (c := c) (a := mFst y c) (b := mSec y c) (nl b5).1 (by omega) (nl b5).2 hc hI) zw_co_yX5_computes zw_mX5_154 zw_in_RX5 zw_im_yX5_computes zw_se_yX5_computes ⟨by decide, by decide, by decide +kernel⟩ rfl (by omega) (by decide) (by omega) (by omega) rfl (Nat.le_of_ble_eq_true rfl) dX5_does_34 ?_ 
    change zV Γ ad _ _ x y _ _ (zI (mRes y c) :: _)
    refine zV_istoren2 hX dX5_does_37 ?_
    refine zV_iloadn hX dX5_does_38 rfl ?_
    refine zV_bipush hX dX5_does_39 (by decide) ?_
    refine zV_icmp_ne (tgt := 52) hX dX5_does_41 (by decide) (by unfold mRes; omega) (by decide) (fun b41 => ?_) (fun b41 => ?_)
    · refine zV_aloadn hX dX5_does_52 rfl ?_
      refine zV_iloadn hX dX5_does_53 rfl ?_
      refine zV_cVS (n := 1) hX rfl hN 20 rfl rfl ⟨by decide, by decide⟩ (c_X5_keptAt (c := c) ⟨by omega, by omega, by omega, by omega, by omega⟩ (by omega)) zw_co_yX5_keptAt zw_mX5_191 zw_in_RX5 zw_im_yX5_keptAt zw_se_yX5_keptAt ⟨by decide, by decide, by decide +kernel⟩ rfl (by omega) (by decide) (by omega) (by omega) rfl (Nat.le_of_ble_eq_true rfl) dX5_does_54 ?_ 
      refine zV_if_lt (tgt := 88) hX dX5_does_57 (by decide) (by omega) (fun b57 => ?_) (fun b57 => ?_)
      · refine zV_aloadn hX dX5_does_88 rfl ?_
        refine zV_aloadn hX dX5_does_89 rfl ?_
        refine GF_X5_39 hX  dX5_does_90 ?_
        refine zV_iloadn hX dX5_does_93 rfl ?_
        refine AL_31 hX  ⟨by omega, by omega⟩ dX5_does_94 (fun r94 => ?_)
        refine zV_cVS (n := 1) hX rfl hN 20 rfl rfl ⟨by decide, by decide⟩ (c_X5_kernelFor (by omega) hI) zw_co_yX5_kernelFor zw_mX5_198 zw_in_RX5 zw_im_yX5_kernelFor zw_se_yX5_kernelFor ⟨by decide, by decide, by decide +kernel⟩ rfl (by omega) (by decide) (by omega) (by omega) rfl (Nat.le_of_ble_eq_true rfl) dX5_does_95 ?_ 
        change zV Γ ad _ _ x y _ _ (zI (mKer y c) :: _)
        refine zV_istoren3 hX dX5_does_98 ?_
        refine zV_iloadn hX dX5_does_99 rfl ?_
        refine zV_if_ge (tgt := 106) hX dX5_does_100 (by decide) (by omega) (fun b100 => ?_) (fun b100 => ?_)
        · refine zV_aloadn hX dX5_does_106 rfl ?_
          refine zV_iloadn hX dX5_does_107 rfl ?_
          refine zV_iloadn hX dX5_does_108 rfl ?_
          refine zV_cVV (n := 2) hX rfl hN 20 rfl rfl ⟨by decide, by decide⟩ (c_X5_takes (c := c) (k := mKer y c) (by omega) (by omega) (by omega) (by omega) (by omega) ⟨by omega, hroom (by omega)⟩) zw_co_yX5_takes zw_mX5_201 zw_in_RX5 zw_im_yX5_takes zw_se_yX5_takes ⟨by decide, by decide, by decide +kernel⟩ rfl (by omega) (by decide) (by omega) (by omega) rfl (Nat.le_of_ble_eq_true rfl) dX5_does_109 ?_ 
          refine zV_aloadn hX dX5_does_112 rfl ?_
          refine zV_iloadn hX dX5_does_113 rfl ?_
          refine zV_iloadn hX dX5_does_114 rfl ?_
          refine zV_cVV (n := 2) hX rfl hN 20 rfl rfl ⟨by decide, by decide⟩ (c_X5_keeps (c := c) (r := mRes y c) (by unfold mRes; omega) (by simp only [mTakes_r (k := 27) (by decide), mTakes_r (k := 28) (by decide), mTakes_r (k := 30) (by decide), mTakes_r (k := 38) (by decide), mTakes_r (k := 23) (by decide), mKeeps_r (k := 27) (by decide), mKeeps_r (k := 28) (by decide), mKeeps_r (k := 30) (by decide), mKeeps_r (k := 23) (by decide), mSec]; omega) (by simp only [mTakes_r (k := 27) (by decide), mTakes_r (k := 28) (by decide), mTakes_r (k := 30) (by decide), mTakes_r (k := 38) (by decide), mTakes_r (k := 23) (by decide), mKeeps_r (k := 27) (by decide), mKeeps_r (k := 28) (by decide), mKeeps_r (k := 30) (by decide), mKeeps_r (k := 23) (by decide), mSec] at hs ⊢; omega)) zw_co_yX5_keeps zw_mX5_204 zw_in_RX5 zw_im_yX5_keeps zw_se_yX5_keeps ⟨by decide, by decide, by decide +kernel⟩ rfl (by omega) (by decide) (by omega) (by omega) rfl (Nat.le_of_ble_eq_true rfl) dX5_does_115 ?_ 
          refine zV_aloadn hX dX5_does_118 rfl ?_
          refine zV_iloadn hX dX5_does_119 rfl ?_
          refine zV_iloadn hX dX5_does_120 rfl ?_
          refine zV_cVV (n := 2) hX rfl hN 20 rfl rfl ⟨by decide, by decide⟩ (c_X5_has (c := c) (r := mRes y c) (by unfold mRes; omega) ⟨by omega, by simp only [mTakes_r (k := 27) (by decide), mTakes_r (k := 28) (by decide), mTakes_r (k := 30) (by decide), mTakes_r (k := 38) (by decide), mTakes_r (k := 23) (by decide), mKeeps_r (k := 27) (by decide), mKeeps_r (k := 28) (by decide), mKeeps_r (k := 30) (by decide), mKeeps_r (k := 23) (by decide), mSec]; omega, by simp only [mTakes_r (k := 27) (by decide), mTakes_r (k := 28) (by decide), mTakes_r (k := 30) (by decide), mTakes_r (k := 38) (by decide), mTakes_r (k := 23) (by decide), mKeeps_r (k := 27) (by decide), mKeeps_r (k := 28) (by decide), mKeeps_r (k := 30) (by decide), mKeeps_r (k := 23) (by decide), mSec]; omega, by simp only [mTakes_r (k := 27) (by decide), mTakes_r (k := 28) (by decide), mTakes_r (k := 30) (by decide), mTakes_r (k := 38) (by decide), mTakes_r (k := 23) (by decide), mKeeps_r (k := 27) (by decide), mKeeps_r (k := 28) (by decide), mKeeps_r (k := 30) (by decide), mKeeps_r (k := 23) (by decide), mSec]; omega⟩ (by simp only [mTakes_r (k := 27) (by decide), mTakes_r (k := 28) (by decide), mTakes_r (k := 30) (by decide), mTakes_r (k := 38) (by decide), mTakes_r (k := 23) (by decide), mKeeps_r (k := 27) (by decide), mKeeps_r (k := 28) (by decide), mKeeps_r (k := 30) (by decide), mKeeps_r (k := 23) (by decide), mSec] at hs ⊢; omega)) zw_co_yX5_has zw_mX5_194 zw_in_RX5 zw_im_yX5_has zw_se_yX5_has ⟨by decide, by decide, by decide +kernel⟩ rfl (by omega) (by decide) (by omega) (by omega) rfl (Nat.le_of_ble_eq_true rfl) dX5_does_121 ?_ 
          refine zV_bipush hX dX5_does_124 (by decide) ?_
          exact zV_iret hX hM (by omega) (by omega) (zn_char (by omega)) dX5_does_126 (zpS_j (by unfold mDoR; rw [if_neg b5, if_neg b41, if_neg (by omega), if_neg (by omega)]) rfl (by unfold mDoS; rw [if_neg b5, if_neg b41, if_neg (by omega), if_neg (by omega)]))
        · refine zV_bipush hX dX5_does_103 (by decide) ?_
          exact zV_iret hX hM (by omega) (by omega) (zn_char (by omega)) dX5_does_105 (zpS_j (by unfold mDoR; rw [if_neg b5, if_neg b41, if_neg (by omega), if_pos (by omega)]) rfl (by unfold mDoS; rw [if_neg b5, if_neg b41, if_neg (by omega), if_pos (by omega)]))
      · refine zV_aloadn hX dX5_does_60 rfl ?_
        refine GF_X5_63 hX  dX5_does_61 ?_
        refine zV_iloadn hX dX5_does_64 rfl ?_
        refine zV_dup2 hX dX5_does_65 rfl rfl ?_
        refine AL_39 hX  ⟨by omega, by omega⟩ dX5_does_66 (fun r66 => ?_)
        refine zV_iconst hX dX5_does_67 ?_
        refine zV_iadd hX dX5_does_68 ?_
        refine AS_39 hX  ⟨by omega, by omega⟩ (by omega) dX5_does_69 ?_
        refine zV_aloadn hX dX5_does_70 rfl ?_
        refine zV_iloadn hX dX5_does_71 rfl ?_
        refine zV_aloadn hX dX5_does_72 rfl ?_
        refine GF_X5_87 hX  dX5_does_73 ?_
        refine zV_aloadn hX dX5_does_76 rfl ?_
        refine zV_iloadn hX dX5_does_77 rfl ?_
        refine zV_cVS (n := 1) hX rfl hN 20 rfl rfl ⟨by decide, by decide⟩ (c_X5_keptAt (c := c) (by simp only [zup_d, Nat.reduceEqDiff, false_and, if_false]; omega) (by simp only [mSec, zup_d, Nat.reduceEqDiff, false_and, if_false] at hs ⊢; omega)) zw_co_yX5_keptAt zw_mX5_191 zw_in_RX5 zw_im_yX5_keptAt zw_se_yX5_keptAt ⟨by decide, by decide, by decide +kernel⟩ rfl (by omega) (by decide) (by omega) (by omega) rfl (Nat.le_of_ble_eq_true rfl) dX5_does_78 ?_ 
        rw [mKept_again]
        refine AL_47 hX  ⟨by omega, by omega⟩ dX5_does_81 (fun r81 => ?_)
        try simp only [zup_d, Nat.reduceEqDiff, Int.reduceEq, reduceCtorEq, false_and, true_and, and_true, and_false, and_self, if_false, if_true, Int.reduceNeg] at r81 ⊢
        refine zV_cVV (n := 2) hX rfl hN 20 rfl rfl ⟨by decide, by decide⟩ (c_X5_has (c := c) (by omega) (by simp only [zup_d, Nat.reduceEqDiff, false_and, if_false]; omega) (by simp only [mSec, zup_d, Nat.reduceEqDiff, false_and, if_false] at hs ⊢; omega)) zw_co_yX5_has zw_mX5_194 zw_in_RX5 zw_im_yX5_has zw_se_yX5_has ⟨by decide, by decide, by decide +kernel⟩ rfl (by omega) (by decide) (by omega) (by omega) rfl (Nat.le_of_ble_eq_true rfl) dX5_does_82 ?_ 
        refine zV_bipush hX dX5_does_85 (by decide) ?_
        exact zV_iret hX hM (by omega) (by omega) (zn_char (by omega)) dX5_does_87 (zpS_j (by unfold mDoR; rw [if_neg b5, if_neg b41, if_pos (by omega)]) rfl (by unfold mDoS; rw [if_neg b5, if_neg b41, if_pos (by omega)]))
    · refine zV_aloadn hX dX5_does_44 rfl ?_
      refine zV_iloadn hX dX5_does_45 rfl ?_
      refine zV_bipush hX dX5_does_46 (by decide) ?_
      refine zV_cVS (n := 2) hX rfl hN 20 rfl rfl ⟨by decide, by decide⟩ (c_X5_failed_z (c := c) (by omega) (by omega)) zw_co_yX5_failed zw_mX5_187 zw_in_RX5 zw_im_yX5_failed zw_se_yX5_failed ⟨by decide, by decide, by decide +kernel⟩ rfl (by omega) (by decide) (by omega) (by omega) rfl (Nat.le_of_ble_eq_true rfl) dX5_does_48 ?_ 
      exact zV_iret hX hM (by omega) (by omega) (zn_char (by omega)) dX5_does_51 (zpS_j (by unfold mDoR; rw [if_neg b5, if_pos b41]) rfl (by unfold mDoS; rw [if_neg b5, if_pos b41]))
  · refine zV_aloadn hX dX5_does_8 rfl ?_
    refine zV_iloadn hX dX5_does_9 rfl ?_
    refine zV_bipush hX dX5_does_10 (by decide) ?_
    refine zV_cVS (n := 2) hX rfl hN 20 rfl rfl ⟨by decide, by decide⟩ (c_X5_failed_m (c := c) ⟨by omega, by have := lk b5; omega, by omega, by omega, by omega⟩ (by have := lk b5; omega) (fun g => by have h1 := lk b5; have h2 := cc _ g h1.2.2; omega)) zw_co_yX5_failed zw_mX5_187 zw_in_RX5 zw_im_yX5_failed zw_se_yX5_failed ⟨by decide, by decide, by decide +kernel⟩ rfl (by omega) (by decide) (by omega) (by omega) rfl (Nat.le_of_ble_eq_true rfl) dX5_does_12 ?_ 
    exact zV_iret hX hM (by omega) (by omega) (zn_char (by omega)) dX5_does_15 (zpS_j (by unfold mDoR; rw [if_pos b5]) rfl (by unfold mDoS; rw [if_pos b5]))
