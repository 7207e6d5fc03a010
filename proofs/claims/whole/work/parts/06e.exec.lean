set_option maxRecDepth 100000 in
set_option maxHeartbeats 4000000 in
theorem c_X4_execute {ad : Nat → Int → Nat} {x y : zSt} {c : Int} (hc : 0 ≤ c ∧ c < x 0 0 9) (hw1 : x 3 0 (x 9 c 1) < c) (hw2 : x 9 c 2 ≠ -1 → x 3 0 (x 9 c 2) < c) (hI : xI x) : zC yX4_execute cX4_execute 9 (some .char) 3 0 0 [.ref (ad 0 0), zI c, .ref (ad 9 c)] ad x y (zpS (xExeR x c) (xExeS x c) y) (zF) := by
  refine zC_ofV (by decide) (by intro v hv; simp only [List.mem_cons, List.not_mem_nil, or_false] at hv; rcases hv with rfl | rfl | rfl <;> rfl) (Nat.le_of_ble_eq_true rfl) (fun Γ hX hN hM hT => ?_)
  show zV Γ ad 0 0 x y 0 [some (.ref (ad 0 0)), some (zI c), some (.ref (ad 9 c)), none, none, none, none, none, none] []
  obtain ⟨i1, i2, i3, i4, i5, i6, i7, i8, i9, i10, i11⟩ := id hI
  have w1 := i6 c hc.1 hc.2
  have w8 := i8 c hc.1 hc.2
  have v1 := (i5 (x 9 c 1) (by omega) (by omega)).2.1
  have v2 : x 9 c 2 ≠ -1 → _ := fun h => (i5 (x 9 c 2) (by omega) (by omega)).2.1
  have fm1 : xFm x 1 c ≠ -1 → 0 ≤ xFm x 1 c ∧ xFm x 1 c ≤ 11 ∧ x 3 0 (xFm x 1 c) ≠ c := by
    intro h
    unfold xFm at h ⊢
    split
    · omega
    · rename_i h1
      rw [if_neg h1] at h
      split
      · rename_i h2
        have := hw2 h2.1
        omega
      · rename_i h2
        rw [if_neg h2] at h
        omega
  have fmb : zR (xFm x 1 c) := by
    unfold xFm
    split
    · omega
    · split <;> omega
  have fm0 : xFm x 1 c = -1 → (0 ≤ xA x c ∧ xA x c ≤ 999) ∧ (x 9 c 2 ≠ -1 → 0 ≤ xB x c ∧ xB x c ≤ 999) := by
    intro h
    unfold xFm at h
    unfold xA xB xVa
    split at h
    · omega
    · split at h
      · omega
      · rename_i h1 h2
        refine ⟨by omega, fun h3 => ?_⟩
        have := v2 h3
        rw [if_neg h3]
        omega
  have hbR : zR (xB x c) := by
    unfold xB xVa
    split
    · omega
    · have := v2 (by assumption)
      omega
  have rb := xRes_b (x := x) (c := c) (a := xA x c) (b := xB x c)
  have kb : -1 ≤ xKer x c ∧ xKer x c < ((x 0 0 10).toNat : Int) := xKf_b (x := x) (need := x 9 c 5) (x 0 0 10).toNat
  have hb : -1 ≤ xHit x c ∧ xHit x c ≤ 999 := xFnd_b (x := x) (c := c) (a := xA x c) (b := xB x c) (k := x 9 c 3) (fun i g1 g2 => i11 c i hc.1 hc.2 g1 g2) (x 11 c 4).toNat 0 (by omega) (by omega)
  refine zV_aloadn hX dX4_execute_0 rfl ?_
  refine zV_aloadn hX dX4_execute_1 rfl ?_
  refine GF_X4_9 hX  dX4_execute_2 ?_
  refine zV_cSS (n := 2) hX rfl hN (c_X4_firstMissing_v hc hI) zw_co_yX4_firstMissing zw_mX4_290 zw_in_RX4 zw_st_yX4_firstMissing ⟨by decide, by decide, by decide +kernel⟩ rfl (by omega) (by decide) (by omega) (by omega) rfl (Nat.le_of_ble_eq_true rfl) dX4_execute_5 ?_ 
  refine zV_istoren3 hX dX4_execute_8 ?_
  refine zV_iloadn hX dX4_execute_9 rfl ?_
  refine zV_iconst hX dX4_execute_10 ?_
  refine zV_icmp_eq (tgt := 24) hX dX4_execute_11 (by decide) (by omega) (by omega) (fun b11 => ?_) (fun b11 => ?_)
  · refine zV_aloadn hX dX4_execute_24 rfl ?_
    refine GF_X4_9 hX  dX4_execute_25 ?_
    refine zV_aloadn hX dX4_execute_28 rfl ?_
    refine GF_X4_100 hX ⟨by omega, by omega⟩ dX4_execute_29 (fun r29 => ?_)
    refine AL_1 hX  ⟨by omega, by omega⟩ dX4_execute_32 (fun r32 => ?_)
    change zV Γ ad _ _ x y _ _ (zI (xA x c) :: _)
    refine zV_istore4 hX dX4_execute_33 ?_
    refine zV_aloadn hX dX4_execute_35 rfl ?_
    refine GF_X4_103 hX ⟨by omega, by omega⟩ dX4_execute_36 (fun r36 => ?_)
    refine zV_aloadn hX dX4_execute_39 rfl ?_
    refine GF_X4_9 hX  dX4_execute_40 ?_
    refine zV_cSS (n := 2) hX rfl hN (c_X4_valueIfAny_v ⟨by omega, by omega⟩) zw_co_yX4_valueIfAny zw_mX4_298 zw_in_RX4 zw_st_yX4_valueIfAny ⟨by decide, by decide, by decide +kernel⟩ rfl (by omega) (by decide) (by omega) (by omega) rfl (Nat.le_of_ble_eq_true rfl) dX4_execute_43 ?_ 
    change zV Γ ad _ _ x y _ _ (zI (xB x c) :: _)
    refine zV_istore5 hX dX4_execute_46 ?_
    refine zV_aloadn hX dX4_execute_48 rfl ?_
    refine zV_iload hX dX4_execute_49 rfl ?_
    refine zV_iload hX dX4_execute_51 rfl ?_
    refine zV_cSS (n := 3) hX rfl hN (c_X4_resultOf (a := xA x c) (b := xB x c) (fm0 b11).1 hbR (fm0 b11).2 hc hI) zw_co_yX4_resultOf zw_mX4_302 zw_in_RX4 zw_st_yX4_resultOf ⟨by decide, by decide, by decide +kernel⟩ rfl (by omega) (by decide) (by omega) (by omega) rfl (Nat.le_of_ble_eq_true rfl) dX4_execute_53 ?_ 
    change zV Γ ad _ _ x y _ _ (zI (xRes x c (xA x c) (xB x c)) :: _)
    refine zV_istore6 hX dX4_execute_56 ?_
    refine zV_iload hX dX4_execute_58 rfl ?_
    refine zV_iconst hX dX4_execute_60 ?_
    refine zV_icmp_ne (tgt := 84) hX dX4_execute_61 (by decide) (by omega) (by omega) (fun b61 => ?_) (fun b61 => ?_)
    · refine zV_aloadn hX dX4_execute_84 rfl ?_
      refine GF_X4_314 hX ⟨by omega, by omega⟩ dX4_execute_85 ?_
      refine zV_iload hX dX4_execute_88 rfl ?_
      refine zV_iload hX dX4_execute_90 rfl ?_
      refine zV_aloadn hX dX4_execute_92 rfl ?_
      refine GF_X4_106 hX ⟨by omega, by omega⟩ dX4_execute_93 (fun r93 => ?_)
      refine zV_cVS (n := 3) hX rfl hN 11 rfl rfl ⟨by omega, by omega⟩ (c_X3_find (c := c) (a := xA x c) (b := xB x c) (k := x 9 c 3) (by omega) hbR (by omega) hc hI) zw_co_yX3_find zw_mX4_318 zw_in_RX3 zw_im_yX3_find zw_se_yX3_find ⟨by decide, by decide, by decide +kernel⟩ rfl (by omega) (by decide) (by omega) (by omega) rfl (Nat.le_of_ble_eq_true rfl) dX4_execute_96 ?_ 
      change zV Γ ad _ _ x y _ _ (zI (xHit x c) :: _)
      refine zV_istore7 hX dX4_execute_99 ?_
      refine zV_iload hX dX4_execute_101 rfl ?_
      refine zV_iconst hX dX4_execute_103 ?_
      refine zV_icmp_eq (tgt := 131) hX dX4_execute_104 (by decide) (by omega) (by decide) (fun b104 => ?_) (fun b104 => ?_)
      · refine zV_aloadn hX dX4_execute_131 rfl ?_
        refine zV_aloadn hX dX4_execute_132 rfl ?_
        refine GF_X4_112 hX ⟨by omega, by omega⟩ dX4_execute_133 (fun r133 => ?_)
        refine zV_cVS (n := 1) hX rfl hN 0 rfl rfl ⟨by decide, by decide⟩ (c_X4_kernelFor (by omega) hI) zw_co_yX4_kernelFor zw_mX4_328 zw_in_RX4 zw_im_yX4_kernelFor zw_se_yX4_kernelFor ⟨by decide, by decide, by decide +kernel⟩ rfl (by omega) (by decide) (by omega) (by omega) rfl (Nat.le_of_ble_eq_true rfl) dX4_execute_136 ?_ 
        change zV Γ ad _ _ x y _ _ (zI (xKer x c) :: _)
        refine zV_istore8 hX dX4_execute_139 ?_
        refine zV_iload hX dX4_execute_141 rfl ?_
        refine zV_iconst hX dX4_execute_143 ?_
        refine zV_icmp_ne (tgt := 150) hX dX4_execute_144 (by decide) (by omega) (by decide) (fun b144 => ?_) (fun b144 => ?_)
        · refine zV_aloadn hX dX4_execute_150 rfl ?_
          refine GF_X4_30 hX  dX4_execute_151 ?_
          refine zV_iload hX dX4_execute_154 rfl ?_
          refine AL_6 hX  ⟨by omega, by omega⟩ dX4_execute_156 ?_
          refine zV_aloadn hX dX4_execute_157 rfl ?_
          refine GF_X4_112 hX ⟨by omega, by omega⟩ dX4_execute_158 (fun r158 => ?_)
          refine zV_aloadn hX dX4_execute_161 rfl ?_
          refine GF_X4_221 hX  dX4_execute_162 (fun r162 => ?_)
          refine zV_aloadn hX dX4_execute_165 rfl ?_
          refine GF_X4_115 hX ⟨by omega, by omega⟩ dX4_execute_166 (fun r166 => ?_)
          refine zV_iadd hX dX4_execute_169 ?_
          refine zV_cVV (n := 2) hX rfl hN 16 rfl rfl ⟨by omega, by omega⟩ (c_X2_take (k := xKer x c) ⟨by omega, by omega⟩ ⟨by omega, by omega⟩ ⟨by omega, by omega⟩ hI) zw_co_yX2_take zw_mX4_331 zw_in_RX2 zw_im_yX2_take zw_se_yX2_take ⟨by decide, by decide, by decide +kernel⟩ rfl (by omega) (by decide) (by omega) (by omega) rfl (Nat.le_of_ble_eq_true rfl) dX4_execute_170 ?_ 
          refine zV_aloadn hX dX4_execute_173 rfl ?_
          refine zV_dup hX dX4_execute_174 rfl ?_
          refine GF_X4_232 hX  dX4_execute_175 ?_
          try simp only [xKeep_r (k := 9) (Or.inl (by decide)), xTake_r (k := 9) (by decide) (by decide), xTake_r (k := 0) (by decide) (by decide), xTake_r (k := 11) (by decide) (by decide), zup_d, Nat.reduceEqDiff, Int.reduceEq, false_and, and_false, true_and, and_true, if_false, if_true]
          refine zV_aloadn hX dX4_execute_178 rfl ?_
          refine GF_X4_112 hX ⟨by omega, by omega⟩ dX4_execute_179 (fun r179 => ?_)
          refine zV_i2l hX dX4_execute_182 (by omega) ?_
          refine zV_aloadn hX dX4_execute_183 rfl ?_
          refine GF_X4_115 hX ⟨by omega, by omega⟩ dX4_execute_184 (fun r184 => ?_)
          refine zV_i2l hX dX4_execute_187 (by omega) ?_
          refine zV_lmul hX dX4_execute_188 ?_
          refine zV_ladd hX dX4_execute_189 ?_
          refine PF_X4_232 hX   dX4_execute_190 ?_
          refine zV_aloadn hX dX4_execute_193 rfl ?_
          refine zV_dup hX dX4_execute_194 rfl ?_
          refine GF_X4_167 hX ⟨by omega, by omega⟩ dX4_execute_195 (fun r195 => ?_)
          try simp only [zup_d, Nat.reduceEqDiff, Int.reduceEq, reduceCtorEq, false_and, true_and, and_true, and_false, and_self, if_false, if_true, Int.reduceNeg] at r195 ⊢
          try simp only [xKeep_r (k := 9) (Or.inl (by decide)), xTake_r (k := 9) (by decide) (by decide), xTake_r (k := 0) (by decide) (by decide), xTake_r (k := 11) (by decide) (by decide), zup_d, Nat.reduceEqDiff, Int.reduceEq, false_and, and_false, true_and, and_true, if_false, if_true]
          refine zV_iconst hX dX4_execute_198 ?_
          refine zV_iadd hX dX4_execute_199 ?_
          refine PF_X4_167 hX ⟨by omega, by omega⟩ (by omega) dX4_execute_200 ?_
          refine zV_aloadn hX dX4_execute_203 rfl ?_
          refine GF_X4_314 hX ⟨by omega, by omega⟩ dX4_execute_204 ?_
          refine zV_iload hX dX4_execute_207 rfl ?_
          refine zV_iload hX dX4_execute_209 rfl ?_
          refine zV_aloadn hX dX4_execute_211 rfl ?_
          refine GF_X4_106 hX ⟨by omega, by omega⟩ dX4_execute_212 (fun r212 => ?_)
          try simp only [zup_d, Nat.reduceEqDiff, Int.reduceEq, reduceCtorEq, false_and, true_and, and_true, and_false, and_self, if_false, if_true, Int.reduceNeg] at r212 ⊢
          refine zV_iload hX dX4_execute_215 rfl ?_
          refine zV_cVV (n := 4) hX rfl hN 11 rfl rfl ⟨by omega, by omega⟩ (c_X3_keep (c := c) (a := xA x c) (b := xB x c) (k := x 9 c 3) (r := xRes x c (xA x c) (xB x c)) (by omega) hbR (by omega) (by omega) ⟨by omega, by omega⟩ (by simp only [xKeep_r (k := 9) (Or.inl (by decide)), xTake_r (k := 9) (by decide) (by decide), xTake_r (k := 0) (by decide) (by decide), xTake_r (k := 11) (by decide) (by decide), zup_d, Nat.reduceEqDiff, Int.reduceEq, false_and, and_false, true_and, and_true, if_false, if_true]; omega)) zw_co_yX3_keep zw_mX4_335 zw_in_RX3 zw_im_yX3_keep zw_se_yX3_keep ⟨by decide, by decide, by decide +kernel⟩ rfl (by omega) (by decide) (by omega) (by omega) rfl (Nat.le_of_ble_eq_true rfl) dX4_execute_217 ?_ 
          try simp only [xKeep_r (k := 9) (Or.inl (by decide)), xTake_r (k := 9) (by decide) (by decide), xTake_r (k := 0) (by decide) (by decide), xTake_r (k := 11) (by decide) (by decide), zup_d, Nat.reduceEqDiff, Int.reduceEq, false_and, and_false, true_and, and_true, if_false, if_true]
          refine zV_aloadn hX dX4_execute_220 rfl ?_
          refine zV_aloadn hX dX4_execute_221 rfl ?_
          refine zV_iload hX dX4_execute_222 rfl ?_
          refine zV_iload hX dX4_execute_224 rfl ?_
          refine zV_iload hX dX4_execute_226 rfl ?_
          refine zV_cVV (n := 4) hX rfl hN 0 rfl rfl ⟨by decide, by decide⟩ (c_X4_succeedWith (c := c) (a := xA x c) (b := xB x c) (r := xRes x c (xA x c) (xB x c)) (by omega) hbR (by omega) ⟨by omega, by omega⟩ (by simp only [xKeep_r (k := 9) (Or.inl (by decide)), xTake_r (k := 9) (by decide) (by decide), xTake_r (k := 0) (by decide) (by decide), xTake_r (k := 11) (by decide) (by decide), zup_d, Nat.reduceEqDiff, Int.reduceEq, false_and, and_false, true_and, and_true, if_false, if_true]; omega)) zw_co_yX4_succeedWith zw_mX4_324 zw_in_RX4 zw_im_yX4_succeedWith zw_se_yX4_succeedWith ⟨by decide, by decide, by decide +kernel⟩ rfl (by omega) (by decide) (by omega) (by omega) rfl (Nat.le_of_ble_eq_true rfl) dX4_execute_228 ?_ 
          refine zV_bipush hX dX4_execute_231 (by decide) ?_
          exact zV_iret hX hM (by omega) (by omega) (zn_char (by omega)) dX4_execute_233 (zpS_j (by unfold xExeR; rw [if_neg (by omega), if_neg b61, if_neg (by omega), if_neg b144]) (by unfold xExeS; rw [if_neg (by omega), if_neg b61, if_neg (by omega), if_neg b144]; rfl) rfl)
        · refine zV_bipush hX dX4_execute_147 (by decide) ?_
          exact zV_iret hX hM (by omega) (by omega) (zn_char (by omega)) dX4_execute_149 (zpS_j (by unfold xExeR; rw [if_neg (by omega), if_neg b61, if_neg (by omega), if_pos b144]) (by unfold xExeS; rw [if_neg (by omega), if_neg b61, if_neg (by omega), if_pos b144]) rfl)
      · refine zV_aloadn hX dX4_execute_107 rfl ?_
        refine zV_dup hX dX4_execute_108 rfl ?_
        refine GF_X4_170 hX ⟨by omega, by omega⟩ dX4_execute_109 (fun r109 => ?_)
        refine zV_iconst hX dX4_execute_112 ?_
        refine zV_iadd hX dX4_execute_113 ?_
        refine PF_X4_170 hX ⟨by omega, by omega⟩ (by omega) dX4_execute_114 ?_
        refine zV_aloadn hX dX4_execute_117 rfl ?_
        refine zV_aloadn hX dX4_execute_118 rfl ?_
        refine zV_iload hX dX4_execute_119 rfl ?_
        refine zV_iload hX dX4_execute_121 rfl ?_
        refine zV_iload hX dX4_execute_123 rfl ?_
        refine zV_cVV (n := 4) hX rfl hN 0 rfl rfl ⟨by decide, by decide⟩ (c_X4_succeedWith (c := c) (a := xA x c) (b := xB x c) (r := xHit x c) (by omega) hbR (by omega) ⟨by omega, by omega⟩ (by simp only [zup_d, Int.reduceEq, and_false, if_false]; omega)) zw_co_yX4_succeedWith zw_mX4_324 zw_in_RX4 zw_im_yX4_succeedWith zw_se_yX4_succeedWith ⟨by decide, by decide, by decide +kernel⟩ rfl (by omega) (by decide) (by omega) (by omega) rfl (Nat.le_of_ble_eq_true rfl) dX4_execute_125 ?_ 
        refine zV_bipush hX dX4_execute_128 (by decide) ?_
        exact zV_iret hX hM (by omega) (by omega) (zn_char (by omega)) dX4_execute_130 (zpS_j (by unfold xExeR; rw [if_neg (by omega), if_neg b61, if_pos b104]) (by unfold xExeS; rw [if_neg (by omega), if_neg b61, if_pos b104]) rfl)
    · refine zV_aloadn hX dX4_execute_64 rfl ?_
      refine GF_X4_274 hX ⟨by omega, by omega⟩ dX4_execute_65 ?_
      refine zV_iloadn hX dX4_execute_68 rfl ?_
      refine zV_bipush hX dX4_execute_69 (by decide) ?_
      refine zV_cVV (n := 2) hX rfl hN 10 rfl rfl ⟨by omega, by omega⟩ (c_X1_setWithoutCause (i := c) (c := c) ⟨by omega, by omega⟩ (by omega) ⟨by decide, by decide⟩) zw_co_yX1_setWithoutCause zw_mX4_306 zw_in_RX1 zw_im_yX1_setWithoutCause zw_se_yX1_setWithoutCause ⟨by decide, by decide, by decide +kernel⟩ rfl (by omega) (by decide) (by omega) (by omega) rfl (Nat.le_of_ble_eq_true rfl) dX4_execute_71 ?_ 
      refine zV_aloadn hX dX4_execute_74 rfl ?_
      refine zV_aloadn hX dX4_execute_75 rfl ?_
      refine zV_iconst hX dX4_execute_76 ?_
      refine zV_iconst hX dX4_execute_77 ?_
      refine zV_cVV (n := 3) hX rfl hN 0 rfl rfl ⟨by decide, by decide⟩ (c_X4_endWith (c := c) (by decide) (by decide) ⟨by omega, by omega⟩ (by simp only [xSwc_r (k := 9) (by decide)]; omega)) zw_co_yX4_endWith zw_mX4_310 zw_in_RX4 zw_im_yX4_endWith zw_se_yX4_endWith ⟨by decide, by decide, by decide +kernel⟩ rfl (by omega) (by decide) (by omega) (by omega) rfl (Nat.le_of_ble_eq_true rfl) dX4_execute_78 ?_ 
      refine zV_bipush hX dX4_execute_81 (by decide) ?_
      exact zV_iret hX hM (by omega) (by omega) (zn_char (by omega)) dX4_execute_83 (zpS_j (by unfold xExeR; rw [if_neg (by omega), if_pos b61]) (by unfold xExeS; rw [if_neg (by omega), if_pos b61]) rfl)
  · refine zV_aloadn hX dX4_execute_14 rfl ?_
    refine zV_iloadn hX dX4_execute_15 rfl ?_
    refine zV_aloadn hX dX4_execute_16 rfl ?_
    refine zV_iloadn hX dX4_execute_17 rfl ?_
    refine zV_cVV (n := 3) hX rfl hN 0 rfl rfl ⟨by decide, by decide⟩ (c_X4_failForMissing (n := c) (c := c) (by omega) ⟨(fm1 b11).1, (fm1 b11).2.1⟩ (fm1 b11).2.2 hc hI) zw_co_yX4_failForMissing zw_mX4_294 zw_in_RX4 zw_im_yX4_failForMissing zw_se_yX4_failForMissing ⟨by decide, by decide, by decide +kernel⟩ rfl (by omega) (by decide) (by omega) (by omega) rfl (Nat.le_of_ble_eq_true rfl) dX4_execute_18 ?_ 
    refine zV_bipush hX dX4_execute_21 (by decide) ?_
    exact zV_iret hX hM (by omega) (by omega) (zn_char (by omega)) dX4_execute_23 (zpS_j (by unfold xExeR; rw [if_pos b11]) (by unfold xExeS; rw [if_pos b11]) rfl)
