set_option maxRecDepth 100000 in
set_option maxHeartbeats 4000000 in
theorem c_X4_addData {ad : Nat → Int → Nat} {x y : zSt} {v o w : Int} (hv : zR v) (ho : zR o) (hw : zR w) (hd : 0 ≤ x 0 0 8 ∧ x 0 0 8 ≤ 12) : zC yX4_addData cX4_addData 4 (some .int) 7 1 6 [.ref (ad 0 0), zI v, zI o, zI w] ad x y (zpSG ((0 ≤ v ∧ v ≤ 11) ∧ (0 ≤ o ∧ o ≤ 3) ∧ (0 ≤ w ∧ w ≤ 999) ∧ ¬ (x 2 0 v ≠ -1 ∨ x 3 0 v ≠ -1)) (x 0 0 8 + 1) (zup (zup (zup x 2 0 v o) 1 0 v w) 0 0 8 (x 0 0 8 + 1)) y) (zpX (fun E => (E = "java/lang/IllegalArgumentException" ∧ ¬ ((0 ≤ v ∧ v ≤ 11) ∧ (0 ≤ o ∧ o ≤ 3) ∧ (0 ≤ w ∧ w ≤ 999))) ∨ (E = "java/lang/IllegalStateException" ∧ ((0 ≤ v ∧ v ≤ 11) ∧ (0 ≤ o ∧ o ≤ 3) ∧ (0 ≤ w ∧ w ≤ 999)) ∧ (x 2 0 v ≠ -1 ∨ x 3 0 v ≠ -1))) x y) := by
  refine zC_ofV (by decide) (by intro v hv; simp only [List.mem_cons, List.not_mem_nil, or_false] at hv; rcases hv with rfl | rfl | rfl | rfl <;> rfl) (Nat.le_of_ble_eq_true rfl) (fun Γ hX hN hM hT => ?_)
  show zV Γ ad 0 0 x y 0 [some (.ref (ad 0 0)), some (zI v), some (zI o), some (zI w)] []
  refine zV_iloadn hX dX4_addData_0 rfl ?_
  refine zV_cSS (n := 1) hX rfl hN (c_X4_isVariable (by omega) ) zw_co_yX4_isVariable zw_mX4_42 zw_in_RX4 zw_st_yX4_isVariable ⟨by decide, by decide, by decide +kernel⟩ rfl (by omega) (by decide) (by omega) (by omega) rfl (Nat.le_of_ble_eq_true rfl) dX4_addData_1 ?_ 
  refine zV_ifeq_b (tgt := 27) hX dX4_addData_4 (by decide) (fun b4 => ?_) (fun b4 => ?_)
  · exact zV_throw hX rfl hN (by omega) (by omega) (by omega) Bundle.six_0 Bundle.six_1 Bundle.six_2 Bundle.six_5 zat_IllegalArgumentException zw_cX4_50 zw_in_java_lang_IllegalArgumentException "the variable, the owner or the value is out of range" (by decide) (by decide) dX4_addData_27 dX4_addData_30 dX4_addData_31 dX4_addData_33 dX4_addData_36 (zVX_out hX hT hM (by omega) (by omega) (⟨Or.inl ⟨rfl, by first | omega | assumption⟩, rfl, rfl⟩))
  · refine zV_iloadn hX dX4_addData_7 rfl ?_
    refine zV_iconst hX dX4_addData_8 ?_
    refine zV_iconst hX dX4_addData_9 ?_
    refine zV_cSS (n := 3) hX rfl hN (c_X4_isWithin (by omega) (by omega) (by omega) ) zw_co_yX4_isWithin zw_mX4_46 zw_in_RX4 zw_st_yX4_isWithin ⟨by decide, by decide, by decide +kernel⟩ rfl (by omega) (by decide) (by omega) (by omega) rfl (Nat.le_of_ble_eq_true rfl) dX4_addData_10 ?_ 
    refine zV_ifeq_b (tgt := 27) hX dX4_addData_13 (by decide) (fun b13 => ?_) (fun b13 => ?_)
    · exact zV_throw hX rfl hN (by omega) (by omega) (by omega) Bundle.six_0 Bundle.six_1 Bundle.six_2 Bundle.six_5 zat_IllegalArgumentException zw_cX4_50 zw_in_java_lang_IllegalArgumentException "the variable, the owner or the value is out of range" (by decide) (by decide) dX4_addData_27 dX4_addData_30 dX4_addData_31 dX4_addData_33 dX4_addData_36 (zVX_out hX hT hM (by omega) (by omega) (⟨Or.inl ⟨rfl, by first | omega | assumption⟩, rfl, rfl⟩))
    · refine zV_iloadn hX dX4_addData_16 rfl ?_
      refine zV_iconst hX dX4_addData_17 ?_
      refine zV_sipush hX dX4_addData_18 (by decide) ?_
      refine zV_cSS (n := 3) hX rfl hN (c_X4_isWithin (by omega) (by omega) (by omega) ) zw_co_yX4_isWithin zw_mX4_46 zw_in_RX4 zw_st_yX4_isWithin ⟨by decide, by decide, by decide +kernel⟩ rfl (by omega) (by decide) (by omega) (by omega) rfl (Nat.le_of_ble_eq_true rfl) dX4_addData_21 ?_ 
      refine zV_ifne_b (tgt := 37) hX dX4_addData_24 (by decide) (fun b24 => ?_) (fun b24 => ?_)
      · refine zV_aloadn hX dX4_addData_37 rfl ?_
        refine zV_iloadn hX dX4_addData_38 rfl ?_
        refine zV_cVS (n := 1) hX rfl hN 0 rfl rfl ⟨by decide, by decide⟩ (c_X4_isDefined ⟨by omega, by omega⟩) zw_co_yX4_isDefined zw_mX4_57 zw_in_RX4 zw_im_yX4_isDefined zw_se_yX4_isDefined ⟨by decide, by decide, by decide +kernel⟩ rfl (by omega) (by decide) (by omega) (by omega) rfl (Nat.le_of_ble_eq_true rfl) dX4_addData_39 ?_ 
        refine zV_ifeq_b (tgt := 55) hX dX4_addData_42 (by decide) (fun b42 => ?_) (fun b42 => ?_)
        · refine zV_aloadn hX dX4_addData_55 rfl ?_
          refine GF_X4_13 hX  dX4_addData_56 ?_
          refine zV_iloadn hX dX4_addData_59 rfl ?_
          refine zV_iloadn hX dX4_addData_60 rfl ?_
          refine AS_2 hX  ⟨by omega, by omega⟩ (by omega) dX4_addData_61 ?_
          refine zV_aloadn hX dX4_addData_62 rfl ?_
          refine GF_X4_9 hX  dX4_addData_63 ?_
          refine zV_iloadn hX dX4_addData_66 rfl ?_
          refine zV_iloadn hX dX4_addData_67 rfl ?_
          refine AS_1 hX  ⟨by omega, by omega⟩ (by omega) dX4_addData_68 ?_
          refine zV_aloadn hX dX4_addData_69 rfl ?_
          refine zV_dup hX dX4_addData_70 rfl ?_
          refine GF_X4_65 hX  dX4_addData_71 (fun r71 => ?_)
          try simp only [zup_d, Nat.reduceEqDiff, Int.reduceEq, reduceCtorEq, false_and, true_and, and_true, and_false, and_self, if_false, if_true, Int.reduceNeg] at r71 ⊢
          refine zV_iconst hX dX4_addData_74 ?_
          refine zV_iadd hX dX4_addData_75 ?_
          refine PF_X4_65 hX  (by omega) dX4_addData_76 ?_
          refine zV_aloadn hX dX4_addData_79 rfl ?_
          refine GF_X4_65 hX  dX4_addData_80 (fun r80 => ?_)
          try simp only [zup_d, Nat.reduceEqDiff, Int.reduceEq, reduceCtorEq, false_and, true_and, and_true, and_false, and_self, if_false, if_true, Int.reduceNeg] at r80 ⊢
          exact zV_iret hX hM (by omega) (by omega) rfl dX4_addData_83 (zpSG_j (by omega) (by first | rfl | omega) rfl rfl)
        · exact zV_throw hX rfl hN (by omega) (by omega) (by omega) Bundle.six_0 Bundle.six_1 Bundle.six_2 Bundle.six_5 zat_IllegalStateException zw_cX4_60 zw_in_java_lang_IllegalStateException "the variable is data or is written by a cell" (by decide) (by decide) dX4_addData_45 dX4_addData_48 dX4_addData_49 dX4_addData_51 dX4_addData_54 (zVX_out hX hT hM (by omega) (by omega) (⟨Or.inr (⟨rfl, by first | omega | assumption⟩), rfl, rfl⟩))
      · exact zV_throw hX rfl hN (by omega) (by omega) (by omega) Bundle.six_0 Bundle.six_1 Bundle.six_2 Bundle.six_5 zat_IllegalArgumentException zw_cX4_50 zw_in_java_lang_IllegalArgumentException "the variable, the owner or the value is out of range" (by decide) (by decide) dX4_addData_27 dX4_addData_30 dX4_addData_31 dX4_addData_33 dX4_addData_36 (zVX_out hX hT hM (by omega) (by omega) (⟨Or.inl ⟨rfl, by first | omega | assumption⟩, rfl, rfl⟩))
set_option maxRecDepth 100000 in
set_option maxHeartbeats 4000000 in
theorem c_X4_setData {ad : Nat → Int → Nat} {x y : zSt} {v w : Int} (hv : zR v) (hw : zR w) : zC yX4_setData cX4_setData 4 (some .int) 7 2 12 [.ref (ad 0 0), zI v, zI w] ad x y (zpSG ((0 ≤ v ∧ v ≤ 11) ∧ (0 ≤ w ∧ w ≤ 999) ∧ x 2 0 v ≠ -1) (x 1 0 v) (zup x 1 0 v w) y) (zpX (fun E => (E = "java/lang/IllegalArgumentException" ∧ ¬ ((0 ≤ v ∧ v ≤ 11) ∧ (0 ≤ w ∧ w ≤ 999))) ∨ (E = "java/util/NoSuchElementException" ∧ ((0 ≤ v ∧ v ≤ 11) ∧ (0 ≤ w ∧ w ≤ 999)) ∧ ¬ x 2 0 v ≠ -1)) x y) := by
  refine zC_ofV (by decide) (by intro v hv; simp only [List.mem_cons, List.not_mem_nil, or_false] at hv; rcases hv with rfl | rfl | rfl <;> rfl) (Nat.le_of_ble_eq_true rfl) (fun Γ hX hN hM hT => ?_)
  show zV Γ ad 0 0 x y 0 [some (.ref (ad 0 0)), some (zI v), some (zI w), none] []
  refine zV_iloadn hX dX4_setData_0 rfl ?_
  refine zV_cSS (n := 1) hX rfl hN (c_X4_isVariable (by omega) ) zw_co_yX4_isVariable zw_mX4_42 zw_in_RX4 zw_st_yX4_isVariable ⟨by decide, by decide, by decide +kernel⟩ rfl (by omega) (by decide) (by omega) (by omega) rfl (Nat.le_of_ble_eq_true rfl) dX4_setData_1 ?_ 
  refine zV_ifeq_b (tgt := 18) hX dX4_setData_4 (by decide) (fun b4 => ?_) (fun b4 => ?_)
  · exact zV_throw hX rfl hN (by omega) (by omega) (by omega) Bundle.six_0 Bundle.six_1 Bundle.six_2 Bundle.six_5 zat_IllegalArgumentException zw_cX4_50 zw_in_java_lang_IllegalArgumentException "the variable or the value is out of range" (by decide) (by decide) dX4_setData_18 dX4_setData_21 dX4_setData_22 dX4_setData_24 dX4_setData_27 (zVX_out hX hT hM (by omega) (by omega) (⟨Or.inl ⟨rfl, by first | omega | assumption⟩, rfl, rfl⟩))
  · refine zV_iloadn hX dX4_setData_7 rfl ?_
    refine zV_iconst hX dX4_setData_8 ?_
    refine zV_sipush hX dX4_setData_9 (by decide) ?_
    refine zV_cSS (n := 3) hX rfl hN (c_X4_isWithin (by omega) (by omega) (by omega) ) zw_co_yX4_isWithin zw_mX4_46 zw_in_RX4 zw_st_yX4_isWithin ⟨by decide, by decide, by decide +kernel⟩ rfl (by omega) (by decide) (by omega) (by omega) rfl (Nat.le_of_ble_eq_true rfl) dX4_setData_12 ?_ 
    refine zV_ifne_b (tgt := 28) hX dX4_setData_15 (by decide) (fun b15 => ?_) (fun b15 => ?_)
    · refine zV_aloadn hX dX4_setData_28 rfl ?_
      refine zV_iloadn hX dX4_setData_29 rfl ?_
      refine zV_cVGX (n := 1) hX rfl hN 0 rfl rfl ⟨by decide, by decide⟩ (c_X4_checkData ⟨by omega, by omega⟩) zw_co_yX4_checkData zw_mX4_71 zw_in_RX4 zw_im_yX4_checkData zw_se_yX4_checkData ⟨by decide, by decide, by decide +kernel⟩ rfl (by omega) (by decide) (by omega) (by omega) rfl (Nat.le_of_ble_eq_true rfl) dX4_setData_30 (fun g30 => ?_) (fun E30 x30 y30 p30 => ?_)
      · refine zV_aloadn hX dX4_setData_33 rfl ?_
        refine GF_X4_9 hX  dX4_setData_34 ?_
        refine zV_iloadn hX dX4_setData_37 rfl ?_
        refine AL_1 hX  ⟨by omega, by omega⟩ dX4_setData_38 (fun r38 => ?_)
        refine zV_istoren3 hX dX4_setData_39 ?_
        refine zV_aloadn hX dX4_setData_40 rfl ?_
        refine GF_X4_9 hX  dX4_setData_41 ?_
        refine zV_iloadn hX dX4_setData_44 rfl ?_
        refine zV_iloadn hX dX4_setData_45 rfl ?_
        refine AS_1 hX  ⟨by omega, by omega⟩ (by omega) dX4_setData_46 ?_
        refine zV_iloadn hX dX4_setData_47 rfl ?_
        exact zV_iret hX hM (by omega) (by omega) rfl dX4_setData_48 (zpSG_j (by omega) (by first | rfl | omega) rfl rfl)
      · obtain ⟨⟨rfl, q30⟩, rfl, rfl⟩ := p30
        exact zVX_out hX hT hM (by omega) (by omega) (⟨Or.inr (⟨rfl, by first | omega | assumption⟩), rfl, rfl⟩)
    · exact zV_throw hX rfl hN (by omega) (by omega) (by omega) Bundle.six_0 Bundle.six_1 Bundle.six_2 Bundle.six_5 zat_IllegalArgumentException zw_cX4_50 zw_in_java_lang_IllegalArgumentException "the variable or the value is out of range" (by decide) (by decide) dX4_setData_18 dX4_setData_21 dX4_setData_22 dX4_setData_24 dX4_setData_27 (zVX_out hX hT hM (by omega) (by omega) (⟨Or.inl ⟨rfl, by first | omega | assumption⟩, rfl, rfl⟩))
set_option maxRecDepth 100000 in
set_option maxHeartbeats 4000000 in
theorem c_X4_loseData {ad : Nat → Int → Nat} {x y : zSt} {v : Int} (hv : zR v) : zC yX4_loseData cX4_loseData 3 (some .int) 7 3 18 [.ref (ad 0 0), zI v] ad x y (zpSG ((0 ≤ v ∧ v ≤ 11) ∧ x 2 0 v ≠ -1 ∧ x 1 0 v ≠ -1) (x 1 0 v) (zup x 1 0 v (-1)) y) (zpX (fun E => (E = "java/lang/IllegalArgumentException" ∧ ¬ (0 ≤ v ∧ v ≤ 11)) ∨ (E = "java/util/NoSuchElementException" ∧ (0 ≤ v ∧ v ≤ 11) ∧ ¬ x 2 0 v ≠ -1) ∨ (E = "java/lang/IllegalStateException" ∧ (0 ≤ v ∧ v ≤ 11) ∧ x 2 0 v ≠ -1 ∧ x 1 0 v = -1)) x y) := by
  refine zC_ofV (by decide) (by intro v hv; simp only [List.mem_cons, List.not_mem_nil, or_false] at hv; rcases hv with rfl | rfl <;> rfl) (Nat.le_of_ble_eq_true rfl) (fun Γ hX hN hM hT => ?_)
  show zV Γ ad 0 0 x y 0 [some (.ref (ad 0 0)), some (zI v), none] []
  refine zV_iloadn hX dX4_loseData_0 rfl ?_
  refine zV_cSGX (n := 1) hX rfl hN (c_X4_checkVariable (by omega) ) zw_co_yX4_checkVariable zw_mX4_75 zw_in_RX4 zw_st_yX4_checkVariable ⟨by decide, by decide, by decide +kernel⟩ rfl (by omega) (by decide) (by omega) (by omega) rfl (Nat.le_of_ble_eq_true rfl) dX4_loseData_1 (fun g1 => ?_) (fun E1 x1 y1 p1 => ?_)
  · refine zV_aloadn hX dX4_loseData_4 rfl ?_
    refine zV_iloadn hX dX4_loseData_5 rfl ?_
    refine zV_cVGX (n := 1) hX rfl hN 0 rfl rfl ⟨by decide, by decide⟩ (c_X4_checkData ⟨by omega, by omega⟩) zw_co_yX4_checkData zw_mX4_71 zw_in_RX4 zw_im_yX4_checkData zw_se_yX4_checkData ⟨by decide, by decide, by decide +kernel⟩ rfl (by omega) (by decide) (by omega) (by omega) rfl (Nat.le_of_ble_eq_true rfl) dX4_loseData_6 (fun g6 => ?_) (fun E6 x6 y6 p6 => ?_)
    · refine zV_aloadn hX dX4_loseData_9 rfl ?_
      refine GF_X4_9 hX  dX4_loseData_10 ?_
      refine zV_iloadn hX dX4_loseData_13 rfl ?_
      refine AL_1 hX  ⟨by omega, by omega⟩ dX4_loseData_14 (fun r14 => ?_)
      refine zV_istoren2 hX dX4_loseData_15 ?_
      refine zV_iloadn hX dX4_loseData_16 rfl ?_
      refine zV_iconst hX dX4_loseData_17 ?_
      refine zV_icmp_ne (tgt := 31) hX dX4_loseData_18 (by decide) (by omega) (by omega) (fun b18 => ?_) (fun b18 => ?_)
      · refine zV_aloadn hX dX4_loseData_31 rfl ?_
        refine GF_X4_9 hX  dX4_loseData_32 ?_
        refine zV_iloadn hX dX4_loseData_35 rfl ?_
        refine zV_iconst hX dX4_loseData_36 ?_
        refine AS_1 hX  ⟨by omega, by omega⟩ (by omega) dX4_loseData_37 ?_
        refine zV_iloadn hX dX4_loseData_38 rfl ?_
        exact zV_iret hX hM (by omega) (by omega) rfl dX4_loseData_39 (zpSG_j (by omega) (by first | rfl | omega) rfl rfl)
      · exact zV_throw hX rfl hN (by omega) (by omega) (by omega) Bundle.six_0 Bundle.six_1 Bundle.six_2 Bundle.six_5 zat_IllegalStateException zw_cX4_60 zw_in_java_lang_IllegalStateException "the variable has no value" (by decide) (by decide) dX4_loseData_21 dX4_loseData_24 dX4_loseData_25 dX4_loseData_27 dX4_loseData_30 (zVX_out hX hT hM (by omega) (by omega) (⟨Or.inr (Or.inr (⟨rfl, by first | omega | assumption⟩)), rfl, rfl⟩))
    · obtain ⟨⟨rfl, q6⟩, rfl, rfl⟩ := p6
      exact zVX_out hX hT hM (by omega) (by omega) (⟨Or.inr (Or.inl ⟨rfl, by first | omega | assumption⟩), rfl, rfl⟩)
  · obtain ⟨⟨rfl, q1⟩, rfl, rfl⟩ := p1
    exact zVX_out hX hT hM (by omega) (by omega) (⟨Or.inl ⟨rfl, by first | omega | assumption⟩, rfl, rfl⟩)
set_option maxRecDepth 100000 in
set_option maxHeartbeats 4000000 in
theorem c_X4_setConstant {ad : Nat → Int → Nat} {x y : zSt} {c w : Int} (hc : zR c) (hw : zR w) (hI : xI x) : zC yX4_setConstant cX4_setConstant 5 (some .int) 7 2 12 [.ref (ad 0 0), zI c, zI w] ad x y (zpSG ((0 ≤ c ∧ c ≤ x 0 0 9 - 1) ∧ (0 ≤ w ∧ w ≤ 99)) (x 9 c 3) (zup x 9 c 3 w) y) (zpX (fun E => (E = "java/lang/IndexOutOfBoundsException" ∧ ¬ (0 ≤ c ∧ c ≤ x 0 0 9 - 1)) ∨ (E = "java/lang/IllegalArgumentException" ∧ (0 ≤ c ∧ c ≤ x 0 0 9 - 1) ∧ ¬ (0 ≤ w ∧ w ≤ 99))) x y) := by
  refine zC_ofV (by decide) (by intro v hv; simp only [List.mem_cons, List.not_mem_nil, or_false] at hv; rcases hv with rfl | rfl | rfl <;> rfl) (Nat.le_of_ble_eq_true rfl) (fun Γ hX hN hM hT => ?_)
  show zV Γ ad 0 0 x y 0 [some (.ref (ad 0 0)), some (zI c), some (zI w), none, none] []
  have hcm := hI.1
  refine zV_aloadn hX dX4_setConstant_0 rfl ?_
  refine zV_iloadn hX dX4_setConstant_1 rfl ?_
  refine zV_cVHX (n := 1) hX rfl hN 0 rfl rfl ⟨by decide, by decide⟩ (c_X4_cellAt (by omega) hI.1) zw_co_yX4_cellAt zw_mX4_125 zw_in_RX4 zw_im_yX4_cellAt zw_se_yX4_cellAt ⟨by decide, by decide, by decide +kernel⟩ rfl (by omega) (by decide) (by omega) (by omega) rfl (Nat.le_of_ble_eq_true rfl) dX4_setConstant_2 (fun g2 => ?_) (fun E2 x2 y2 p2 => ?_)
  · refine zV_astoren3 hX dX4_setConstant_5 ?_
    refine zV_iloadn hX dX4_setConstant_6 rfl ?_
    refine zV_iconst hX dX4_setConstant_7 ?_
    refine zV_bipush hX dX4_setConstant_8 (by decide) ?_
    refine zV_cSS (n := 3) hX rfl hN (c_X4_isWithin (by omega) (by omega) (by omega) ) zw_co_yX4_isWithin zw_mX4_46 zw_in_RX4 zw_st_yX4_isWithin ⟨by decide, by decide, by decide +kernel⟩ rfl (by omega) (by decide) (by omega) (by omega) rfl (Nat.le_of_ble_eq_true rfl) dX4_setConstant_10 ?_ 
    refine zV_ifne_b (tgt := 26) hX dX4_setConstant_13 (by decide) (fun b13 => ?_) (fun b13 => ?_)
    · refine zV_aloadn hX dX4_setConstant_26 rfl ?_
      refine GF_X4_106 hX ⟨by omega, by omega⟩ dX4_setConstant_27 (fun r27 => ?_)
      refine zV_istore4 hX dX4_setConstant_30 ?_
      refine zV_aloadn hX dX4_setConstant_32 rfl ?_
      refine zV_iloadn hX dX4_setConstant_33 rfl ?_
      refine PF_X4_106 hX ⟨by omega, by omega⟩ (by omega) dX4_setConstant_34 ?_
      refine zV_iload hX dX4_setConstant_37 rfl ?_
      exact zV_iret hX hM (by omega) (by omega) rfl dX4_setConstant_39 (zpSG_j (by omega) (by first | rfl | omega) rfl rfl)
    · exact zV_throw hX rfl hN (by omega) (by omega) (by omega) Bundle.six_0 Bundle.six_1 Bundle.six_2 Bundle.six_5 zat_IllegalArgumentException zw_cX4_50 zw_in_java_lang_IllegalArgumentException "the constant is out of range" (by decide) (by decide) dX4_setConstant_16 dX4_setConstant_19 dX4_setConstant_20 dX4_setConstant_22 dX4_setConstant_25 (zVX_out hX hT hM (by omega) (by omega) (⟨Or.inr (⟨rfl, by first | omega | assumption⟩), rfl, rfl⟩))
  · obtain ⟨⟨rfl, q2⟩, rfl, rfl⟩ := p2
    exact zVX_out hX hT hM (by omega) (by omega) (⟨Or.inl ⟨rfl, by first | omega | assumption⟩, rfl, rfl⟩)
set_option maxRecDepth 100000 in
set_option maxHeartbeats 4000000 in
theorem c_X4_cellCount {ad : Nat → Int → Nat} {x y : zSt}  : zC yX4_cellCount cX4_cellCount 1 (some .int) 0 0 0 [.ref (ad 0 0)] ad x y (zpS (x 0 0 9) x y) (zF) := by
  refine zC_ofV (by decide) (by intro v hv; simp only [List.mem_cons, List.not_mem_nil, or_false] at hv; subst hv; rfl) (Nat.le_of_ble_eq_true rfl) (fun Γ hX hN hM hT => ?_)
  show zV Γ ad 0 0 x y 0 [some (.ref (ad 0 0))] []
  refine zV_aloadn hX dX4_cellCount_0 rfl ?_
  refine GF_X4_91 hX  dX4_cellCount_1 (fun r1 => ?_)
  exact zV_iret hX hM (by omega) (by omega) rfl dX4_cellCount_4 (zpS_i rfl)
set_option maxRecDepth 100000 in
set_option maxHeartbeats 4000000 in
theorem c_X4_value {ad : Nat → Int → Nat} {x y : zSt} {v : Int} (hv : zR v) : zC yX4_value cX4_value 2 (some .int) 7 2 12 [.ref (ad 0 0), zI v] ad x y (zpSG ((0 ≤ v ∧ v ≤ 11) ∧ x 1 0 v ≠ -1) (x 1 0 v) x y) (zpX (fun E => (E = "java/lang/IllegalArgumentException" ∧ ¬ (0 ≤ v ∧ v ≤ 11)) ∨ (E = "java/util/NoSuchElementException" ∧ (0 ≤ v ∧ v ≤ 11) ∧ x 1 0 v = -1)) x y) := by
  refine zC_ofV (by decide) (by intro v hv; simp only [List.mem_cons, List.not_mem_nil, or_false] at hv; rcases hv with rfl | rfl <;> rfl) (Nat.le_of_ble_eq_true rfl) (fun Γ hX hN hM hT => ?_)
  show zV Γ ad 0 0 x y 0 [some (.ref (ad 0 0)), some (zI v)] []
  refine zV_iloadn hX dX4_value_0 rfl ?_
  refine zV_cSGX (n := 1) hX rfl hN (c_X4_checkVariable (by omega) ) zw_co_yX4_checkVariable zw_mX4_75 zw_in_RX4 zw_st_yX4_checkVariable ⟨by decide, by decide, by decide +kernel⟩ rfl (by omega) (by decide) (by omega) (by omega) rfl (Nat.le_of_ble_eq_true rfl) dX4_value_1 (fun g1 => ?_) (fun E1 x1 y1 p1 => ?_)
  · refine zV_aloadn hX dX4_value_4 rfl ?_
    refine GF_X4_9 hX  dX4_value_5 ?_
    refine zV_iloadn hX dX4_value_8 rfl ?_
    refine AL_1 hX  ⟨by omega, by omega⟩ dX4_value_9 (fun r9 => ?_)
    refine zV_iconst hX dX4_value_10 ?_
    refine zV_icmp_ne (tgt := 24) hX dX4_value_11 (by decide) (by omega) (by omega) (fun b11 => ?_) (fun b11 => ?_)
    · refine zV_aloadn hX dX4_value_24 rfl ?_
      refine GF_X4_9 hX  dX4_value_25 ?_
      refine zV_iloadn hX dX4_value_28 rfl ?_
      refine AL_1 hX  ⟨by omega, by omega⟩ dX4_value_29 (fun r29 => ?_)
      exact zV_iret hX hM (by omega) (by omega) rfl dX4_value_30 (zpSG_j (by omega) (by first | rfl | omega) rfl rfl)
    · exact zV_throw hX rfl hN (by omega) (by omega) (by omega) zx13_0 zx13_1 zx13_2 zx13_5 zat_NoSuchElementException zw_cX4_131 zw_in_java_util_NoSuchElementException "the variable has no value" (by decide) (by decide) dX4_value_14 dX4_value_17 dX4_value_18 dX4_value_20 dX4_value_23 (zVX_out hX hT hM (by omega) (by omega) (⟨Or.inr (⟨rfl, by first | omega | assumption⟩), rfl, rfl⟩))
  · obtain ⟨⟨rfl, q1⟩, rfl, rfl⟩ := p1
    exact zVX_out hX hT hM (by omega) (by omega) (⟨Or.inl ⟨rfl, by first | omega | assumption⟩, rfl, rfl⟩)
set_option maxRecDepth 100000 in
set_option maxHeartbeats 4000000 in
theorem c_X4_writer {ad : Nat → Int → Nat} {x y : zSt} {v : Int} (hv : zR v) : zC yX4_writer cX4_writer 2 (some .int) 7 2 12 [.ref (ad 0 0), zI v] ad x y (zpSG ((0 ≤ v ∧ v ≤ 11) ∧ x 3 0 v ≠ -1) (x 3 0 v) x y) (zpX (fun E => (E = "java/lang/IllegalArgumentException" ∧ ¬ (0 ≤ v ∧ v ≤ 11)) ∨ (E = "java/util/NoSuchElementException" ∧ (0 ≤ v ∧ v ≤ 11) ∧ x 3 0 v = -1)) x y) := by
  refine zC_ofV (by decide) (by intro v hv; simp only [List.mem_cons, List.not_mem_nil, or_false] at hv; rcases hv with rfl | rfl <;> rfl) (Nat.le_of_ble_eq_true rfl) (fun Γ hX hN hM hT => ?_)
  show zV Γ ad 0 0 x y 0 [some (.ref (ad 0 0)), some (zI v)] []
  refine zV_iloadn hX dX4_writer_0 rfl ?_
  refine zV_cSGX (n := 1) hX rfl hN (c_X4_checkVariable (by omega) ) zw_co_yX4_checkVariable zw_mX4_75 zw_in_RX4 zw_st_yX4_checkVariable ⟨by decide, by decide, by decide +kernel⟩ rfl (by omega) (by decide) (by omega) (by omega) rfl (Nat.le_of_ble_eq_true rfl) dX4_writer_1 (fun g1 => ?_) (fun E1 x1 y1 p1 => ?_)
  · refine zV_aloadn hX dX4_writer_4 rfl ?_
    refine GF_X4_16 hX  dX4_writer_5 ?_
    refine zV_iloadn hX dX4_writer_8 rfl ?_
    refine AL_3 hX  ⟨by omega, by omega⟩ dX4_writer_9 (fun r9 => ?_)
    refine zV_iconst hX dX4_writer_10 ?_
    refine zV_icmp_ne (tgt := 24) hX dX4_writer_11 (by decide) (by omega) (by omega) (fun b11 => ?_) (fun b11 => ?_)
    · refine zV_aloadn hX dX4_writer_24 rfl ?_
      refine GF_X4_16 hX  dX4_writer_25 ?_
      refine zV_iloadn hX dX4_writer_28 rfl ?_
      refine AL_3 hX  ⟨by omega, by omega⟩ dX4_writer_29 (fun r29 => ?_)
      exact zV_iret hX hM (by omega) (by omega) rfl dX4_writer_30 (zpSG_j (by omega) (by first | rfl | omega) rfl rfl)
    · exact zV_throw hX rfl hN (by omega) (by omega) (by omega) zx13_0 zx13_1 zx13_2 zx13_5 zat_NoSuchElementException zw_cX4_131 zw_in_java_util_NoSuchElementException "no cell writes the variable" (by decide) (by decide) dX4_writer_14 dX4_writer_17 dX4_writer_18 dX4_writer_20 dX4_writer_23 (zVX_out hX hT hM (by omega) (by omega) (⟨Or.inr (⟨rfl, by first | omega | assumption⟩), rfl, rfl⟩))
  · obtain ⟨⟨rfl, q1⟩, rfl, rfl⟩ := p1
    exact zVX_out hX hT hM (by omega) (by omega) (⟨Or.inl ⟨rfl, by first | omega | assumption⟩, rfl, rfl⟩)
set_option maxRecDepth 100000 in
set_option maxHeartbeats 4000000 in
theorem c_X4_run {ad : Nat → Int → Nat} {x y : zSt} {c : Int} (hc : zR c) (hI : xI x) (hw : ∀ c, 0 ≤ c → c < x 0 0 9 → x 3 0 (x 9 c 1) < c ∧ (x 9 c 2 ≠ -1 → x 3 0 (x 9 c 2) < c)) : zC yX4_run cX4_run 2 (some .char) 7 1 6 [.ref (ad 0 0), zI c] ad x y (zpSG (0 ≤ c ∧ c ≤ x 0 0 9 - 1) (xExeR x c) (xExeS x c) y) (zpX (fun E => (E = "java/lang/IndexOutOfBoundsException" ∧ ¬ (0 ≤ c ∧ c ≤ x 0 0 9 - 1))) x y) := by
  refine zC_ofV (by decide) (by intro v hv; simp only [List.mem_cons, List.not_mem_nil, or_false] at hv; rcases hv with rfl | rfl <;> rfl) (Nat.le_of_ble_eq_true rfl) (fun Γ hX hN hM hT => ?_)
  show zV Γ ad 0 0 x y 0 [some (.ref (ad 0 0)), some (zI c)] []
  refine zV_aloadn hX dX4_run_0 rfl ?_
  refine zV_iloadn hX dX4_run_1 rfl ?_
  refine zV_aloadn hX dX4_run_2 rfl ?_
  refine zV_iloadn hX dX4_run_3 rfl ?_
  refine zV_cVHX (n := 1) hX rfl hN 0 rfl rfl ⟨by decide, by decide⟩ (c_X4_cellAt (by omega) hI.1) zw_co_yX4_cellAt zw_mX4_125 zw_in_RX4 zw_im_yX4_cellAt zw_se_yX4_cellAt ⟨by decide, by decide, by decide +kernel⟩ rfl (by omega) (by decide) (by omega) (by omega) rfl (Nat.le_of_ble_eq_true rfl) dX4_run_4 (fun g4 => ?_) (fun E4 x4 y4 p4 => ?_)
  · refine zV_callV (n := 2) hX rfl hN 0 rfl rfl ⟨by decide, by decide⟩ (c_X4_execute (c := c) ⟨by omega, by omega⟩ (hw c (by omega) (by omega)).1 (hw c (by omega) (by omega)).2 hI) zw_co_yX4_execute zw_mX4_136 zw_in_RX4 zw_im_yX4_execute zw_se_yX4_execute ⟨by decide, by decide, by decide +kernel⟩ rfl (by omega) (by decide) (by omega) (by omega) rfl (Nat.le_of_ble_eq_true rfl) dX4_run_7 (fun v7 x7 y7 p7 => ?_) (fun _ _ _ h => h.elim)
    obtain ⟨rfl, rfl, rfl⟩ := p7
    exact zV_iret hX hM (by omega) (by omega) (zn_char (xExeR_b)) dX4_run_10 (zpSG_j (by omega) (by first | rfl | omega) rfl rfl)
  · obtain ⟨⟨rfl, q4⟩, rfl, rfl⟩ := p4
    exact zVX_out hX hT hM (by omega) (by omega) (⟨⟨rfl, by first | omega | assumption⟩, rfl, rfl⟩)
set_option maxRecDepth 100000 in
set_option maxHeartbeats 4000000 in
theorem c_X4_state {ad : Nat → Int → Nat} {x y : zSt} {c : Int} (hc : zR c) (hI : xI x) : zC yX4_state cX4_state 3 (some .char) 7 1 6 [.ref (ad 0 0), zI c] ad x y (zpSG (0 ≤ c ∧ c ≤ x 0 0 9 - 1) (if x 9 c 9 = 0 then 110 else if x 9 c 9 = 2 then 120 else if zand (xFr x (x 0 0 9).toNat) (zshl 1 c) ≠ 0 then 102 else 115) x y) (zpX (fun E => (E = "java/lang/IndexOutOfBoundsException" ∧ ¬ (0 ≤ c ∧ c ≤ x 0 0 9 - 1))) x y) := by
  refine zC_ofV (by decide) (by intro v hv; simp only [List.mem_cons, List.not_mem_nil, or_false] at hv; rcases hv with rfl | rfl <;> rfl) (Nat.le_of_ble_eq_true rfl) (fun Γ hX hN hM hT => ?_)
  show zV Γ ad 0 0 x y 0 [some (.ref (ad 0 0)), some (zI c), none] []
  have hcm := hI.1
  refine zV_aloadn hX dX4_state_0 rfl ?_
  refine zV_iloadn hX dX4_state_1 rfl ?_
  refine zV_cVHX (n := 1) hX rfl hN 0 rfl rfl ⟨by decide, by decide⟩ (c_X4_cellAt (by omega) hI.1) zw_co_yX4_cellAt zw_mX4_125 zw_in_RX4 zw_im_yX4_cellAt zw_se_yX4_cellAt ⟨by decide, by decide, by decide +kernel⟩ rfl (by omega) (by decide) (by omega) (by omega) rfl (Nat.le_of_ble_eq_true rfl) dX4_state_2 (fun g2 => ?_) (fun E2 x2 y2 p2 => ?_)
  · refine zV_astoren2 hX dX4_state_5 ?_
    refine zV_aloadn hX dX4_state_6 rfl ?_
    refine GF_X4_152 hX ⟨by omega, by omega⟩ dX4_state_7 (fun r7 => ?_)
    refine zV_if_ne (tgt := 16) hX dX4_state_10 (by decide) (by omega) (fun b10 => ?_) (fun b10 => ?_)
    · refine zV_aloadn hX dX4_state_16 rfl ?_
      refine GF_X4_152 hX ⟨by omega, by omega⟩ dX4_state_17 (fun r17 => ?_)
      refine zV_iconst hX dX4_state_20 ?_
      refine zV_icmp_ne (tgt := 27) hX dX4_state_21 (by decide) (by omega) (by omega) (fun b21 => ?_) (fun b21 => ?_)
      · refine zV_aloadn hX dX4_state_27 rfl ?_
        refine zV_iloadn hX dX4_state_28 rfl ?_
        refine zV_cVS (n := 1) hX rfl hN 0 rfl rfl ⟨by decide, by decide⟩ (c_X4_isFresh (by omega) hI) zw_co_yX4_isFresh zw_mX4_155 zw_in_RX4 zw_im_yX4_isFresh zw_se_yX4_isFresh ⟨by decide, by decide, by decide +kernel⟩ rfl (by omega) (by decide) (by omega) (by omega) rfl (Nat.le_of_ble_eq_true rfl) dX4_state_29 ?_ 
        refine zV_ifeq_b (tgt := 40) hX dX4_state_32 (by decide) (fun b32 => ?_) (fun b32 => ?_)
        · refine zV_bipush hX dX4_state_40 (by decide) ?_
          exact zV_iret hX hM (by omega) (by omega) (zn_char (by omega)) dX4_state_42 (zpSG_j (by omega) (by first | rw [if_pos (by assumption)] | rw [if_neg (by assumption), if_pos (by assumption)] | rw [if_neg (by assumption), if_neg (by assumption), if_pos (by assumption)] | rw [if_neg (by assumption), if_neg (by assumption), if_neg (by assumption)]) rfl rfl)
        · refine zV_bipush hX dX4_state_35 (by decide) ?_
          refine zV_goto (tgt := 42) hX dX4_state_37 (by decide) ?_
          exact zV_iret hX hM (by omega) (by omega) (zn_char (by omega)) dX4_state_42 (zpSG_j (by omega) (by first | rw [if_pos (by assumption)] | rw [if_neg (by assumption), if_pos (by assumption)] | rw [if_neg (by assumption), if_neg (by assumption), if_pos (by assumption)] | rw [if_neg (by assumption), if_neg (by assumption), if_neg (by assumption)]) rfl rfl)
      · refine zV_bipush hX dX4_state_24 (by decide) ?_
        exact zV_iret hX hM (by omega) (by omega) (zn_char (by omega)) dX4_state_26 (zpSG_j (by omega) (by first | rw [if_pos (by assumption)] | rw [if_neg (by assumption), if_pos (by assumption)] | rw [if_neg (by assumption), if_neg (by assumption), if_pos (by assumption)] | rw [if_neg (by assumption), if_neg (by assumption), if_neg (by assumption)]) rfl rfl)
    · refine zV_bipush hX dX4_state_13 (by decide) ?_
      exact zV_iret hX hM (by omega) (by omega) (zn_char (by omega)) dX4_state_15 (zpSG_j (by omega) (by first | rw [if_pos (by assumption)] | rw [if_neg (by assumption), if_pos (by assumption)] | rw [if_neg (by assumption), if_neg (by assumption), if_pos (by assumption)] | rw [if_neg (by assumption), if_neg (by assumption), if_neg (by assumption)]) rfl rfl)
  · obtain ⟨⟨rfl, q2⟩, rfl, rfl⟩ := p2
    exact zVX_out hX hT hM (by omega) (by omega) (⟨⟨rfl, by first | omega | assumption⟩, rfl, rfl⟩)
set_option maxRecDepth 100000 in
set_option maxHeartbeats 4000000 in
theorem c_X4_runs {ad : Nat → Int → Nat} {x y : zSt} {c : Int} (hc : zR c) (hI : xI x) : zC yX4_runs cX4_runs 2 (some .int) 7 1 6 [.ref (ad 0 0), zI c] ad x y (zpSG (0 ≤ c ∧ c ≤ x 0 0 9 - 1) (x 9 c 13) x y) (zpX (fun E => (E = "java/lang/IndexOutOfBoundsException" ∧ ¬ (0 ≤ c ∧ c ≤ x 0 0 9 - 1))) x y) := by
  refine zC_ofV (by decide) (by intro v hv; simp only [List.mem_cons, List.not_mem_nil, or_false] at hv; rcases hv with rfl | rfl <;> rfl) (Nat.le_of_ble_eq_true rfl) (fun Γ hX hN hM hT => ?_)
  show zV Γ ad 0 0 x y 0 [some (.ref (ad 0 0)), some (zI c)] []
  have hcm := hI.1
  refine zV_aloadn hX dX4_runs_0 rfl ?_
  refine zV_iloadn hX dX4_runs_1 rfl ?_
  refine zV_cVHX (n := 1) hX rfl hN 0 rfl rfl ⟨by decide, by decide⟩ (c_X4_cellAt (by omega) hI.1) zw_co_yX4_cellAt zw_mX4_125 zw_in_RX4 zw_im_yX4_cellAt zw_se_yX4_cellAt ⟨by decide, by decide, by decide +kernel⟩ rfl (by omega) (by decide) (by omega) (by omega) rfl (Nat.le_of_ble_eq_true rfl) dX4_runs_2 (fun g2 => ?_) (fun E2 x2 y2 p2 => ?_)
  · refine GF_X4_167 hX ⟨by omega, by omega⟩ dX4_runs_5 (fun r5 => ?_)
    exact zV_iret hX hM (by omega) (by omega) rfl dX4_runs_8 (zpSG_j (by omega) (by first | rfl | omega) rfl rfl)
  · obtain ⟨⟨rfl, q2⟩, rfl, rfl⟩ := p2
    exact zVX_out hX hT hM (by omega) (by omega) (⟨⟨rfl, by first | omega | assumption⟩, rfl, rfl⟩)
set_option maxRecDepth 100000 in
set_option maxHeartbeats 4000000 in
theorem c_X4_found {ad : Nat → Int → Nat} {x y : zSt} {c : Int} (hc : zR c) (hI : xI x) : zC yX4_found cX4_found 2 (some .int) 7 1 6 [.ref (ad 0 0), zI c] ad x y (zpSG (0 ≤ c ∧ c ≤ x 0 0 9 - 1) (x 9 c 14) x y) (zpX (fun E => (E = "java/lang/IndexOutOfBoundsException" ∧ ¬ (0 ≤ c ∧ c ≤ x 0 0 9 - 1))) x y) := by
  refine zC_ofV (by decide) (by intro v hv; simp only [List.mem_cons, List.not_mem_nil, or_false] at hv; rcases hv with rfl | rfl <;> rfl) (Nat.le_of_ble_eq_true rfl) (fun Γ hX hN hM hT => ?_)
  show zV Γ ad 0 0 x y 0 [some (.ref (ad 0 0)), some (zI c)] []
  have hcm := hI.1
  refine zV_aloadn hX dX4_found_0 rfl ?_
  refine zV_iloadn hX dX4_found_1 rfl ?_
  refine zV_cVHX (n := 1) hX rfl hN 0 rfl rfl ⟨by decide, by decide⟩ (c_X4_cellAt (by omega) hI.1) zw_co_yX4_cellAt zw_mX4_125 zw_in_RX4 zw_im_yX4_cellAt zw_se_yX4_cellAt ⟨by decide, by decide, by decide +kernel⟩ rfl (by omega) (by decide) (by omega) (by omega) rfl (Nat.le_of_ble_eq_true rfl) dX4_found_2 (fun g2 => ?_) (fun E2 x2 y2 p2 => ?_)
  · refine GF_X4_170 hX ⟨by omega, by omega⟩ dX4_found_5 (fun r5 => ?_)
    exact zV_iret hX hM (by omega) (by omega) rfl dX4_found_8 (zpSG_j (by omega) (by first | rfl | omega) rfl rfl)
  · obtain ⟨⟨rfl, q2⟩, rfl, rfl⟩ := p2
    exact zVX_out hX hT hM (by omega) (by omega) (⟨⟨rfl, by first | omega | assumption⟩, rfl, rfl⟩)
set_option maxRecDepth 100000 in
set_option maxHeartbeats 4000000 in
theorem c_X4_failure {ad : Nat → Int → Nat} {x y : zSt} {c : Int} (hc : zR c) (hI : xI x) : zC yX4_failure cX4_failure 2 (some .char) 8 2 12 [.ref (ad 0 0), zI c] ad x y (zpSG ((0 ≤ c ∧ c ≤ x 0 0 9 - 1) ∧ x 9 c 9 = 2) (x 10 c 0) x y) (zpX (fun E => (E = "java/lang/IndexOutOfBoundsException" ∧ ¬ (0 ≤ c ∧ c ≤ x 0 0 9 - 1)) ∨ (E = "java/lang/IllegalStateException" ∧ (0 ≤ c ∧ c ≤ x 0 0 9 - 1) ∧ ¬ x 9 c 9 = 2)) x y) := by
  refine zC_ofV (by decide) (by intro v hv; simp only [List.mem_cons, List.not_mem_nil, or_false] at hv; rcases hv with rfl | rfl <;> rfl) (Nat.le_of_ble_eq_true rfl) (fun Γ hX hN hM hT => ?_)
  show zV Γ ad 0 0 x y 0 [some (.ref (ad 0 0)), some (zI c)] []
  have hcm := hI.1
  have i7 := hI.2.2.2.2.2.2.1
  refine zV_aloadn hX dX4_failure_0 rfl ?_
  refine zV_iloadn hX dX4_failure_1 rfl ?_
  refine zV_cVHX (n := 1) hX rfl hN 0 rfl rfl ⟨by decide, by decide⟩ (c_X4_failureOf (by omega) hI.1) zw_co_yX4_failureOf zw_mX4_173 zw_in_RX4 zw_im_yX4_failureOf zw_se_yX4_failureOf ⟨by decide, by decide, by decide +kernel⟩ rfl (by omega) (by decide) (by omega) (by omega) rfl (Nat.le_of_ble_eq_true rfl) dX4_failure_2 (fun g2 => ?_) (fun E2 x2 y2 p2 => ?_)
  · refine GF_X4_177 hX ⟨by omega, by omega⟩ dX4_failure_5 (fun r5 => ?_)
    exact zV_iret hX hM (by omega) (by omega) (zn_char (by have := i7 c (by omega) (by omega); omega)) dX4_failure_8 (zpSG_j (by omega) (by first | rfl | omega) rfl rfl)
  · obtain ⟨⟨rfl, q2⟩ | ⟨rfl, q2⟩, rfl, rfl⟩ := p2
    · exact zVX_out hX hT hM (by omega) (by omega) (⟨Or.inl ⟨rfl, by first | omega | assumption⟩, rfl, rfl⟩)
    · exact zVX_out hX hT hM (by omega) (by omega) (⟨Or.inr (⟨rfl, by first | omega | assumption⟩), rfl, rfl⟩)
