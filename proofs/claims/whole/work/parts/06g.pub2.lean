set_option maxRecDepth 100000 in
set_option maxHeartbeats 4000000 in
theorem c_X4_root {ad : Nat → Int → Nat} {x y : zSt} {c : Int} (hc : zR c) (hI : xI x) : zC yX4_root cX4_root 2 (some .int) 8 2 12 [.ref (ad 0 0), zI c] ad x y (zpSG ((0 ≤ c ∧ c ≤ x 0 0 9 - 1) ∧ x 9 c 9 = 2) (x 10 c 1) x y) (zpX (fun E => (E = "java/lang/IndexOutOfBoundsException" ∧ ¬ (0 ≤ c ∧ c ≤ x 0 0 9 - 1)) ∨ (E = "java/lang/IllegalStateException" ∧ (0 ≤ c ∧ c ≤ x 0 0 9 - 1) ∧ ¬ x 9 c 9 = 2)) x y) := by
  refine zC_ofV (by decide) (by intro v hv; simp only [List.mem_cons, List.not_mem_nil, or_false] at hv; rcases hv with rfl | rfl <;> rfl) (Nat.le_of_ble_eq_true rfl) (fun Γ hX hN hM hT => ?_)
  show zV Γ ad 0 0 x y 0 [some (.ref (ad 0 0)), some (zI c)] []
  have hcm := hI.1
  have i7 := hI.2.2.2.2.2.2.1
  refine zV_aloadn hX dX4_root_0 rfl ?_
  refine zV_iloadn hX dX4_root_1 rfl ?_
  refine zV_cVHX (n := 1) hX rfl hN 0 rfl rfl ⟨by decide, by decide⟩ (c_X4_failureOf (by omega) hI.1) zw_co_yX4_failureOf zw_mX4_173 zw_in_RX4 zw_im_yX4_failureOf zw_se_yX4_failureOf ⟨by decide, by decide, by decide +kernel⟩ rfl (by omega) (by decide) (by omega) (by omega) rfl (Nat.le_of_ble_eq_true rfl) dX4_root_2 (fun g2 => ?_) (fun E2 x2 y2 p2 => ?_)
  · refine GF_X4_180 hX ⟨by omega, by omega⟩ dX4_root_5 (fun r5 => ?_)
    exact zV_iret hX hM (by omega) (by omega) rfl dX4_root_8 (zpSG_j (by omega) (by first | rfl | omega) rfl rfl)
  · obtain ⟨⟨rfl, q2⟩ | ⟨rfl, q2⟩, rfl, rfl⟩ := p2
    · exact zVX_out hX hT hM (by omega) (by omega) (⟨Or.inl ⟨rfl, by first | omega | assumption⟩, rfl, rfl⟩)
    · exact zVX_out hX hT hM (by omega) (by omega) (⟨Or.inr (⟨rfl, by first | omega | assumption⟩), rfl, rfl⟩)
set_option maxRecDepth 100000 in
set_option maxHeartbeats 4000000 in
theorem c_X4_rootFailure {ad : Nat → Int → Nat} {x y : zSt} {c : Int} (hc : zR c) (hI : xI x) : zC yX4_rootFailure cX4_rootFailure 2 (some .char) 8 2 12 [.ref (ad 0 0), zI c] ad x y (zpSG ((0 ≤ c ∧ c ≤ x 0 0 9 - 1) ∧ x 9 c 9 = 2) (x 10 c 2) x y) (zpX (fun E => (E = "java/lang/IndexOutOfBoundsException" ∧ ¬ (0 ≤ c ∧ c ≤ x 0 0 9 - 1)) ∨ (E = "java/lang/IllegalStateException" ∧ (0 ≤ c ∧ c ≤ x 0 0 9 - 1) ∧ ¬ x 9 c 9 = 2)) x y) := by
  refine zC_ofV (by decide) (by intro v hv; simp only [List.mem_cons, List.not_mem_nil, or_false] at hv; rcases hv with rfl | rfl <;> rfl) (Nat.le_of_ble_eq_true rfl) (fun Γ hX hN hM hT => ?_)
  show zV Γ ad 0 0 x y 0 [some (.ref (ad 0 0)), some (zI c)] []
  have hcm := hI.1
  have i7 := hI.2.2.2.2.2.2.1
  refine zV_aloadn hX dX4_rootFailure_0 rfl ?_
  refine zV_iloadn hX dX4_rootFailure_1 rfl ?_
  refine zV_cVHX (n := 1) hX rfl hN 0 rfl rfl ⟨by decide, by decide⟩ (c_X4_failureOf (by omega) hI.1) zw_co_yX4_failureOf zw_mX4_173 zw_in_RX4 zw_im_yX4_failureOf zw_se_yX4_failureOf ⟨by decide, by decide, by decide +kernel⟩ rfl (by omega) (by decide) (by omega) (by omega) rfl (Nat.le_of_ble_eq_true rfl) dX4_rootFailure_2 (fun g2 => ?_) (fun E2 x2 y2 p2 => ?_)
  · refine GF_X4_183 hX ⟨by omega, by omega⟩ dX4_rootFailure_5 (fun r5 => ?_)
    exact zV_iret hX hM (by omega) (by omega) (zn_char (by have := i7 c (by omega) (by omega); omega)) dX4_rootFailure_8 (zpSG_j (by omega) (by first | rfl | omega) rfl rfl)
  · obtain ⟨⟨rfl, q2⟩ | ⟨rfl, q2⟩, rfl, rfl⟩ := p2
    · exact zVX_out hX hT hM (by omega) (by omega) (⟨Or.inl ⟨rfl, by first | omega | assumption⟩, rfl, rfl⟩)
    · exact zVX_out hX hT hM (by omega) (by omega) (⟨Or.inr (⟨rfl, by first | omega | assumption⟩), rfl, rfl⟩)
set_option maxRecDepth 100000 in
set_option maxHeartbeats 4000000 in
theorem c_X4_causes {ad : Nat → Int → Nat} {x y : zSt} {c : Int} (hc : zR c) (hI : xI x) : zC yX4_causes cX4_causes 2 (some .int) 8 2 12 [.ref (ad 0 0), zI c] ad x y (zpSG ((0 ≤ c ∧ c ≤ x 0 0 9 - 1) ∧ x 9 c 9 = 2) (x 10 c 3) x y) (zpX (fun E => (E = "java/lang/IndexOutOfBoundsException" ∧ ¬ (0 ≤ c ∧ c ≤ x 0 0 9 - 1)) ∨ (E = "java/lang/IllegalStateException" ∧ (0 ≤ c ∧ c ≤ x 0 0 9 - 1) ∧ ¬ x 9 c 9 = 2)) x y) := by
  refine zC_ofV (by decide) (by intro v hv; simp only [List.mem_cons, List.not_mem_nil, or_false] at hv; rcases hv with rfl | rfl <;> rfl) (Nat.le_of_ble_eq_true rfl) (fun Γ hX hN hM hT => ?_)
  show zV Γ ad 0 0 x y 0 [some (.ref (ad 0 0)), some (zI c)] []
  have hcm := hI.1
  have i7 := hI.2.2.2.2.2.2.1
  refine zV_aloadn hX dX4_causes_0 rfl ?_
  refine zV_iloadn hX dX4_causes_1 rfl ?_
  refine zV_cVHX (n := 1) hX rfl hN 0 rfl rfl ⟨by decide, by decide⟩ (c_X4_failureOf (by omega) hI.1) zw_co_yX4_failureOf zw_mX4_173 zw_in_RX4 zw_im_yX4_failureOf zw_se_yX4_failureOf ⟨by decide, by decide, by decide +kernel⟩ rfl (by omega) (by decide) (by omega) (by omega) rfl (Nat.le_of_ble_eq_true rfl) dX4_causes_2 (fun g2 => ?_) (fun E2 x2 y2 p2 => ?_)
  · refine GF_X4_186 hX ⟨by omega, by omega⟩ dX4_causes_5 (fun r5 => ?_)
    exact zV_iret hX hM (by omega) (by omega) rfl dX4_causes_8 (zpSG_j (by omega) (by first | rfl | omega) rfl rfl)
  · obtain ⟨⟨rfl, q2⟩ | ⟨rfl, q2⟩, rfl, rfl⟩ := p2
    · exact zVX_out hX hT hM (by omega) (by omega) (⟨Or.inl ⟨rfl, by first | omega | assumption⟩, rfl, rfl⟩)
    · exact zVX_out hX hT hM (by omega) (by omega) (⟨Or.inr (⟨rfl, by first | omega | assumption⟩), rfl, rfl⟩)
set_option maxRecDepth 100000 in
set_option maxHeartbeats 4000000 in
theorem c_X4_depends {ad : Nat → Int → Nat} {x y : zSt} {c v : Int} (hc : zR c) (hv : zR v) (hI : xI x) : zC yX4_depends cX4_depends 4 (some .boolean) 7 2 12 [.ref (ad 0 0), zI c, zI v] ad x y (zpSG ((0 ≤ c ∧ c ≤ x 0 0 9 - 1) ∧ (0 ≤ v ∧ v ≤ 11)) (zb (zand (x 9 c 8) (zshl 1 v) ≠ 0)) x y) (zpX (fun E => (E = "java/lang/IndexOutOfBoundsException" ∧ ¬ (0 ≤ c ∧ c ≤ x 0 0 9 - 1)) ∨ (E = "java/lang/IllegalArgumentException" ∧ (0 ≤ c ∧ c ≤ x 0 0 9 - 1) ∧ ¬ (0 ≤ v ∧ v ≤ 11))) x y) := by
  refine zC_ofV (by decide) (by intro v hv; simp only [List.mem_cons, List.not_mem_nil, or_false] at hv; rcases hv with rfl | rfl | rfl <;> rfl) (Nat.le_of_ble_eq_true rfl) (fun Γ hX hN hM hT => ?_)
  show zV Γ ad 0 0 x y 0 [some (.ref (ad 0 0)), some (zI c), some (zI v), none] []
  have hcm := hI.1
  refine zV_aloadn hX dX4_depends_0 rfl ?_
  refine zV_iloadn hX dX4_depends_1 rfl ?_
  refine zV_cVHX (n := 1) hX rfl hN 0 rfl rfl ⟨by decide, by decide⟩ (c_X4_cellAt (by omega) hI.1) zw_co_yX4_cellAt zw_mX4_125 zw_in_RX4 zw_im_yX4_cellAt zw_se_yX4_cellAt ⟨by decide, by decide, by decide +kernel⟩ rfl (by omega) (by decide) (by omega) (by omega) rfl (Nat.le_of_ble_eq_true rfl) dX4_depends_2 (fun g2 => ?_) (fun E2 x2 y2 p2 => ?_)
  · refine zV_astoren3 hX dX4_depends_5 ?_
    refine zV_iloadn hX dX4_depends_6 rfl ?_
    refine zV_cSGX (n := 1) hX rfl hN (c_X4_checkVariable (by omega) ) zw_co_yX4_checkVariable zw_mX4_75 zw_in_RX4 zw_st_yX4_checkVariable ⟨by decide, by decide, by decide +kernel⟩ rfl (by omega) (by decide) (by omega) (by omega) rfl (Nat.le_of_ble_eq_true rfl) dX4_depends_7 (fun g7 => ?_) (fun E7 x7 y7 p7 => ?_)
    · refine zV_aloadn hX dX4_depends_10 rfl ?_
      refine GF_X4_122 hX ⟨by omega, by omega⟩ dX4_depends_11 (fun r11 => ?_)
      refine zV_iloadn hX dX4_depends_14 rfl ?_
      refine zV_cSS (n := 2) hX rfl hN (c_X4_hasBit (by omega) ) zw_co_yX4_hasBit zw_mX4_189 zw_in_RX4 zw_st_yX4_hasBit ⟨by decide, by decide, by decide +kernel⟩ rfl (by omega) (by decide) (by omega) (by omega) rfl (Nat.le_of_ble_eq_true rfl) dX4_depends_15 ?_ 
      exact zV_iret hX hM (by omega) (by omega) zn_b dX4_depends_18 (zpSG_j (by omega) (by first | rfl | omega) rfl rfl)
    · obtain ⟨⟨rfl, q7⟩, rfl, rfl⟩ := p7
      exact zVX_out hX hT hM (by omega) (by omega) (⟨Or.inr (⟨rfl, by first | omega | assumption⟩), rfl, rfl⟩)
  · obtain ⟨⟨rfl, q2⟩, rfl, rfl⟩ := p2
    exact zVX_out hX hT hM (by omega) (by omega) (⟨Or.inl ⟨rfl, by first | omega | assumption⟩, rfl, rfl⟩)
set_option maxRecDepth 100000 in
set_option maxHeartbeats 4000000 in
theorem c_X4_addKernel {ad : Nat → Int → Nat} {x y : zSt} {r : Int} (hr : zR r) (hI : xI x) : zC yX4_addKernel cX4_addKernel 3 (some .int) 7 1 6 [.ref (ad 0 0), zI r] ad x y (zpSG ((1 ≤ r ∧ r ≤ 20) ∧ x 0 0 10 < 3) (x 0 0 10) (zup (zup x 16 (x 0 0 10) 0 r) 0 0 10 (x 0 0 10 + 1)) y) (zpX (fun E => (E = "java/lang/IllegalArgumentException" ∧ ¬ (1 ≤ r ∧ r ≤ 20)) ∨ (E = "java/lang/IllegalStateException" ∧ (1 ≤ r ∧ r ≤ 20) ∧ ¬ x 0 0 10 < 3)) x y) := by
  refine zC_ofV (by decide) (by intro v hv; simp only [List.mem_cons, List.not_mem_nil, or_false] at hv; rcases hv with rfl | rfl <;> rfl) (Nat.le_of_ble_eq_true rfl) (fun Γ hX hN hM hT => ?_)
  show zV Γ ad 0 0 x y 0 [some (.ref (ad 0 0)), some (zI r), none] []
  have hk := hI.2.1
  refine zV_iloadn hX dX4_addKernel_0 rfl ?_
  refine zV_iconst hX dX4_addKernel_1 ?_
  refine zV_bipush hX dX4_addKernel_2 (by decide) ?_
  refine zV_cSS (n := 3) hX rfl hN (c_X4_isWithin (by omega) (by omega) (by omega) ) zw_co_yX4_isWithin zw_mX4_46 zw_in_RX4 zw_st_yX4_isWithin ⟨by decide, by decide, by decide +kernel⟩ rfl (by omega) (by decide) (by omega) (by omega) rfl (Nat.le_of_ble_eq_true rfl) dX4_addKernel_4 ?_ 
  refine zV_ifne_b (tgt := 20) hX dX4_addKernel_7 (by decide) (fun b7 => ?_) (fun b7 => ?_)
  · refine zV_aloadn hX dX4_addKernel_20 rfl ?_
    refine GF_X4_198 hX  dX4_addKernel_21 (fun r21 => ?_)
    refine zV_iconst hX dX4_addKernel_24 ?_
    refine zV_icmp_lt (tgt := 38) hX dX4_addKernel_25 (by decide) (by omega) (by omega) (fun b25 => ?_) (fun b25 => ?_)
    · refine zV_aloadn hX dX4_addKernel_38 rfl ?_
      refine GF_X4_198 hX  dX4_addKernel_39 (fun r39 => ?_)
      refine zV_istoren2 hX dX4_addKernel_42 ?_
      refine zV_aloadn hX dX4_addKernel_43 rfl ?_
      refine GF_X4_30 hX  dX4_addKernel_44 ?_
      refine zV_iloadn hX dX4_addKernel_47 rfl ?_
      refine AL_6 hX  ⟨by omega, by omega⟩ dX4_addKernel_48 ?_
      refine zV_iloadn hX dX4_addKernel_49 rfl ?_
      refine PF_X4_203 hX ⟨by omega, by omega⟩ (by omega) dX4_addKernel_50 ?_
      refine zV_aloadn hX dX4_addKernel_53 rfl ?_
      refine zV_dup hX dX4_addKernel_54 rfl ?_
      refine GF_X4_198 hX  dX4_addKernel_55 (fun r55 => ?_)
      try simp only [zup_d, Nat.reduceEqDiff, Int.reduceEq, reduceCtorEq, false_and, true_and, and_true, and_false, and_self, if_false, if_true, Int.reduceNeg] at r55 ⊢
      refine zV_iconst hX dX4_addKernel_58 ?_
      refine zV_iadd hX dX4_addKernel_59 ?_
      refine PF_X4_198 hX  (by omega) dX4_addKernel_60 ?_
      refine zV_iloadn hX dX4_addKernel_63 rfl ?_
      exact zV_iret hX hM (by omega) (by omega) rfl dX4_addKernel_64 (zpSG_j (by omega) (by first | rfl | omega) rfl rfl)
    · exact zV_throw hX rfl hN (by omega) (by omega) (by omega) Bundle.six_0 Bundle.six_1 Bundle.six_2 Bundle.six_5 zat_IllegalStateException zw_cX4_60 zw_in_java_lang_IllegalStateException "there are 3 kernels" (by decide) (by decide) dX4_addKernel_28 dX4_addKernel_31 dX4_addKernel_32 dX4_addKernel_34 dX4_addKernel_37 (zVX_out hX hT hM (by omega) (by omega) (⟨Or.inr (⟨rfl, by first | omega | assumption⟩), rfl, rfl⟩))
  · exact zV_throw hX rfl hN (by omega) (by omega) (by omega) Bundle.six_0 Bundle.six_1 Bundle.six_2 Bundle.six_5 zat_IllegalArgumentException zw_cX4_50 zw_in_java_lang_IllegalArgumentException "the room is out of range" (by decide) (by decide) dX4_addKernel_10 dX4_addKernel_13 dX4_addKernel_14 dX4_addKernel_16 dX4_addKernel_19 (zVX_out hX hT hM (by omega) (by omega) (⟨Or.inl ⟨rfl, by first | omega | assumption⟩, rfl, rfl⟩))
set_option maxRecDepth 100000 in
set_option maxHeartbeats 4000000 in
theorem c_X4_free {ad : Nat → Int → Nat} {x y : zSt} {k : Int} (hk : zR k) (hI : xI x) : zC yX4_free cX4_free 2 (some .int) 7 1 6 [.ref (ad 0 0), zI k] ad x y (zpSG (0 ≤ k ∧ k ≤ x 0 0 10 - 1) (xLeft x k) x y) (zpX (fun E => (E = "java/lang/IndexOutOfBoundsException" ∧ ¬ (0 ≤ k ∧ k ≤ x 0 0 10 - 1))) x y) := by
  refine zC_ofV (by decide) (by intro v hv; simp only [List.mem_cons, List.not_mem_nil, or_false] at hv; rcases hv with rfl | rfl <;> rfl) (Nat.le_of_ble_eq_true rfl) (fun Γ hX hN hM hT => ?_)
  show zV Γ ad 0 0 x y 0 [some (.ref (ad 0 0)), some (zI k)] []
  have hk1 := hI.2.1
  refine zV_iloadn hX dX4_free_0 rfl ?_
  refine zV_iconst hX dX4_free_1 ?_
  refine zV_aloadn hX dX4_free_2 rfl ?_
  refine GF_X4_198 hX  dX4_free_3 (fun r3 => ?_)
  refine zV_iconst hX dX4_free_6 ?_
  refine zV_isub hX dX4_free_7 ?_
  refine zV_cSS (n := 3) hX rfl hN (c_X4_isWithin (by omega) (by omega) (by omega) ) zw_co_yX4_isWithin zw_mX4_46 zw_in_RX4 zw_st_yX4_isWithin ⟨by decide, by decide, by decide +kernel⟩ rfl (by omega) (by decide) (by omega) (by omega) rfl (Nat.le_of_ble_eq_true rfl) dX4_free_8 ?_ 
  refine zV_ifne_b (tgt := 24) hX dX4_free_11 (by decide) (fun b11 => ?_) (fun b11 => ?_)
  · refine zV_aloadn hX dX4_free_24 rfl ?_
    refine GF_X4_30 hX  dX4_free_25 ?_
    refine zV_iloadn hX dX4_free_28 rfl ?_
    refine AL_6 hX  ⟨by omega, by omega⟩ dX4_free_29 ?_
    refine zV_cVS (n := 0) hX rfl hN 16 rfl rfl ⟨by omega, by omega⟩ (c_X2_roomLeft ⟨by omega, by omega⟩) zw_co_yX2_roomLeft zw_mX4_211 zw_in_RX2 zw_im_yX2_roomLeft zw_se_yX2_roomLeft ⟨by decide, by decide, by decide +kernel⟩ rfl (by omega) (by decide) (by omega) (by omega) rfl (Nat.le_of_ble_eq_true rfl) dX4_free_30 ?_ 
    exact zV_iret hX hM (by omega) (by omega) rfl dX4_free_33 (zpSG_j (by omega) (by first | rfl | omega) rfl rfl)
  · exact zV_throw hX rfl hN (by omega) (by omega) (by omega) Bundle.six_0 Bundle.six_1 Bundle.six_2 Bundle.six_5 zat_IndexOutOfBoundsException zw_cX4_206 zw_in_java_lang_IndexOutOfBoundsException "there is no such kernel" (by decide) (by decide) dX4_free_14 dX4_free_17 dX4_free_18 dX4_free_20 dX4_free_23 (zVX_out hX hT hM (by omega) (by omega) (⟨⟨rfl, by first | omega | assumption⟩, rfl, rfl⟩))
set_option maxRecDepth 100000 in
set_option maxHeartbeats 4000000 in
theorem c_X4_schedule {ad : Nat → Int → Nat} {x y : zSt} {c w : Int} (hc : zR c) (hw : zR w) (hI : xI x) : zC yX4_schedule cX4_schedule 5 (some .int) 7 2 12 [.ref (ad 0 0), zI c, zI w] ad x y (zpSG ((0 ≤ c ∧ c ≤ x 0 0 9 - 1) ∧ (0 ≤ w ∧ w ≤ 50)) (x 9 c 7) (zup x 9 c 7 w) y) (zpX (fun E => (E = "java/lang/IndexOutOfBoundsException" ∧ ¬ (0 ≤ c ∧ c ≤ x 0 0 9 - 1)) ∨ (E = "java/lang/IllegalArgumentException" ∧ (0 ≤ c ∧ c ≤ x 0 0 9 - 1) ∧ ¬ (0 ≤ w ∧ w ≤ 50))) x y) := by
  refine zC_ofV (by decide) (by intro v hv; simp only [List.mem_cons, List.not_mem_nil, or_false] at hv; rcases hv with rfl | rfl | rfl <;> rfl) (Nat.le_of_ble_eq_true rfl) (fun Γ hX hN hM hT => ?_)
  show zV Γ ad 0 0 x y 0 [some (.ref (ad 0 0)), some (zI c), some (zI w), none, none] []
  have hcm := hI.1
  refine zV_aloadn hX dX4_schedule_0 rfl ?_
  refine zV_iloadn hX dX4_schedule_1 rfl ?_
  refine zV_cVHX (n := 1) hX rfl hN 0 rfl rfl ⟨by decide, by decide⟩ (c_X4_cellAt (by omega) hI.1) zw_co_yX4_cellAt zw_mX4_125 zw_in_RX4 zw_im_yX4_cellAt zw_se_yX4_cellAt ⟨by decide, by decide, by decide +kernel⟩ rfl (by omega) (by decide) (by omega) (by omega) rfl (Nat.le_of_ble_eq_true rfl) dX4_schedule_2 (fun g2 => ?_) (fun E2 x2 y2 p2 => ?_)
  · refine zV_astoren3 hX dX4_schedule_5 ?_
    refine zV_iloadn hX dX4_schedule_6 rfl ?_
    refine zV_iconst hX dX4_schedule_7 ?_
    refine zV_bipush hX dX4_schedule_8 (by decide) ?_
    refine zV_cSS (n := 3) hX rfl hN (c_X4_isWithin (by omega) (by omega) (by omega) ) zw_co_yX4_isWithin zw_mX4_46 zw_in_RX4 zw_st_yX4_isWithin ⟨by decide, by decide, by decide +kernel⟩ rfl (by omega) (by decide) (by omega) (by omega) rfl (Nat.le_of_ble_eq_true rfl) dX4_schedule_10 ?_ 
    refine zV_ifne_b (tgt := 26) hX dX4_schedule_13 (by decide) (fun b13 => ?_) (fun b13 => ?_)
    · refine zV_aloadn hX dX4_schedule_26 rfl ?_
      refine GF_X4_216 hX ⟨by omega, by omega⟩ dX4_schedule_27 (fun r27 => ?_)
      refine zV_istore4 hX dX4_schedule_30 ?_
      refine zV_aloadn hX dX4_schedule_32 rfl ?_
      refine zV_iloadn hX dX4_schedule_33 rfl ?_
      refine PF_X4_216 hX ⟨by omega, by omega⟩ (by omega) dX4_schedule_34 ?_
      refine zV_iload hX dX4_schedule_37 rfl ?_
      exact zV_iret hX hM (by omega) (by omega) rfl dX4_schedule_39 (zpSG_j (by omega) (by first | rfl | omega) rfl rfl)
    · exact zV_throw hX rfl hN (by omega) (by omega) (by omega) Bundle.six_0 Bundle.six_1 Bundle.six_2 Bundle.six_5 zat_IllegalArgumentException zw_cX4_50 zw_in_java_lang_IllegalArgumentException "the period is out of range" (by decide) (by decide) dX4_schedule_16 dX4_schedule_19 dX4_schedule_20 dX4_schedule_22 dX4_schedule_25 (zVX_out hX hT hM (by omega) (by omega) (⟨Or.inr (⟨rfl, by first | omega | assumption⟩), rfl, rfl⟩))
  · obtain ⟨⟨rfl, q2⟩, rfl, rfl⟩ := p2
    exact zVX_out hX hT hM (by omega) (by omega) (⟨Or.inl ⟨rfl, by first | omega | assumption⟩, rfl, rfl⟩)
set_option maxRecDepth 100000 in
set_option maxHeartbeats 4000000 in
theorem c_X4_tick {ad : Nat → Int → Nat} {x y : zSt}  : zC yX4_tick cX4_tick 1 (some .int) 0 0 0 [.ref (ad 0 0)] ad x y (zpS (x 0 0 12) x y) (zF) := by
  refine zC_ofV (by decide) (by intro v hv; simp only [List.mem_cons, List.not_mem_nil, or_false] at hv; subst hv; rfl) (Nat.le_of_ble_eq_true rfl) (fun Γ hX hN hM hT => ?_)
  show zV Γ ad 0 0 x y 0 [some (.ref (ad 0 0))] []
  refine zV_aloadn hX dX4_tick_0 rfl ?_
  refine GF_X4_221 hX  dX4_tick_1 (fun r1 => ?_)
  exact zV_iret hX hM (by omega) (by omega) rfl dX4_tick_4 (zpS_i rfl)
set_option maxRecDepth 100000 in
set_option maxHeartbeats 4000000 in
theorem c_X4_fresh {ad : Nat → Int → Nat} {x y : zSt} (hI : xI x) : zC yX4_fresh cX4_fresh 1 (some .int) 5 0 0 [.ref (ad 0 0)] ad x y (zpS (zPop (xFr x (x 0 0 9).toNat)) x y) (zF) := by
  refine zC_ofV (by decide) (by intro v hv; simp only [List.mem_cons, List.not_mem_nil, or_false] at hv; subst hv; rfl) (Nat.le_of_ble_eq_true rfl) (fun Γ hX hN hM hT => ?_)
  show zV Γ ad 0 0 x y 0 [some (.ref (ad 0 0))] []
  refine zV_aloadn hX dX4_fresh_0 rfl ?_
  refine zV_cVS (n := 0) hX rfl hN 0 rfl rfl ⟨by decide, by decide⟩ (c_X4_freshCells hI) zw_co_yX4_freshCells zw_mX4_163 zw_in_RX4 zw_im_yX4_freshCells zw_se_yX4_freshCells ⟨by decide, by decide, by decide +kernel⟩ rfl (by omega) (by decide) (by omega) (by omega) rfl (Nat.le_of_ble_eq_true rfl) dX4_fresh_1 ?_ 
  refine zV_cSS (n := 1) hX rfl hN (c_J6_bitCount_0f7a4 (xFr_b hI _ (by have := hI.1; omega))) zw_co_yJ6_bitCount_0f7a4 zw_mX4_147 zw_in_RJ6 zw_st_yJ6_bitCount_0f7a4 ⟨by decide, by decide, by decide +kernel⟩ rfl (by omega) (by decide) (by omega) (by omega) rfl (Nat.le_of_ble_eq_true rfl) dX4_fresh_4 ?_ 
  exact zV_iret hX hM (by omega) (by omega) rfl dX4_fresh_7 (zpS_i (by first | rfl | omega))
set_option maxRecDepth 100000 in
set_option maxHeartbeats 4000000 in
theorem c_X4_publish {ad : Nat → Int → Nat} {x y : zSt} {c : Int} (hc : zR c) (hI : xI x) : zC yX4_publish cX4_publish 4 (some .int) 8 2 12 [.ref (ad 0 0), zI c] ad x y (zpSG ((0 ≤ c ∧ c ≤ x 0 0 9 - 1) ∧ zand (xFr x (x 0 0 9).toNat) (zshl 1 c) ≠ 0 ∧ x 0 0 11 < 20) (x 0 0 11) (zup (zup (zup x 7 0 (x 0 0 11) c) 8 0 (x 0 0 11) (x 1 0 (x 9 c 4))) 0 0 11 (x 0 0 11 + 1)) y) (zpX (fun E => (E = "java/lang/IndexOutOfBoundsException" ∧ ¬ (0 ≤ c ∧ c ≤ x 0 0 9 - 1)) ∨ (E = "java/lang/IllegalStateException" ∧ (0 ≤ c ∧ c ≤ x 0 0 9 - 1) ∧ ¬ (zand (xFr x (x 0 0 9).toNat) (zshl 1 c) ≠ 0 ∧ x 0 0 11 < 20))) x y) := by
  refine zC_ofV (by decide) (by intro v hv; simp only [List.mem_cons, List.not_mem_nil, or_false] at hv; rcases hv with rfl | rfl <;> rfl) (Nat.le_of_ble_eq_true rfl) (fun Γ hX hN hM hT => ?_)
  show zV Γ ad 0 0 x y 0 [some (.ref (ad 0 0)), some (zI c), none, none] []
  obtain ⟨i1, i2, i3, i4, i5, i6, i7, i8, i9, i10, i11⟩ := id hI
  have w1 : 0 ≤ c → c < x 0 0 9 → _ := fun a b => i6 c a b
  refine zV_aloadn hX dX4_publish_0 rfl ?_
  refine zV_iloadn hX dX4_publish_1 rfl ?_
  refine zV_cVHX (n := 1) hX rfl hN 0 rfl rfl ⟨by decide, by decide⟩ (c_X4_cellAt (by omega) hI.1) zw_co_yX4_cellAt zw_mX4_125 zw_in_RX4 zw_im_yX4_cellAt zw_se_yX4_cellAt ⟨by decide, by decide, by decide +kernel⟩ rfl (by omega) (by decide) (by omega) (by omega) rfl (Nat.le_of_ble_eq_true rfl) dX4_publish_2 (fun g2 => ?_) (fun E2 x2 y2 p2 => ?_)
  · refine zV_astoren2 hX dX4_publish_5 ?_
    refine zV_aloadn hX dX4_publish_6 rfl ?_
    refine zV_iloadn hX dX4_publish_7 rfl ?_
    refine zV_cVS (n := 1) hX rfl hN 0 rfl rfl ⟨by decide, by decide⟩ (c_X4_isFresh (by omega) hI) zw_co_yX4_isFresh zw_mX4_155 zw_in_RX4 zw_im_yX4_isFresh zw_se_yX4_isFresh ⟨by decide, by decide, by decide +kernel⟩ rfl (by omega) (by decide) (by omega) (by omega) rfl (Nat.le_of_ble_eq_true rfl) dX4_publish_8 ?_ 
    refine zV_ifeq_b (tgt := 23) hX dX4_publish_11 (by decide) (fun b11 => ?_) (fun b11 => ?_)
    · exact zV_throw hX rfl hN (by omega) (by omega) (by omega) Bundle.six_0 Bundle.six_1 Bundle.six_2 Bundle.six_5 zat_IllegalStateException zw_cX4_60 zw_in_java_lang_IllegalStateException "the cell is not fresh, or there are 20 views" (by decide) (by decide) dX4_publish_23 dX4_publish_26 dX4_publish_27 dX4_publish_29 dX4_publish_32 (zVX_out hX hT hM (by omega) (by omega) (⟨Or.inr (⟨rfl, by first | omega | assumption⟩), rfl, rfl⟩))
    · refine zV_aloadn hX dX4_publish_14 rfl ?_
      refine GF_X4_246 hX  dX4_publish_15 (fun r15 => ?_)
      refine zV_bipush hX dX4_publish_18 (by decide) ?_
      refine zV_icmp_lt (tgt := 33) hX dX4_publish_20 (by decide) (by omega) (by omega) (fun b20 => ?_) (fun b20 => ?_)
      · refine zV_aloadn hX dX4_publish_33 rfl ?_
        refine GF_X4_246 hX  dX4_publish_34 (fun r34 => ?_)
        refine zV_istoren3 hX dX4_publish_37 ?_
        refine zV_aloadn hX dX4_publish_38 rfl ?_
        refine GF_X4_34 hX  dX4_publish_39 ?_
        refine zV_iloadn hX dX4_publish_42 rfl ?_
        refine zV_iloadn hX dX4_publish_43 rfl ?_
        refine AS_7 hX  ⟨by omega, by omega⟩ (by omega) dX4_publish_44 ?_
        refine zV_aloadn hX dX4_publish_45 rfl ?_
        refine GF_X4_37 hX  dX4_publish_46 ?_
        refine zV_iloadn hX dX4_publish_49 rfl ?_
        refine zV_aloadn hX dX4_publish_50 rfl ?_
        refine GF_X4_9 hX  dX4_publish_51 ?_
        refine zV_aloadn hX dX4_publish_54 rfl ?_
        refine GF_X4_109 hX ⟨by omega, by omega⟩ dX4_publish_55 (fun r55 => ?_)
        try simp only [zup_d, Nat.reduceEqDiff, Int.reduceEq, reduceCtorEq, false_and, true_and, and_true, and_false, and_self, if_false, if_true, Int.reduceNeg] at r55 ⊢
        refine AL_1 hX  ⟨by have := w1 (by omega) (by omega); omega, by have := w1 (by omega) (by omega); omega⟩ dX4_publish_58 (fun r58 => ?_)
        try simp only [zup_d, Nat.reduceEqDiff, Int.reduceEq, reduceCtorEq, false_and, true_and, and_true, and_false, and_self, if_false, if_true, Int.reduceNeg] at r58 ⊢
        refine AS_8 hX  ⟨by omega, by omega⟩ (by omega) dX4_publish_59 ?_
        refine zV_aloadn hX dX4_publish_60 rfl ?_
        refine zV_dup hX dX4_publish_61 rfl ?_
        refine GF_X4_246 hX  dX4_publish_62 (fun r62 => ?_)
        try simp only [zup_d, Nat.reduceEqDiff, Int.reduceEq, reduceCtorEq, false_and, true_and, and_true, and_false, and_self, if_false, if_true, Int.reduceNeg] at r62 ⊢
        refine zV_iconst hX dX4_publish_65 ?_
        refine zV_iadd hX dX4_publish_66 ?_
        refine PF_X4_246 hX  (by omega) dX4_publish_67 ?_
        refine zV_iloadn hX dX4_publish_70 rfl ?_
        exact zV_iret hX hM (by omega) (by omega) rfl dX4_publish_71 (zpSG_j (by omega) (by first | rfl | omega) rfl rfl)
      · exact zV_throw hX rfl hN (by omega) (by omega) (by omega) Bundle.six_0 Bundle.six_1 Bundle.six_2 Bundle.six_5 zat_IllegalStateException zw_cX4_60 zw_in_java_lang_IllegalStateException "the cell is not fresh, or there are 20 views" (by decide) (by decide) dX4_publish_23 dX4_publish_26 dX4_publish_27 dX4_publish_29 dX4_publish_32 (zVX_out hX hT hM (by omega) (by omega) (⟨Or.inr (⟨rfl, by first | omega | assumption⟩), rfl, rfl⟩))
  · obtain ⟨⟨rfl, q2⟩, rfl, rfl⟩ := p2
    exact zVX_out hX hT hM (by omega) (by omega) (⟨Or.inl ⟨rfl, by first | omega | assumption⟩, rfl, rfl⟩)
set_option maxRecDepth 100000 in
set_option maxHeartbeats 4000000 in
theorem c_X4_held {ad : Nat → Int → Nat} {x y : zSt} {i : Int} (hi : zR i) (hI : xI x) : zC yX4_held cX4_held 2 (some .int) 7 1 6 [.ref (ad 0 0), zI i] ad x y (zpSG (0 ≤ i ∧ i ≤ x 0 0 11 - 1) (x 8 0 i) x y) (zpX (fun E => (E = "java/util/NoSuchElementException" ∧ ¬ (0 ≤ i ∧ i ≤ x 0 0 11 - 1))) x y) := by
  refine zC_ofV (by decide) (by intro v hv; simp only [List.mem_cons, List.not_mem_nil, or_false] at hv; rcases hv with rfl | rfl <;> rfl) (Nat.le_of_ble_eq_true rfl) (fun Γ hX hN hM hT => ?_)
  show zV Γ ad 0 0 x y 0 [some (.ref (ad 0 0)), some (zI i)] []
  have hvm := hI.2.2.1
  refine zV_aloadn hX dX4_held_0 rfl ?_
  refine zV_iloadn hX dX4_held_1 rfl ?_
  refine zV_cVGX (n := 1) hX rfl hN 0 rfl rfl ⟨by decide, by decide⟩ (c_X4_checkView (by omega) (by omega) ) zw_co_yX4_checkView zw_mX4_251 zw_in_RX4 zw_im_yX4_checkView zw_se_yX4_checkView ⟨by decide, by decide, by decide +kernel⟩ rfl (by omega) (by decide) (by omega) (by omega) rfl (Nat.le_of_ble_eq_true rfl) dX4_held_2 (fun g2 => ?_) (fun E2 x2 y2 p2 => ?_)
  · refine zV_aloadn hX dX4_held_5 rfl ?_
    refine GF_X4_37 hX  dX4_held_6 ?_
    refine zV_iloadn hX dX4_held_9 rfl ?_
    refine AL_8 hX  ⟨by omega, by omega⟩ dX4_held_10 (fun r10 => ?_)
    exact zV_iret hX hM (by omega) (by omega) rfl dX4_held_11 (zpSG_j (by omega) (by first | rfl | omega) rfl rfl)
  · obtain ⟨⟨rfl, q2⟩, rfl, rfl⟩ := p2
    exact zVX_out hX hT hM (by omega) (by omega) (⟨⟨rfl, by first | omega | assumption⟩, rfl, rfl⟩)
set_option maxRecDepth 100000 in
set_option maxHeartbeats 4000000 in
theorem c_X4_isCurrent {ad : Nat → Int → Nat} {x y : zSt} {i : Int} (hi : zR i) (hvc : ∀ i, 0 ≤ i → i < x 0 0 11 → 0 ≤ x 7 0 i ∧ x 7 0 i < x 0 0 9) (hI : xI x) : zC yX4_isCurrent cX4_isCurrent 3 (some .boolean) 7 1 6 [.ref (ad 0 0), zI i] ad x y (zpSG (0 ≤ i ∧ i ≤ x 0 0 11 - 1) (zb (zand (xFr x (x 0 0 9).toNat) (zshl 1 (x 7 0 i)) ≠ 0 ∧ x 1 0 (x 9 (x 7 0 i) 4) = x 8 0 i)) x y) (zpX (fun E => (E = "java/util/NoSuchElementException" ∧ ¬ (0 ≤ i ∧ i ≤ x 0 0 11 - 1))) x y) := by
  refine zC_ofV (by decide) (by intro v hv; simp only [List.mem_cons, List.not_mem_nil, or_false] at hv; rcases hv with rfl | rfl <;> rfl) (Nat.le_of_ble_eq_true rfl) (fun Γ hX hN hM hT => ?_)
  show zV Γ ad 0 0 x y 0 [some (.ref (ad 0 0)), some (zI i), none] []
  obtain ⟨i1, i2, i3, i4, i5, i6, i7, i8, i9, i10, i11⟩ := id hI
  have w0 : 0 ≤ i → i < x 0 0 11 → _ := fun a b => hvc i a b
  have w1 : 0 ≤ i → i < x 0 0 11 → _ := fun a b => i6 (x 7 0 i) (hvc i a b).1 (hvc i a b).2
  refine zV_aloadn hX dX4_isCurrent_0 rfl ?_
  refine zV_iloadn hX dX4_isCurrent_1 rfl ?_
  refine zV_cVGX (n := 1) hX rfl hN 0 rfl rfl ⟨by decide, by decide⟩ (c_X4_checkView (by omega) (by omega) ) zw_co_yX4_checkView zw_mX4_251 zw_in_RX4 zw_im_yX4_checkView zw_se_yX4_checkView ⟨by decide, by decide, by decide +kernel⟩ rfl (by omega) (by decide) (by omega) (by omega) rfl (Nat.le_of_ble_eq_true rfl) dX4_isCurrent_2 (fun g2 => ?_) (fun E2 x2 y2 p2 => ?_)
  · refine zV_aloadn hX dX4_isCurrent_5 rfl ?_
    refine GF_X4_34 hX  dX4_isCurrent_6 ?_
    refine zV_iloadn hX dX4_isCurrent_9 rfl ?_
    refine AL_7 hX  ⟨by omega, by omega⟩ dX4_isCurrent_10 (fun r10 => ?_)
    refine zV_istoren2 hX dX4_isCurrent_11 ?_
    refine zV_aloadn hX dX4_isCurrent_12 rfl ?_
    refine zV_iloadn hX dX4_isCurrent_13 rfl ?_
    refine zV_cVS (n := 1) hX rfl hN 0 rfl rfl ⟨by decide, by decide⟩ (c_X4_isFresh (by omega) hI) zw_co_yX4_isFresh zw_mX4_155 zw_in_RX4 zw_im_yX4_isFresh zw_se_yX4_isFresh ⟨by decide, by decide, by decide +kernel⟩ rfl (by omega) (by decide) (by omega) (by omega) rfl (Nat.le_of_ble_eq_true rfl) dX4_isCurrent_14 ?_ 
    refine zV_ifeq_b (tgt := 47) hX dX4_isCurrent_17 (by decide) (fun b17 => ?_) (fun b17 => ?_)
    · refine zV_iconst hX dX4_isCurrent_47 ?_
      exact zV_iret hX hM (by omega) (by omega) (zn_bool (by omega)) dX4_isCurrent_48 (zpSG_j (by omega) (by first | exact (zb_t ⟨by assumption, by omega⟩).symm | exact (zb_f (fun q => by first | exact absurd q.1 (by assumption) | omega)).symm) rfl rfl)
    · refine zV_aloadn hX dX4_isCurrent_20 rfl ?_
      refine GF_X4_9 hX  dX4_isCurrent_21 ?_
      refine zV_aloadn hX dX4_isCurrent_24 rfl ?_
      refine GF_X4_24 hX  dX4_isCurrent_25 ?_
      refine zV_iloadn hX dX4_isCurrent_28 rfl ?_
      refine AL_5 hX  ⟨by have := w0 (by omega) (by omega); omega, by have := w0 (by omega) (by omega); omega⟩ dX4_isCurrent_29 ?_
      refine GF_X4_109 hX ⟨by have := w0 (by omega) (by omega); omega, by have := w0 (by omega) (by omega); omega⟩ dX4_isCurrent_30 (fun r30 => ?_)
      refine AL_1 hX  ⟨by have := w1 (by omega) (by omega); omega, by have := w1 (by omega) (by omega); omega⟩ dX4_isCurrent_33 (fun r33 => ?_)
      refine zV_aloadn hX dX4_isCurrent_34 rfl ?_
      refine GF_X4_37 hX  dX4_isCurrent_35 ?_
      refine zV_iloadn hX dX4_isCurrent_38 rfl ?_
      refine AL_8 hX  ⟨by omega, by omega⟩ dX4_isCurrent_39 (fun r39 => ?_)
      refine zV_icmp_ne (tgt := 47) hX dX4_isCurrent_40 (by decide) (by omega) (by omega) (fun b40 => ?_) (fun b40 => ?_)
      · refine zV_iconst hX dX4_isCurrent_47 ?_
        exact zV_iret hX hM (by omega) (by omega) (zn_bool (by omega)) dX4_isCurrent_48 (zpSG_j (by omega) (by first | exact (zb_t ⟨by assumption, by omega⟩).symm | exact (zb_f (fun q => by first | exact absurd q.1 (by assumption) | omega)).symm) rfl rfl)
      · refine zV_iconst hX dX4_isCurrent_43 ?_
        refine zV_goto (tgt := 48) hX dX4_isCurrent_44 (by decide) ?_
        exact zV_iret hX hM (by omega) (by omega) (zn_bool (by omega)) dX4_isCurrent_48 (zpSG_j (by omega) (by first | exact (zb_t ⟨by assumption, by omega⟩).symm | exact (zb_f (fun q => by first | exact absurd q.1 (by assumption) | omega)).symm) rfl rfl)
  · obtain ⟨⟨rfl, q2⟩, rfl, rfl⟩ := p2
    exact zVX_out hX hT hM (by omega) (by omega) (⟨⟨rfl, by first | omega | assumption⟩, rfl, rfl⟩)
set_option maxRecDepth 100000 in
set_option maxHeartbeats 4000000 in
theorem c_X4_addCell {ad : Nat → Int → Nat} {x y : zSt} {k a b q w n t : Int} (hk : 0 ≤ k ∧ k ≤ 65535) (ha : zR a) (hb : zR b) (hq : zR q) (hw : zR w) (hn : zR n) (ht : zR t) (hroom : xCellOk k a b q w n t → xCanAdd x a b w → x 0 0 9 < 11) (hI : xI x) : zC yX4_addCell cX4_addCell 10 (some .int) 7 1 6 [.ref (ad 0 0), zI k, zI a, zI b, zI q, zI w, zI n, zI t] ad x y (zpSG (xCellOk k a b q w n t ∧ xCanAdd x a b w) (x 0 0 9) (xAddCell x k a b q w n t) y) (zpX (fun E => (E = "java/lang/IllegalArgumentException" ∧ ¬ xCellOk k a b q w n t) ∨ (E = "java/lang/UnsupportedOperationException" ∧ xCellOk k a b q w n t ∧ ¬ xCanAdd x a b w)) x y) := by
  refine zC_ofV (by decide) (by intro v hv; simp only [List.mem_cons, List.not_mem_nil, or_false] at hv; rcases hv with rfl | rfl | rfl | rfl | rfl | rfl | rfl | rfl <;> rfl) (Nat.le_of_ble_eq_true rfl) (fun Γ hX hN hM hT => ?_)
  show zV Γ ad 0 0 x y 0 [some (.ref (ad 0 0)), some (zI k), some (zI a), some (zI b), some (zI q), some (zI w), some (zI n), some (zI t), none, none] []
  obtain ⟨i1, i2, i3, i4, i5, i6, i7, i8, i9, i10, i11⟩ := id hI
  have w5 : ∀ v : Int, 0 ≤ v → v ≤ 11 → _ := fun v g1 g2 => i5 v g1 g2
  refine zV_iloadn hX dX4_addCell_0 rfl ?_
  refine zV_cSS (n := 1) hX rfl hN (c_X4_isKind (by omega) ) zw_co_yX4_isKind zw_mX4_80 zw_in_RX4 zw_st_yX4_isKind ⟨by decide, by decide, by decide +kernel⟩ rfl (by omega) (by decide) (by omega) (by omega) rfl (Nat.le_of_ble_eq_true rfl) dX4_addCell_1 ?_ 
  refine zV_ifeq_b (tgt := 66) hX dX4_addCell_4 (by decide) (fun b4 => ?_) (fun b4 => ?_)
  · exact zV_throw hX rfl hN (by omega) (by omega) (by omega) Bundle.six_0 Bundle.six_1 Bundle.six_2 Bundle.six_5 zat_IllegalArgumentException zw_cX4_50 zw_in_java_lang_IllegalArgumentException "one of them is out of range" (by decide) (by decide) dX4_addCell_66 dX4_addCell_69 dX4_addCell_70 dX4_addCell_72 dX4_addCell_75 (zVX_out hX hT hM (by omega) (by omega) (⟨Or.inl ⟨rfl, by unfold xCellOk; omega⟩, rfl, rfl⟩))
  · refine zV_iloadn hX dX4_addCell_7 rfl ?_
    refine zV_cSS (n := 1) hX rfl hN (c_X4_isVariable (by omega) ) zw_co_yX4_isVariable zw_mX4_42 zw_in_RX4 zw_st_yX4_isVariable ⟨by decide, by decide, by decide +kernel⟩ rfl (by omega) (by decide) (by omega) (by omega) rfl (Nat.le_of_ble_eq_true rfl) dX4_addCell_8 ?_ 
    refine zV_ifeq_b (tgt := 66) hX dX4_addCell_11 (by decide) (fun b11 => ?_) (fun b11 => ?_)
    · exact zV_throw hX rfl hN (by omega) (by omega) (by omega) Bundle.six_0 Bundle.six_1 Bundle.six_2 Bundle.six_5 zat_IllegalArgumentException zw_cX4_50 zw_in_java_lang_IllegalArgumentException "one of them is out of range" (by decide) (by decide) dX4_addCell_66 dX4_addCell_69 dX4_addCell_70 dX4_addCell_72 dX4_addCell_75 (zVX_out hX hT hM (by omega) (by omega) (⟨Or.inl ⟨rfl, by unfold xCellOk; omega⟩, rfl, rfl⟩))
    · refine zV_iloadn hX dX4_addCell_14 rfl ?_
      refine zV_iconst hX dX4_addCell_15 ?_
      refine zV_icmp_eq (tgt := 26) hX dX4_addCell_16 (by decide) (by omega) (by omega) (fun b16 => ?_) (fun b16 => ?_)
      · refine zV_iload hX dX4_addCell_26 rfl ?_
        refine zV_iconst hX dX4_addCell_28 ?_
        refine zV_bipush hX dX4_addCell_29 (by decide) ?_
        refine zV_cSS (n := 3) hX rfl hN (c_X4_isWithin (by omega) (by omega) (by omega) ) zw_co_yX4_isWithin zw_mX4_46 zw_in_RX4 zw_st_yX4_isWithin ⟨by decide, by decide, by decide +kernel⟩ rfl (by omega) (by decide) (by omega) (by omega) rfl (Nat.le_of_ble_eq_true rfl) dX4_addCell_31 ?_ 
        refine zV_ifeq_b (tgt := 66) hX dX4_addCell_34 (by decide) (fun b34 => ?_) (fun b34 => ?_)
        · exact zV_throw hX rfl hN (by omega) (by omega) (by omega) Bundle.six_0 Bundle.six_1 Bundle.six_2 Bundle.six_5 zat_IllegalArgumentException zw_cX4_50 zw_in_java_lang_IllegalArgumentException "one of them is out of range" (by decide) (by decide) dX4_addCell_66 dX4_addCell_69 dX4_addCell_70 dX4_addCell_72 dX4_addCell_75 (zVX_out hX hT hM (by omega) (by omega) (⟨Or.inl ⟨rfl, by unfold xCellOk; omega⟩, rfl, rfl⟩))
        · refine zV_iload hX dX4_addCell_37 rfl ?_
          refine zV_cSS (n := 1) hX rfl hN (c_X4_isVariable (by omega) ) zw_co_yX4_isVariable zw_mX4_42 zw_in_RX4 zw_st_yX4_isVariable ⟨by decide, by decide, by decide +kernel⟩ rfl (by omega) (by decide) (by omega) (by omega) rfl (Nat.le_of_ble_eq_true rfl) dX4_addCell_39 ?_ 
          refine zV_ifeq_b (tgt := 66) hX dX4_addCell_42 (by decide) (fun b42 => ?_) (fun b42 => ?_)
          · exact zV_throw hX rfl hN (by omega) (by omega) (by omega) Bundle.six_0 Bundle.six_1 Bundle.six_2 Bundle.six_5 zat_IllegalArgumentException zw_cX4_50 zw_in_java_lang_IllegalArgumentException "one of them is out of range" (by decide) (by decide) dX4_addCell_66 dX4_addCell_69 dX4_addCell_70 dX4_addCell_72 dX4_addCell_75 (zVX_out hX hT hM (by omega) (by omega) (⟨Or.inl ⟨rfl, by unfold xCellOk; omega⟩, rfl, rfl⟩))
          · refine zV_iload hX dX4_addCell_45 rfl ?_
            refine zV_iconst hX dX4_addCell_47 ?_
            refine zV_iconst hX dX4_addCell_48 ?_
            refine zV_cSS (n := 3) hX rfl hN (c_X4_isWithin (by omega) (by omega) (by omega) ) zw_co_yX4_isWithin zw_mX4_46 zw_in_RX4 zw_st_yX4_isWithin ⟨by decide, by decide, by decide +kernel⟩ rfl (by omega) (by decide) (by omega) (by omega) rfl (Nat.le_of_ble_eq_true rfl) dX4_addCell_49 ?_ 
            refine zV_ifeq_b (tgt := 66) hX dX4_addCell_52 (by decide) (fun b52 => ?_) (fun b52 => ?_)
            · exact zV_throw hX rfl hN (by omega) (by omega) (by omega) Bundle.six_0 Bundle.six_1 Bundle.six_2 Bundle.six_5 zat_IllegalArgumentException zw_cX4_50 zw_in_java_lang_IllegalArgumentException "one of them is out of range" (by decide) (by decide) dX4_addCell_66 dX4_addCell_69 dX4_addCell_70 dX4_addCell_72 dX4_addCell_75 (zVX_out hX hT hM (by omega) (by omega) (⟨Or.inl ⟨rfl, by unfold xCellOk; omega⟩, rfl, rfl⟩))
            · refine zV_iload hX dX4_addCell_55 rfl ?_
              refine zV_iconst hX dX4_addCell_57 ?_
              refine zV_bipush hX dX4_addCell_58 (by decide) ?_
              refine zV_cSS (n := 3) hX rfl hN (c_X4_isWithin (by omega) (by omega) (by omega) ) zw_co_yX4_isWithin zw_mX4_46 zw_in_RX4 zw_st_yX4_isWithin ⟨by decide, by decide, by decide +kernel⟩ rfl (by omega) (by decide) (by omega) (by omega) rfl (Nat.le_of_ble_eq_true rfl) dX4_addCell_60 ?_ 
              refine zV_ifne_b (tgt := 76) hX dX4_addCell_63 (by decide) (fun b63 => ?_) (fun b63 => ?_)
              · refine zV_aloadn hX dX4_addCell_76 rfl ?_
                refine zV_iloadn hX dX4_addCell_77 rfl ?_
                refine zV_cVS (n := 1) hX rfl hN 0 rfl rfl ⟨by decide, by decide⟩ (c_X4_isDefined ⟨by omega, by omega⟩) zw_co_yX4_isDefined zw_mX4_57 zw_in_RX4 zw_im_yX4_isDefined zw_se_yX4_isDefined ⟨by decide, by decide, by decide +kernel⟩ rfl (by omega) (by decide) (by omega) (by omega) rfl (Nat.le_of_ble_eq_true rfl) dX4_addCell_78 ?_ 
                refine zV_ifeq_b (tgt := 106) hX dX4_addCell_81 (by decide) (fun b81 => ?_) (fun b81 => ?_)
                · exact zV_throw hX rfl hN (by omega) (by omega) (by omega) Bundle.six_0 Bundle.six_1 Bundle.six_2 Bundle.six_5 zat_UnsupportedOperationException zw_cX4_86 zw_in_java_lang_UnsupportedOperationException "what it reads must be there, what it writes must not" (by decide) (by decide) dX4_addCell_106 dX4_addCell_109 dX4_addCell_110 dX4_addCell_112 dX4_addCell_115 (zVX_out hX hT hM (by omega) (by omega) (⟨Or.inr ⟨rfl, by unfold xCellOk; omega, by unfold xCanAdd; omega⟩, rfl, rfl⟩))
                · refine zV_iloadn hX dX4_addCell_84 rfl ?_
                  refine zV_iconst hX dX4_addCell_85 ?_
                  refine zV_icmp_eq (tgt := 97) hX dX4_addCell_86 (by decide) (by omega) (by omega) (fun b86 => ?_) (fun b86 => ?_)
                  · refine zV_aloadn hX dX4_addCell_97 rfl ?_
                    refine zV_iload hX dX4_addCell_98 rfl ?_
                    refine zV_cVS (n := 1) hX rfl hN 0 rfl rfl ⟨by decide, by decide⟩ (c_X4_isDefined ⟨by omega, by omega⟩) zw_co_yX4_isDefined zw_mX4_57 zw_in_RX4 zw_im_yX4_isDefined zw_se_yX4_isDefined ⟨by decide, by decide, by decide +kernel⟩ rfl (by omega) (by decide) (by omega) (by omega) rfl (Nat.le_of_ble_eq_true rfl) dX4_addCell_100 ?_ 
                    refine zV_ifeq_b (tgt := 116) hX dX4_addCell_103 (by decide) (fun b103 => ?_) (fun b103 => ?_)
                    · refine zV_aloadn hX dX4_addCell_116 rfl ?_
                      refine GF_X4_91 hX  dX4_addCell_117 (fun r117 => ?_)
                      refine zV_bipush hX dX4_addCell_120 (by decide) ?_
                      refine zV_icmp_lt (tgt := 135) hX dX4_addCell_122 (by decide) (by omega) (by omega) (fun b122 => ?_) (fun b122 => ?_)
                      · skip
                        refine zV_aloadn hX dX4_addCell_135 rfl ?_
                        refine GF_X4_91 hX  dX4_addCell_136 (fun r136 => ?_)
                        refine zV_istore8 hX dX4_addCell_139 ?_
                        refine zV_aloadn hX dX4_addCell_141 rfl ?_
                        refine GF_X4_24 hX  dX4_addCell_142 ?_
                        refine zV_iload hX dX4_addCell_145 rfl ?_
                        refine AL_5 hX  ⟨by omega, by omega⟩ dX4_addCell_147 ?_
                        refine zV_astore9 hX dX4_addCell_148 ?_
                        refine zV_aload hX dX4_addCell_150 rfl ?_
                        refine zV_iloadn hX dX4_addCell_152 rfl ?_
                        refine PF_X4_96 hX ⟨by omega, by omega⟩ (by omega) dX4_addCell_153 ?_
                        refine zV_aload hX dX4_addCell_156 rfl ?_
                        refine zV_iloadn hX dX4_addCell_158 rfl ?_
                        refine PF_X4_100 hX ⟨by omega, by omega⟩ (by omega) dX4_addCell_159 ?_
                        refine zV_aload hX dX4_addCell_162 rfl ?_
                        refine zV_iloadn hX dX4_addCell_164 rfl ?_
                        refine PF_X4_103 hX ⟨by omega, by omega⟩ (by omega) dX4_addCell_165 ?_
                        refine zV_aload hX dX4_addCell_168 rfl ?_
                        refine zV_iload hX dX4_addCell_170 rfl ?_
                        refine PF_X4_106 hX ⟨by omega, by omega⟩ (by omega) dX4_addCell_172 ?_
                        refine zV_aload hX dX4_addCell_175 rfl ?_
                        refine zV_iload hX dX4_addCell_177 rfl ?_
                        refine PF_X4_109 hX ⟨by omega, by omega⟩ (by omega) dX4_addCell_179 ?_
                        refine zV_aload hX dX4_addCell_182 rfl ?_
                        refine zV_iload hX dX4_addCell_184 rfl ?_
                        refine PF_X4_112 hX ⟨by omega, by omega⟩ (by omega) dX4_addCell_186 ?_
                        refine zV_aload hX dX4_addCell_189 rfl ?_
                        refine zV_iload hX dX4_addCell_191 rfl ?_
                        refine PF_X4_115 hX ⟨by omega, by omega⟩ (by omega) dX4_addCell_193 ?_
                        refine zV_aload hX dX4_addCell_196 rfl ?_
                        refine zV_aloadn hX dX4_addCell_198 rfl ?_
                        refine zV_iloadn hX dX4_addCell_199 rfl ?_
                        refine zV_cVS (n := 1) hX rfl hN 0 rfl rfl ⟨by decide, by decide⟩ (c_X4_lineageThrough (v := a) ⟨by omega, by omega⟩ (by have := w5 a (by omega) (by omega); simp only [zup_d, Nat.reduceEqDiff, false_and, if_false]; omega)) zw_co_yX4_lineageThrough zw_mX4_118 zw_in_RX4 zw_im_yX4_lineageThrough zw_se_yX4_lineageThrough ⟨by decide, by decide, by decide +kernel⟩ rfl (by omega) (by decide) (by omega) (by omega) rfl (Nat.le_of_ble_eq_true rfl) dX4_addCell_200 ?_ 
                        refine zV_iloadn hX dX4_addCell_203 rfl ?_
                        refine zV_iconst hX dX4_addCell_204 ?_
                        refine zV_icmp_ne (tgt := 212) hX dX4_addCell_205 (by decide) (by omega) (by omega) (fun b205 => ?_) (fun b205 => ?_)
                        · refine zV_aloadn hX dX4_addCell_212 rfl ?_
                          refine zV_iloadn hX dX4_addCell_213 rfl ?_
                          refine zV_cVS (n := 1) hX rfl hN 0 rfl rfl ⟨by decide, by decide⟩ (c_X4_lineageThrough (v := b) ⟨by omega, by omega⟩ (by have := w5 b (by omega) (by omega); simp only [zup_d, Nat.reduceEqDiff, false_and, if_false]; omega)) zw_co_yX4_lineageThrough zw_mX4_118 zw_in_RX4 zw_im_yX4_lineageThrough zw_se_yX4_lineageThrough ⟨by decide, by decide, by decide +kernel⟩ rfl (by omega) (by decide) (by omega) (by omega) rfl (Nat.le_of_ble_eq_true rfl) dX4_addCell_214 ?_ 
                          refine zV_ior hX dX4_addCell_217 ?_
                          refine PF_X4_122 hX ⟨by omega, by omega⟩ (zR_of _) dX4_addCell_218 ?_
                          refine zV_aloadn hX dX4_addCell_221 rfl ?_
                          refine GF_X4_16 hX  dX4_addCell_222 ?_
                          refine zV_iload hX dX4_addCell_225 rfl ?_
                          refine zV_iload hX dX4_addCell_227 rfl ?_
                          refine AS_3 hX  ⟨by omega, by omega⟩ (by omega) dX4_addCell_229 ?_
                          refine zV_aloadn hX dX4_addCell_230 rfl ?_
                          refine zV_dup hX dX4_addCell_231 rfl ?_
                          refine GF_X4_91 hX  dX4_addCell_232 (fun r232 => ?_)
                          try simp only [zup_d, Nat.reduceEqDiff, Int.reduceEq, reduceCtorEq, false_and, true_and, and_true, and_false, and_self, if_false, if_true, Int.reduceNeg] at r232 ⊢
                          refine zV_iconst hX dX4_addCell_235 ?_
                          refine zV_iadd hX dX4_addCell_236 ?_
                          refine PF_X4_91 hX  (by omega) dX4_addCell_237 ?_
                          refine zV_iload hX dX4_addCell_240 rfl ?_
                          exact zV_iret hX hM (by omega) (by omega) rfl dX4_addCell_242 (zpSG_j ⟨by unfold xCellOk; omega, by unfold xCanAdd; omega⟩ rfl (by first | (exfalso; omega) | (unfold xAddCell; (first | rw [if_pos (by assumption)] | rw [if_neg (by assumption)]); simp only [xLin, zup_d, Nat.reduceEqDiff, Int.reduceEq, false_and, and_false, if_false])) rfl)
                        · refine zV_iconst hX dX4_addCell_208 ?_
                          refine zV_goto (tgt := 217) hX dX4_addCell_209 (by decide) ?_
                          refine zV_ior hX dX4_addCell_217 ?_
                          refine PF_X4_122 hX ⟨by omega, by omega⟩ (zR_of _) dX4_addCell_218 ?_
                          refine zV_aloadn hX dX4_addCell_221 rfl ?_
                          refine GF_X4_16 hX  dX4_addCell_222 ?_
                          refine zV_iload hX dX4_addCell_225 rfl ?_
                          refine zV_iload hX dX4_addCell_227 rfl ?_
                          refine AS_3 hX  ⟨by omega, by omega⟩ (by omega) dX4_addCell_229 ?_
                          refine zV_aloadn hX dX4_addCell_230 rfl ?_
                          refine zV_dup hX dX4_addCell_231 rfl ?_
                          refine GF_X4_91 hX  dX4_addCell_232 (fun r232 => ?_)
                          try simp only [zup_d, Nat.reduceEqDiff, Int.reduceEq, reduceCtorEq, false_and, true_and, and_true, and_false, and_self, if_false, if_true, Int.reduceNeg] at r232 ⊢
                          refine zV_iconst hX dX4_addCell_235 ?_
                          refine zV_iadd hX dX4_addCell_236 ?_
                          refine PF_X4_91 hX  (by omega) dX4_addCell_237 ?_
                          refine zV_iload hX dX4_addCell_240 rfl ?_
                          exact zV_iret hX hM (by omega) (by omega) rfl dX4_addCell_242 (zpSG_j ⟨by unfold xCellOk; omega, by unfold xCanAdd; omega⟩ rfl (by first | (exfalso; omega) | (unfold xAddCell; (first | rw [if_pos (by assumption)] | rw [if_neg (by assumption)]); simp only [xLin, zup_d, Nat.reduceEqDiff, Int.reduceEq, false_and, and_false, if_false])) rfl)
                      · exact absurd (hroom (by unfold xCellOk; omega) (by unfold xCanAdd; omega)) (by omega) --done
                    · exact zV_throw hX rfl hN (by omega) (by omega) (by omega) Bundle.six_0 Bundle.six_1 Bundle.six_2 Bundle.six_5 zat_UnsupportedOperationException zw_cX4_86 zw_in_java_lang_UnsupportedOperationException "what it reads must be there, what it writes must not" (by decide) (by decide) dX4_addCell_106 dX4_addCell_109 dX4_addCell_110 dX4_addCell_112 dX4_addCell_115 (zVX_out hX hT hM (by omega) (by omega) (⟨Or.inr ⟨rfl, by unfold xCellOk; omega, by unfold xCanAdd; omega⟩, rfl, rfl⟩))
                  · refine zV_aloadn hX dX4_addCell_89 rfl ?_
                    refine zV_iloadn hX dX4_addCell_90 rfl ?_
                    refine zV_cVS (n := 1) hX rfl hN 0 rfl rfl ⟨by decide, by decide⟩ (c_X4_isDefined ⟨by omega, by omega⟩) zw_co_yX4_isDefined zw_mX4_57 zw_in_RX4 zw_im_yX4_isDefined zw_se_yX4_isDefined ⟨by decide, by decide, by decide +kernel⟩ rfl (by omega) (by decide) (by omega) (by omega) rfl (Nat.le_of_ble_eq_true rfl) dX4_addCell_91 ?_ 
                    refine zV_ifeq_b (tgt := 106) hX dX4_addCell_94 (by decide) (fun b94 => ?_) (fun b94 => ?_)
                    · exact zV_throw hX rfl hN (by omega) (by omega) (by omega) Bundle.six_0 Bundle.six_1 Bundle.six_2 Bundle.six_5 zat_UnsupportedOperationException zw_cX4_86 zw_in_java_lang_UnsupportedOperationException "what it reads must be there, what it writes must not" (by decide) (by decide) dX4_addCell_106 dX4_addCell_109 dX4_addCell_110 dX4_addCell_112 dX4_addCell_115 (zVX_out hX hT hM (by omega) (by omega) (⟨Or.inr ⟨rfl, by unfold xCellOk; omega, by unfold xCanAdd; omega⟩, rfl, rfl⟩))
                    · refine zV_aloadn hX dX4_addCell_97 rfl ?_
                      refine zV_iload hX dX4_addCell_98 rfl ?_
                      refine zV_cVS (n := 1) hX rfl hN 0 rfl rfl ⟨by decide, by decide⟩ (c_X4_isDefined ⟨by omega, by omega⟩) zw_co_yX4_isDefined zw_mX4_57 zw_in_RX4 zw_im_yX4_isDefined zw_se_yX4_isDefined ⟨by decide, by decide, by decide +kernel⟩ rfl (by omega) (by decide) (by omega) (by omega) rfl (Nat.le_of_ble_eq_true rfl) dX4_addCell_100 ?_ 
                      refine zV_ifeq_b (tgt := 116) hX dX4_addCell_103 (by decide) (fun b103 => ?_) (fun b103 => ?_)
                      · refine zV_aloadn hX dX4_addCell_116 rfl ?_
                        refine GF_X4_91 hX  dX4_addCell_117 (fun r117 => ?_)
                        refine zV_bipush hX dX4_addCell_120 (by decide) ?_
                        refine zV_icmp_lt (tgt := 135) hX dX4_addCell_122 (by decide) (by omega) (by omega) (fun b122 => ?_) (fun b122 => ?_)
                        · skip
                          refine zV_aloadn hX dX4_addCell_135 rfl ?_
                          refine GF_X4_91 hX  dX4_addCell_136 (fun r136 => ?_)
                          refine zV_istore8 hX dX4_addCell_139 ?_
                          refine zV_aloadn hX dX4_addCell_141 rfl ?_
                          refine GF_X4_24 hX  dX4_addCell_142 ?_
                          refine zV_iload hX dX4_addCell_145 rfl ?_
                          refine AL_5 hX  ⟨by omega, by omega⟩ dX4_addCell_147 ?_
                          refine zV_astore9 hX dX4_addCell_148 ?_
                          refine zV_aload hX dX4_addCell_150 rfl ?_
                          refine zV_iloadn hX dX4_addCell_152 rfl ?_
                          refine PF_X4_96 hX ⟨by omega, by omega⟩ (by omega) dX4_addCell_153 ?_
                          refine zV_aload hX dX4_addCell_156 rfl ?_
                          refine zV_iloadn hX dX4_addCell_158 rfl ?_
                          refine PF_X4_100 hX ⟨by omega, by omega⟩ (by omega) dX4_addCell_159 ?_
                          refine zV_aload hX dX4_addCell_162 rfl ?_
                          refine zV_iloadn hX dX4_addCell_164 rfl ?_
                          refine PF_X4_103 hX ⟨by omega, by omega⟩ (by omega) dX4_addCell_165 ?_
                          refine zV_aload hX dX4_addCell_168 rfl ?_
                          refine zV_iload hX dX4_addCell_170 rfl ?_
                          refine PF_X4_106 hX ⟨by omega, by omega⟩ (by omega) dX4_addCell_172 ?_
                          refine zV_aload hX dX4_addCell_175 rfl ?_
                          refine zV_iload hX dX4_addCell_177 rfl ?_
                          refine PF_X4_109 hX ⟨by omega, by omega⟩ (by omega) dX4_addCell_179 ?_
                          refine zV_aload hX dX4_addCell_182 rfl ?_
                          refine zV_iload hX dX4_addCell_184 rfl ?_
                          refine PF_X4_112 hX ⟨by omega, by omega⟩ (by omega) dX4_addCell_186 ?_
                          refine zV_aload hX dX4_addCell_189 rfl ?_
                          refine zV_iload hX dX4_addCell_191 rfl ?_
                          refine PF_X4_115 hX ⟨by omega, by omega⟩ (by omega) dX4_addCell_193 ?_
                          refine zV_aload hX dX4_addCell_196 rfl ?_
                          refine zV_aloadn hX dX4_addCell_198 rfl ?_
                          refine zV_iloadn hX dX4_addCell_199 rfl ?_
                          refine zV_cVS (n := 1) hX rfl hN 0 rfl rfl ⟨by decide, by decide⟩ (c_X4_lineageThrough (v := a) ⟨by omega, by omega⟩ (by have := w5 a (by omega) (by omega); simp only [zup_d, Nat.reduceEqDiff, false_and, if_false]; omega)) zw_co_yX4_lineageThrough zw_mX4_118 zw_in_RX4 zw_im_yX4_lineageThrough zw_se_yX4_lineageThrough ⟨by decide, by decide, by decide +kernel⟩ rfl (by omega) (by decide) (by omega) (by omega) rfl (Nat.le_of_ble_eq_true rfl) dX4_addCell_200 ?_ 
                          refine zV_iloadn hX dX4_addCell_203 rfl ?_
                          refine zV_iconst hX dX4_addCell_204 ?_
                          refine zV_icmp_ne (tgt := 212) hX dX4_addCell_205 (by decide) (by omega) (by omega) (fun b205 => ?_) (fun b205 => ?_)
                          · refine zV_aloadn hX dX4_addCell_212 rfl ?_
                            refine zV_iloadn hX dX4_addCell_213 rfl ?_
                            refine zV_cVS (n := 1) hX rfl hN 0 rfl rfl ⟨by decide, by decide⟩ (c_X4_lineageThrough (v := b) ⟨by omega, by omega⟩ (by have := w5 b (by omega) (by omega); simp only [zup_d, Nat.reduceEqDiff, false_and, if_false]; omega)) zw_co_yX4_lineageThrough zw_mX4_118 zw_in_RX4 zw_im_yX4_lineageThrough zw_se_yX4_lineageThrough ⟨by decide, by decide, by decide +kernel⟩ rfl (by omega) (by decide) (by omega) (by omega) rfl (Nat.le_of_ble_eq_true rfl) dX4_addCell_214 ?_ 
                            refine zV_ior hX dX4_addCell_217 ?_
                            refine PF_X4_122 hX ⟨by omega, by omega⟩ (zR_of _) dX4_addCell_218 ?_
                            refine zV_aloadn hX dX4_addCell_221 rfl ?_
                            refine GF_X4_16 hX  dX4_addCell_222 ?_
                            refine zV_iload hX dX4_addCell_225 rfl ?_
                            refine zV_iload hX dX4_addCell_227 rfl ?_
                            refine AS_3 hX  ⟨by omega, by omega⟩ (by omega) dX4_addCell_229 ?_
                            refine zV_aloadn hX dX4_addCell_230 rfl ?_
                            refine zV_dup hX dX4_addCell_231 rfl ?_
                            refine GF_X4_91 hX  dX4_addCell_232 (fun r232 => ?_)
                            try simp only [zup_d, Nat.reduceEqDiff, Int.reduceEq, reduceCtorEq, false_and, true_and, and_true, and_false, and_self, if_false, if_true, Int.reduceNeg] at r232 ⊢
                            refine zV_iconst hX dX4_addCell_235 ?_
                            refine zV_iadd hX dX4_addCell_236 ?_
                            refine PF_X4_91 hX  (by omega) dX4_addCell_237 ?_
                            refine zV_iload hX dX4_addCell_240 rfl ?_
                            exact zV_iret hX hM (by omega) (by omega) rfl dX4_addCell_242 (zpSG_j ⟨by unfold xCellOk; omega, by unfold xCanAdd; omega⟩ rfl (by first | (exfalso; omega) | (unfold xAddCell; (first | rw [if_pos (by assumption)] | rw [if_neg (by assumption)]); simp only [xLin, zup_d, Nat.reduceEqDiff, Int.reduceEq, false_and, and_false, if_false])) rfl)
                          · refine zV_iconst hX dX4_addCell_208 ?_
                            refine zV_goto (tgt := 217) hX dX4_addCell_209 (by decide) ?_
                            refine zV_ior hX dX4_addCell_217 ?_
                            refine PF_X4_122 hX ⟨by omega, by omega⟩ (zR_of _) dX4_addCell_218 ?_
                            refine zV_aloadn hX dX4_addCell_221 rfl ?_
                            refine GF_X4_16 hX  dX4_addCell_222 ?_
                            refine zV_iload hX dX4_addCell_225 rfl ?_
                            refine zV_iload hX dX4_addCell_227 rfl ?_
                            refine AS_3 hX  ⟨by omega, by omega⟩ (by omega) dX4_addCell_229 ?_
                            refine zV_aloadn hX dX4_addCell_230 rfl ?_
                            refine zV_dup hX dX4_addCell_231 rfl ?_
                            refine GF_X4_91 hX  dX4_addCell_232 (fun r232 => ?_)
                            try simp only [zup_d, Nat.reduceEqDiff, Int.reduceEq, reduceCtorEq, false_and, true_and, and_true, and_false, and_self, if_false, if_true, Int.reduceNeg] at r232 ⊢
                            refine zV_iconst hX dX4_addCell_235 ?_
                            refine zV_iadd hX dX4_addCell_236 ?_
                            refine PF_X4_91 hX  (by omega) dX4_addCell_237 ?_
                            refine zV_iload hX dX4_addCell_240 rfl ?_
                            exact zV_iret hX hM (by omega) (by omega) rfl dX4_addCell_242 (zpSG_j ⟨by unfold xCellOk; omega, by unfold xCanAdd; omega⟩ rfl (by first | (exfalso; omega) | (unfold xAddCell; (first | rw [if_pos (by assumption)] | rw [if_neg (by assumption)]); simp only [xLin, zup_d, Nat.reduceEqDiff, Int.reduceEq, false_and, and_false, if_false])) rfl)
                        · exact absurd (hroom (by unfold xCellOk; omega) (by unfold xCanAdd; omega)) (by omega) --done
                      · exact zV_throw hX rfl hN (by omega) (by omega) (by omega) Bundle.six_0 Bundle.six_1 Bundle.six_2 Bundle.six_5 zat_UnsupportedOperationException zw_cX4_86 zw_in_java_lang_UnsupportedOperationException "what it reads must be there, what it writes must not" (by decide) (by decide) dX4_addCell_106 dX4_addCell_109 dX4_addCell_110 dX4_addCell_112 dX4_addCell_115 (zVX_out hX hT hM (by omega) (by omega) (⟨Or.inr ⟨rfl, by unfold xCellOk; omega, by unfold xCanAdd; omega⟩, rfl, rfl⟩))
              · exact zV_throw hX rfl hN (by omega) (by omega) (by omega) Bundle.six_0 Bundle.six_1 Bundle.six_2 Bundle.six_5 zat_IllegalArgumentException zw_cX4_50 zw_in_java_lang_IllegalArgumentException "one of them is out of range" (by decide) (by decide) dX4_addCell_66 dX4_addCell_69 dX4_addCell_70 dX4_addCell_72 dX4_addCell_75 (zVX_out hX hT hM (by omega) (by omega) (⟨Or.inl ⟨rfl, by unfold xCellOk; omega⟩, rfl, rfl⟩))
      · refine zV_iloadn hX dX4_addCell_19 rfl ?_
        refine zV_cSS (n := 1) hX rfl hN (c_X4_isVariable (by omega) ) zw_co_yX4_isVariable zw_mX4_42 zw_in_RX4 zw_st_yX4_isVariable ⟨by decide, by decide, by decide +kernel⟩ rfl (by omega) (by decide) (by omega) (by omega) rfl (Nat.le_of_ble_eq_true rfl) dX4_addCell_20 ?_ 
        refine zV_ifeq_b (tgt := 66) hX dX4_addCell_23 (by decide) (fun b23 => ?_) (fun b23 => ?_)
        · exact zV_throw hX rfl hN (by omega) (by omega) (by omega) Bundle.six_0 Bundle.six_1 Bundle.six_2 Bundle.six_5 zat_IllegalArgumentException zw_cX4_50 zw_in_java_lang_IllegalArgumentException "one of them is out of range" (by decide) (by decide) dX4_addCell_66 dX4_addCell_69 dX4_addCell_70 dX4_addCell_72 dX4_addCell_75 (zVX_out hX hT hM (by omega) (by omega) (⟨Or.inl ⟨rfl, by unfold xCellOk; omega⟩, rfl, rfl⟩))
        · refine zV_iload hX dX4_addCell_26 rfl ?_
          refine zV_iconst hX dX4_addCell_28 ?_
          refine zV_bipush hX dX4_addCell_29 (by decide) ?_
          refine zV_cSS (n := 3) hX rfl hN (c_X4_isWithin (by omega) (by omega) (by omega) ) zw_co_yX4_isWithin zw_mX4_46 zw_in_RX4 zw_st_yX4_isWithin ⟨by decide, by decide, by decide +kernel⟩ rfl (by omega) (by decide) (by omega) (by omega) rfl (Nat.le_of_ble_eq_true rfl) dX4_addCell_31 ?_ 
          refine zV_ifeq_b (tgt := 66) hX dX4_addCell_34 (by decide) (fun b34 => ?_) (fun b34 => ?_)
          · exact zV_throw hX rfl hN (by omega) (by omega) (by omega) Bundle.six_0 Bundle.six_1 Bundle.six_2 Bundle.six_5 zat_IllegalArgumentException zw_cX4_50 zw_in_java_lang_IllegalArgumentException "one of them is out of range" (by decide) (by decide) dX4_addCell_66 dX4_addCell_69 dX4_addCell_70 dX4_addCell_72 dX4_addCell_75 (zVX_out hX hT hM (by omega) (by omega) (⟨Or.inl ⟨rfl, by unfold xCellOk; omega⟩, rfl, rfl⟩))
          · refine zV_iload hX dX4_addCell_37 rfl ?_
            refine zV_cSS (n := 1) hX rfl hN (c_X4_isVariable (by omega) ) zw_co_yX4_isVariable zw_mX4_42 zw_in_RX4 zw_st_yX4_isVariable ⟨by decide, by decide, by decide +kernel⟩ rfl (by omega) (by decide) (by omega) (by omega) rfl (Nat.le_of_ble_eq_true rfl) dX4_addCell_39 ?_ 
            refine zV_ifeq_b (tgt := 66) hX dX4_addCell_42 (by decide) (fun b42 => ?_) (fun b42 => ?_)
            · exact zV_throw hX rfl hN (by omega) (by omega) (by omega) Bundle.six_0 Bundle.six_1 Bundle.six_2 Bundle.six_5 zat_IllegalArgumentException zw_cX4_50 zw_in_java_lang_IllegalArgumentException "one of them is out of range" (by decide) (by decide) dX4_addCell_66 dX4_addCell_69 dX4_addCell_70 dX4_addCell_72 dX4_addCell_75 (zVX_out hX hT hM (by omega) (by omega) (⟨Or.inl ⟨rfl, by unfold xCellOk; omega⟩, rfl, rfl⟩))
            · refine zV_iload hX dX4_addCell_45 rfl ?_
              refine zV_iconst hX dX4_addCell_47 ?_
              refine zV_iconst hX dX4_addCell_48 ?_
              refine zV_cSS (n := 3) hX rfl hN (c_X4_isWithin (by omega) (by omega) (by omega) ) zw_co_yX4_isWithin zw_mX4_46 zw_in_RX4 zw_st_yX4_isWithin ⟨by decide, by decide, by decide +kernel⟩ rfl (by omega) (by decide) (by omega) (by omega) rfl (Nat.le_of_ble_eq_true rfl) dX4_addCell_49 ?_ 
              refine zV_ifeq_b (tgt := 66) hX dX4_addCell_52 (by decide) (fun b52 => ?_) (fun b52 => ?_)
              · exact zV_throw hX rfl hN (by omega) (by omega) (by omega) Bundle.six_0 Bundle.six_1 Bundle.six_2 Bundle.six_5 zat_IllegalArgumentException zw_cX4_50 zw_in_java_lang_IllegalArgumentException "one of them is out of range" (by decide) (by decide) dX4_addCell_66 dX4_addCell_69 dX4_addCell_70 dX4_addCell_72 dX4_addCell_75 (zVX_out hX hT hM (by omega) (by omega) (⟨Or.inl ⟨rfl, by unfold xCellOk; omega⟩, rfl, rfl⟩))
              · refine zV_iload hX dX4_addCell_55 rfl ?_
                refine zV_iconst hX dX4_addCell_57 ?_
                refine zV_bipush hX dX4_addCell_58 (by decide) ?_
                refine zV_cSS (n := 3) hX rfl hN (c_X4_isWithin (by omega) (by omega) (by omega) ) zw_co_yX4_isWithin zw_mX4_46 zw_in_RX4 zw_st_yX4_isWithin ⟨by decide, by decide, by decide +kernel⟩ rfl (by omega) (by decide) (by omega) (by omega) rfl (Nat.le_of_ble_eq_true rfl) dX4_addCell_60 ?_ 
                refine zV_ifne_b (tgt := 76) hX dX4_addCell_63 (by decide) (fun b63 => ?_) (fun b63 => ?_)
                · refine zV_aloadn hX dX4_addCell_76 rfl ?_
                  refine zV_iloadn hX dX4_addCell_77 rfl ?_
                  refine zV_cVS (n := 1) hX rfl hN 0 rfl rfl ⟨by decide, by decide⟩ (c_X4_isDefined ⟨by omega, by omega⟩) zw_co_yX4_isDefined zw_mX4_57 zw_in_RX4 zw_im_yX4_isDefined zw_se_yX4_isDefined ⟨by decide, by decide, by decide +kernel⟩ rfl (by omega) (by decide) (by omega) (by omega) rfl (Nat.le_of_ble_eq_true rfl) dX4_addCell_78 ?_ 
                  refine zV_ifeq_b (tgt := 106) hX dX4_addCell_81 (by decide) (fun b81 => ?_) (fun b81 => ?_)
                  · exact zV_throw hX rfl hN (by omega) (by omega) (by omega) Bundle.six_0 Bundle.six_1 Bundle.six_2 Bundle.six_5 zat_UnsupportedOperationException zw_cX4_86 zw_in_java_lang_UnsupportedOperationException "what it reads must be there, what it writes must not" (by decide) (by decide) dX4_addCell_106 dX4_addCell_109 dX4_addCell_110 dX4_addCell_112 dX4_addCell_115 (zVX_out hX hT hM (by omega) (by omega) (⟨Or.inr ⟨rfl, by unfold xCellOk; omega, by unfold xCanAdd; omega⟩, rfl, rfl⟩))
                  · refine zV_iloadn hX dX4_addCell_84 rfl ?_
                    refine zV_iconst hX dX4_addCell_85 ?_
                    refine zV_icmp_eq (tgt := 97) hX dX4_addCell_86 (by decide) (by omega) (by omega) (fun b86 => ?_) (fun b86 => ?_)
                    · refine zV_aloadn hX dX4_addCell_97 rfl ?_
                      refine zV_iload hX dX4_addCell_98 rfl ?_
                      refine zV_cVS (n := 1) hX rfl hN 0 rfl rfl ⟨by decide, by decide⟩ (c_X4_isDefined ⟨by omega, by omega⟩) zw_co_yX4_isDefined zw_mX4_57 zw_in_RX4 zw_im_yX4_isDefined zw_se_yX4_isDefined ⟨by decide, by decide, by decide +kernel⟩ rfl (by omega) (by decide) (by omega) (by omega) rfl (Nat.le_of_ble_eq_true rfl) dX4_addCell_100 ?_ 
                      refine zV_ifeq_b (tgt := 116) hX dX4_addCell_103 (by decide) (fun b103 => ?_) (fun b103 => ?_)
                      · refine zV_aloadn hX dX4_addCell_116 rfl ?_
                        refine GF_X4_91 hX  dX4_addCell_117 (fun r117 => ?_)
                        refine zV_bipush hX dX4_addCell_120 (by decide) ?_
                        refine zV_icmp_lt (tgt := 135) hX dX4_addCell_122 (by decide) (by omega) (by omega) (fun b122 => ?_) (fun b122 => ?_)
                        · skip
                          refine zV_aloadn hX dX4_addCell_135 rfl ?_
                          refine GF_X4_91 hX  dX4_addCell_136 (fun r136 => ?_)
                          refine zV_istore8 hX dX4_addCell_139 ?_
                          refine zV_aloadn hX dX4_addCell_141 rfl ?_
                          refine GF_X4_24 hX  dX4_addCell_142 ?_
                          refine zV_iload hX dX4_addCell_145 rfl ?_
                          refine AL_5 hX  ⟨by omega, by omega⟩ dX4_addCell_147 ?_
                          refine zV_astore9 hX dX4_addCell_148 ?_
                          refine zV_aload hX dX4_addCell_150 rfl ?_
                          refine zV_iloadn hX dX4_addCell_152 rfl ?_
                          refine PF_X4_96 hX ⟨by omega, by omega⟩ (by omega) dX4_addCell_153 ?_
                          refine zV_aload hX dX4_addCell_156 rfl ?_
                          refine zV_iloadn hX dX4_addCell_158 rfl ?_
                          refine PF_X4_100 hX ⟨by omega, by omega⟩ (by omega) dX4_addCell_159 ?_
                          refine zV_aload hX dX4_addCell_162 rfl ?_
                          refine zV_iloadn hX dX4_addCell_164 rfl ?_
                          refine PF_X4_103 hX ⟨by omega, by omega⟩ (by omega) dX4_addCell_165 ?_
                          refine zV_aload hX dX4_addCell_168 rfl ?_
                          refine zV_iload hX dX4_addCell_170 rfl ?_
                          refine PF_X4_106 hX ⟨by omega, by omega⟩ (by omega) dX4_addCell_172 ?_
                          refine zV_aload hX dX4_addCell_175 rfl ?_
                          refine zV_iload hX dX4_addCell_177 rfl ?_
                          refine PF_X4_109 hX ⟨by omega, by omega⟩ (by omega) dX4_addCell_179 ?_
                          refine zV_aload hX dX4_addCell_182 rfl ?_
                          refine zV_iload hX dX4_addCell_184 rfl ?_
                          refine PF_X4_112 hX ⟨by omega, by omega⟩ (by omega) dX4_addCell_186 ?_
                          refine zV_aload hX dX4_addCell_189 rfl ?_
                          refine zV_iload hX dX4_addCell_191 rfl ?_
                          refine PF_X4_115 hX ⟨by omega, by omega⟩ (by omega) dX4_addCell_193 ?_
                          refine zV_aload hX dX4_addCell_196 rfl ?_
                          refine zV_aloadn hX dX4_addCell_198 rfl ?_
                          refine zV_iloadn hX dX4_addCell_199 rfl ?_
                          refine zV_cVS (n := 1) hX rfl hN 0 rfl rfl ⟨by decide, by decide⟩ (c_X4_lineageThrough (v := a) ⟨by omega, by omega⟩ (by have := w5 a (by omega) (by omega); simp only [zup_d, Nat.reduceEqDiff, false_and, if_false]; omega)) zw_co_yX4_lineageThrough zw_mX4_118 zw_in_RX4 zw_im_yX4_lineageThrough zw_se_yX4_lineageThrough ⟨by decide, by decide, by decide +kernel⟩ rfl (by omega) (by decide) (by omega) (by omega) rfl (Nat.le_of_ble_eq_true rfl) dX4_addCell_200 ?_ 
                          refine zV_iloadn hX dX4_addCell_203 rfl ?_
                          refine zV_iconst hX dX4_addCell_204 ?_
                          refine zV_icmp_ne (tgt := 212) hX dX4_addCell_205 (by decide) (by omega) (by omega) (fun b205 => ?_) (fun b205 => ?_)
                          · refine zV_aloadn hX dX4_addCell_212 rfl ?_
                            refine zV_iloadn hX dX4_addCell_213 rfl ?_
                            refine zV_cVS (n := 1) hX rfl hN 0 rfl rfl ⟨by decide, by decide⟩ (c_X4_lineageThrough (v := b) ⟨by omega, by omega⟩ (by have := w5 b (by omega) (by omega); simp only [zup_d, Nat.reduceEqDiff, false_and, if_false]; omega)) zw_co_yX4_lineageThrough zw_mX4_118 zw_in_RX4 zw_im_yX4_lineageThrough zw_se_yX4_lineageThrough ⟨by decide, by decide, by decide +kernel⟩ rfl (by omega) (by decide) (by omega) (by omega) rfl (Nat.le_of_ble_eq_true rfl) dX4_addCell_214 ?_ 
                            refine zV_ior hX dX4_addCell_217 ?_
                            refine PF_X4_122 hX ⟨by omega, by omega⟩ (zR_of _) dX4_addCell_218 ?_
                            refine zV_aloadn hX dX4_addCell_221 rfl ?_
                            refine GF_X4_16 hX  dX4_addCell_222 ?_
                            refine zV_iload hX dX4_addCell_225 rfl ?_
                            refine zV_iload hX dX4_addCell_227 rfl ?_
                            refine AS_3 hX  ⟨by omega, by omega⟩ (by omega) dX4_addCell_229 ?_
                            refine zV_aloadn hX dX4_addCell_230 rfl ?_
                            refine zV_dup hX dX4_addCell_231 rfl ?_
                            refine GF_X4_91 hX  dX4_addCell_232 (fun r232 => ?_)
                            try simp only [zup_d, Nat.reduceEqDiff, Int.reduceEq, reduceCtorEq, false_and, true_and, and_true, and_false, and_self, if_false, if_true, Int.reduceNeg] at r232 ⊢
                            refine zV_iconst hX dX4_addCell_235 ?_
                            refine zV_iadd hX dX4_addCell_236 ?_
                            refine PF_X4_91 hX  (by omega) dX4_addCell_237 ?_
                            refine zV_iload hX dX4_addCell_240 rfl ?_
                            exact zV_iret hX hM (by omega) (by omega) rfl dX4_addCell_242 (zpSG_j ⟨by unfold xCellOk; omega, by unfold xCanAdd; omega⟩ rfl (by first | (exfalso; omega) | (unfold xAddCell; (first | rw [if_pos (by assumption)] | rw [if_neg (by assumption)]); simp only [xLin, zup_d, Nat.reduceEqDiff, Int.reduceEq, false_and, and_false, if_false])) rfl)
                          · refine zV_iconst hX dX4_addCell_208 ?_
                            refine zV_goto (tgt := 217) hX dX4_addCell_209 (by decide) ?_
                            refine zV_ior hX dX4_addCell_217 ?_
                            refine PF_X4_122 hX ⟨by omega, by omega⟩ (zR_of _) dX4_addCell_218 ?_
                            refine zV_aloadn hX dX4_addCell_221 rfl ?_
                            refine GF_X4_16 hX  dX4_addCell_222 ?_
                            refine zV_iload hX dX4_addCell_225 rfl ?_
                            refine zV_iload hX dX4_addCell_227 rfl ?_
                            refine AS_3 hX  ⟨by omega, by omega⟩ (by omega) dX4_addCell_229 ?_
                            refine zV_aloadn hX dX4_addCell_230 rfl ?_
                            refine zV_dup hX dX4_addCell_231 rfl ?_
                            refine GF_X4_91 hX  dX4_addCell_232 (fun r232 => ?_)
                            try simp only [zup_d, Nat.reduceEqDiff, Int.reduceEq, reduceCtorEq, false_and, true_and, and_true, and_false, and_self, if_false, if_true, Int.reduceNeg] at r232 ⊢
                            refine zV_iconst hX dX4_addCell_235 ?_
                            refine zV_iadd hX dX4_addCell_236 ?_
                            refine PF_X4_91 hX  (by omega) dX4_addCell_237 ?_
                            refine zV_iload hX dX4_addCell_240 rfl ?_
                            exact zV_iret hX hM (by omega) (by omega) rfl dX4_addCell_242 (zpSG_j ⟨by unfold xCellOk; omega, by unfold xCanAdd; omega⟩ rfl (by first | (exfalso; omega) | (unfold xAddCell; (first | rw [if_pos (by assumption)] | rw [if_neg (by assumption)]); simp only [xLin, zup_d, Nat.reduceEqDiff, Int.reduceEq, false_and, and_false, if_false])) rfl)
                        · exact absurd (hroom (by unfold xCellOk; omega) (by unfold xCanAdd; omega)) (by omega) --done
                      · exact zV_throw hX rfl hN (by omega) (by omega) (by omega) Bundle.six_0 Bundle.six_1 Bundle.six_2 Bundle.six_5 zat_UnsupportedOperationException zw_cX4_86 zw_in_java_lang_UnsupportedOperationException "what it reads must be there, what it writes must not" (by decide) (by decide) dX4_addCell_106 dX4_addCell_109 dX4_addCell_110 dX4_addCell_112 dX4_addCell_115 (zVX_out hX hT hM (by omega) (by omega) (⟨Or.inr ⟨rfl, by unfold xCellOk; omega, by unfold xCanAdd; omega⟩, rfl, rfl⟩))
                    · refine zV_aloadn hX dX4_addCell_89 rfl ?_
                      refine zV_iloadn hX dX4_addCell_90 rfl ?_
                      refine zV_cVS (n := 1) hX rfl hN 0 rfl rfl ⟨by decide, by decide⟩ (c_X4_isDefined ⟨by omega, by omega⟩) zw_co_yX4_isDefined zw_mX4_57 zw_in_RX4 zw_im_yX4_isDefined zw_se_yX4_isDefined ⟨by decide, by decide, by decide +kernel⟩ rfl (by omega) (by decide) (by omega) (by omega) rfl (Nat.le_of_ble_eq_true rfl) dX4_addCell_91 ?_ 
                      refine zV_ifeq_b (tgt := 106) hX dX4_addCell_94 (by decide) (fun b94 => ?_) (fun b94 => ?_)
                      · exact zV_throw hX rfl hN (by omega) (by omega) (by omega) Bundle.six_0 Bundle.six_1 Bundle.six_2 Bundle.six_5 zat_UnsupportedOperationException zw_cX4_86 zw_in_java_lang_UnsupportedOperationException "what it reads must be there, what it writes must not" (by decide) (by decide) dX4_addCell_106 dX4_addCell_109 dX4_addCell_110 dX4_addCell_112 dX4_addCell_115 (zVX_out hX hT hM (by omega) (by omega) (⟨Or.inr ⟨rfl, by unfold xCellOk; omega, by unfold xCanAdd; omega⟩, rfl, rfl⟩))
                      · refine zV_aloadn hX dX4_addCell_97 rfl ?_
                        refine zV_iload hX dX4_addCell_98 rfl ?_
                        refine zV_cVS (n := 1) hX rfl hN 0 rfl rfl ⟨by decide, by decide⟩ (c_X4_isDefined ⟨by omega, by omega⟩) zw_co_yX4_isDefined zw_mX4_57 zw_in_RX4 zw_im_yX4_isDefined zw_se_yX4_isDefined ⟨by decide, by decide, by decide +kernel⟩ rfl (by omega) (by decide) (by omega) (by omega) rfl (Nat.le_of_ble_eq_true rfl) dX4_addCell_100 ?_ 
                        refine zV_ifeq_b (tgt := 116) hX dX4_addCell_103 (by decide) (fun b103 => ?_) (fun b103 => ?_)
                        · refine zV_aloadn hX dX4_addCell_116 rfl ?_
                          refine GF_X4_91 hX  dX4_addCell_117 (fun r117 => ?_)
                          refine zV_bipush hX dX4_addCell_120 (by decide) ?_
                          refine zV_icmp_lt (tgt := 135) hX dX4_addCell_122 (by decide) (by omega) (by omega) (fun b122 => ?_) (fun b122 => ?_)
                          · skip
                            refine zV_aloadn hX dX4_addCell_135 rfl ?_
                            refine GF_X4_91 hX  dX4_addCell_136 (fun r136 => ?_)
                            refine zV_istore8 hX dX4_addCell_139 ?_
                            refine zV_aloadn hX dX4_addCell_141 rfl ?_
                            refine GF_X4_24 hX  dX4_addCell_142 ?_
                            refine zV_iload hX dX4_addCell_145 rfl ?_
                            refine AL_5 hX  ⟨by omega, by omega⟩ dX4_addCell_147 ?_
                            refine zV_astore9 hX dX4_addCell_148 ?_
                            refine zV_aload hX dX4_addCell_150 rfl ?_
                            refine zV_iloadn hX dX4_addCell_152 rfl ?_
                            refine PF_X4_96 hX ⟨by omega, by omega⟩ (by omega) dX4_addCell_153 ?_
                            refine zV_aload hX dX4_addCell_156 rfl ?_
                            refine zV_iloadn hX dX4_addCell_158 rfl ?_
                            refine PF_X4_100 hX ⟨by omega, by omega⟩ (by omega) dX4_addCell_159 ?_
                            refine zV_aload hX dX4_addCell_162 rfl ?_
                            refine zV_iloadn hX dX4_addCell_164 rfl ?_
                            refine PF_X4_103 hX ⟨by omega, by omega⟩ (by omega) dX4_addCell_165 ?_
                            refine zV_aload hX dX4_addCell_168 rfl ?_
                            refine zV_iload hX dX4_addCell_170 rfl ?_
                            refine PF_X4_106 hX ⟨by omega, by omega⟩ (by omega) dX4_addCell_172 ?_
                            refine zV_aload hX dX4_addCell_175 rfl ?_
                            refine zV_iload hX dX4_addCell_177 rfl ?_
                            refine PF_X4_109 hX ⟨by omega, by omega⟩ (by omega) dX4_addCell_179 ?_
                            refine zV_aload hX dX4_addCell_182 rfl ?_
                            refine zV_iload hX dX4_addCell_184 rfl ?_
                            refine PF_X4_112 hX ⟨by omega, by omega⟩ (by omega) dX4_addCell_186 ?_
                            refine zV_aload hX dX4_addCell_189 rfl ?_
                            refine zV_iload hX dX4_addCell_191 rfl ?_
                            refine PF_X4_115 hX ⟨by omega, by omega⟩ (by omega) dX4_addCell_193 ?_
                            refine zV_aload hX dX4_addCell_196 rfl ?_
                            refine zV_aloadn hX dX4_addCell_198 rfl ?_
                            refine zV_iloadn hX dX4_addCell_199 rfl ?_
                            refine zV_cVS (n := 1) hX rfl hN 0 rfl rfl ⟨by decide, by decide⟩ (c_X4_lineageThrough (v := a) ⟨by omega, by omega⟩ (by have := w5 a (by omega) (by omega); simp only [zup_d, Nat.reduceEqDiff, false_and, if_false]; omega)) zw_co_yX4_lineageThrough zw_mX4_118 zw_in_RX4 zw_im_yX4_lineageThrough zw_se_yX4_lineageThrough ⟨by decide, by decide, by decide +kernel⟩ rfl (by omega) (by decide) (by omega) (by omega) rfl (Nat.le_of_ble_eq_true rfl) dX4_addCell_200 ?_ 
                            refine zV_iloadn hX dX4_addCell_203 rfl ?_
                            refine zV_iconst hX dX4_addCell_204 ?_
                            refine zV_icmp_ne (tgt := 212) hX dX4_addCell_205 (by decide) (by omega) (by omega) (fun b205 => ?_) (fun b205 => ?_)
                            · refine zV_aloadn hX dX4_addCell_212 rfl ?_
                              refine zV_iloadn hX dX4_addCell_213 rfl ?_
                              refine zV_cVS (n := 1) hX rfl hN 0 rfl rfl ⟨by decide, by decide⟩ (c_X4_lineageThrough (v := b) ⟨by omega, by omega⟩ (by have := w5 b (by omega) (by omega); simp only [zup_d, Nat.reduceEqDiff, false_and, if_false]; omega)) zw_co_yX4_lineageThrough zw_mX4_118 zw_in_RX4 zw_im_yX4_lineageThrough zw_se_yX4_lineageThrough ⟨by decide, by decide, by decide +kernel⟩ rfl (by omega) (by decide) (by omega) (by omega) rfl (Nat.le_of_ble_eq_true rfl) dX4_addCell_214 ?_ 
                              refine zV_ior hX dX4_addCell_217 ?_
                              refine PF_X4_122 hX ⟨by omega, by omega⟩ (zR_of _) dX4_addCell_218 ?_
                              refine zV_aloadn hX dX4_addCell_221 rfl ?_
                              refine GF_X4_16 hX  dX4_addCell_222 ?_
                              refine zV_iload hX dX4_addCell_225 rfl ?_
                              refine zV_iload hX dX4_addCell_227 rfl ?_
                              refine AS_3 hX  ⟨by omega, by omega⟩ (by omega) dX4_addCell_229 ?_
                              refine zV_aloadn hX dX4_addCell_230 rfl ?_
                              refine zV_dup hX dX4_addCell_231 rfl ?_
                              refine GF_X4_91 hX  dX4_addCell_232 (fun r232 => ?_)
                              try simp only [zup_d, Nat.reduceEqDiff, Int.reduceEq, reduceCtorEq, false_and, true_and, and_true, and_false, and_self, if_false, if_true, Int.reduceNeg] at r232 ⊢
                              refine zV_iconst hX dX4_addCell_235 ?_
                              refine zV_iadd hX dX4_addCell_236 ?_
                              refine PF_X4_91 hX  (by omega) dX4_addCell_237 ?_
                              refine zV_iload hX dX4_addCell_240 rfl ?_
                              exact zV_iret hX hM (by omega) (by omega) rfl dX4_addCell_242 (zpSG_j ⟨by unfold xCellOk; omega, by unfold xCanAdd; omega⟩ rfl (by first | (exfalso; omega) | (unfold xAddCell; (first | rw [if_pos (by assumption)] | rw [if_neg (by assumption)]); simp only [xLin, zup_d, Nat.reduceEqDiff, Int.reduceEq, false_and, and_false, if_false])) rfl)
                            · refine zV_iconst hX dX4_addCell_208 ?_
                              refine zV_goto (tgt := 217) hX dX4_addCell_209 (by decide) ?_
                              refine zV_ior hX dX4_addCell_217 ?_
                              refine PF_X4_122 hX ⟨by omega, by omega⟩ (zR_of _) dX4_addCell_218 ?_
                              refine zV_aloadn hX dX4_addCell_221 rfl ?_
                              refine GF_X4_16 hX  dX4_addCell_222 ?_
                              refine zV_iload hX dX4_addCell_225 rfl ?_
                              refine zV_iload hX dX4_addCell_227 rfl ?_
                              refine AS_3 hX  ⟨by omega, by omega⟩ (by omega) dX4_addCell_229 ?_
                              refine zV_aloadn hX dX4_addCell_230 rfl ?_
                              refine zV_dup hX dX4_addCell_231 rfl ?_
                              refine GF_X4_91 hX  dX4_addCell_232 (fun r232 => ?_)
                              try simp only [zup_d, Nat.reduceEqDiff, Int.reduceEq, reduceCtorEq, false_and, true_and, and_true, and_false, and_self, if_false, if_true, Int.reduceNeg] at r232 ⊢
                              refine zV_iconst hX dX4_addCell_235 ?_
                              refine zV_iadd hX dX4_addCell_236 ?_
                              refine PF_X4_91 hX  (by omega) dX4_addCell_237 ?_
                              refine zV_iload hX dX4_addCell_240 rfl ?_
                              exact zV_iret hX hM (by omega) (by omega) rfl dX4_addCell_242 (zpSG_j ⟨by unfold xCellOk; omega, by unfold xCanAdd; omega⟩ rfl (by first | (exfalso; omega) | (unfold xAddCell; (first | rw [if_pos (by assumption)] | rw [if_neg (by assumption)]); simp only [xLin, zup_d, Nat.reduceEqDiff, Int.reduceEq, false_and, and_false, if_false])) rfl)
                          · exact absurd (hroom (by unfold xCellOk; omega) (by unfold xCanAdd; omega)) (by omega) --done
                        · exact zV_throw hX rfl hN (by omega) (by omega) (by omega) Bundle.six_0 Bundle.six_1 Bundle.six_2 Bundle.six_5 zat_UnsupportedOperationException zw_cX4_86 zw_in_java_lang_UnsupportedOperationException "what it reads must be there, what it writes must not" (by decide) (by decide) dX4_addCell_106 dX4_addCell_109 dX4_addCell_110 dX4_addCell_112 dX4_addCell_115 (zVX_out hX hT hM (by omega) (by omega) (⟨Or.inr ⟨rfl, by unfold xCellOk; omega, by unfold xCanAdd; omega⟩, rfl, rfl⟩))
                · exact zV_throw hX rfl hN (by omega) (by omega) (by omega) Bundle.six_0 Bundle.six_1 Bundle.six_2 Bundle.six_5 zat_IllegalArgumentException zw_cX4_50 zw_in_java_lang_IllegalArgumentException "one of them is out of range" (by decide) (by decide) dX4_addCell_66 dX4_addCell_69 dX4_addCell_70 dX4_addCell_72 dX4_addCell_75 (zVX_out hX hT hM (by omega) (by omega) (⟨Or.inl ⟨rfl, by unfold xCellOk; omega⟩, rfl, rfl⟩))
