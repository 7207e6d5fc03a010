set_option maxRecDepth 100000 in
set_option maxHeartbeats 4000000 in
theorem c_X4_isWithin {ad : Nat → Int → Nat} {x y : zSt} {a b c : Int} (ha : zR a) (hb : zR b) (hc : zR c) : zC yX4_isWithin cX4_isWithin 3 (some .boolean) 0 0 0 [zI a, zI b, zI c] ad x y (zpS (zb (b ≤ a ∧ a ≤ c)) x y) (zF) := by
  refine zC_ofV (by decide) (by intro v hv; simp only [List.mem_cons, List.not_mem_nil, or_false] at hv; rcases hv with rfl | rfl | rfl <;> rfl) (Nat.le_of_ble_eq_true rfl) (fun Γ hX hN hM hT => ?_)
  show zV Γ ad 0 0 x y 0 [some (zI a), some (zI b), some (zI c)] []
  refine zV_iloadn hX dX4_isWithin_0 rfl ?_
  refine zV_iloadn hX dX4_isWithin_1 rfl ?_
  refine zV_icmp_lt (tgt := 14) hX dX4_isWithin_2 (by decide) (by omega) (by omega) (fun b2 => ?_) (fun b2 => ?_)
  · refine zV_iconst hX dX4_isWithin_14 ?_
    exact zV_iret hX hM (by omega) (by omega) (zn_bool (by omega)) dX4_isWithin_15 (zpS_i (by first | rfl | exact (zb_t (by omega)).symm | exact (zb_f (by omega)).symm))
  · refine zV_iloadn hX dX4_isWithin_5 rfl ?_
    refine zV_iloadn hX dX4_isWithin_6 rfl ?_
    refine zV_icmp_gt (tgt := 14) hX dX4_isWithin_7 (by decide) (by omega) (by omega) (fun b7 => ?_) (fun b7 => ?_)
    · refine zV_iconst hX dX4_isWithin_14 ?_
      exact zV_iret hX hM (by omega) (by omega) (zn_bool (by omega)) dX4_isWithin_15 (zpS_i (by first | rfl | exact (zb_t (by omega)).symm | exact (zb_f (by omega)).symm))
    · refine zV_iconst hX dX4_isWithin_10 ?_
      refine zV_goto (tgt := 15) hX dX4_isWithin_11 (by decide) ?_
      exact zV_iret hX hM (by omega) (by omega) (zn_bool (by omega)) dX4_isWithin_15 (zpS_i (by first | rfl | exact (zb_t (by omega)).symm | exact (zb_f (by omega)).symm))
set_option maxRecDepth 100000 in
set_option maxHeartbeats 4000000 in
theorem c_X4_isVariable {ad : Nat → Int → Nat} {x y : zSt} {v : Int} (hv : zR v) : zC yX4_isVariable cX4_isVariable 1 (some .boolean) 1 0 0 [zI v] ad x y (zpS (zb (0 ≤ v ∧ v ≤ 11)) x y) (zF) := by
  refine zC_ofV (by decide) (by intro v hv; simp only [List.mem_cons, List.not_mem_nil, or_false] at hv; subst hv; rfl) (Nat.le_of_ble_eq_true rfl) (fun Γ hX hN hM hT => ?_)
  show zV Γ ad 0 0 x y 0 [some (zI v)] []
  refine zV_iloadn hX dX4_isVariable_0 rfl ?_
  refine zV_iconst hX dX4_isVariable_1 ?_
  refine zV_bipush hX dX4_isVariable_2 (by decide) ?_
  refine zV_cSS (n := 3) hX rfl hN (c_X4_isWithin (by omega) (by omega) (by omega) ) zw_co_yX4_isWithin zw_mX4_46 zw_in_RX4 zw_st_yX4_isWithin ⟨by decide, by decide, by decide +kernel⟩ rfl (by omega) (by decide) (by omega) (by omega) rfl (Nat.le_of_ble_eq_true rfl) dX4_isVariable_4 ?_ 
  exact zV_iret hX hM (by omega) (by omega) zn_b dX4_isVariable_7 (zpS_i (by first | rfl | exact (zb_t (by omega)).symm | exact (zb_f (by omega)).symm))
set_option maxRecDepth 100000 in
set_option maxHeartbeats 4000000 in
theorem c_X4_isKind {ad : Nat → Int → Nat} {x y : zSt} {k : Int} (hk : zR k) : zC yX4_isKind cX4_isKind 1 (some .boolean) 0 0 0 [zI k] ad x y (zpS (zb (k = 43 ∨ k = 42 ∨ k = 45 ∨ k = 47)) x y) (zF) := by
  refine zC_ofV (by decide) (by intro v hv; simp only [List.mem_cons, List.not_mem_nil, or_false] at hv; subst hv; rfl) (Nat.le_of_ble_eq_true rfl) (fun Γ hX hN hM hT => ?_)
  show zV Γ ad 0 0 x y 0 [some (zI k)] []
  refine zV_iloadn hX dX4_isKind_0 rfl ?_
  refine zV_bipush hX dX4_isKind_1 (by decide) ?_
  refine zV_icmp_eq (tgt := 24) hX dX4_isKind_3 (by decide) (by omega) (by omega) (fun b3 => ?_) (fun b3 => ?_)
  · refine zV_iconst hX dX4_isKind_24 ?_
    refine zV_goto (tgt := 29) hX dX4_isKind_25 (by decide) ?_
    exact zV_iret hX hM (by omega) (by omega) (zn_bool (by omega)) dX4_isKind_29 (zpS_i (by first | rfl | exact (zb_t (by omega)).symm | exact (zb_f (by omega)).symm))
  · refine zV_iloadn hX dX4_isKind_6 rfl ?_
    refine zV_bipush hX dX4_isKind_7 (by decide) ?_
    refine zV_icmp_eq (tgt := 24) hX dX4_isKind_9 (by decide) (by omega) (by omega) (fun b9 => ?_) (fun b9 => ?_)
    · refine zV_iconst hX dX4_isKind_24 ?_
      refine zV_goto (tgt := 29) hX dX4_isKind_25 (by decide) ?_
      exact zV_iret hX hM (by omega) (by omega) (zn_bool (by omega)) dX4_isKind_29 (zpS_i (by first | rfl | exact (zb_t (by omega)).symm | exact (zb_f (by omega)).symm))
    · refine zV_iloadn hX dX4_isKind_12 rfl ?_
      refine zV_bipush hX dX4_isKind_13 (by decide) ?_
      refine zV_icmp_eq (tgt := 24) hX dX4_isKind_15 (by decide) (by omega) (by omega) (fun b15 => ?_) (fun b15 => ?_)
      · refine zV_iconst hX dX4_isKind_24 ?_
        refine zV_goto (tgt := 29) hX dX4_isKind_25 (by decide) ?_
        exact zV_iret hX hM (by omega) (by omega) (zn_bool (by omega)) dX4_isKind_29 (zpS_i (by first | rfl | exact (zb_t (by omega)).symm | exact (zb_f (by omega)).symm))
      · refine zV_iloadn hX dX4_isKind_18 rfl ?_
        refine zV_bipush hX dX4_isKind_19 (by decide) ?_
        refine zV_icmp_ne (tgt := 28) hX dX4_isKind_21 (by decide) (by omega) (by omega) (fun b21 => ?_) (fun b21 => ?_)
        · refine zV_iconst hX dX4_isKind_28 ?_
          exact zV_iret hX hM (by omega) (by omega) (zn_bool (by omega)) dX4_isKind_29 (zpS_i (by first | rfl | exact (zb_t (by omega)).symm | exact (zb_f (by omega)).symm))
        · refine zV_iconst hX dX4_isKind_24 ?_
          refine zV_goto (tgt := 29) hX dX4_isKind_25 (by decide) ?_
          exact zV_iret hX hM (by omega) (by omega) (zn_bool (by omega)) dX4_isKind_29 (zpS_i (by first | rfl | exact (zb_t (by omega)).symm | exact (zb_f (by omega)).symm))
set_option maxRecDepth 100000 in
set_option maxHeartbeats 4000000 in
theorem c_X4_isData {ad : Nat → Int → Nat} {x y : zSt} {v : Int} (hv : 0 ≤ v ∧ v ≤ 11) : zC yX4_isData cX4_isData 2 (some .boolean) 0 0 0 [.ref (ad 0 0), zI v] ad x y (zpS (zb (x 2 0 v ≠ -1)) x y) (zF) := by
  refine zC_ofV (by decide) (by intro v hv; simp only [List.mem_cons, List.not_mem_nil, or_false] at hv; rcases hv with rfl | rfl <;> rfl) (Nat.le_of_ble_eq_true rfl) (fun Γ hX hN hM hT => ?_)
  show zV Γ ad 0 0 x y 0 [some (.ref (ad 0 0)), some (zI v)] []
  refine zV_aloadn hX dX4_isData_0 rfl ?_
  refine GF_X4_13 hX  dX4_isData_1 ?_
  refine zV_iloadn hX dX4_isData_4 rfl ?_
  refine AL_2 hX  ⟨by omega, by omega⟩ dX4_isData_5 (fun r5 => ?_)
  refine zV_iconst hX dX4_isData_6 ?_
  refine zV_icmp_eq (tgt := 14) hX dX4_isData_7 (by decide) (by omega) (by omega) (fun b7 => ?_) (fun b7 => ?_)
  · refine zV_iconst hX dX4_isData_14 ?_
    exact zV_iret hX hM (by omega) (by omega) (zn_bool (by omega)) dX4_isData_15 (zpS_i (by first | rfl | exact (zb_t (by omega)).symm | exact (zb_f (by omega)).symm))
  · refine zV_iconst hX dX4_isData_10 ?_
    refine zV_goto (tgt := 15) hX dX4_isData_11 (by decide) ?_
    exact zV_iret hX hM (by omega) (by omega) (zn_bool (by omega)) dX4_isData_15 (zpS_i (by first | rfl | exact (zb_t (by omega)).symm | exact (zb_f (by omega)).symm))
set_option maxRecDepth 100000 in
set_option maxHeartbeats 4000000 in
theorem c_X4_isDefined {ad : Nat → Int → Nat} {x y : zSt} {v : Int} (hv : 0 ≤ v ∧ v ≤ 11) : zC yX4_isDefined cX4_isDefined 2 (some .boolean) 1 0 0 [.ref (ad 0 0), zI v] ad x y (zpS (zb (x 2 0 v ≠ -1 ∨ x 3 0 v ≠ -1)) x y) (zF) := by
  refine zC_ofV (by decide) (by intro v hv; simp only [List.mem_cons, List.not_mem_nil, or_false] at hv; rcases hv with rfl | rfl <;> rfl) (Nat.le_of_ble_eq_true rfl) (fun Γ hX hN hM hT => ?_)
  show zV Γ ad 0 0 x y 0 [some (.ref (ad 0 0)), some (zI v)] []
  refine zV_aloadn hX dX4_isDefined_0 rfl ?_
  refine zV_iloadn hX dX4_isDefined_1 rfl ?_
  refine zV_cVS (n := 1) hX rfl hN 0 rfl rfl ⟨by decide, by decide⟩ (c_X4_isData hv) zw_co_yX4_isData zw_mX4_193 zw_in_RX4 zw_im_yX4_isData zw_se_yX4_isData ⟨by decide, by decide, by decide +kernel⟩ rfl (by omega) (by decide) (by omega) (by omega) rfl (Nat.le_of_ble_eq_true rfl) dX4_isDefined_2 ?_ 
  refine zV_ifne_b (tgt := 18) hX dX4_isDefined_5 (by decide) (fun b5 => ?_) (fun b5 => ?_)
  · refine zV_iconst hX dX4_isDefined_18 ?_
    refine zV_goto (tgt := 23) hX dX4_isDefined_19 (by decide) ?_
    exact zV_iret hX hM (by omega) (by omega) (zn_bool (by omega)) dX4_isDefined_23 (zpS_i (by first | rfl | exact (zb_t (by omega)).symm | exact (zb_f (by omega)).symm))
  · refine zV_aloadn hX dX4_isDefined_8 rfl ?_
    refine GF_X4_16 hX  dX4_isDefined_9 ?_
    refine zV_iloadn hX dX4_isDefined_12 rfl ?_
    refine AL_3 hX  ⟨by omega, by omega⟩ dX4_isDefined_13 (fun r13 => ?_)
    refine zV_iconst hX dX4_isDefined_14 ?_
    refine zV_icmp_eq (tgt := 22) hX dX4_isDefined_15 (by decide) (by omega) (by omega) (fun b15 => ?_) (fun b15 => ?_)
    · refine zV_iconst hX dX4_isDefined_22 ?_
      exact zV_iret hX hM (by omega) (by omega) (zn_bool (by omega)) dX4_isDefined_23 (zpS_i (by first | rfl | exact (zb_t (by omega)).symm | exact (zb_f (by omega)).symm))
    · refine zV_iconst hX dX4_isDefined_18 ?_
      refine zV_goto (tgt := 23) hX dX4_isDefined_19 (by decide) ?_
      exact zV_iret hX hM (by omega) (by omega) (zn_bool (by omega)) dX4_isDefined_23 (zpS_i (by first | rfl | exact (zb_t (by omega)).symm | exact (zb_f (by omega)).symm))
set_option maxRecDepth 100000 in
set_option maxHeartbeats 4000000 in
theorem c_X4_checkVariable {ad : Nat → Int → Nat} {x y : zSt} {v : Int} (hv : zR v) : zC yX4_checkVariable cX4_checkVariable 1 none 6 1 6 [zI v] ad x y (zpG (0 ≤ v ∧ v ≤ 11) x y) (zpX (fun E => (E = "java/lang/IllegalArgumentException" ∧ ¬ (0 ≤ v ∧ v ≤ 11))) x y) := by
  refine zC_ofV (by decide) (by intro v hv; simp only [List.mem_cons, List.not_mem_nil, or_false] at hv; subst hv; rfl) (Nat.le_of_ble_eq_true rfl) (fun Γ hX hN hM hT => ?_)
  show zV Γ ad 0 0 x y 0 [some (zI v)] []
  refine zV_iloadn hX dX4_checkVariable_0 rfl ?_
  refine zV_cSS (n := 1) hX rfl hN (c_X4_isVariable hv) zw_co_yX4_isVariable zw_mX4_42 zw_in_RX4 zw_st_yX4_isVariable ⟨by decide, by decide, by decide +kernel⟩ rfl (by omega) (by decide) (by omega) (by omega) rfl (Nat.le_of_ble_eq_true rfl) dX4_checkVariable_1 ?_ 
  refine zV_ifne_b (tgt := 18) hX dX4_checkVariable_4 (by decide) (fun b4 => ?_) (fun b4 => ?_)
  · exact zV_vret hX hM (by omega) (by omega) dX4_checkVariable_18 (⟨rfl, by omega, rfl, rfl⟩)
  · exact zV_throwW hX rfl hN (by omega) (by omega) (by omega) Bundle.six_0 Bundle.six_1 Bundle.six_2 Bundle.six_5 zat_IllegalArgumentException zw_cX4_50 zw_in_java_lang_IllegalArgumentException "there is no such variable" (by decide) (by decide) dX4_checkVariable_7 dX4_checkVariable_10 dX4_checkVariable_11 dX4_checkVariable_14 dX4_checkVariable_17 (zVX_out hX hT hM (by omega) (by omega) (⟨⟨rfl, by first | omega | assumption⟩, rfl, rfl⟩))
set_option maxRecDepth 100000 in
set_option maxHeartbeats 4000000 in
theorem c_X4_checkData {ad : Nat → Int → Nat} {x y : zSt} {v : Int} (hv : 0 ≤ v ∧ v ≤ 11) : zC yX4_checkData cX4_checkData 2 none 6 1 6 [.ref (ad 0 0), zI v] ad x y (zpG (x 2 0 v ≠ -1) x y) (zpX (fun E => (E = "java/util/NoSuchElementException" ∧ ¬ x 2 0 v ≠ -1)) x y) := by
  refine zC_ofV (by decide) (by intro v hv; simp only [List.mem_cons, List.not_mem_nil, or_false] at hv; rcases hv with rfl | rfl <;> rfl) (Nat.le_of_ble_eq_true rfl) (fun Γ hX hN hM hT => ?_)
  show zV Γ ad 0 0 x y 0 [some (.ref (ad 0 0)), some (zI v)] []
  refine zV_aloadn hX dX4_checkData_0 rfl ?_
  refine zV_iloadn hX dX4_checkData_1 rfl ?_
  refine zV_cVS (n := 1) hX rfl hN 0 rfl rfl ⟨by decide, by decide⟩ (c_X4_isData hv) zw_co_yX4_isData zw_mX4_193 zw_in_RX4 zw_im_yX4_isData zw_se_yX4_isData ⟨by decide, by decide, by decide +kernel⟩ rfl (by omega) (by decide) (by omega) (by omega) rfl (Nat.le_of_ble_eq_true rfl) dX4_checkData_2 ?_ 
  refine zV_ifne_b (tgt := 19) hX dX4_checkData_5 (by decide) (fun b5 => ?_) (fun b5 => ?_)
  · exact zV_vret hX hM (by omega) (by omega) dX4_checkData_19 (⟨rfl, by omega, rfl, rfl⟩)
  · exact zV_throwW hX rfl hN (by omega) (by omega) (by omega) zx13_0 zx13_1 zx13_2 zx13_5 zat_NoSuchElementException zw_cX4_131 zw_in_java_util_NoSuchElementException "the variable is not data" (by decide) (by decide) dX4_checkData_8 dX4_checkData_11 dX4_checkData_12 dX4_checkData_15 dX4_checkData_18 (zVX_out hX hT hM (by omega) (by omega) (⟨⟨rfl, by first | omega | assumption⟩, rfl, rfl⟩))
set_option maxRecDepth 100000 in
set_option maxHeartbeats 4000000 in
theorem c_X4_checkView {ad : Nat → Int → Nat} {x y : zSt} {i : Int} (hi : zR i) (hn : 0 ≤ x 0 0 11 ∧ x 0 0 11 ≤ 20) : zC yX4_checkView cX4_checkView 2 none 6 1 6 [.ref (ad 0 0), zI i] ad x y (zpG (0 ≤ i ∧ i ≤ x 0 0 11 - 1) x y) (zpX (fun E => (E = "java/util/NoSuchElementException" ∧ ¬ (0 ≤ i ∧ i ≤ x 0 0 11 - 1))) x y) := by
  refine zC_ofV (by decide) (by intro v hv; simp only [List.mem_cons, List.not_mem_nil, or_false] at hv; rcases hv with rfl | rfl <;> rfl) (Nat.le_of_ble_eq_true rfl) (fun Γ hX hN hM hT => ?_)
  show zV Γ ad 0 0 x y 0 [some (.ref (ad 0 0)), some (zI i)] []
  refine zV_iloadn hX dX4_checkView_0 rfl ?_
  refine zV_iconst hX dX4_checkView_1 ?_
  refine zV_aloadn hX dX4_checkView_2 rfl ?_
  refine GF_X4_246 hX  dX4_checkView_3 (fun r3 => ?_)
  refine zV_iconst hX dX4_checkView_6 ?_
  refine zV_isub hX dX4_checkView_7 ?_
  refine zV_cSS (n := 3) hX rfl hN (c_X4_isWithin (by omega) (by omega) (by omega) ) zw_co_yX4_isWithin zw_mX4_46 zw_in_RX4 zw_st_yX4_isWithin ⟨by decide, by decide, by decide +kernel⟩ rfl (by omega) (by decide) (by omega) (by omega) rfl (Nat.le_of_ble_eq_true rfl) dX4_checkView_8 ?_ 
  refine zV_ifne_b (tgt := 25) hX dX4_checkView_11 (by decide) (fun b11 => ?_) (fun b11 => ?_)
  · exact zV_vret hX hM (by omega) (by omega) dX4_checkView_25 (⟨rfl, by omega, rfl, rfl⟩)
  · exact zV_throwW hX rfl hN (by omega) (by omega) (by omega) zx13_0 zx13_1 zx13_2 zx13_5 zat_NoSuchElementException zw_cX4_131 zw_in_java_util_NoSuchElementException "there is no such view" (by decide) (by decide) dX4_checkView_14 dX4_checkView_17 dX4_checkView_18 dX4_checkView_21 dX4_checkView_24 (zVX_out hX hT hM (by omega) (by omega) (⟨⟨rfl, by first | omega | assumption⟩, rfl, rfl⟩))
set_option maxRecDepth 100000 in
set_option maxHeartbeats 4000000 in
theorem c_X4_cellAt {ad : Nat → Int → Nat} {x y : zSt} {c : Int} (hc : zR c) (hn : 0 ≤ x 0 0 9 ∧ x 0 0 9 ≤ 11) : zC yX4_cellAt cX4_cellAt 2 (some (.object "NotebookLab$Cell")) 6 1 6 [.ref (ad 0 0), zI c] ad x y (zpH (0 ≤ c ∧ c ≤ x 0 0 9 - 1) ad 9 c x y) (zpX (fun E => (E = "java/lang/IndexOutOfBoundsException" ∧ ¬ (0 ≤ c ∧ c ≤ x 0 0 9 - 1))) x y) := by
  refine zC_ofV (by decide) (by intro v hv; simp only [List.mem_cons, List.not_mem_nil, or_false] at hv; rcases hv with rfl | rfl <;> rfl) (Nat.le_of_ble_eq_true rfl) (fun Γ hX hN hM hT => ?_)
  show zV Γ ad 0 0 x y 0 [some (.ref (ad 0 0)), some (zI c)] []
  refine zV_iloadn hX dX4_cellAt_0 rfl ?_
  refine zV_iconst hX dX4_cellAt_1 ?_
  refine zV_aloadn hX dX4_cellAt_2 rfl ?_
  refine GF_X4_91 hX  dX4_cellAt_3 (fun r3 => ?_)
  refine zV_iconst hX dX4_cellAt_6 ?_
  refine zV_isub hX dX4_cellAt_7 ?_
  refine zV_cSS (n := 3) hX rfl hN (c_X4_isWithin (by omega) (by omega) (by omega) ) zw_co_yX4_isWithin zw_mX4_46 zw_in_RX4 zw_st_yX4_isWithin ⟨by decide, by decide, by decide +kernel⟩ rfl (by omega) (by decide) (by omega) (by omega) rfl (Nat.le_of_ble_eq_true rfl) dX4_cellAt_8 ?_ 
  refine zV_ifne_b (tgt := 25) hX dX4_cellAt_11 (by decide) (fun b11 => ?_) (fun b11 => ?_)
  · refine zV_aloadn hX dX4_cellAt_25 rfl ?_
    refine GF_X4_24 hX  dX4_cellAt_26 ?_
    refine zV_iloadn hX dX4_cellAt_29 rfl ?_
    refine AL_5 hX  ⟨by omega, by omega⟩ dX4_cellAt_30 ?_
    exact zV_aret hX hM (by omega) (by omega) dX4_cellAt_31 (⟨rfl, by omega, rfl, rfl⟩)
  · exact zV_throwW hX rfl hN (by omega) (by omega) (by omega) Bundle.six_0 Bundle.six_1 Bundle.six_2 Bundle.six_5 zat_IndexOutOfBoundsException zw_cX4_206 zw_in_java_lang_IndexOutOfBoundsException "there is no such cell" (by decide) (by decide) dX4_cellAt_14 dX4_cellAt_17 dX4_cellAt_18 dX4_cellAt_21 dX4_cellAt_24 (zVX_out hX hT hM (by omega) (by omega) (⟨⟨rfl, by first | omega | assumption⟩, rfl, rfl⟩))
set_option maxRecDepth 100000 in
set_option maxHeartbeats 4000000 in
theorem c_X4_failureOf {ad : Nat → Int → Nat} {x y : zSt} {c : Int} (hc : zR c) (hn : 0 ≤ x 0 0 9 ∧ x 0 0 9 ≤ 11) : zC yX4_failureOf cX4_failureOf 3 (some (.object "NotebookLab$Failure")) 7 2 12 [.ref (ad 0 0), zI c] ad x y (zpH ((0 ≤ c ∧ c ≤ x 0 0 9 - 1) ∧ x 9 c 9 = 2) ad 10 c x y) (zpX (fun E => (E = "java/lang/IndexOutOfBoundsException" ∧ ¬ (0 ≤ c ∧ c ≤ x 0 0 9 - 1)) ∨ (E = "java/lang/IllegalStateException" ∧ (0 ≤ c ∧ c ≤ x 0 0 9 - 1) ∧ ¬ x 9 c 9 = 2)) x y) := by
  refine zC_ofV (by decide) (by intro v hv; simp only [List.mem_cons, List.not_mem_nil, or_false] at hv; rcases hv with rfl | rfl <;> rfl) (Nat.le_of_ble_eq_true rfl) (fun Γ hX hN hM hT => ?_)
  show zV Γ ad 0 0 x y 0 [some (.ref (ad 0 0)), some (zI c), none] []
  refine zV_aloadn hX dX4_failureOf_0 rfl ?_
  refine zV_iloadn hX dX4_failureOf_1 rfl ?_
  refine zV_cVHX (n := 1) hX rfl hN 0 rfl rfl ⟨by decide, by decide⟩ (c_X4_cellAt hc hn) zw_co_yX4_cellAt zw_mX4_125 zw_in_RX4 zw_im_yX4_cellAt zw_se_yX4_cellAt ⟨by decide, by decide, by decide +kernel⟩ rfl (by omega) (by decide) (by omega) (by omega) rfl (Nat.le_of_ble_eq_true rfl) dX4_failureOf_2 (fun g2 => ?_) (fun E2 x2 y2 p2 => ?_)
  · refine zV_astoren2 hX dX4_failureOf_5 ?_
    refine zV_aloadn hX dX4_failureOf_6 rfl ?_
    refine GF_X4_152 hX ⟨by omega, by omega⟩ dX4_failureOf_7 (fun r7 => ?_)
    refine zV_iconst hX dX4_failureOf_10 ?_
    refine zV_icmp_eq (tgt := 25) hX dX4_failureOf_11 (by decide) (by omega) (by omega) (fun b11 => ?_) (fun b11 => ?_)
    · refine zV_aloadn hX dX4_failureOf_25 rfl ?_
      refine GF_X4_274 hX ⟨by omega, by omega⟩ dX4_failureOf_26 ?_
      exact zV_aret hX hM (by omega) (by omega) dX4_failureOf_29 (⟨rfl, by omega, rfl, rfl⟩)
    · exact zV_throwW hX rfl hN (by omega) (by omega) (by omega) Bundle.six_0 Bundle.six_1 Bundle.six_2 Bundle.six_5 zat_IllegalStateException zw_cX4_60 zw_in_java_lang_IllegalStateException "the cell has not failed" (by decide) (by decide) dX4_failureOf_14 dX4_failureOf_17 dX4_failureOf_18 dX4_failureOf_21 dX4_failureOf_24 (zVX_out hX hT hM (by omega) (by omega) (⟨Or.inr (⟨rfl, by first | omega | assumption⟩), rfl, rfl⟩))
  · exact zVX_out hX hT hM (by omega) (by omega) (by obtain ⟨⟨rfl, h⟩, rfl, rfl⟩ := p2; exact ⟨Or.inl ⟨rfl, h⟩, rfl, rfl⟩)
set_option maxRecDepth 100000 in
set_option maxHeartbeats 4000000 in
theorem c_X4_bit {ad : Nat → Int → Nat} {x y : zSt} {i : Int} (hi : zR i) : zC yX4_bit cX4_bit 1 (some .int) 0 0 0 [zI i] ad x y (zpS (zshl 1 i) x y) (zF) := by
  refine zC_ofV (by decide) (by intro v hv; simp only [List.mem_cons, List.not_mem_nil, or_false] at hv; subst hv; rfl) (Nat.le_of_ble_eq_true rfl) (fun Γ hX hN hM hT => ?_)
  show zV Γ ad 0 0 x y 0 [some (zI i)] []
  refine zV_iconst hX dX4_bit_0 ?_
  refine zV_iloadn hX dX4_bit_1 rfl ?_
  refine zV_ishl hX dX4_bit_2 ?_
  exact zV_iret hX hM (by omega) (by omega) rfl dX4_bit_3 (zpS_i (by first | rfl | omega))
set_option maxRecDepth 100000 in
set_option maxHeartbeats 4000000 in
theorem c_X4_hasBit {ad : Nat → Int → Nat} {x y : zSt} {S i : Int} (hi : zR i) : zC yX4_hasBit cX4_hasBit 2 (some .boolean) 1 0 0 [zI S, zI i] ad x y (zpS (zb (zand S (zshl 1 i) ≠ 0)) x y) (zF) := by
  refine zC_ofV (by decide) (by intro v hv; simp only [List.mem_cons, List.not_mem_nil, or_false] at hv; rcases hv with rfl | rfl <;> rfl) (Nat.le_of_ble_eq_true rfl) (fun Γ hX hN hM hT => ?_)
  show zV Γ ad 0 0 x y 0 [some (zI S), some (zI i)] []
  refine zV_iloadn hX dX4_hasBit_0 rfl ?_
  refine zV_iloadn hX dX4_hasBit_1 rfl ?_
  refine zV_cSS (n := 1) hX rfl hN (c_X4_bit hi) zw_co_yX4_bit zw_mX4_144 zw_in_RX4 zw_st_yX4_bit ⟨by decide, by decide, by decide +kernel⟩ rfl (by omega) (by decide) (by omega) (by omega) rfl (Nat.le_of_ble_eq_true rfl) dX4_hasBit_2 ?_ 
  refine zV_iand hX dX4_hasBit_5 ?_
  refine zV_if_eq (tgt := 13) hX dX4_hasBit_6 (by decide) (zR_of _) (fun b6 => ?_) (fun b6 => ?_)
  · refine zV_iconst hX dX4_hasBit_13 ?_
    exact zV_iret hX hM (by omega) (by omega) (zn_bool (by omega)) dX4_hasBit_14 (zpS_i (by first | rfl | exact (zb_t (by omega)).symm | exact (zb_f (by omega)).symm))
  · refine zV_iconst hX dX4_hasBit_9 ?_
    refine zV_goto (tgt := 14) hX dX4_hasBit_10 (by decide) ?_
    exact zV_iret hX hM (by omega) (by omega) (zn_bool (by omega)) dX4_hasBit_14 (zpS_i (by first | rfl | exact (zb_t (by omega)).symm | exact (zb_f (by omega)).symm))
