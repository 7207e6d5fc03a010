/-! THE LAW'S HELPERS, walked. -/
set_option maxRecDepth 100000 in
set_option maxHeartbeats 4000000 in
theorem h_addData {ad : Nat → Int → Nat} {x y X : zSt} {G : Prop} {r : Int} {px : String → zSt → zSt → Prop} {P : Int → zSt → Prop} {p0 p1 p2 : Int} (hC : zC yX4_addData cX4_addData 4 (some .int) 7 1 6 [.ref (ad 0 0), zI p0, zI p1, zI p2] ad x y (zpSG G r X y) px) (hx : ∀ (E : String) (x1 y1 : zSt), px E x1 y1 → (E = "java/lang/IllegalArgumentException" ∧ P 1 x1 ∧ y1 = y) ∨ (E = "java/lang/IllegalStateException" ∧ P 2 x1 ∧ y1 = y)) : zHC yL_addData cL_addData 6 (some .int) [(0, 12, 15, 13), (0, 12, 19, 15)] 8 1 6 [.ref (ad 0 0), zI p0, zI p1, zI p2, .ref (ad 60 0)] ad x y (zHq G r X P y) := by
  refine zHC_ofV (by decide) (by intro v hv; simp only [List.mem_cons, List.not_mem_nil, or_false] at hv; rcases hv with rfl | rfl | rfl | rfl | rfl <;> rfl) (Nat.le_of_ble_eq_true rfl) (fun Γ hX hN hM hT => ?_)
  show zV Γ ad 0 0 x y 0 [some (.ref (ad 0 0)), some (zI p0), some (zI p1), some (zI p2), some (.ref (ad 60 0)), none] []
  refine zV_aload hX dL_addData_0 rfl ?_
  refine zV_iconst hX dL_addData_2 ?_
  refine zV_aloadn hX dL_addData_3 rfl ?_
  refine zV_iloadn hX dL_addData_4 rfl ?_
  refine zV_iloadn hX dL_addData_5 rfl ?_
  refine zV_iloadn hX dL_addData_6 rfl ?_
  refine zV_callV (n := 3) hX rfl hN 0 rfl rfl ⟨by decide, by decide⟩ hC zw_co_yX4_addData zw_mL_7 zw_in_RX4 zw_im_yX4_addData zw_se_yX4_addData ⟨by decide, by decide, by decide +kernel⟩ rfl (by omega) (by decide) (by omega) (by omega) rfl (Nat.le_of_ble_eq_true rfl) dL_addData_7 (fun a x1 y1 p => ?_) (fun E x1 y1 p => ?_)
  · obtain ⟨p1, rfl, rfl, rfl⟩ := p
    refine zV_i2lz hX dL_addData_10 ?_
    refine zV_last hX 60 rfl (i := 0) (j := 0) ⟨by decide, by decide⟩ ⟨by decide, by decide⟩ (by decide) (z := (Int32.ofInt r).toInt) (fun h => absurd h (by decide)) (zm_upy (by decide)) dL_addData_11 ?_
    refine zV_goto (tgt := 23) hX dL_addData_12 (by decide) ?_
    refine zV_iconst hX dL_addData_23 ?_
    exact zV_iret hX hM (by omega) (by omega) rfl dL_addData_24 (Or.inl ⟨p1, rfl, rfl, rfl⟩)
  · rcases hx _ _ _ p with ⟨rfl, p1, rfl⟩ | ⟨rfl, p1, rfl⟩
    · refine zVX_catch hX hN hT [] ⟨0, 12, 15, 13⟩ [⟨0, 12, 19, 15⟩] rfl (by decide) (fun z hz => by cases hz) (by decide) (by decide) zw_cL_13 (fun q => ?_)
      refine zV_astore5 hX dL_addData_15 ?_
      refine zV_iconst hX dL_addData_17 ?_
      exact zV_iret hX hM (by omega) (by omega) rfl dL_addData_18 (Or.inr ⟨1, p1, by decide, rfl, rfl⟩)
    · refine zVX_catch hX hN hT [⟨0, 12, 15, 13⟩] ⟨0, 12, 19, 15⟩ [] rfl (by decide) (fun z hz => by simp only [List.mem_cons, List.not_mem_nil, or_false] at hz; subst hz <;> first | exact ⟨by decide, _, zw_cL_13, by decide⟩) (by decide) (by decide) zw_cL_15 (fun q => ?_)
      refine zV_astore5 hX dL_addData_19 ?_
      refine zV_iconst hX dL_addData_21 ?_
      exact zV_iret hX hM (by omega) (by omega) rfl dL_addData_22 (Or.inr ⟨2, p1, by decide, rfl, rfl⟩)
set_option maxRecDepth 100000 in
set_option maxHeartbeats 4000000 in
theorem h_setData {ad : Nat → Int → Nat} {x y X : zSt} {G : Prop} {r : Int} {px : String → zSt → zSt → Prop} {P : Int → zSt → Prop} {p0 p1 : Int} (hC : zC yX4_setData cX4_setData 4 (some .int) 7 2 12 [.ref (ad 0 0), zI p0, zI p1] ad x y (zpSG G r X y) px) (hx : ∀ (E : String) (x1 y1 : zSt), px E x1 y1 → (E = "java/lang/IllegalArgumentException" ∧ P 1 x1 ∧ y1 = y) ∨ (E = "java/util/NoSuchElementException" ∧ P 2 x1 ∧ y1 = y)) : zHC yL_setData cL_setData 5 (some .int) [(0, 10, 13, 13), (0, 10, 17, 21)] 8 2 12 [.ref (ad 0 0), zI p0, zI p1, .ref (ad 60 0)] ad x y (zHq G r X P y) := by
  refine zHC_ofV (by decide) (by intro v hv; simp only [List.mem_cons, List.not_mem_nil, or_false] at hv; rcases hv with rfl | rfl | rfl | rfl <;> rfl) (Nat.le_of_ble_eq_true rfl) (fun Γ hX hN hM hT => ?_)
  show zV Γ ad 0 0 x y 0 [some (.ref (ad 0 0)), some (zI p0), some (zI p1), some (.ref (ad 60 0)), none] []
  refine zV_aloadn hX dL_setData_0 rfl ?_
  refine zV_iconst hX dL_setData_1 ?_
  refine zV_aloadn hX dL_setData_2 rfl ?_
  refine zV_iloadn hX dL_setData_3 rfl ?_
  refine zV_iloadn hX dL_setData_4 rfl ?_
  refine zV_callV (n := 2) hX rfl hN 0 rfl rfl ⟨by decide, by decide⟩ hC zw_co_yX4_setData zw_mL_17 zw_in_RX4 zw_im_yX4_setData zw_se_yX4_setData ⟨by decide, by decide, by decide +kernel⟩ rfl (by omega) (by decide) (by omega) (by omega) rfl (Nat.le_of_ble_eq_true rfl) dL_setData_5 (fun a x1 y1 p => ?_) (fun E x1 y1 p => ?_)
  · obtain ⟨p1, rfl, rfl, rfl⟩ := p
    refine zV_i2lz hX dL_setData_8 ?_
    refine zV_last hX 60 rfl (i := 0) (j := 0) ⟨by decide, by decide⟩ ⟨by decide, by decide⟩ (by decide) (z := (Int32.ofInt r).toInt) (fun h => absurd h (by decide)) (zm_upy (by decide)) dL_setData_9 ?_
    refine zV_goto (tgt := 21) hX dL_setData_10 (by decide) ?_
    refine zV_iconst hX dL_setData_21 ?_
    exact zV_iret hX hM (by omega) (by omega) rfl dL_setData_22 (Or.inl ⟨p1, rfl, rfl, rfl⟩)
  · rcases hx _ _ _ p with ⟨rfl, p1, rfl⟩ | ⟨rfl, p1, rfl⟩
    · refine zVX_catch hX hN hT [] ⟨0, 10, 13, 13⟩ [⟨0, 10, 17, 21⟩] rfl (by decide) (fun z hz => by cases hz) (by decide) (by decide) zw_cL_13 (fun q => ?_)
      refine zV_astore4 hX dL_setData_13 ?_
      refine zV_iconst hX dL_setData_15 ?_
      exact zV_iret hX hM (by omega) (by omega) rfl dL_setData_16 (Or.inr ⟨1, p1, by decide, rfl, rfl⟩)
    · refine zVX_catch hX hN hT [⟨0, 10, 13, 13⟩] ⟨0, 10, 17, 21⟩ [] rfl (by decide) (fun z hz => by simp only [List.mem_cons, List.not_mem_nil, or_false] at hz; subst hz <;> first | exact ⟨by decide, _, zw_cL_13, by decide⟩) (by decide) (by decide) zw_cL_21 (fun q => ?_)
      refine zV_astore4 hX dL_setData_17 ?_
      refine zV_iconst hX dL_setData_19 ?_
      exact zV_iret hX hM (by omega) (by omega) rfl dL_setData_20 (Or.inr ⟨2, p1, by decide, rfl, rfl⟩)
set_option maxRecDepth 100000 in
set_option maxHeartbeats 4000000 in
theorem h_loseData {ad : Nat → Int → Nat} {x y X : zSt} {G : Prop} {r : Int} {px : String → zSt → zSt → Prop} {P : Int → zSt → Prop} {p0 : Int} (hC : zC yX4_loseData cX4_loseData 3 (some .int) 7 3 18 [.ref (ad 0 0), zI p0] ad x y (zpSG G r X y) px) (hx : ∀ (E : String) (x1 y1 : zSt), px E x1 y1 → (E = "java/lang/IllegalArgumentException" ∧ P 1 x1 ∧ y1 = y) ∨ (E = "java/util/NoSuchElementException" ∧ P 2 x1 ∧ y1 = y) ∨ (E = "java/lang/IllegalStateException" ∧ P 3 x1 ∧ y1 = y)) : zHC yL_loseData cL_loseData 4 (some .int) [(0, 9, 12, 13), (0, 9, 15, 21), (0, 9, 18, 15)] 8 3 18 [.ref (ad 0 0), zI p0, .ref (ad 60 0)] ad x y (zHq G r X P y) := by
  refine zHC_ofV (by decide) (by intro v hv; simp only [List.mem_cons, List.not_mem_nil, or_false] at hv; rcases hv with rfl | rfl | rfl <;> rfl) (Nat.le_of_ble_eq_true rfl) (fun Γ hX hN hM hT => ?_)
  show zV Γ ad 0 0 x y 0 [some (.ref (ad 0 0)), some (zI p0), some (.ref (ad 60 0)), none] []
  refine zV_aloadn hX dL_loseData_0 rfl ?_
  refine zV_iconst hX dL_loseData_1 ?_
  refine zV_aloadn hX dL_loseData_2 rfl ?_
  refine zV_iloadn hX dL_loseData_3 rfl ?_
  refine zV_callV (n := 1) hX rfl hN 0 rfl rfl ⟨by decide, by decide⟩ hC zw_co_yX4_loseData zw_mL_23 zw_in_RX4 zw_im_yX4_loseData zw_se_yX4_loseData ⟨by decide, by decide, by decide +kernel⟩ rfl (by omega) (by decide) (by omega) (by omega) rfl (Nat.le_of_ble_eq_true rfl) dL_loseData_4 (fun a x1 y1 p => ?_) (fun E x1 y1 p => ?_)
  · obtain ⟨p1, rfl, rfl, rfl⟩ := p
    refine zV_i2lz hX dL_loseData_7 ?_
    refine zV_last hX 60 rfl (i := 0) (j := 0) ⟨by decide, by decide⟩ ⟨by decide, by decide⟩ (by decide) (z := (Int32.ofInt r).toInt) (fun h => absurd h (by decide)) (zm_upy (by decide)) dL_loseData_8 ?_
    refine zV_goto (tgt := 21) hX dL_loseData_9 (by decide) ?_
    refine zV_iconst hX dL_loseData_21 ?_
    exact zV_iret hX hM (by omega) (by omega) rfl dL_loseData_22 (Or.inl ⟨p1, rfl, rfl, rfl⟩)
  · rcases hx _ _ _ p with ⟨rfl, p1, rfl⟩ | ⟨rfl, p1, rfl⟩ | ⟨rfl, p1, rfl⟩
    · refine zVX_catch hX hN hT [] ⟨0, 9, 12, 13⟩ [⟨0, 9, 15, 21⟩, ⟨0, 9, 18, 15⟩] rfl (by decide) (fun z hz => by cases hz) (by decide) (by decide) zw_cL_13 (fun q => ?_)
      refine zV_astoren3 hX dL_loseData_12 ?_
      refine zV_iconst hX dL_loseData_13 ?_
      exact zV_iret hX hM (by omega) (by omega) rfl dL_loseData_14 (Or.inr ⟨1, p1, by decide, rfl, rfl⟩)
    · refine zVX_catch hX hN hT [⟨0, 9, 12, 13⟩] ⟨0, 9, 15, 21⟩ [⟨0, 9, 18, 15⟩] rfl (by decide) (fun z hz => by simp only [List.mem_cons, List.not_mem_nil, or_false] at hz; subst hz <;> first | exact ⟨by decide, _, zw_cL_13, by decide⟩) (by decide) (by decide) zw_cL_21 (fun q => ?_)
      refine zV_astoren3 hX dL_loseData_15 ?_
      refine zV_iconst hX dL_loseData_16 ?_
      exact zV_iret hX hM (by omega) (by omega) rfl dL_loseData_17 (Or.inr ⟨2, p1, by decide, rfl, rfl⟩)
    · refine zVX_catch hX hN hT [⟨0, 9, 12, 13⟩, ⟨0, 9, 15, 21⟩] ⟨0, 9, 18, 15⟩ [] rfl (by decide) (fun z hz => by simp only [List.mem_cons, List.not_mem_nil, or_false] at hz; rcases hz with rfl | rfl <;> first | exact ⟨by decide, _, zw_cL_13, by decide⟩ | exact ⟨by decide, _, zw_cL_21, by decide⟩) (by decide) (by decide) zw_cL_15 (fun q => ?_)
      refine zV_astoren3 hX dL_loseData_18 ?_
      refine zV_iconst hX dL_loseData_19 ?_
      exact zV_iret hX hM (by omega) (by omega) rfl dL_loseData_20 (Or.inr ⟨3, p1, by decide, rfl, rfl⟩)
set_option maxRecDepth 100000 in
set_option maxHeartbeats 4000000 in
theorem h_addCell {ad : Nat → Int → Nat} {x y X : zSt} {G : Prop} {r : Int} {px : String → zSt → zSt → Prop} {P : Int → zSt → Prop} {p0 p1 p2 p3 p4 p5 p6 : Int} (hC : zC yX4_addCell cX4_addCell 10 (some .int) 7 1 6 [.ref (ad 0 0), zI p0, zI p1, zI p2, zI p3, zI p4, zI p5, zI p6] ad x y (zpSG G r X y) px) (hx : ∀ (E : String) (x1 y1 : zSt), px E x1 y1 → (E = "java/lang/IllegalArgumentException" ∧ P 1 x1 ∧ y1 = y) ∨ (E = "java/lang/UnsupportedOperationException" ∧ P 2 x1 ∧ y1 = y)) : zHC yL_addCell cL_addCell 10 (some .int) [(0, 20, 23, 13), (0, 20, 27, 31)] 8 1 6 [.ref (ad 0 0), zI p0, zI p1, zI p2, zI p3, zI p4, zI p5, zI p6, .ref (ad 60 0)] ad x y (zHq G r X P y) := by
  refine zHC_ofV (by decide) (by intro v hv; simp only [List.mem_cons, List.not_mem_nil, or_false] at hv; rcases hv with rfl | rfl | rfl | rfl | rfl | rfl | rfl | rfl | rfl <;> rfl) (Nat.le_of_ble_eq_true rfl) (fun Γ hX hN hM hT => ?_)
  show zV Γ ad 0 0 x y 0 [some (.ref (ad 0 0)), some (zI p0), some (zI p1), some (zI p2), some (zI p3), some (zI p4), some (zI p5), some (zI p6), some (.ref (ad 60 0)), none] []
  refine zV_aload hX dL_addCell_0 rfl ?_
  refine zV_iconst hX dL_addCell_2 ?_
  refine zV_aloadn hX dL_addCell_3 rfl ?_
  refine zV_iloadn hX dL_addCell_4 rfl ?_
  refine zV_iloadn hX dL_addCell_5 rfl ?_
  refine zV_iloadn hX dL_addCell_6 rfl ?_
  refine zV_iload hX dL_addCell_7 rfl ?_
  refine zV_iload hX dL_addCell_9 rfl ?_
  refine zV_iload hX dL_addCell_11 rfl ?_
  refine zV_iload hX dL_addCell_13 rfl ?_
  refine zV_callV (n := 7) hX rfl hN 0 rfl rfl ⟨by decide, by decide⟩ hC zw_co_yX4_addCell zw_mL_27 zw_in_RX4 zw_im_yX4_addCell zw_se_yX4_addCell ⟨by decide, by decide, by decide +kernel⟩ rfl (by omega) (by decide) (by omega) (by omega) rfl (Nat.le_of_ble_eq_true rfl) dL_addCell_15 (fun a x1 y1 p => ?_) (fun E x1 y1 p => ?_)
  · obtain ⟨p1, rfl, rfl, rfl⟩ := p
    refine zV_i2lz hX dL_addCell_18 ?_
    refine zV_last hX 60 rfl (i := 0) (j := 0) ⟨by decide, by decide⟩ ⟨by decide, by decide⟩ (by decide) (z := (Int32.ofInt r).toInt) (fun h => absurd h (by decide)) (zm_upy (by decide)) dL_addCell_19 ?_
    refine zV_goto (tgt := 31) hX dL_addCell_20 (by decide) ?_
    refine zV_iconst hX dL_addCell_31 ?_
    exact zV_iret hX hM (by omega) (by omega) rfl dL_addCell_32 (Or.inl ⟨p1, rfl, rfl, rfl⟩)
  · rcases hx _ _ _ p with ⟨rfl, p1, rfl⟩ | ⟨rfl, p1, rfl⟩
    · refine zVX_catch hX hN hT [] ⟨0, 20, 23, 13⟩ [⟨0, 20, 27, 31⟩] rfl (by decide) (fun z hz => by cases hz) (by decide) (by decide) zw_cL_13 (fun q => ?_)
      refine zV_astore9 hX dL_addCell_23 ?_
      refine zV_iconst hX dL_addCell_25 ?_
      exact zV_iret hX hM (by omega) (by omega) rfl dL_addCell_26 (Or.inr ⟨1, p1, by decide, rfl, rfl⟩)
    · refine zVX_catch hX hN hT [⟨0, 20, 23, 13⟩] ⟨0, 20, 27, 31⟩ [] rfl (by decide) (fun z hz => by simp only [List.mem_cons, List.not_mem_nil, or_false] at hz; subst hz <;> first | exact ⟨by decide, _, zw_cL_13, by decide⟩) (by decide) (by decide) zw_cL_31 (fun q => ?_)
      refine zV_astore9 hX dL_addCell_27 ?_
      refine zV_iconst hX dL_addCell_29 ?_
      exact zV_iret hX hM (by omega) (by omega) rfl dL_addCell_30 (Or.inr ⟨2, p1, by decide, rfl, rfl⟩)
set_option maxRecDepth 100000 in
set_option maxHeartbeats 4000000 in
theorem h_setConstant {ad : Nat → Int → Nat} {x y X : zSt} {G : Prop} {r : Int} {px : String → zSt → zSt → Prop} {P : Int → zSt → Prop} {p0 p1 : Int} (hC : zC yX4_setConstant cX4_setConstant 5 (some .int) 7 2 12 [.ref (ad 0 0), zI p0, zI p1] ad x y (zpSG G r X y) px) (hx : ∀ (E : String) (x1 y1 : zSt), px E x1 y1 → (E = "java/lang/IndexOutOfBoundsException" ∧ P 1 x1 ∧ y1 = y) ∨ (E = "java/lang/IllegalArgumentException" ∧ P 2 x1 ∧ y1 = y)) : zHC yL_setConstant cL_setConstant 5 (some .int) [(0, 10, 13, 36), (0, 10, 17, 13)] 8 2 12 [.ref (ad 0 0), zI p0, zI p1, .ref (ad 60 0)] ad x y (zHq G r X P y) := by
  refine zHC_ofV (by decide) (by intro v hv; simp only [List.mem_cons, List.not_mem_nil, or_false] at hv; rcases hv with rfl | rfl | rfl | rfl <;> rfl) (Nat.le_of_ble_eq_true rfl) (fun Γ hX hN hM hT => ?_)
  show zV Γ ad 0 0 x y 0 [some (.ref (ad 0 0)), some (zI p0), some (zI p1), some (.ref (ad 60 0)), none] []
  refine zV_aloadn hX dL_setConstant_0 rfl ?_
  refine zV_iconst hX dL_setConstant_1 ?_
  refine zV_aloadn hX dL_setConstant_2 rfl ?_
  refine zV_iloadn hX dL_setConstant_3 rfl ?_
  refine zV_iloadn hX dL_setConstant_4 rfl ?_
  refine zV_callV (n := 2) hX rfl hN 0 rfl rfl ⟨by decide, by decide⟩ hC zw_co_yX4_setConstant zw_mL_33 zw_in_RX4 zw_im_yX4_setConstant zw_se_yX4_setConstant ⟨by decide, by decide, by decide +kernel⟩ rfl (by omega) (by decide) (by omega) (by omega) rfl (Nat.le_of_ble_eq_true rfl) dL_setConstant_5 (fun a x1 y1 p => ?_) (fun E x1 y1 p => ?_)
  · obtain ⟨p1, rfl, rfl, rfl⟩ := p
    refine zV_i2lz hX dL_setConstant_8 ?_
    refine zV_last hX 60 rfl (i := 0) (j := 0) ⟨by decide, by decide⟩ ⟨by decide, by decide⟩ (by decide) (z := (Int32.ofInt r).toInt) (fun h => absurd h (by decide)) (zm_upy (by decide)) dL_setConstant_9 ?_
    refine zV_goto (tgt := 21) hX dL_setConstant_10 (by decide) ?_
    refine zV_iconst hX dL_setConstant_21 ?_
    exact zV_iret hX hM (by omega) (by omega) rfl dL_setConstant_22 (Or.inl ⟨p1, rfl, rfl, rfl⟩)
  · rcases hx _ _ _ p with ⟨rfl, p1, rfl⟩ | ⟨rfl, p1, rfl⟩
    · refine zVX_catch hX hN hT [] ⟨0, 10, 13, 36⟩ [⟨0, 10, 17, 13⟩] rfl (by decide) (fun z hz => by cases hz) (by decide) (by decide) zw_cL_36 (fun q => ?_)
      refine zV_astore4 hX dL_setConstant_13 ?_
      refine zV_iconst hX dL_setConstant_15 ?_
      exact zV_iret hX hM (by omega) (by omega) rfl dL_setConstant_16 (Or.inr ⟨1, p1, by decide, rfl, rfl⟩)
    · refine zVX_catch hX hN hT [⟨0, 10, 13, 36⟩] ⟨0, 10, 17, 13⟩ [] rfl (by decide) (fun z hz => by simp only [List.mem_cons, List.not_mem_nil, or_false] at hz; subst hz <;> first | exact ⟨by decide, _, zw_cL_36, by decide⟩) (by decide) (by decide) zw_cL_13 (fun q => ?_)
      refine zV_astore4 hX dL_setConstant_17 ?_
      refine zV_iconst hX dL_setConstant_19 ?_
      exact zV_iret hX hM (by omega) (by omega) rfl dL_setConstant_20 (Or.inr ⟨2, p1, by decide, rfl, rfl⟩)
set_option maxRecDepth 100000 in
set_option maxHeartbeats 4000000 in
theorem h_value {ad : Nat → Int → Nat} {x y X : zSt} {G : Prop} {r : Int} {px : String → zSt → zSt → Prop} {P : Int → zSt → Prop} {p0 : Int} (hC : zC yX4_value cX4_value 2 (some .int) 7 2 12 [.ref (ad 0 0), zI p0] ad x y (zpSG G r X y) px) (hx : ∀ (E : String) (x1 y1 : zSt), px E x1 y1 → (E = "java/lang/IllegalArgumentException" ∧ P 1 x1 ∧ y1 = y) ∨ (E = "java/util/NoSuchElementException" ∧ P 2 x1 ∧ y1 = y)) : zHC yL_value cL_value 4 (some .int) [(0, 9, 12, 13), (0, 9, 15, 21)] 8 2 12 [.ref (ad 0 0), zI p0, .ref (ad 60 0)] ad x y (zHq G r X P y) := by
  refine zHC_ofV (by decide) (by intro v hv; simp only [List.mem_cons, List.not_mem_nil, or_false] at hv; rcases hv with rfl | rfl | rfl <;> rfl) (Nat.le_of_ble_eq_true rfl) (fun Γ hX hN hM hT => ?_)
  show zV Γ ad 0 0 x y 0 [some (.ref (ad 0 0)), some (zI p0), some (.ref (ad 60 0)), none] []
  refine zV_aloadn hX dL_value_0 rfl ?_
  refine zV_iconst hX dL_value_1 ?_
  refine zV_aloadn hX dL_value_2 rfl ?_
  refine zV_iloadn hX dL_value_3 rfl ?_
  refine zV_callV (n := 1) hX rfl hN 0 rfl rfl ⟨by decide, by decide⟩ hC zw_co_yX4_value zw_mL_38 zw_in_RX4 zw_im_yX4_value zw_se_yX4_value ⟨by decide, by decide, by decide +kernel⟩ rfl (by omega) (by decide) (by omega) (by omega) rfl (Nat.le_of_ble_eq_true rfl) dL_value_4 (fun a x1 y1 p => ?_) (fun E x1 y1 p => ?_)
  · obtain ⟨p1, rfl, rfl, rfl⟩ := p
    refine zV_i2lz hX dL_value_7 ?_
    refine zV_last hX 60 rfl (i := 0) (j := 0) ⟨by decide, by decide⟩ ⟨by decide, by decide⟩ (by decide) (z := (Int32.ofInt r).toInt) (fun h => absurd h (by decide)) (zm_upy (by decide)) dL_value_8 ?_
    refine zV_goto (tgt := 18) hX dL_value_9 (by decide) ?_
    refine zV_iconst hX dL_value_18 ?_
    exact zV_iret hX hM (by omega) (by omega) rfl dL_value_19 (Or.inl ⟨p1, rfl, rfl, rfl⟩)
  · rcases hx _ _ _ p with ⟨rfl, p1, rfl⟩ | ⟨rfl, p1, rfl⟩
    · refine zVX_catch hX hN hT [] ⟨0, 9, 12, 13⟩ [⟨0, 9, 15, 21⟩] rfl (by decide) (fun z hz => by cases hz) (by decide) (by decide) zw_cL_13 (fun q => ?_)
      refine zV_astoren3 hX dL_value_12 ?_
      refine zV_iconst hX dL_value_13 ?_
      exact zV_iret hX hM (by omega) (by omega) rfl dL_value_14 (Or.inr ⟨1, p1, by decide, rfl, rfl⟩)
    · refine zVX_catch hX hN hT [⟨0, 9, 12, 13⟩] ⟨0, 9, 15, 21⟩ [] rfl (by decide) (fun z hz => by simp only [List.mem_cons, List.not_mem_nil, or_false] at hz; subst hz <;> first | exact ⟨by decide, _, zw_cL_13, by decide⟩) (by decide) (by decide) zw_cL_21 (fun q => ?_)
      refine zV_astoren3 hX dL_value_15 ?_
      refine zV_iconst hX dL_value_16 ?_
      exact zV_iret hX hM (by omega) (by omega) rfl dL_value_17 (Or.inr ⟨2, p1, by decide, rfl, rfl⟩)
set_option maxRecDepth 100000 in
set_option maxHeartbeats 4000000 in
theorem h_writer {ad : Nat → Int → Nat} {x y X : zSt} {G : Prop} {r : Int} {px : String → zSt → zSt → Prop} {P : Int → zSt → Prop} {p0 : Int} (hC : zC yX4_writer cX4_writer 2 (some .int) 7 2 12 [.ref (ad 0 0), zI p0] ad x y (zpSG G r X y) px) (hx : ∀ (E : String) (x1 y1 : zSt), px E x1 y1 → (E = "java/lang/IllegalArgumentException" ∧ P 1 x1 ∧ y1 = y) ∨ (E = "java/util/NoSuchElementException" ∧ P 2 x1 ∧ y1 = y)) : zHC yL_writer cL_writer 4 (some .int) [(0, 9, 12, 13), (0, 9, 15, 21)] 8 2 12 [.ref (ad 0 0), zI p0, .ref (ad 60 0)] ad x y (zHq G r X P y) := by
  refine zHC_ofV (by decide) (by intro v hv; simp only [List.mem_cons, List.not_mem_nil, or_false] at hv; rcases hv with rfl | rfl | rfl <;> rfl) (Nat.le_of_ble_eq_true rfl) (fun Γ hX hN hM hT => ?_)
  show zV Γ ad 0 0 x y 0 [some (.ref (ad 0 0)), some (zI p0), some (.ref (ad 60 0)), none] []
  refine zV_aloadn hX dL_writer_0 rfl ?_
  refine zV_iconst hX dL_writer_1 ?_
  refine zV_aloadn hX dL_writer_2 rfl ?_
  refine zV_iloadn hX dL_writer_3 rfl ?_
  refine zV_callV (n := 1) hX rfl hN 0 rfl rfl ⟨by decide, by decide⟩ hC zw_co_yX4_writer zw_mL_41 zw_in_RX4 zw_im_yX4_writer zw_se_yX4_writer ⟨by decide, by decide, by decide +kernel⟩ rfl (by omega) (by decide) (by omega) (by omega) rfl (Nat.le_of_ble_eq_true rfl) dL_writer_4 (fun a x1 y1 p => ?_) (fun E x1 y1 p => ?_)
  · obtain ⟨p1, rfl, rfl, rfl⟩ := p
    refine zV_i2lz hX dL_writer_7 ?_
    refine zV_last hX 60 rfl (i := 0) (j := 0) ⟨by decide, by decide⟩ ⟨by decide, by decide⟩ (by decide) (z := (Int32.ofInt r).toInt) (fun h => absurd h (by decide)) (zm_upy (by decide)) dL_writer_8 ?_
    refine zV_goto (tgt := 18) hX dL_writer_9 (by decide) ?_
    refine zV_iconst hX dL_writer_18 ?_
    exact zV_iret hX hM (by omega) (by omega) rfl dL_writer_19 (Or.inl ⟨p1, rfl, rfl, rfl⟩)
  · rcases hx _ _ _ p with ⟨rfl, p1, rfl⟩ | ⟨rfl, p1, rfl⟩
    · refine zVX_catch hX hN hT [] ⟨0, 9, 12, 13⟩ [⟨0, 9, 15, 21⟩] rfl (by decide) (fun z hz => by cases hz) (by decide) (by decide) zw_cL_13 (fun q => ?_)
      refine zV_astoren3 hX dL_writer_12 ?_
      refine zV_iconst hX dL_writer_13 ?_
      exact zV_iret hX hM (by omega) (by omega) rfl dL_writer_14 (Or.inr ⟨1, p1, by decide, rfl, rfl⟩)
    · refine zVX_catch hX hN hT [⟨0, 9, 12, 13⟩] ⟨0, 9, 15, 21⟩ [] rfl (by decide) (fun z hz => by simp only [List.mem_cons, List.not_mem_nil, or_false] at hz; subst hz <;> first | exact ⟨by decide, _, zw_cL_13, by decide⟩) (by decide) (by decide) zw_cL_21 (fun q => ?_)
      refine zV_astoren3 hX dL_writer_15 ?_
      refine zV_iconst hX dL_writer_16 ?_
      exact zV_iret hX hM (by omega) (by omega) rfl dL_writer_17 (Or.inr ⟨2, p1, by decide, rfl, rfl⟩)
set_option maxRecDepth 100000 in
set_option maxHeartbeats 4000000 in
theorem h_run {ad : Nat → Int → Nat} {x y X : zSt} {G : Prop} {r : Int} {px : String → zSt → zSt → Prop} {P : Int → zSt → Prop} {p0 : Int} (hC : zC yX4_run cX4_run 2 (some .char) 7 1 6 [.ref (ad 0 0), zI p0] ad x y (zpSG G r X y) px) (hx : ∀ (E : String) (x1 y1 : zSt), px E x1 y1 → (E = "java/lang/IndexOutOfBoundsException" ∧ P 1 x1 ∧ y1 = y)) : zHC yL_run cL_run 4 (some .int) [(0, 9, 12, 36)] 8 1 6 [.ref (ad 0 0), zI p0, .ref (ad 60 0)] ad x y (zHq G r X P y) := by
  refine zHC_ofV (by decide) (by intro v hv; simp only [List.mem_cons, List.not_mem_nil, or_false] at hv; rcases hv with rfl | rfl | rfl <;> rfl) (Nat.le_of_ble_eq_true rfl) (fun Γ hX hN hM hT => ?_)
  show zV Γ ad 0 0 x y 0 [some (.ref (ad 0 0)), some (zI p0), some (.ref (ad 60 0)), none] []
  refine zV_aloadn hX dL_run_0 rfl ?_
  refine zV_iconst hX dL_run_1 ?_
  refine zV_aloadn hX dL_run_2 rfl ?_
  refine zV_iloadn hX dL_run_3 rfl ?_
  refine zV_callV (n := 1) hX rfl hN 0 rfl rfl ⟨by decide, by decide⟩ hC zw_co_yX4_run zw_mL_44 zw_in_RX4 zw_im_yX4_run zw_se_yX4_run ⟨by decide, by decide, by decide +kernel⟩ rfl (by omega) (by decide) (by omega) (by omega) rfl (Nat.le_of_ble_eq_true rfl) dL_run_4 (fun a x1 y1 p => ?_) (fun E x1 y1 p => ?_)
  · obtain ⟨p1, rfl, rfl, rfl⟩ := p
    refine zV_i2lz hX dL_run_7 ?_
    refine zV_last hX 60 rfl (i := 0) (j := 0) ⟨by decide, by decide⟩ ⟨by decide, by decide⟩ (by decide) (z := (Int32.ofInt r).toInt) (fun h => absurd h (by decide)) (zm_upy (by decide)) dL_run_8 ?_
    refine zV_goto (tgt := 15) hX dL_run_9 (by decide) ?_
    refine zV_iconst hX dL_run_15 ?_
    exact zV_iret hX hM (by omega) (by omega) rfl dL_run_16 (Or.inl ⟨p1, rfl, rfl, rfl⟩)
  · obtain ⟨rfl, p1, rfl⟩ := hx _ _ _ p
    refine zVX_catch hX hN hT [] ⟨0, 9, 12, 36⟩ [] rfl (by decide) (fun z hz => by cases hz) (by decide) (by decide) zw_cL_36 (fun q => ?_)
    refine zV_astoren3 hX dL_run_12 ?_
    refine zV_iconst hX dL_run_13 ?_
    exact zV_iret hX hM (by omega) (by omega) rfl dL_run_14 (Or.inr ⟨1, p1, by decide, rfl, rfl⟩)
set_option maxRecDepth 100000 in
set_option maxHeartbeats 4000000 in
theorem h_state {ad : Nat → Int → Nat} {x y X : zSt} {G : Prop} {r : Int} {px : String → zSt → zSt → Prop} {P : Int → zSt → Prop} {p0 : Int} (hC : zC yX4_state cX4_state 3 (some .char) 7 1 6 [.ref (ad 0 0), zI p0] ad x y (zpSG G r X y) px) (hx : ∀ (E : String) (x1 y1 : zSt), px E x1 y1 → (E = "java/lang/IndexOutOfBoundsException" ∧ P 1 x1 ∧ y1 = y)) : zHC yL_state cL_state 4 (some .int) [(0, 9, 12, 36)] 8 1 6 [.ref (ad 0 0), zI p0, .ref (ad 60 0)] ad x y (zHq G r X P y) := by
  refine zHC_ofV (by decide) (by intro v hv; simp only [List.mem_cons, List.not_mem_nil, or_false] at hv; rcases hv with rfl | rfl | rfl <;> rfl) (Nat.le_of_ble_eq_true rfl) (fun Γ hX hN hM hT => ?_)
  show zV Γ ad 0 0 x y 0 [some (.ref (ad 0 0)), some (zI p0), some (.ref (ad 60 0)), none] []
  refine zV_aloadn hX dL_state_0 rfl ?_
  refine zV_iconst hX dL_state_1 ?_
  refine zV_aloadn hX dL_state_2 rfl ?_
  refine zV_iloadn hX dL_state_3 rfl ?_
  refine zV_callV (n := 1) hX rfl hN 0 rfl rfl ⟨by decide, by decide⟩ hC zw_co_yX4_state zw_mL_48 zw_in_RX4 zw_im_yX4_state zw_se_yX4_state ⟨by decide, by decide, by decide +kernel⟩ rfl (by omega) (by decide) (by omega) (by omega) rfl (Nat.le_of_ble_eq_true rfl) dL_state_4 (fun a x1 y1 p => ?_) (fun E x1 y1 p => ?_)
  · obtain ⟨p1, rfl, rfl, rfl⟩ := p
    refine zV_i2lz hX dL_state_7 ?_
    refine zV_last hX 60 rfl (i := 0) (j := 0) ⟨by decide, by decide⟩ ⟨by decide, by decide⟩ (by decide) (z := (Int32.ofInt r).toInt) (fun h => absurd h (by decide)) (zm_upy (by decide)) dL_state_8 ?_
    refine zV_goto (tgt := 15) hX dL_state_9 (by decide) ?_
    refine zV_iconst hX dL_state_15 ?_
    exact zV_iret hX hM (by omega) (by omega) rfl dL_state_16 (Or.inl ⟨p1, rfl, rfl, rfl⟩)
  · obtain ⟨rfl, p1, rfl⟩ := hx _ _ _ p
    refine zVX_catch hX hN hT [] ⟨0, 9, 12, 36⟩ [] rfl (by decide) (fun z hz => by cases hz) (by decide) (by decide) zw_cL_36 (fun q => ?_)
    refine zV_astoren3 hX dL_state_12 ?_
    refine zV_iconst hX dL_state_13 ?_
    exact zV_iret hX hM (by omega) (by omega) rfl dL_state_14 (Or.inr ⟨1, p1, by decide, rfl, rfl⟩)
set_option maxRecDepth 100000 in
set_option maxHeartbeats 4000000 in
theorem h_resultAnew {ad : Nat → Int → Nat} {x y X : zSt} {G : Prop} {r : Int} {px : String → zSt → zSt → Prop} {P : Int → zSt → Prop} {p0 : Int} (hC : zC yX4_resultAnew cX4_resultAnew 4 (some .int) 8 2 12 [.ref (ad 0 0), zI p0] ad x y (zpSG G r X y) px) (hx : ∀ (E : String) (x1 y1 : zSt), px E x1 y1 → (E = "java/lang/IndexOutOfBoundsException" ∧ P 1 x1 ∧ y1 = y) ∨ (E = "java/lang/UnsupportedOperationException" ∧ P 2 x1 ∧ y1 = y)) : zHC yL_resultAnew cL_resultAnew 4 (some .int) [(0, 9, 12, 36), (0, 9, 15, 31)] 9 2 12 [.ref (ad 0 0), zI p0, .ref (ad 60 0)] ad x y (zHq G r X P y) := by
  refine zHC_ofV (by decide) (by intro v hv; simp only [List.mem_cons, List.not_mem_nil, or_false] at hv; rcases hv with rfl | rfl | rfl <;> rfl) (Nat.le_of_ble_eq_true rfl) (fun Γ hX hN hM hT => ?_)
  show zV Γ ad 0 0 x y 0 [some (.ref (ad 0 0)), some (zI p0), some (.ref (ad 60 0)), none] []
  refine zV_aloadn hX dL_resultAnew_0 rfl ?_
  refine zV_iconst hX dL_resultAnew_1 ?_
  refine zV_aloadn hX dL_resultAnew_2 rfl ?_
  refine zV_iloadn hX dL_resultAnew_3 rfl ?_
  refine zV_callV (n := 1) hX rfl hN 0 rfl rfl ⟨by decide, by decide⟩ hC zw_co_yX4_resultAnew zw_mL_51 zw_in_RX4 zw_im_yX4_resultAnew zw_se_yX4_resultAnew ⟨by decide, by decide, by decide +kernel⟩ rfl (by omega) (by decide) (by omega) (by omega) rfl (Nat.le_of_ble_eq_true rfl) dL_resultAnew_4 (fun a x1 y1 p => ?_) (fun E x1 y1 p => ?_)
  · obtain ⟨p1, rfl, rfl, rfl⟩ := p
    refine zV_i2lz hX dL_resultAnew_7 ?_
    refine zV_last hX 60 rfl (i := 0) (j := 0) ⟨by decide, by decide⟩ ⟨by decide, by decide⟩ (by decide) (z := (Int32.ofInt r).toInt) (fun h => absurd h (by decide)) (zm_upy (by decide)) dL_resultAnew_8 ?_
    refine zV_goto (tgt := 18) hX dL_resultAnew_9 (by decide) ?_
    refine zV_iconst hX dL_resultAnew_18 ?_
    exact zV_iret hX hM (by omega) (by omega) rfl dL_resultAnew_19 (Or.inl ⟨p1, rfl, rfl, rfl⟩)
  · rcases hx _ _ _ p with ⟨rfl, p1, rfl⟩ | ⟨rfl, p1, rfl⟩
    · refine zVX_catch hX hN hT [] ⟨0, 9, 12, 36⟩ [⟨0, 9, 15, 31⟩] rfl (by decide) (fun z hz => by cases hz) (by decide) (by decide) zw_cL_36 (fun q => ?_)
      refine zV_astoren3 hX dL_resultAnew_12 ?_
      refine zV_iconst hX dL_resultAnew_13 ?_
      exact zV_iret hX hM (by omega) (by omega) rfl dL_resultAnew_14 (Or.inr ⟨1, p1, by decide, rfl, rfl⟩)
    · refine zVX_catch hX hN hT [⟨0, 9, 12, 36⟩] ⟨0, 9, 15, 31⟩ [] rfl (by decide) (fun z hz => by simp only [List.mem_cons, List.not_mem_nil, or_false] at hz; subst hz <;> first | exact ⟨by decide, _, zw_cL_36, by decide⟩) (by decide) (by decide) zw_cL_31 (fun q => ?_)
      refine zV_astoren3 hX dL_resultAnew_15 ?_
      refine zV_iconst hX dL_resultAnew_16 ?_
      exact zV_iret hX hM (by omega) (by omega) rfl dL_resultAnew_17 (Or.inr ⟨2, p1, by decide, rfl, rfl⟩)
set_option maxRecDepth 100000 in
set_option maxHeartbeats 4000000 in
theorem h_runs {ad : Nat → Int → Nat} {x y X : zSt} {G : Prop} {r : Int} {px : String → zSt → zSt → Prop} {P : Int → zSt → Prop} {p0 : Int} (hC : zC yX4_runs cX4_runs 2 (some .int) 7 1 6 [.ref (ad 0 0), zI p0] ad x y (zpSG G r X y) px) (hx : ∀ (E : String) (x1 y1 : zSt), px E x1 y1 → (E = "java/lang/IndexOutOfBoundsException" ∧ P 1 x1 ∧ y1 = y)) : zHC yL_runs cL_runs 4 (some .int) [(0, 9, 12, 36)] 8 1 6 [.ref (ad 0 0), zI p0, .ref (ad 60 0)] ad x y (zHq G r X P y) := by
  refine zHC_ofV (by decide) (by intro v hv; simp only [List.mem_cons, List.not_mem_nil, or_false] at hv; rcases hv with rfl | rfl | rfl <;> rfl) (Nat.le_of_ble_eq_true rfl) (fun Γ hX hN hM hT => ?_)
  show zV Γ ad 0 0 x y 0 [some (.ref (ad 0 0)), some (zI p0), some (.ref (ad 60 0)), none] []
  refine zV_aloadn hX dL_runs_0 rfl ?_
  refine zV_iconst hX dL_runs_1 ?_
  refine zV_aloadn hX dL_runs_2 rfl ?_
  refine zV_iloadn hX dL_runs_3 rfl ?_
  refine zV_callV (n := 1) hX rfl hN 0 rfl rfl ⟨by decide, by decide⟩ hC zw_co_yX4_runs zw_mL_54 zw_in_RX4 zw_im_yX4_runs zw_se_yX4_runs ⟨by decide, by decide, by decide +kernel⟩ rfl (by omega) (by decide) (by omega) (by omega) rfl (Nat.le_of_ble_eq_true rfl) dL_runs_4 (fun a x1 y1 p => ?_) (fun E x1 y1 p => ?_)
  · obtain ⟨p1, rfl, rfl, rfl⟩ := p
    refine zV_i2lz hX dL_runs_7 ?_
    refine zV_last hX 60 rfl (i := 0) (j := 0) ⟨by decide, by decide⟩ ⟨by decide, by decide⟩ (by decide) (z := (Int32.ofInt r).toInt) (fun h => absurd h (by decide)) (zm_upy (by decide)) dL_runs_8 ?_
    refine zV_goto (tgt := 15) hX dL_runs_9 (by decide) ?_
    refine zV_iconst hX dL_runs_15 ?_
    exact zV_iret hX hM (by omega) (by omega) rfl dL_runs_16 (Or.inl ⟨p1, rfl, rfl, rfl⟩)
  · obtain ⟨rfl, p1, rfl⟩ := hx _ _ _ p
    refine zVX_catch hX hN hT [] ⟨0, 9, 12, 36⟩ [] rfl (by decide) (fun z hz => by cases hz) (by decide) (by decide) zw_cL_36 (fun q => ?_)
    refine zV_astoren3 hX dL_runs_12 ?_
    refine zV_iconst hX dL_runs_13 ?_
    exact zV_iret hX hM (by omega) (by omega) rfl dL_runs_14 (Or.inr ⟨1, p1, by decide, rfl, rfl⟩)
set_option maxRecDepth 100000 in
set_option maxHeartbeats 4000000 in
theorem h_found {ad : Nat → Int → Nat} {x y X : zSt} {G : Prop} {r : Int} {px : String → zSt → zSt → Prop} {P : Int → zSt → Prop} {p0 : Int} (hC : zC yX4_found cX4_found 2 (some .int) 7 1 6 [.ref (ad 0 0), zI p0] ad x y (zpSG G r X y) px) (hx : ∀ (E : String) (x1 y1 : zSt), px E x1 y1 → (E = "java/lang/IndexOutOfBoundsException" ∧ P 1 x1 ∧ y1 = y)) : zHC yL_found cL_found 4 (some .int) [(0, 9, 12, 36)] 8 1 6 [.ref (ad 0 0), zI p0, .ref (ad 60 0)] ad x y (zHq G r X P y) := by
  refine zHC_ofV (by decide) (by intro v hv; simp only [List.mem_cons, List.not_mem_nil, or_false] at hv; rcases hv with rfl | rfl | rfl <;> rfl) (Nat.le_of_ble_eq_true rfl) (fun Γ hX hN hM hT => ?_)
  show zV Γ ad 0 0 x y 0 [some (.ref (ad 0 0)), some (zI p0), some (.ref (ad 60 0)), none] []
  refine zV_aloadn hX dL_found_0 rfl ?_
  refine zV_iconst hX dL_found_1 ?_
  refine zV_aloadn hX dL_found_2 rfl ?_
  refine zV_iloadn hX dL_found_3 rfl ?_
  refine zV_callV (n := 1) hX rfl hN 0 rfl rfl ⟨by decide, by decide⟩ hC zw_co_yX4_found zw_mL_57 zw_in_RX4 zw_im_yX4_found zw_se_yX4_found ⟨by decide, by decide, by decide +kernel⟩ rfl (by omega) (by decide) (by omega) (by omega) rfl (Nat.le_of_ble_eq_true rfl) dL_found_4 (fun a x1 y1 p => ?_) (fun E x1 y1 p => ?_)
  · obtain ⟨p1, rfl, rfl, rfl⟩ := p
    refine zV_i2lz hX dL_found_7 ?_
    refine zV_last hX 60 rfl (i := 0) (j := 0) ⟨by decide, by decide⟩ ⟨by decide, by decide⟩ (by decide) (z := (Int32.ofInt r).toInt) (fun h => absurd h (by decide)) (zm_upy (by decide)) dL_found_8 ?_
    refine zV_goto (tgt := 15) hX dL_found_9 (by decide) ?_
    refine zV_iconst hX dL_found_15 ?_
    exact zV_iret hX hM (by omega) (by omega) rfl dL_found_16 (Or.inl ⟨p1, rfl, rfl, rfl⟩)
  · obtain ⟨rfl, p1, rfl⟩ := hx _ _ _ p
    refine zVX_catch hX hN hT [] ⟨0, 9, 12, 36⟩ [] rfl (by decide) (fun z hz => by cases hz) (by decide) (by decide) zw_cL_36 (fun q => ?_)
    refine zV_astoren3 hX dL_found_12 ?_
    refine zV_iconst hX dL_found_13 ?_
    exact zV_iret hX hM (by omega) (by omega) rfl dL_found_14 (Or.inr ⟨1, p1, by decide, rfl, rfl⟩)
set_option maxRecDepth 100000 in
set_option maxHeartbeats 4000000 in
theorem h_failure {ad : Nat → Int → Nat} {x y X : zSt} {G : Prop} {r : Int} {px : String → zSt → zSt → Prop} {P : Int → zSt → Prop} {p0 : Int} (hC : zC yX4_failure cX4_failure 2 (some .char) 8 2 12 [.ref (ad 0 0), zI p0] ad x y (zpSG G r X y) px) (hx : ∀ (E : String) (x1 y1 : zSt), px E x1 y1 → (E = "java/lang/IndexOutOfBoundsException" ∧ P 1 x1 ∧ y1 = y) ∨ (E = "java/lang/IllegalStateException" ∧ P 2 x1 ∧ y1 = y)) : zHC yL_failure cL_failure 4 (some .int) [(0, 9, 12, 36), (0, 9, 15, 15)] 9 2 12 [.ref (ad 0 0), zI p0, .ref (ad 60 0)] ad x y (zHq G r X P y) := by
  refine zHC_ofV (by decide) (by intro v hv; simp only [List.mem_cons, List.not_mem_nil, or_false] at hv; rcases hv with rfl | rfl | rfl <;> rfl) (Nat.le_of_ble_eq_true rfl) (fun Γ hX hN hM hT => ?_)
  show zV Γ ad 0 0 x y 0 [some (.ref (ad 0 0)), some (zI p0), some (.ref (ad 60 0)), none] []
  refine zV_aloadn hX dL_failure_0 rfl ?_
  refine zV_iconst hX dL_failure_1 ?_
  refine zV_aloadn hX dL_failure_2 rfl ?_
  refine zV_iloadn hX dL_failure_3 rfl ?_
  refine zV_callV (n := 1) hX rfl hN 0 rfl rfl ⟨by decide, by decide⟩ hC zw_co_yX4_failure zw_mL_60 zw_in_RX4 zw_im_yX4_failure zw_se_yX4_failure ⟨by decide, by decide, by decide +kernel⟩ rfl (by omega) (by decide) (by omega) (by omega) rfl (Nat.le_of_ble_eq_true rfl) dL_failure_4 (fun a x1 y1 p => ?_) (fun E x1 y1 p => ?_)
  · obtain ⟨p1, rfl, rfl, rfl⟩ := p
    refine zV_i2lz hX dL_failure_7 ?_
    refine zV_last hX 60 rfl (i := 0) (j := 0) ⟨by decide, by decide⟩ ⟨by decide, by decide⟩ (by decide) (z := (Int32.ofInt r).toInt) (fun h => absurd h (by decide)) (zm_upy (by decide)) dL_failure_8 ?_
    refine zV_goto (tgt := 18) hX dL_failure_9 (by decide) ?_
    refine zV_iconst hX dL_failure_18 ?_
    exact zV_iret hX hM (by omega) (by omega) rfl dL_failure_19 (Or.inl ⟨p1, rfl, rfl, rfl⟩)
  · rcases hx _ _ _ p with ⟨rfl, p1, rfl⟩ | ⟨rfl, p1, rfl⟩
    · refine zVX_catch hX hN hT [] ⟨0, 9, 12, 36⟩ [⟨0, 9, 15, 15⟩] rfl (by decide) (fun z hz => by cases hz) (by decide) (by decide) zw_cL_36 (fun q => ?_)
      refine zV_astoren3 hX dL_failure_12 ?_
      refine zV_iconst hX dL_failure_13 ?_
      exact zV_iret hX hM (by omega) (by omega) rfl dL_failure_14 (Or.inr ⟨1, p1, by decide, rfl, rfl⟩)
    · refine zVX_catch hX hN hT [⟨0, 9, 12, 36⟩] ⟨0, 9, 15, 15⟩ [] rfl (by decide) (fun z hz => by simp only [List.mem_cons, List.not_mem_nil, or_false] at hz; subst hz <;> first | exact ⟨by decide, _, zw_cL_36, by decide⟩) (by decide) (by decide) zw_cL_15 (fun q => ?_)
      refine zV_astoren3 hX dL_failure_15 ?_
      refine zV_iconst hX dL_failure_16 ?_
      exact zV_iret hX hM (by omega) (by omega) rfl dL_failure_17 (Or.inr ⟨2, p1, by decide, rfl, rfl⟩)
set_option maxRecDepth 100000 in
set_option maxHeartbeats 4000000 in
theorem h_root {ad : Nat → Int → Nat} {x y X : zSt} {G : Prop} {r : Int} {px : String → zSt → zSt → Prop} {P : Int → zSt → Prop} {p0 : Int} (hC : zC yX4_root cX4_root 2 (some .int) 8 2 12 [.ref (ad 0 0), zI p0] ad x y (zpSG G r X y) px) (hx : ∀ (E : String) (x1 y1 : zSt), px E x1 y1 → (E = "java/lang/IndexOutOfBoundsException" ∧ P 1 x1 ∧ y1 = y) ∨ (E = "java/lang/IllegalStateException" ∧ P 2 x1 ∧ y1 = y)) : zHC yL_root cL_root 4 (some .int) [(0, 9, 12, 36), (0, 9, 15, 15)] 9 2 12 [.ref (ad 0 0), zI p0, .ref (ad 60 0)] ad x y (zHq G r X P y) := by
  refine zHC_ofV (by decide) (by intro v hv; simp only [List.mem_cons, List.not_mem_nil, or_false] at hv; rcases hv with rfl | rfl | rfl <;> rfl) (Nat.le_of_ble_eq_true rfl) (fun Γ hX hN hM hT => ?_)
  show zV Γ ad 0 0 x y 0 [some (.ref (ad 0 0)), some (zI p0), some (.ref (ad 60 0)), none] []
  refine zV_aloadn hX dL_root_0 rfl ?_
  refine zV_iconst hX dL_root_1 ?_
  refine zV_aloadn hX dL_root_2 rfl ?_
  refine zV_iloadn hX dL_root_3 rfl ?_
  refine zV_callV (n := 1) hX rfl hN 0 rfl rfl ⟨by decide, by decide⟩ hC zw_co_yX4_root zw_mL_63 zw_in_RX4 zw_im_yX4_root zw_se_yX4_root ⟨by decide, by decide, by decide +kernel⟩ rfl (by omega) (by decide) (by omega) (by omega) rfl (Nat.le_of_ble_eq_true rfl) dL_root_4 (fun a x1 y1 p => ?_) (fun E x1 y1 p => ?_)
  · obtain ⟨p1, rfl, rfl, rfl⟩ := p
    refine zV_i2lz hX dL_root_7 ?_
    refine zV_last hX 60 rfl (i := 0) (j := 0) ⟨by decide, by decide⟩ ⟨by decide, by decide⟩ (by decide) (z := (Int32.ofInt r).toInt) (fun h => absurd h (by decide)) (zm_upy (by decide)) dL_root_8 ?_
    refine zV_goto (tgt := 18) hX dL_root_9 (by decide) ?_
    refine zV_iconst hX dL_root_18 ?_
    exact zV_iret hX hM (by omega) (by omega) rfl dL_root_19 (Or.inl ⟨p1, rfl, rfl, rfl⟩)
  · rcases hx _ _ _ p with ⟨rfl, p1, rfl⟩ | ⟨rfl, p1, rfl⟩
    · refine zVX_catch hX hN hT [] ⟨0, 9, 12, 36⟩ [⟨0, 9, 15, 15⟩] rfl (by decide) (fun z hz => by cases hz) (by decide) (by decide) zw_cL_36 (fun q => ?_)
      refine zV_astoren3 hX dL_root_12 ?_
      refine zV_iconst hX dL_root_13 ?_
      exact zV_iret hX hM (by omega) (by omega) rfl dL_root_14 (Or.inr ⟨1, p1, by decide, rfl, rfl⟩)
    · refine zVX_catch hX hN hT [⟨0, 9, 12, 36⟩] ⟨0, 9, 15, 15⟩ [] rfl (by decide) (fun z hz => by simp only [List.mem_cons, List.not_mem_nil, or_false] at hz; subst hz <;> first | exact ⟨by decide, _, zw_cL_36, by decide⟩) (by decide) (by decide) zw_cL_15 (fun q => ?_)
      refine zV_astoren3 hX dL_root_15 ?_
      refine zV_iconst hX dL_root_16 ?_
      exact zV_iret hX hM (by omega) (by omega) rfl dL_root_17 (Or.inr ⟨2, p1, by decide, rfl, rfl⟩)
set_option maxRecDepth 100000 in
set_option maxHeartbeats 4000000 in
theorem h_rootFailure {ad : Nat → Int → Nat} {x y X : zSt} {G : Prop} {r : Int} {px : String → zSt → zSt → Prop} {P : Int → zSt → Prop} {p0 : Int} (hC : zC yX4_rootFailure cX4_rootFailure 2 (some .char) 8 2 12 [.ref (ad 0 0), zI p0] ad x y (zpSG G r X y) px) (hx : ∀ (E : String) (x1 y1 : zSt), px E x1 y1 → (E = "java/lang/IndexOutOfBoundsException" ∧ P 1 x1 ∧ y1 = y) ∨ (E = "java/lang/IllegalStateException" ∧ P 2 x1 ∧ y1 = y)) : zHC yL_rootFailure cL_rootFailure 4 (some .int) [(0, 9, 12, 36), (0, 9, 15, 15)] 9 2 12 [.ref (ad 0 0), zI p0, .ref (ad 60 0)] ad x y (zHq G r X P y) := by
  refine zHC_ofV (by decide) (by intro v hv; simp only [List.mem_cons, List.not_mem_nil, or_false] at hv; rcases hv with rfl | rfl | rfl <;> rfl) (Nat.le_of_ble_eq_true rfl) (fun Γ hX hN hM hT => ?_)
  show zV Γ ad 0 0 x y 0 [some (.ref (ad 0 0)), some (zI p0), some (.ref (ad 60 0)), none] []
  refine zV_aloadn hX dL_rootFailure_0 rfl ?_
  refine zV_iconst hX dL_rootFailure_1 ?_
  refine zV_aloadn hX dL_rootFailure_2 rfl ?_
  refine zV_iloadn hX dL_rootFailure_3 rfl ?_
  refine zV_callV (n := 1) hX rfl hN 0 rfl rfl ⟨by decide, by decide⟩ hC zw_co_yX4_rootFailure zw_mL_66 zw_in_RX4 zw_im_yX4_rootFailure zw_se_yX4_rootFailure ⟨by decide, by decide, by decide +kernel⟩ rfl (by omega) (by decide) (by omega) (by omega) rfl (Nat.le_of_ble_eq_true rfl) dL_rootFailure_4 (fun a x1 y1 p => ?_) (fun E x1 y1 p => ?_)
  · obtain ⟨p1, rfl, rfl, rfl⟩ := p
    refine zV_i2lz hX dL_rootFailure_7 ?_
    refine zV_last hX 60 rfl (i := 0) (j := 0) ⟨by decide, by decide⟩ ⟨by decide, by decide⟩ (by decide) (z := (Int32.ofInt r).toInt) (fun h => absurd h (by decide)) (zm_upy (by decide)) dL_rootFailure_8 ?_
    refine zV_goto (tgt := 18) hX dL_rootFailure_9 (by decide) ?_
    refine zV_iconst hX dL_rootFailure_18 ?_
    exact zV_iret hX hM (by omega) (by omega) rfl dL_rootFailure_19 (Or.inl ⟨p1, rfl, rfl, rfl⟩)
  · rcases hx _ _ _ p with ⟨rfl, p1, rfl⟩ | ⟨rfl, p1, rfl⟩
    · refine zVX_catch hX hN hT [] ⟨0, 9, 12, 36⟩ [⟨0, 9, 15, 15⟩] rfl (by decide) (fun z hz => by cases hz) (by decide) (by decide) zw_cL_36 (fun q => ?_)
      refine zV_astoren3 hX dL_rootFailure_12 ?_
      refine zV_iconst hX dL_rootFailure_13 ?_
      exact zV_iret hX hM (by omega) (by omega) rfl dL_rootFailure_14 (Or.inr ⟨1, p1, by decide, rfl, rfl⟩)
    · refine zVX_catch hX hN hT [⟨0, 9, 12, 36⟩] ⟨0, 9, 15, 15⟩ [] rfl (by decide) (fun z hz => by simp only [List.mem_cons, List.not_mem_nil, or_false] at hz; subst hz <;> first | exact ⟨by decide, _, zw_cL_36, by decide⟩) (by decide) (by decide) zw_cL_15 (fun q => ?_)
      refine zV_astoren3 hX dL_rootFailure_15 ?_
      refine zV_iconst hX dL_rootFailure_16 ?_
      exact zV_iret hX hM (by omega) (by omega) rfl dL_rootFailure_17 (Or.inr ⟨2, p1, by decide, rfl, rfl⟩)
set_option maxRecDepth 100000 in
set_option maxHeartbeats 4000000 in
theorem h_causes {ad : Nat → Int → Nat} {x y X : zSt} {G : Prop} {r : Int} {px : String → zSt → zSt → Prop} {P : Int → zSt → Prop} {p0 : Int} (hC : zC yX4_causes cX4_causes 2 (some .int) 8 2 12 [.ref (ad 0 0), zI p0] ad x y (zpSG G r X y) px) (hx : ∀ (E : String) (x1 y1 : zSt), px E x1 y1 → (E = "java/lang/IndexOutOfBoundsException" ∧ P 1 x1 ∧ y1 = y) ∨ (E = "java/lang/IllegalStateException" ∧ P 2 x1 ∧ y1 = y)) : zHC yL_causes cL_causes 4 (some .int) [(0, 9, 12, 36), (0, 9, 15, 15)] 9 2 12 [.ref (ad 0 0), zI p0, .ref (ad 60 0)] ad x y (zHq G r X P y) := by
  refine zHC_ofV (by decide) (by intro v hv; simp only [List.mem_cons, List.not_mem_nil, or_false] at hv; rcases hv with rfl | rfl | rfl <;> rfl) (Nat.le_of_ble_eq_true rfl) (fun Γ hX hN hM hT => ?_)
  show zV Γ ad 0 0 x y 0 [some (.ref (ad 0 0)), some (zI p0), some (.ref (ad 60 0)), none] []
  refine zV_aloadn hX dL_causes_0 rfl ?_
  refine zV_iconst hX dL_causes_1 ?_
  refine zV_aloadn hX dL_causes_2 rfl ?_
  refine zV_iloadn hX dL_causes_3 rfl ?_
  refine zV_callV (n := 1) hX rfl hN 0 rfl rfl ⟨by decide, by decide⟩ hC zw_co_yX4_causes zw_mL_69 zw_in_RX4 zw_im_yX4_causes zw_se_yX4_causes ⟨by decide, by decide, by decide +kernel⟩ rfl (by omega) (by decide) (by omega) (by omega) rfl (Nat.le_of_ble_eq_true rfl) dL_causes_4 (fun a x1 y1 p => ?_) (fun E x1 y1 p => ?_)
  · obtain ⟨p1, rfl, rfl, rfl⟩ := p
    refine zV_i2lz hX dL_causes_7 ?_
    refine zV_last hX 60 rfl (i := 0) (j := 0) ⟨by decide, by decide⟩ ⟨by decide, by decide⟩ (by decide) (z := (Int32.ofInt r).toInt) (fun h => absurd h (by decide)) (zm_upy (by decide)) dL_causes_8 ?_
    refine zV_goto (tgt := 18) hX dL_causes_9 (by decide) ?_
    refine zV_iconst hX dL_causes_18 ?_
    exact zV_iret hX hM (by omega) (by omega) rfl dL_causes_19 (Or.inl ⟨p1, rfl, rfl, rfl⟩)
  · rcases hx _ _ _ p with ⟨rfl, p1, rfl⟩ | ⟨rfl, p1, rfl⟩
    · refine zVX_catch hX hN hT [] ⟨0, 9, 12, 36⟩ [⟨0, 9, 15, 15⟩] rfl (by decide) (fun z hz => by cases hz) (by decide) (by decide) zw_cL_36 (fun q => ?_)
      refine zV_astoren3 hX dL_causes_12 ?_
      refine zV_iconst hX dL_causes_13 ?_
      exact zV_iret hX hM (by omega) (by omega) rfl dL_causes_14 (Or.inr ⟨1, p1, by decide, rfl, rfl⟩)
    · refine zVX_catch hX hN hT [⟨0, 9, 12, 36⟩] ⟨0, 9, 15, 15⟩ [] rfl (by decide) (fun z hz => by simp only [List.mem_cons, List.not_mem_nil, or_false] at hz; subst hz <;> first | exact ⟨by decide, _, zw_cL_36, by decide⟩) (by decide) (by decide) zw_cL_15 (fun q => ?_)
      refine zV_astoren3 hX dL_causes_15 ?_
      refine zV_iconst hX dL_causes_16 ?_
      exact zV_iret hX hM (by omega) (by omega) rfl dL_causes_17 (Or.inr ⟨2, p1, by decide, rfl, rfl⟩)
set_option maxRecDepth 100000 in
set_option maxHeartbeats 4000000 in
theorem h_depends {ad : Nat → Int → Nat} {x y X : zSt} {G : Prop} {r : Int} {px : String → zSt → zSt → Prop} {P : Int → zSt → Prop} {p0 p1 : Int} (hC : zC yX4_depends cX4_depends 4 (some .boolean) 7 2 12 [.ref (ad 0 0), zI p0, zI p1] ad x y (zpSG G r X y) px) (hx : ∀ (E : String) (x1 y1 : zSt), px E x1 y1 → (E = "java/lang/IndexOutOfBoundsException" ∧ P 1 x1 ∧ y1 = y) ∨ (E = "java/lang/IllegalArgumentException" ∧ P 2 x1 ∧ y1 = y)) (hr : r = 0 ∨ r = 1) : zHC yL_depends cL_depends 5 (some .int) [(0, 17, 20, 36), (0, 17, 24, 13)] 8 2 12 [.ref (ad 0 0), zI p0, zI p1, .ref (ad 60 0)] ad x y (zHq G r X P y) := by
  refine zHC_ofV (by decide) (by intro v hv; simp only [List.mem_cons, List.not_mem_nil, or_false] at hv; rcases hv with rfl | rfl | rfl | rfl <;> rfl) (Nat.le_of_ble_eq_true rfl) (fun Γ hX hN hM hT => ?_)
  show zV Γ ad 0 0 x y 0 [some (.ref (ad 0 0)), some (zI p0), some (zI p1), some (.ref (ad 60 0)), none] []
  refine zV_aloadn hX dL_depends_0 rfl ?_
  refine zV_iconst hX dL_depends_1 ?_
  refine zV_aloadn hX dL_depends_2 rfl ?_
  refine zV_iloadn hX dL_depends_3 rfl ?_
  refine zV_iloadn hX dL_depends_4 rfl ?_
  refine zV_callV (n := 2) hX rfl hN 0 rfl rfl ⟨by decide, by decide⟩ hC zw_co_yX4_depends zw_mL_72 zw_in_RX4 zw_im_yX4_depends zw_se_yX4_depends ⟨by decide, by decide, by decide +kernel⟩ rfl (by omega) (by decide) (by omega) (by omega) rfl (Nat.le_of_ble_eq_true rfl) dL_depends_5 (fun a x1 y1 p => ?_) (fun E x1 y1 p => ?_)
  · obtain ⟨p1, rfl, rfl, rfl⟩ := p
    refine zV_if_eq (tgt := 15) hX dL_depends_8 (by decide) (by rcases hr with rfl | rfl <;> decide) (fun b => ?_) (fun b => ?_)
    · obtain rfl : r = 0 := b
      refine zV_lconst (z := (Int32.ofInt 0).toInt) hX dL_depends_15 (by decide) ?_
      refine zV_last hX 60 rfl (i := 0) (j := 0) ⟨by decide, by decide⟩ ⟨by decide, by decide⟩ (by decide) (z := (Int32.ofInt 0).toInt) (fun h => absurd h (by decide)) (zm_upy (by decide)) dL_depends_16 ?_
      refine zV_goto (tgt := 28) hX dL_depends_17 (by decide) ?_
      refine zV_iconst hX dL_depends_28 ?_
      exact zV_iret hX hM (by omega) (by omega) rfl dL_depends_29 (Or.inl ⟨p1, rfl, rfl, rfl⟩)
    · obtain rfl : r = 1 := hr.resolve_left b
      refine zV_lconst (z := (Int32.ofInt 1).toInt) hX dL_depends_11 (by decide) ?_
      refine zV_goto (tgt := 16) hX dL_depends_12 (by decide) ?_
      refine zV_last hX 60 rfl (i := 0) (j := 0) ⟨by decide, by decide⟩ ⟨by decide, by decide⟩ (by decide) (z := (Int32.ofInt 1).toInt) (fun h => absurd h (by decide)) (zm_upy (by decide)) dL_depends_16 ?_
      refine zV_goto (tgt := 28) hX dL_depends_17 (by decide) ?_
      refine zV_iconst hX dL_depends_28 ?_
      exact zV_iret hX hM (by omega) (by omega) rfl dL_depends_29 (Or.inl ⟨p1, rfl, rfl, rfl⟩)
  · rcases hx _ _ _ p with ⟨rfl, p1, rfl⟩ | ⟨rfl, p1, rfl⟩
    · refine zVX_catch hX hN hT [] ⟨0, 17, 20, 36⟩ [⟨0, 17, 24, 13⟩] rfl (by decide) (fun z hz => by cases hz) (by decide) (by decide) zw_cL_36 (fun q => ?_)
      refine zV_astore4 hX dL_depends_20 ?_
      refine zV_iconst hX dL_depends_22 ?_
      exact zV_iret hX hM (by omega) (by omega) rfl dL_depends_23 (Or.inr ⟨1, p1, by decide, rfl, rfl⟩)
    · refine zVX_catch hX hN hT [⟨0, 17, 20, 36⟩] ⟨0, 17, 24, 13⟩ [] rfl (by decide) (fun z hz => by simp only [List.mem_cons, List.not_mem_nil, or_false] at hz; subst hz <;> first | exact ⟨by decide, _, zw_cL_36, by decide⟩) (by decide) (by decide) zw_cL_13 (fun q => ?_)
      refine zV_astore4 hX dL_depends_24 ?_
      refine zV_iconst hX dL_depends_26 ?_
      exact zV_iret hX hM (by omega) (by omega) rfl dL_depends_27 (Or.inr ⟨2, p1, by decide, rfl, rfl⟩)
set_option maxRecDepth 100000 in
set_option maxHeartbeats 4000000 in
theorem h_owners {ad : Nat → Int → Nat} {x y X : zSt} {G : Prop} {r : Int} {px : String → zSt → zSt → Prop} {P : Int → zSt → Prop} {p0 : Int} (hC : zC yX4_owners cX4_owners 5 (some .int) 7 1 6 [.ref (ad 0 0), zI p0] ad x y (zpSG G r X y) px) (hx : ∀ (E : String) (x1 y1 : zSt), px E x1 y1 → (E = "java/lang/IndexOutOfBoundsException" ∧ P 1 x1 ∧ y1 = y)) : zHC yL_owners cL_owners 4 (some .int) [(0, 9, 12, 36)] 8 1 6 [.ref (ad 0 0), zI p0, .ref (ad 60 0)] ad x y (zHq G r X P y) := by
  refine zHC_ofV (by decide) (by intro v hv; simp only [List.mem_cons, List.not_mem_nil, or_false] at hv; rcases hv with rfl | rfl | rfl <;> rfl) (Nat.le_of_ble_eq_true rfl) (fun Γ hX hN hM hT => ?_)
  show zV Γ ad 0 0 x y 0 [some (.ref (ad 0 0)), some (zI p0), some (.ref (ad 60 0)), none] []
  refine zV_aloadn hX dL_owners_0 rfl ?_
  refine zV_iconst hX dL_owners_1 ?_
  refine zV_aloadn hX dL_owners_2 rfl ?_
  refine zV_iloadn hX dL_owners_3 rfl ?_
  refine zV_callV (n := 1) hX rfl hN 0 rfl rfl ⟨by decide, by decide⟩ hC zw_co_yX4_owners zw_mL_76 zw_in_RX4 zw_im_yX4_owners zw_se_yX4_owners ⟨by decide, by decide, by decide +kernel⟩ rfl (by omega) (by decide) (by omega) (by omega) rfl (Nat.le_of_ble_eq_true rfl) dL_owners_4 (fun a x1 y1 p => ?_) (fun E x1 y1 p => ?_)
  · obtain ⟨p1, rfl, rfl, rfl⟩ := p
    refine zV_i2lz hX dL_owners_7 ?_
    refine zV_last hX 60 rfl (i := 0) (j := 0) ⟨by decide, by decide⟩ ⟨by decide, by decide⟩ (by decide) (z := (Int32.ofInt r).toInt) (fun h => absurd h (by decide)) (zm_upy (by decide)) dL_owners_8 ?_
    refine zV_goto (tgt := 15) hX dL_owners_9 (by decide) ?_
    refine zV_iconst hX dL_owners_15 ?_
    exact zV_iret hX hM (by omega) (by omega) rfl dL_owners_16 (Or.inl ⟨p1, rfl, rfl, rfl⟩)
  · obtain ⟨rfl, p1, rfl⟩ := hx _ _ _ p
    refine zVX_catch hX hN hT [] ⟨0, 9, 12, 36⟩ [] rfl (by decide) (fun z hz => by cases hz) (by decide) (by decide) zw_cL_36 (fun q => ?_)
    refine zV_astoren3 hX dL_owners_12 ?_
    refine zV_iconst hX dL_owners_13 ?_
    exact zV_iret hX hM (by omega) (by omega) rfl dL_owners_14 (Or.inr ⟨1, p1, by decide, rfl, rfl⟩)
set_option maxRecDepth 100000 in
set_option maxHeartbeats 4000000 in
theorem h_dependents {ad : Nat → Int → Nat} {x y X : zSt} {G : Prop} {r : Int} {px : String → zSt → zSt → Prop} {P : Int → zSt → Prop} {p0 : Int} (hC : zC yX4_dependents cX4_dependents 4 (some .int) 7 1 6 [.ref (ad 0 0), zI p0] ad x y (zpSG G r X y) px) (hx : ∀ (E : String) (x1 y1 : zSt), px E x1 y1 → (E = "java/lang/IllegalArgumentException" ∧ P 1 x1 ∧ y1 = y)) : zHC yL_dependents cL_dependents 4 (some .int) [(0, 9, 12, 13)] 8 1 6 [.ref (ad 0 0), zI p0, .ref (ad 60 0)] ad x y (zHq G r X P y) := by
  refine zHC_ofV (by decide) (by intro v hv; simp only [List.mem_cons, List.not_mem_nil, or_false] at hv; rcases hv with rfl | rfl | rfl <;> rfl) (Nat.le_of_ble_eq_true rfl) (fun Γ hX hN hM hT => ?_)
  show zV Γ ad 0 0 x y 0 [some (.ref (ad 0 0)), some (zI p0), some (.ref (ad 60 0)), none] []
  refine zV_aloadn hX dL_dependents_0 rfl ?_
  refine zV_iconst hX dL_dependents_1 ?_
  refine zV_aloadn hX dL_dependents_2 rfl ?_
  refine zV_iloadn hX dL_dependents_3 rfl ?_
  refine zV_callV (n := 1) hX rfl hN 0 rfl rfl ⟨by decide, by decide⟩ hC zw_co_yX4_dependents zw_mL_79 zw_in_RX4 zw_im_yX4_dependents zw_se_yX4_dependents ⟨by decide, by decide, by decide +kernel⟩ rfl (by omega) (by decide) (by omega) (by omega) rfl (Nat.le_of_ble_eq_true rfl) dL_dependents_4 (fun a x1 y1 p => ?_) (fun E x1 y1 p => ?_)
  · obtain ⟨p1, rfl, rfl, rfl⟩ := p
    refine zV_i2lz hX dL_dependents_7 ?_
    refine zV_last hX 60 rfl (i := 0) (j := 0) ⟨by decide, by decide⟩ ⟨by decide, by decide⟩ (by decide) (z := (Int32.ofInt r).toInt) (fun h => absurd h (by decide)) (zm_upy (by decide)) dL_dependents_8 ?_
    refine zV_goto (tgt := 15) hX dL_dependents_9 (by decide) ?_
    refine zV_iconst hX dL_dependents_15 ?_
    exact zV_iret hX hM (by omega) (by omega) rfl dL_dependents_16 (Or.inl ⟨p1, rfl, rfl, rfl⟩)
  · obtain ⟨rfl, p1, rfl⟩ := hx _ _ _ p
    refine zVX_catch hX hN hT [] ⟨0, 9, 12, 13⟩ [] rfl (by decide) (fun z hz => by cases hz) (by decide) (by decide) zw_cL_13 (fun q => ?_)
    refine zV_astoren3 hX dL_dependents_12 ?_
    refine zV_iconst hX dL_dependents_13 ?_
    exact zV_iret hX hM (by omega) (by omega) rfl dL_dependents_14 (Or.inr ⟨1, p1, by decide, rfl, rfl⟩)
set_option maxRecDepth 100000 in
set_option maxHeartbeats 4000000 in
theorem h_addKernel {ad : Nat → Int → Nat} {x y X : zSt} {G : Prop} {r : Int} {px : String → zSt → zSt → Prop} {P : Int → zSt → Prop} {p0 : Int} (hC : zC yX4_addKernel cX4_addKernel 3 (some .int) 7 1 6 [.ref (ad 0 0), zI p0] ad x y (zpSG G r X y) px) (hx : ∀ (E : String) (x1 y1 : zSt), px E x1 y1 → (E = "java/lang/IllegalArgumentException" ∧ P 1 x1 ∧ y1 = y) ∨ (E = "java/lang/IllegalStateException" ∧ P 2 x1 ∧ y1 = y)) : zHC yL_addKernel cL_addKernel 4 (some .int) [(0, 9, 12, 13), (0, 9, 15, 15)] 8 1 6 [.ref (ad 0 0), zI p0, .ref (ad 60 0)] ad x y (zHq G r X P y) := by
  refine zHC_ofV (by decide) (by intro v hv; simp only [List.mem_cons, List.not_mem_nil, or_false] at hv; rcases hv with rfl | rfl | rfl <;> rfl) (Nat.le_of_ble_eq_true rfl) (fun Γ hX hN hM hT => ?_)
  show zV Γ ad 0 0 x y 0 [some (.ref (ad 0 0)), some (zI p0), some (.ref (ad 60 0)), none] []
  refine zV_aloadn hX dL_addKernel_0 rfl ?_
  refine zV_iconst hX dL_addKernel_1 ?_
  refine zV_aloadn hX dL_addKernel_2 rfl ?_
  refine zV_iloadn hX dL_addKernel_3 rfl ?_
  refine zV_callV (n := 1) hX rfl hN 0 rfl rfl ⟨by decide, by decide⟩ hC zw_co_yX4_addKernel zw_mL_82 zw_in_RX4 zw_im_yX4_addKernel zw_se_yX4_addKernel ⟨by decide, by decide, by decide +kernel⟩ rfl (by omega) (by decide) (by omega) (by omega) rfl (Nat.le_of_ble_eq_true rfl) dL_addKernel_4 (fun a x1 y1 p => ?_) (fun E x1 y1 p => ?_)
  · obtain ⟨p1, rfl, rfl, rfl⟩ := p
    refine zV_i2lz hX dL_addKernel_7 ?_
    refine zV_last hX 60 rfl (i := 0) (j := 0) ⟨by decide, by decide⟩ ⟨by decide, by decide⟩ (by decide) (z := (Int32.ofInt r).toInt) (fun h => absurd h (by decide)) (zm_upy (by decide)) dL_addKernel_8 ?_
    refine zV_goto (tgt := 18) hX dL_addKernel_9 (by decide) ?_
    refine zV_iconst hX dL_addKernel_18 ?_
    exact zV_iret hX hM (by omega) (by omega) rfl dL_addKernel_19 (Or.inl ⟨p1, rfl, rfl, rfl⟩)
  · rcases hx _ _ _ p with ⟨rfl, p1, rfl⟩ | ⟨rfl, p1, rfl⟩
    · refine zVX_catch hX hN hT [] ⟨0, 9, 12, 13⟩ [⟨0, 9, 15, 15⟩] rfl (by decide) (fun z hz => by cases hz) (by decide) (by decide) zw_cL_13 (fun q => ?_)
      refine zV_astoren3 hX dL_addKernel_12 ?_
      refine zV_iconst hX dL_addKernel_13 ?_
      exact zV_iret hX hM (by omega) (by omega) rfl dL_addKernel_14 (Or.inr ⟨1, p1, by decide, rfl, rfl⟩)
    · refine zVX_catch hX hN hT [⟨0, 9, 12, 13⟩] ⟨0, 9, 15, 15⟩ [] rfl (by decide) (fun z hz => by simp only [List.mem_cons, List.not_mem_nil, or_false] at hz; subst hz <;> first | exact ⟨by decide, _, zw_cL_13, by decide⟩) (by decide) (by decide) zw_cL_15 (fun q => ?_)
      refine zV_astoren3 hX dL_addKernel_15 ?_
      refine zV_iconst hX dL_addKernel_16 ?_
      exact zV_iret hX hM (by omega) (by omega) rfl dL_addKernel_17 (Or.inr ⟨2, p1, by decide, rfl, rfl⟩)
set_option maxRecDepth 100000 in
set_option maxHeartbeats 4000000 in
theorem h_free {ad : Nat → Int → Nat} {x y X : zSt} {G : Prop} {r : Int} {px : String → zSt → zSt → Prop} {P : Int → zSt → Prop} {p0 : Int} (hC : zC yX4_free cX4_free 2 (some .int) 7 1 6 [.ref (ad 0 0), zI p0] ad x y (zpSG G r X y) px) (hx : ∀ (E : String) (x1 y1 : zSt), px E x1 y1 → (E = "java/lang/IndexOutOfBoundsException" ∧ P 1 x1 ∧ y1 = y)) : zHC yL_free cL_free 4 (some .int) [(0, 9, 12, 36)] 8 1 6 [.ref (ad 0 0), zI p0, .ref (ad 60 0)] ad x y (zHq G r X P y) := by
  refine zHC_ofV (by decide) (by intro v hv; simp only [List.mem_cons, List.not_mem_nil, or_false] at hv; rcases hv with rfl | rfl | rfl <;> rfl) (Nat.le_of_ble_eq_true rfl) (fun Γ hX hN hM hT => ?_)
  show zV Γ ad 0 0 x y 0 [some (.ref (ad 0 0)), some (zI p0), some (.ref (ad 60 0)), none] []
  refine zV_aloadn hX dL_free_0 rfl ?_
  refine zV_iconst hX dL_free_1 ?_
  refine zV_aloadn hX dL_free_2 rfl ?_
  refine zV_iloadn hX dL_free_3 rfl ?_
  refine zV_callV (n := 1) hX rfl hN 0 rfl rfl ⟨by decide, by decide⟩ hC zw_co_yX4_free zw_mL_85 zw_in_RX4 zw_im_yX4_free zw_se_yX4_free ⟨by decide, by decide, by decide +kernel⟩ rfl (by omega) (by decide) (by omega) (by omega) rfl (Nat.le_of_ble_eq_true rfl) dL_free_4 (fun a x1 y1 p => ?_) (fun E x1 y1 p => ?_)
  · obtain ⟨p1, rfl, rfl, rfl⟩ := p
    refine zV_i2lz hX dL_free_7 ?_
    refine zV_last hX 60 rfl (i := 0) (j := 0) ⟨by decide, by decide⟩ ⟨by decide, by decide⟩ (by decide) (z := (Int32.ofInt r).toInt) (fun h => absurd h (by decide)) (zm_upy (by decide)) dL_free_8 ?_
    refine zV_goto (tgt := 15) hX dL_free_9 (by decide) ?_
    refine zV_iconst hX dL_free_15 ?_
    exact zV_iret hX hM (by omega) (by omega) rfl dL_free_16 (Or.inl ⟨p1, rfl, rfl, rfl⟩)
  · obtain ⟨rfl, p1, rfl⟩ := hx _ _ _ p
    refine zVX_catch hX hN hT [] ⟨0, 9, 12, 36⟩ [] rfl (by decide) (fun z hz => by cases hz) (by decide) (by decide) zw_cL_36 (fun q => ?_)
    refine zV_astoren3 hX dL_free_12 ?_
    refine zV_iconst hX dL_free_13 ?_
    exact zV_iret hX hM (by omega) (by omega) rfl dL_free_14 (Or.inr ⟨1, p1, by decide, rfl, rfl⟩)
set_option maxRecDepth 100000 in
set_option maxHeartbeats 4000000 in
theorem h_schedule {ad : Nat → Int → Nat} {x y X : zSt} {G : Prop} {r : Int} {px : String → zSt → zSt → Prop} {P : Int → zSt → Prop} {p0 p1 : Int} (hC : zC yX4_schedule cX4_schedule 5 (some .int) 7 2 12 [.ref (ad 0 0), zI p0, zI p1] ad x y (zpSG G r X y) px) (hx : ∀ (E : String) (x1 y1 : zSt), px E x1 y1 → (E = "java/lang/IndexOutOfBoundsException" ∧ P 1 x1 ∧ y1 = y) ∨ (E = "java/lang/IllegalArgumentException" ∧ P 2 x1 ∧ y1 = y)) : zHC yL_schedule cL_schedule 5 (some .int) [(0, 10, 13, 36), (0, 10, 17, 13)] 8 2 12 [.ref (ad 0 0), zI p0, zI p1, .ref (ad 60 0)] ad x y (zHq G r X P y) := by
  refine zHC_ofV (by decide) (by intro v hv; simp only [List.mem_cons, List.not_mem_nil, or_false] at hv; rcases hv with rfl | rfl | rfl | rfl <;> rfl) (Nat.le_of_ble_eq_true rfl) (fun Γ hX hN hM hT => ?_)
  show zV Γ ad 0 0 x y 0 [some (.ref (ad 0 0)), some (zI p0), some (zI p1), some (.ref (ad 60 0)), none] []
  refine zV_aloadn hX dL_schedule_0 rfl ?_
  refine zV_iconst hX dL_schedule_1 ?_
  refine zV_aloadn hX dL_schedule_2 rfl ?_
  refine zV_iloadn hX dL_schedule_3 rfl ?_
  refine zV_iloadn hX dL_schedule_4 rfl ?_
  refine zV_callV (n := 2) hX rfl hN 0 rfl rfl ⟨by decide, by decide⟩ hC zw_co_yX4_schedule zw_mL_88 zw_in_RX4 zw_im_yX4_schedule zw_se_yX4_schedule ⟨by decide, by decide, by decide +kernel⟩ rfl (by omega) (by decide) (by omega) (by omega) rfl (Nat.le_of_ble_eq_true rfl) dL_schedule_5 (fun a x1 y1 p => ?_) (fun E x1 y1 p => ?_)
  · obtain ⟨p1, rfl, rfl, rfl⟩ := p
    refine zV_i2lz hX dL_schedule_8 ?_
    refine zV_last hX 60 rfl (i := 0) (j := 0) ⟨by decide, by decide⟩ ⟨by decide, by decide⟩ (by decide) (z := (Int32.ofInt r).toInt) (fun h => absurd h (by decide)) (zm_upy (by decide)) dL_schedule_9 ?_
    refine zV_goto (tgt := 21) hX dL_schedule_10 (by decide) ?_
    refine zV_iconst hX dL_schedule_21 ?_
    exact zV_iret hX hM (by omega) (by omega) rfl dL_schedule_22 (Or.inl ⟨p1, rfl, rfl, rfl⟩)
  · rcases hx _ _ _ p with ⟨rfl, p1, rfl⟩ | ⟨rfl, p1, rfl⟩
    · refine zVX_catch hX hN hT [] ⟨0, 10, 13, 36⟩ [⟨0, 10, 17, 13⟩] rfl (by decide) (fun z hz => by cases hz) (by decide) (by decide) zw_cL_36 (fun q => ?_)
      refine zV_astore4 hX dL_schedule_13 ?_
      refine zV_iconst hX dL_schedule_15 ?_
      exact zV_iret hX hM (by omega) (by omega) rfl dL_schedule_16 (Or.inr ⟨1, p1, by decide, rfl, rfl⟩)
    · refine zVX_catch hX hN hT [⟨0, 10, 13, 36⟩] ⟨0, 10, 17, 13⟩ [] rfl (by decide) (fun z hz => by simp only [List.mem_cons, List.not_mem_nil, or_false] at hz; subst hz <;> first | exact ⟨by decide, _, zw_cL_36, by decide⟩) (by decide) (by decide) zw_cL_13 (fun q => ?_)
      refine zV_astore4 hX dL_schedule_17 ?_
      refine zV_iconst hX dL_schedule_19 ?_
      exact zV_iret hX hM (by omega) (by omega) rfl dL_schedule_20 (Or.inr ⟨2, p1, by decide, rfl, rfl⟩)
set_option maxRecDepth 100000 in
set_option maxHeartbeats 4000000 in
theorem h_pass {ad : Nat → Int → Nat} {x y X : zSt} {G : Prop} {r : Int} {px : String → zSt → zSt → Prop} {P : Int → zSt → Prop} {p0 : Int} (hC : zC yX4_pass cX4_pass 5 (some .int) 8 1 6 [.ref (ad 0 0), zI p0] ad x y (zpSG G r X y) px) (hx : ∀ (E : String) (x1 y1 : zSt), px E x1 y1 → (E = "java/lang/IllegalArgumentException" ∧ P 1 x1 ∧ y1 = y) ∨ (E = "java/lang/IllegalStateException" ∧ P 2 x1 ∧ y1 = y)) : zHC yL_pass cL_pass 4 (some .int) [(0, 9, 12, 13), (0, 9, 15, 15)] 9 1 6 [.ref (ad 0 0), zI p0, .ref (ad 60 0)] ad x y (zHq G r X P y) := by
  refine zHC_ofV (by decide) (by intro v hv; simp only [List.mem_cons, List.not_mem_nil, or_false] at hv; rcases hv with rfl | rfl | rfl <;> rfl) (Nat.le_of_ble_eq_true rfl) (fun Γ hX hN hM hT => ?_)
  show zV Γ ad 0 0 x y 0 [some (.ref (ad 0 0)), some (zI p0), some (.ref (ad 60 0)), none] []
  refine zV_aloadn hX dL_pass_0 rfl ?_
  refine zV_iconst hX dL_pass_1 ?_
  refine zV_aloadn hX dL_pass_2 rfl ?_
  refine zV_iloadn hX dL_pass_3 rfl ?_
  refine zV_callV (n := 1) hX rfl hN 0 rfl rfl ⟨by decide, by decide⟩ hC zw_co_yX4_pass zw_mL_91 zw_in_RX4 zw_im_yX4_pass zw_se_yX4_pass ⟨by decide, by decide, by decide +kernel⟩ rfl (by omega) (by decide) (by omega) (by omega) rfl (Nat.le_of_ble_eq_true rfl) dL_pass_4 (fun a x1 y1 p => ?_) (fun E x1 y1 p => ?_)
  · obtain ⟨p1, rfl, rfl, rfl⟩ := p
    refine zV_i2lz hX dL_pass_7 ?_
    refine zV_last hX 60 rfl (i := 0) (j := 0) ⟨by decide, by decide⟩ ⟨by decide, by decide⟩ (by decide) (z := (Int32.ofInt r).toInt) (fun h => absurd h (by decide)) (zm_upy (by decide)) dL_pass_8 ?_
    refine zV_goto (tgt := 18) hX dL_pass_9 (by decide) ?_
    refine zV_iconst hX dL_pass_18 ?_
    exact zV_iret hX hM (by omega) (by omega) rfl dL_pass_19 (Or.inl ⟨p1, rfl, rfl, rfl⟩)
  · rcases hx _ _ _ p with ⟨rfl, p1, rfl⟩ | ⟨rfl, p1, rfl⟩
    · refine zVX_catch hX hN hT [] ⟨0, 9, 12, 13⟩ [⟨0, 9, 15, 15⟩] rfl (by decide) (fun z hz => by cases hz) (by decide) (by decide) zw_cL_13 (fun q => ?_)
      refine zV_astoren3 hX dL_pass_12 ?_
      refine zV_iconst hX dL_pass_13 ?_
      exact zV_iret hX hM (by omega) (by omega) rfl dL_pass_14 (Or.inr ⟨1, p1, by decide, rfl, rfl⟩)
    · refine zVX_catch hX hN hT [⟨0, 9, 12, 13⟩] ⟨0, 9, 15, 15⟩ [] rfl (by decide) (fun z hz => by simp only [List.mem_cons, List.not_mem_nil, or_false] at hz; subst hz <;> first | exact ⟨by decide, _, zw_cL_13, by decide⟩) (by decide) (by decide) zw_cL_15 (fun q => ?_)
      refine zV_astoren3 hX dL_pass_15 ?_
      refine zV_iconst hX dL_pass_16 ?_
      exact zV_iret hX hM (by omega) (by omega) rfl dL_pass_17 (Or.inr ⟨2, p1, by decide, rfl, rfl⟩)
set_option maxRecDepth 100000 in
set_option maxHeartbeats 4000000 in
theorem h_load {ad : Nat → Int → Nat} {x y X : zSt} {G : Prop} {w : UInt32} {px : String → zSt → zSt → Prop} {P : Int → zSt → Prop} (hC : zC yX4_load cX4_load 4 (some .float) 6 1 6 [.ref (ad 0 0)] ad x y (fun v x1 y1 => G ∧ v = some (.float w) ∧ x1 = X ∧ y1 = y) px) (hx : ∀ (E : String) (x1 y1 : zSt), px E x1 y1 → (E = "java/lang/ArithmeticException" ∧ P 1 x1 ∧ y1 = y)) (hn : G → FP.fIsNaN w = false) : zHC yL_load cL_load 3 (some .int) [(0, 8, 11, 98)] 7 1 6 [.ref (ad 0 0), .ref (ad 61 0)] ad x y (zHd G (FP.f2d w) X P y) := by
  refine zHC_ofV (by decide) (by intro v hv; simp only [List.mem_cons, List.not_mem_nil, or_false] at hv; rcases hv with rfl | rfl <;> rfl) (Nat.le_of_ble_eq_true rfl) (fun Γ hX hN hM hT => ?_)
  show zV Γ ad 0 0 x y 0 [some (.ref (ad 0 0)), some (.ref (ad 61 0)), none] []
  refine zV_aloadn hX dL_load_0 rfl ?_
  refine zV_iconst hX dL_load_1 ?_
  refine zV_aloadn hX dL_load_2 rfl ?_
  refine zV_callV (n := 0) hX rfl hN 0 rfl rfl ⟨by decide, by decide⟩ hC zw_co_yX4_load zw_mL_94 zw_in_RX4 zw_im_yX4_load zw_se_yX4_load ⟨by decide, by decide, by decide +kernel⟩ rfl (by omega) (by decide) (by omega) (by omega) rfl (Nat.le_of_ble_eq_true rfl) dL_load_3 (fun a x1 y1 p => ?_) (fun E x1 y1 p => ?_)
  · obtain ⟨p1, rfl, rfl, rfl⟩ := p
    refine zV_f2d hX (hn p1) dL_load_6 ?_
    have hw : UInt64.ofNat (((FP.f2d w).toNat : Int)).toNat = FP.f2d w := by rw [Int.toNat_natCast, UInt64.ofNat_toNat]
    refine zV_top (congrArg Value.double hw.symm) ?_
    refine zV_dast hX 61 rfl (i := 0) (j := 0) ⟨by decide, by decide⟩ ⟨by decide, by decide⟩ (by decide) (z := ((FP.f2d w).toNat : Int)) (fun h => absurd h (by decide)) (zm_upy (by decide)) dL_load_7 ?_
    refine zV_goto (tgt := 14) hX dL_load_8 (by decide) ?_
    refine zV_iconst hX dL_load_14 ?_
    exact zV_iret hX hM (by omega) (by omega) rfl dL_load_15 (Or.inl ⟨p1, rfl, rfl, rfl⟩)
  · obtain ⟨rfl, p1, rfl⟩ := hx _ _ _ p
    refine zVX_catch hX hN hT [] ⟨0, 8, 11, 98⟩ [] rfl (by decide) (fun z hz => by cases hz) (by decide) (by decide) zw_cL_98 (fun q => ?_)
    refine zV_astoren2 hX dL_load_11 ?_
    refine zV_iconst hX dL_load_12 ?_
    exact zV_iret hX hM (by omega) (by omega) rfl dL_load_13 (Or.inr ⟨1, p1, by decide, rfl, rfl⟩)
set_option maxRecDepth 100000 in
set_option maxHeartbeats 4000000 in
theorem h_meanValue {ad : Nat → Int → Nat} {x y X : zSt} {G : Prop} {w : UInt64} {px : String → zSt → zSt → Prop} {P : Int → zSt → Prop} (hC : zC yX4_meanValue cX4_meanValue 4 (some .double) 6 1 6 [.ref (ad 0 0)] ad x y (fun v x1 y1 => G ∧ v = some (.double w) ∧ x1 = X ∧ y1 = y) px) (hx : ∀ (E : String) (x1 y1 : zSt), px E x1 y1 → (E = "java/lang/ArithmeticException" ∧ P 1 x1 ∧ y1 = y)) : zHC yL_meanValue cL_meanValue 3 (some .int) [(0, 7, 10, 98)] 7 1 6 [.ref (ad 0 0), .ref (ad 61 0)] ad x y (zHd G w X P y) := by
  refine zHC_ofV (by decide) (by intro v hv; simp only [List.mem_cons, List.not_mem_nil, or_false] at hv; rcases hv with rfl | rfl <;> rfl) (Nat.le_of_ble_eq_true rfl) (fun Γ hX hN hM hT => ?_)
  show zV Γ ad 0 0 x y 0 [some (.ref (ad 0 0)), some (.ref (ad 61 0)), none] []
  refine zV_aloadn hX dL_meanValue_0 rfl ?_
  refine zV_iconst hX dL_meanValue_1 ?_
  refine zV_aloadn hX dL_meanValue_2 rfl ?_
  refine zV_callV (n := 0) hX rfl hN 0 rfl rfl ⟨by decide, by decide⟩ hC zw_co_yX4_meanValue zw_mL_100 zw_in_RX4 zw_im_yX4_meanValue zw_se_yX4_meanValue ⟨by decide, by decide, by decide +kernel⟩ rfl (by omega) (by decide) (by omega) (by omega) rfl (Nat.le_of_ble_eq_true rfl) dL_meanValue_3 (fun a x1 y1 p => ?_) (fun E x1 y1 p => ?_)
  · obtain ⟨p1, rfl, rfl, rfl⟩ := p
    have hw : UInt64.ofNat (((w).toNat : Int)).toNat = w := by rw [Int.toNat_natCast, UInt64.ofNat_toNat]
    refine zV_top (congrArg Value.double hw.symm) ?_
    refine zV_dast hX 61 rfl (i := 0) (j := 0) ⟨by decide, by decide⟩ ⟨by decide, by decide⟩ (by decide) (z := ((w).toNat : Int)) (fun h => absurd h (by decide)) (zm_upy (by decide)) dL_meanValue_6 ?_
    refine zV_goto (tgt := 13) hX dL_meanValue_7 (by decide) ?_
    refine zV_iconst hX dL_meanValue_13 ?_
    exact zV_iret hX hM (by omega) (by omega) rfl dL_meanValue_14 (Or.inl ⟨p1, rfl, rfl, rfl⟩)
  · obtain ⟨rfl, p1, rfl⟩ := hx _ _ _ p
    refine zVX_catch hX hN hT [] ⟨0, 7, 10, 98⟩ [] rfl (by decide) (fun z hz => by cases hz) (by decide) (by decide) zw_cL_98 (fun q => ?_)
    refine zV_astoren2 hX dL_meanValue_10 ?_
    refine zV_iconst hX dL_meanValue_11 ?_
    exact zV_iret hX hM (by omega) (by omega) rfl dL_meanValue_12 (Or.inr ⟨1, p1, by decide, rfl, rfl⟩)
set_option maxRecDepth 100000 in
set_option maxHeartbeats 4000000 in
theorem h_publish {ad : Nat → Int → Nat} {x y X : zSt} {G : Prop} {r : Int} {px : String → zSt → zSt → Prop} {P : Int → zSt → Prop} {p0 : Int} (hC : zC yX4_publish cX4_publish 4 (some .int) 8 2 12 [.ref (ad 0 0), zI p0] ad x y (zpSG G r X y) px) (hx : ∀ (E : String) (x1 y1 : zSt), px E x1 y1 → (E = "java/lang/IndexOutOfBoundsException" ∧ P 1 x1 ∧ y1 = y) ∨ (E = "java/lang/IllegalStateException" ∧ P 2 x1 ∧ y1 = y)) : zHC yL_publish cL_publish 4 (some .int) [(0, 9, 12, 36), (0, 9, 15, 15)] 9 2 12 [.ref (ad 0 0), zI p0, .ref (ad 60 0)] ad x y (zHq G r X P y) := by
  refine zHC_ofV (by decide) (by intro v hv; simp only [List.mem_cons, List.not_mem_nil, or_false] at hv; rcases hv with rfl | rfl | rfl <;> rfl) (Nat.le_of_ble_eq_true rfl) (fun Γ hX hN hM hT => ?_)
  show zV Γ ad 0 0 x y 0 [some (.ref (ad 0 0)), some (zI p0), some (.ref (ad 60 0)), none] []
  refine zV_aloadn hX dL_publish_0 rfl ?_
  refine zV_iconst hX dL_publish_1 ?_
  refine zV_aloadn hX dL_publish_2 rfl ?_
  refine zV_iloadn hX dL_publish_3 rfl ?_
  refine zV_callV (n := 1) hX rfl hN 0 rfl rfl ⟨by decide, by decide⟩ hC zw_co_yX4_publish zw_mL_104 zw_in_RX4 zw_im_yX4_publish zw_se_yX4_publish ⟨by decide, by decide, by decide +kernel⟩ rfl (by omega) (by decide) (by omega) (by omega) rfl (Nat.le_of_ble_eq_true rfl) dL_publish_4 (fun a x1 y1 p => ?_) (fun E x1 y1 p => ?_)
  · obtain ⟨p1, rfl, rfl, rfl⟩ := p
    refine zV_i2lz hX dL_publish_7 ?_
    refine zV_last hX 60 rfl (i := 0) (j := 0) ⟨by decide, by decide⟩ ⟨by decide, by decide⟩ (by decide) (z := (Int32.ofInt r).toInt) (fun h => absurd h (by decide)) (zm_upy (by decide)) dL_publish_8 ?_
    refine zV_goto (tgt := 18) hX dL_publish_9 (by decide) ?_
    refine zV_iconst hX dL_publish_18 ?_
    exact zV_iret hX hM (by omega) (by omega) rfl dL_publish_19 (Or.inl ⟨p1, rfl, rfl, rfl⟩)
  · rcases hx _ _ _ p with ⟨rfl, p1, rfl⟩ | ⟨rfl, p1, rfl⟩
    · refine zVX_catch hX hN hT [] ⟨0, 9, 12, 36⟩ [⟨0, 9, 15, 15⟩] rfl (by decide) (fun z hz => by cases hz) (by decide) (by decide) zw_cL_36 (fun q => ?_)
      refine zV_astoren3 hX dL_publish_12 ?_
      refine zV_iconst hX dL_publish_13 ?_
      exact zV_iret hX hM (by omega) (by omega) rfl dL_publish_14 (Or.inr ⟨1, p1, by decide, rfl, rfl⟩)
    · refine zVX_catch hX hN hT [⟨0, 9, 12, 36⟩] ⟨0, 9, 15, 15⟩ [] rfl (by decide) (fun z hz => by simp only [List.mem_cons, List.not_mem_nil, or_false] at hz; subst hz <;> first | exact ⟨by decide, _, zw_cL_36, by decide⟩) (by decide) (by decide) zw_cL_15 (fun q => ?_)
      refine zV_astoren3 hX dL_publish_15 ?_
      refine zV_iconst hX dL_publish_16 ?_
      exact zV_iret hX hM (by omega) (by omega) rfl dL_publish_17 (Or.inr ⟨2, p1, by decide, rfl, rfl⟩)
set_option maxRecDepth 100000 in
set_option maxHeartbeats 4000000 in
theorem h_held {ad : Nat → Int → Nat} {x y X : zSt} {G : Prop} {r : Int} {px : String → zSt → zSt → Prop} {P : Int → zSt → Prop} {p0 : Int} (hC : zC yX4_held cX4_held 2 (some .int) 7 1 6 [.ref (ad 0 0), zI p0] ad x y (zpSG G r X y) px) (hx : ∀ (E : String) (x1 y1 : zSt), px E x1 y1 → (E = "java/util/NoSuchElementException" ∧ P 1 x1 ∧ y1 = y)) : zHC yL_held cL_held 4 (some .int) [(0, 9, 12, 21)] 8 1 6 [.ref (ad 0 0), zI p0, .ref (ad 60 0)] ad x y (zHq G r X P y) := by
  refine zHC_ofV (by decide) (by intro v hv; simp only [List.mem_cons, List.not_mem_nil, or_false] at hv; rcases hv with rfl | rfl | rfl <;> rfl) (Nat.le_of_ble_eq_true rfl) (fun Γ hX hN hM hT => ?_)
  show zV Γ ad 0 0 x y 0 [some (.ref (ad 0 0)), some (zI p0), some (.ref (ad 60 0)), none] []
  refine zV_aloadn hX dL_held_0 rfl ?_
  refine zV_iconst hX dL_held_1 ?_
  refine zV_aloadn hX dL_held_2 rfl ?_
  refine zV_iloadn hX dL_held_3 rfl ?_
  refine zV_callV (n := 1) hX rfl hN 0 rfl rfl ⟨by decide, by decide⟩ hC zw_co_yX4_held zw_mL_107 zw_in_RX4 zw_im_yX4_held zw_se_yX4_held ⟨by decide, by decide, by decide +kernel⟩ rfl (by omega) (by decide) (by omega) (by omega) rfl (Nat.le_of_ble_eq_true rfl) dL_held_4 (fun a x1 y1 p => ?_) (fun E x1 y1 p => ?_)
  · obtain ⟨p1, rfl, rfl, rfl⟩ := p
    refine zV_i2lz hX dL_held_7 ?_
    refine zV_last hX 60 rfl (i := 0) (j := 0) ⟨by decide, by decide⟩ ⟨by decide, by decide⟩ (by decide) (z := (Int32.ofInt r).toInt) (fun h => absurd h (by decide)) (zm_upy (by decide)) dL_held_8 ?_
    refine zV_goto (tgt := 15) hX dL_held_9 (by decide) ?_
    refine zV_iconst hX dL_held_15 ?_
    exact zV_iret hX hM (by omega) (by omega) rfl dL_held_16 (Or.inl ⟨p1, rfl, rfl, rfl⟩)
  · obtain ⟨rfl, p1, rfl⟩ := hx _ _ _ p
    refine zVX_catch hX hN hT [] ⟨0, 9, 12, 21⟩ [] rfl (by decide) (fun z hz => by cases hz) (by decide) (by decide) zw_cL_21 (fun q => ?_)
    refine zV_astoren3 hX dL_held_12 ?_
    refine zV_iconst hX dL_held_13 ?_
    exact zV_iret hX hM (by omega) (by omega) rfl dL_held_14 (Or.inr ⟨1, p1, by decide, rfl, rfl⟩)
set_option maxRecDepth 100000 in
set_option maxHeartbeats 4000000 in
theorem h_isCurrent {ad : Nat → Int → Nat} {x y X : zSt} {G : Prop} {r : Int} {px : String → zSt → zSt → Prop} {P : Int → zSt → Prop} {p0 : Int} (hC : zC yX4_isCurrent cX4_isCurrent 3 (some .boolean) 7 1 6 [.ref (ad 0 0), zI p0] ad x y (zpSG G r X y) px) (hx : ∀ (E : String) (x1 y1 : zSt), px E x1 y1 → (E = "java/util/NoSuchElementException" ∧ P 1 x1 ∧ y1 = y)) (hr : r = 0 ∨ r = 1) : zHC yL_isCurrent cL_isCurrent 4 (some .int) [(0, 16, 19, 21)] 8 1 6 [.ref (ad 0 0), zI p0, .ref (ad 60 0)] ad x y (zHq G r X P y) := by
  refine zHC_ofV (by decide) (by intro v hv; simp only [List.mem_cons, List.not_mem_nil, or_false] at hv; rcases hv with rfl | rfl | rfl <;> rfl) (Nat.le_of_ble_eq_true rfl) (fun Γ hX hN hM hT => ?_)
  show zV Γ ad 0 0 x y 0 [some (.ref (ad 0 0)), some (zI p0), some (.ref (ad 60 0)), none] []
  refine zV_aloadn hX dL_isCurrent_0 rfl ?_
  refine zV_iconst hX dL_isCurrent_1 ?_
  refine zV_aloadn hX dL_isCurrent_2 rfl ?_
  refine zV_iloadn hX dL_isCurrent_3 rfl ?_
  refine zV_callV (n := 1) hX rfl hN 0 rfl rfl ⟨by decide, by decide⟩ hC zw_co_yX4_isCurrent zw_mL_110 zw_in_RX4 zw_im_yX4_isCurrent zw_se_yX4_isCurrent ⟨by decide, by decide, by decide +kernel⟩ rfl (by omega) (by decide) (by omega) (by omega) rfl (Nat.le_of_ble_eq_true rfl) dL_isCurrent_4 (fun a x1 y1 p => ?_) (fun E x1 y1 p => ?_)
  · obtain ⟨p1, rfl, rfl, rfl⟩ := p
    refine zV_if_eq (tgt := 14) hX dL_isCurrent_7 (by decide) (by rcases hr with rfl | rfl <;> decide) (fun b => ?_) (fun b => ?_)
    · obtain rfl : r = 0 := b
      refine zV_lconst (z := (Int32.ofInt 0).toInt) hX dL_isCurrent_14 (by decide) ?_
      refine zV_last hX 60 rfl (i := 0) (j := 0) ⟨by decide, by decide⟩ ⟨by decide, by decide⟩ (by decide) (z := (Int32.ofInt 0).toInt) (fun h => absurd h (by decide)) (zm_upy (by decide)) dL_isCurrent_15 ?_
      refine zV_goto (tgt := 22) hX dL_isCurrent_16 (by decide) ?_
      refine zV_iconst hX dL_isCurrent_22 ?_
      exact zV_iret hX hM (by omega) (by omega) rfl dL_isCurrent_23 (Or.inl ⟨p1, rfl, rfl, rfl⟩)
    · obtain rfl : r = 1 := hr.resolve_left b
      refine zV_lconst (z := (Int32.ofInt 1).toInt) hX dL_isCurrent_10 (by decide) ?_
      refine zV_goto (tgt := 15) hX dL_isCurrent_11 (by decide) ?_
      refine zV_last hX 60 rfl (i := 0) (j := 0) ⟨by decide, by decide⟩ ⟨by decide, by decide⟩ (by decide) (z := (Int32.ofInt 1).toInt) (fun h => absurd h (by decide)) (zm_upy (by decide)) dL_isCurrent_15 ?_
      refine zV_goto (tgt := 22) hX dL_isCurrent_16 (by decide) ?_
      refine zV_iconst hX dL_isCurrent_22 ?_
      exact zV_iret hX hM (by omega) (by omega) rfl dL_isCurrent_23 (Or.inl ⟨p1, rfl, rfl, rfl⟩)
  · obtain ⟨rfl, p1, rfl⟩ := hx _ _ _ p
    refine zVX_catch hX hN hT [] ⟨0, 16, 19, 21⟩ [] rfl (by decide) (fun z hz => by cases hz) (by decide) (by decide) zw_cL_21 (fun q => ?_)
    refine zV_astoren3 hX dL_isCurrent_19 ?_
    refine zV_iconst hX dL_isCurrent_20 ?_
    exact zV_iret hX hM (by omega) (by omega) rfl dL_isCurrent_21 (Or.inr ⟨1, p1, by decide, rfl, rfl⟩)
