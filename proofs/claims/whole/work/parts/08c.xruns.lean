set_option maxRecDepth 100000 in
set_option maxHeartbeats 4000000 in
theorem lp_X4_runAll {ad : Nat → Int → Nat} {x y : zSt} {Γ : zG} {post : Option Value → zSt → zSt → Prop} {px : String → zSt → zSt → Prop} (hp : post (some (zI (zPop (xWk xAll x (x 0 0 9).toNat).2.1))) (xWk xAll x (x 0 0 9).toNat).1 y) (hn : 0 ≤ x 0 0 9 ∧ x 0 0 9 ≤ 11) (hS0 : xOkW xAll x) (hX : zX Γ ad RX4 cX4_runAll 4) (hN : zN Γ 7 0 0) (hM : zM Γ ad 0 0 (some .int) (post) (px)) (hT : zNT Γ) : ∀ (f n : Nat) (i S : Int) (o : Option Value), i = n → i ≤ x 0 0 9 → (x 0 0 9).toNat - n < f → S = (xWk xAll x n).2.1 → zV Γ ad 0 0 (xWk xAll x n).1 y 4 [some (.ref (ad 0 0)), some (zI S), some (zI i), o] [] := by
  intro f
  induction f with
  | zero => intro n i S o h1 h2 h3; omega
  | succ f ih =>
    intro n i S o h1 h2 h3 h4
    subst h1
    have hu : ((n + 1 : Nat) : Int) = (n : Int) + 1 := by omega
    have hS := hS0 n h2
    have hI := hS.1
    have e9 := hS.2.2
    have wb := xWk_b (D := xAll) (x := x) n (by omega)
    have hw : (n : Int) < x 0 0 9 → _ := fun g => hS.2.1 n (by omega) (by omega)
    have rb := xExeR_b (x := (xWk xAll x n).1) (c := n)
    refine zV_iloadn hX dX4_runAll_4 rfl ?_
    refine zV_aloadn hX dX4_runAll_5 rfl ?_
    refine GF_X4_91 hX  dX4_runAll_6 (fun r6 => ?_)
    refine zV_icmp_ge (tgt := 57) hX dX4_runAll_9 (by decide) (by omega) (by omega) (fun b9 => ?_) (fun b9 => ?_)
    · obtain rfl : n = (x 0 0 9).toNat := by omega
      subst h4
      refine zV_iloadn hX dX4_runAll_57 rfl ?_
      refine zV_cSS (n := 1) hX rfl hN (c_J6_bitCount_0f7a4 wb.1) zw_co_yJ6_bitCount_0f7a4 zw_mX4_147 zw_in_RJ6 zw_st_yJ6_bitCount_0f7a4 ⟨by decide, by decide, by decide +kernel⟩ rfl (by omega) (by decide) (by omega) (by omega) rfl (Nat.le_of_ble_eq_true rfl) dX4_runAll_58 ?_ 
      exact zV_iret hX hM (by omega) (by omega) rfl dX4_runAll_61 (hp)
    · refine zV_aloadn hX dX4_runAll_12 rfl ?_
      refine GF_X4_24 hX  dX4_runAll_13 ?_
      refine zV_iloadn hX dX4_runAll_16 rfl ?_
      refine AL_5 hX  ⟨by omega, by omega⟩ dX4_runAll_17 ?_
      refine zV_astoren3 hX dX4_runAll_18 ?_
      refine zV_aloadn hX dX4_runAll_19 rfl ?_
      refine zV_aloadn hX dX4_runAll_20 rfl ?_
      refine zV_iloadn hX dX4_runAll_21 rfl ?_
      refine zV_cVS (n := 2) hX rfl hN 0 rfl rfl ⟨by decide, by decide⟩ (c_X4_isUpToDate (c := n) ⟨by omega, by omega⟩ hI) zw_co_yX4_isUpToDate zw_mX4_140 zw_in_RX4 zw_im_yX4_isUpToDate zw_se_yX4_isUpToDate ⟨by decide, by decide, by decide +kernel⟩ rfl (by omega) (by decide) (by omega) (by omega) rfl (Nat.le_of_ble_eq_true rfl) dX4_runAll_22 ?_ 
      refine zV_ifne_b (tgt := 35) hX dX4_runAll_25 (by decide) (fun b25 => ?_) (fun b25 => ?_)
      · first | rw [xWk_y (D := xAll) h4 ⟨rfl, b25⟩] | rw [xWk_n (D := xAll) h4 (fun q => q.2 b25)]
        have hV := hS0 (n + 1) (by omega)
        obtain ⟨V, hVe⟩ : ∃ V, V = (xWk xAll x (n + 1)).1 := ⟨_, rfl⟩
        rw [← hVe] at hV ⊢
        have hVI := hV.1
        have hV9 := hV.2.2
        refine zV_aloadn hX dX4_runAll_35 rfl ?_
        refine zV_aloadn hX dX4_runAll_36 rfl ?_
        refine zV_iloadn hX dX4_runAll_37 rfl ?_
        refine zV_cVS (n := 2) hX rfl hN 0 rfl rfl ⟨by decide, by decide⟩ (c_X4_isUpToDate (c := n) ⟨by omega, by omega⟩ hVI) zw_co_yX4_isUpToDate zw_mX4_140 zw_in_RX4 zw_im_yX4_isUpToDate zw_se_yX4_isUpToDate ⟨by decide, by decide, by decide +kernel⟩ rfl (by omega) (by decide) (by omega) (by omega) rfl (Nat.le_of_ble_eq_true rfl) dX4_runAll_38 ?_ 
        refine zV_ifeq_b (tgt := 51) hX dX4_runAll_41 (by decide) (fun b41 => ?_) (fun b41 => ?_)
        · refine zV_iinc2 hX dX4_runAll_51 ?_
          refine zV_goto (tgt := 4) hX dX4_runAll_54 (by decide) ?_
          have a1 : (n : Int) + 1 ≤ x 0 0 9 := by omega
          have a2 : (x 0 0 9).toNat - (n + 1) < f := by omega
          subst hVe
          exact ih (n + 1) _ _ _ hu.symm a1 a2 (by rw [xWk_s, ← h4]; first | rw [if_pos b41] | rw [if_neg b41])
        · refine zV_iloadn hX dX4_runAll_44 rfl ?_
          refine zV_iloadn hX dX4_runAll_45 rfl ?_
          refine zV_cSS (n := 1) hX rfl hN (c_X4_bit (by omega) ) zw_co_yX4_bit zw_mX4_144 zw_in_RX4 zw_st_yX4_bit ⟨by decide, by decide, by decide +kernel⟩ rfl (by omega) (by decide) (by omega) (by omega) rfl (Nat.le_of_ble_eq_true rfl) dX4_runAll_46 ?_ 
          refine zV_ior hX dX4_runAll_49 ?_
          refine zV_istoren1 hX dX4_runAll_50 ?_
          refine zV_iinc2 hX dX4_runAll_51 ?_
          refine zV_goto (tgt := 4) hX dX4_runAll_54 (by decide) ?_
          have a1 : (n : Int) + 1 ≤ x 0 0 9 := by omega
          have a2 : (x 0 0 9).toNat - (n + 1) < f := by omega
          subst hVe
          exact ih (n + 1) _ _ _ hu.symm a1 a2 (by rw [xWk_s, ← h4]; first | rw [if_pos b41] | rw [if_neg b41])
      · refine zV_aloadn hX dX4_runAll_28 rfl ?_
        refine zV_iloadn hX dX4_runAll_29 rfl ?_
        refine zV_aloadn hX dX4_runAll_30 rfl ?_
        refine zV_callV (n := 2) hX rfl hN 0 rfl rfl ⟨by decide, by decide⟩ (c_X4_execute (c := n) ⟨by omega, by omega⟩ (hw (by omega)).1 (hw (by omega)).2 hI) zw_co_yX4_execute zw_mX4_136 zw_in_RX4 zw_im_yX4_execute zw_se_yX4_execute ⟨by decide, by decide, by decide +kernel⟩ rfl (by omega) (by decide) (by omega) (by omega) rfl (Nat.le_of_ble_eq_true rfl) dX4_runAll_31 (fun v31 x31 y31 p31 => ?_) (fun _ _ _ h => h.elim)
        obtain ⟨rfl, rfl, rfl⟩ := p31
        refine zV_pop hX dX4_runAll_34 rfl ?_
        first | rw [xWk_y (D := xAll) h4 ⟨rfl, b25⟩] | rw [xWk_n (D := xAll) h4 (fun q => q.2 b25)]
        have hV := hS0 (n + 1) (by omega)
        obtain ⟨V, hVe⟩ : ∃ V, V = (xWk xAll x (n + 1)).1 := ⟨_, rfl⟩
        rw [← hVe] at hV ⊢
        have hVI := hV.1
        have hV9 := hV.2.2
        refine zV_aloadn hX dX4_runAll_35 rfl ?_
        refine zV_aloadn hX dX4_runAll_36 rfl ?_
        refine zV_iloadn hX dX4_runAll_37 rfl ?_
        refine zV_cVS (n := 2) hX rfl hN 0 rfl rfl ⟨by decide, by decide⟩ (c_X4_isUpToDate (c := n) ⟨by omega, by omega⟩ hVI) zw_co_yX4_isUpToDate zw_mX4_140 zw_in_RX4 zw_im_yX4_isUpToDate zw_se_yX4_isUpToDate ⟨by decide, by decide, by decide +kernel⟩ rfl (by omega) (by decide) (by omega) (by omega) rfl (Nat.le_of_ble_eq_true rfl) dX4_runAll_38 ?_ 
        refine zV_ifeq_b (tgt := 51) hX dX4_runAll_41 (by decide) (fun b41 => ?_) (fun b41 => ?_)
        · refine zV_iinc2 hX dX4_runAll_51 ?_
          refine zV_goto (tgt := 4) hX dX4_runAll_54 (by decide) ?_
          have a1 : (n : Int) + 1 ≤ x 0 0 9 := by omega
          have a2 : (x 0 0 9).toNat - (n + 1) < f := by omega
          subst hVe
          exact ih (n + 1) _ _ _ hu.symm a1 a2 (by rw [xWk_s, ← h4]; first | rw [if_pos b41] | rw [if_neg b41])
        · refine zV_iloadn hX dX4_runAll_44 rfl ?_
          refine zV_iloadn hX dX4_runAll_45 rfl ?_
          refine zV_cSS (n := 1) hX rfl hN (c_X4_bit (by omega) ) zw_co_yX4_bit zw_mX4_144 zw_in_RX4 zw_st_yX4_bit ⟨by decide, by decide, by decide +kernel⟩ rfl (by omega) (by decide) (by omega) (by omega) rfl (Nat.le_of_ble_eq_true rfl) dX4_runAll_46 ?_ 
          refine zV_ior hX dX4_runAll_49 ?_
          refine zV_istoren1 hX dX4_runAll_50 ?_
          refine zV_iinc2 hX dX4_runAll_51 ?_
          refine zV_goto (tgt := 4) hX dX4_runAll_54 (by decide) ?_
          have a1 : (n : Int) + 1 ≤ x 0 0 9 := by omega
          have a2 : (x 0 0 9).toNat - (n + 1) < f := by omega
          subst hVe
          exact ih (n + 1) _ _ _ hu.symm a1 a2 (by rw [xWk_s, ← h4]; first | rw [if_pos b41] | rw [if_neg b41])
set_option maxRecDepth 100000 in
set_option maxHeartbeats 4000000 in
theorem c_X4_runAll {ad : Nat → Int → Nat} {x y : zSt} (hn : 0 ≤ x 0 0 9 ∧ x 0 0 9 ≤ 11) (hS : xOkW xAll x) : zC yX4_runAll cX4_runAll 4 (some .int) 7 0 0 [.ref (ad 0 0)] ad x y (zpS (zPop (xWk xAll x (x 0 0 9).toNat).2.1) (xWk xAll x (x 0 0 9).toNat).1 y) (zF) := by
  refine zC_ofV (by decide) (by intro v hv; simp only [List.mem_cons, List.not_mem_nil, or_false] at hv; subst hv; rfl) (Nat.le_of_ble_eq_true rfl) (fun Γ hX hN hM hT => ?_)
  show zV Γ ad 0 0 x y 0 [some (.ref (ad 0 0)), none, none, none] []
  refine zV_iconst hX dX4_runAll_0 ?_
  refine zV_istoren1 hX dX4_runAll_1 ?_
  refine zV_iconst hX dX4_runAll_2 ?_
  refine zV_istoren2 hX dX4_runAll_3 ?_
  exact lp_X4_runAll ⟨rfl, rfl, rfl⟩ hn hS hX hN hM hT ((x 0 0 9).toNat + 1) 0 0 0 _ rfl (by omega) (by omega) rfl
set_option maxRecDepth 100000 in
set_option maxHeartbeats 4000000 in
theorem lp_X4_runWhatIsDue {ad : Nat → Int → Nat} {x y : zSt} {Γ : zG} {post : Option Value → zSt → zSt → Prop} {px : String → zSt → zSt → Prop} (hp : post (some (zI ((xWk xDue x (x 0 0 9).toNat).2.2))) (xWk xDue x (x 0 0 9).toNat).1 y) (hn : 0 ≤ x 0 0 9 ∧ x 0 0 9 ≤ 11) (hS0 : xOkW xDue x) (hX : zX Γ ad RX4 cX4_runWhatIsDue 6) (hN : zN Γ 7 0 0) (hM : zM Γ ad 0 0 (some .int) (post) (px)) (hT : zNT Γ) : ∀ (f n : Nat) (i S s : Int) (o o2 : Option Value), i = n → i ≤ x 0 0 9 → (x 0 0 9).toNat - n < f → S = (xWk xDue x n).2.1 → s = (xWk xDue x n).2.2 → zV Γ ad 0 0 (xWk xDue x n).1 y 6 [some (.ref (ad 0 0)), some (zI s), some (zI S), some (zI i), o, o2] [] := by
  intro f
  induction f with
  | zero => intro n i S s o o2 h1 h2 h3; omega
  | succ f ih =>
    intro n i S s o o2 h1 h2 h3 h4 h5
    subst h1
    have hu : ((n + 1 : Nat) : Int) = (n : Int) + 1 := by omega
    have hS := hS0 n h2
    have hI := hS.1
    have e9 := hS.2.2
    have wb := xWk_b (D := xDue) (x := x) n (by omega)
    have hw : (n : Int) < x 0 0 9 → _ := fun g => hS.2.1 n (by omega) (by omega)
    have rb := xExeR_b (x := (xWk xDue x n).1) (c := n)
    refine zV_iloadn hX dX4_runWhatIsDue_6 rfl ?_
    refine zV_aloadn hX dX4_runWhatIsDue_7 rfl ?_
    refine GF_X4_91 hX  dX4_runWhatIsDue_8 (fun r8 => ?_)
    refine zV_icmp_ge (tgt := 90) hX dX4_runWhatIsDue_11 (by decide) (by omega) (by omega) (fun b11 => ?_) (fun b11 => ?_)
    · obtain rfl : n = (x 0 0 9).toNat := by omega
      subst h5
      refine zV_iloadn hX dX4_runWhatIsDue_90 rfl ?_
      exact zV_iret hX hM (by omega) (by omega) rfl dX4_runWhatIsDue_91 (hp)
    · refine zV_aloadn hX dX4_runWhatIsDue_14 rfl ?_
      refine GF_X4_24 hX  dX4_runWhatIsDue_15 ?_
      refine zV_iloadn hX dX4_runWhatIsDue_18 rfl ?_
      refine AL_5 hX  ⟨by omega, by omega⟩ dX4_runWhatIsDue_19 ?_
      refine zV_astore4 hX dX4_runWhatIsDue_20 ?_
      refine zV_aloadn hX dX4_runWhatIsDue_22 rfl ?_
      refine zV_aload hX dX4_runWhatIsDue_23 rfl ?_
      refine zV_cVS (n := 1) hX rfl hN 0 rfl rfl ⟨by decide, by decide⟩ (c_X4_isDue (c := n) ⟨by omega, by omega⟩ hI) zw_co_yX4_isDue zw_mX4_348 zw_in_RX4 zw_im_yX4_isDue zw_se_yX4_isDue ⟨by decide, by decide, by decide +kernel⟩ rfl (by omega) (by decide) (by omega) (by omega) rfl (Nat.le_of_ble_eq_true rfl) dX4_runWhatIsDue_25 ?_ 
      refine zV_ifeq_b (tgt := 67) hX dX4_runWhatIsDue_28 (by decide) (fun b28 => ?_) (fun b28 => ?_)
      · first | rw [xWk_y (D := xDue) h4 ⟨b28, b38⟩] | rw [xWk_n (D := xDue) h4 (fun q => b28 q.1)] | rw [xWk_n (D := xDue) h4 (fun q => q.2 b38)]
        have hV := hS0 (n + 1) (by omega)
        obtain ⟨V, hVe⟩ : ∃ V, V = (xWk xDue x (n + 1)).1 := ⟨_, rfl⟩
        rw [← hVe] at hV ⊢
        have hVI := hV.1
        have hV9 := hV.2.2
        refine zV_aloadn hX dX4_runWhatIsDue_67 rfl ?_
        refine zV_aload hX dX4_runWhatIsDue_68 rfl ?_
        refine zV_iloadn hX dX4_runWhatIsDue_70 rfl ?_
        refine zV_cVS (n := 2) hX rfl hN 0 rfl rfl ⟨by decide, by decide⟩ (c_X4_isUpToDate (c := n) ⟨by omega, by omega⟩ hVI) zw_co_yX4_isUpToDate zw_mX4_140 zw_in_RX4 zw_im_yX4_isUpToDate zw_se_yX4_isUpToDate ⟨by decide, by decide, by decide +kernel⟩ rfl (by omega) (by decide) (by omega) (by omega) rfl (Nat.le_of_ble_eq_true rfl) dX4_runWhatIsDue_71 ?_ 
        refine zV_ifeq_b (tgt := 84) hX dX4_runWhatIsDue_74 (by decide) (fun b74 => ?_) (fun b74 => ?_)
        · refine zV_iinc3 hX dX4_runWhatIsDue_84 ?_
          refine zV_goto (tgt := 6) hX dX4_runWhatIsDue_87 (by decide) ?_
          have a1 : (n : Int) + 1 ≤ x 0 0 9 := by omega
          have a2 : (x 0 0 9).toNat - (n + 1) < f := by omega
          subst hVe
          exact ih (n + 1) _ _ _ _ _ hu.symm a1 a2 (by rw [xWk_s, ← h4]; first | rw [if_pos b74] | rw [if_neg b74]) (by rw [xWk_c (D := xDue) h4, ← h5]; first | exact z_add_y ⟨⟨b28, b38⟩, Or.inl b54⟩ | exact z_add_y ⟨⟨b28, b38⟩, Or.inr b61⟩ | exact z_add_n (fun q => b28 q.1.1) | exact z_add_n (fun q => q.1.2 b38) | exact z_add_n (fun q => Or.elim (And.right q) b54 b61))
        · refine zV_iloadn hX dX4_runWhatIsDue_77 rfl ?_
          refine zV_iloadn hX dX4_runWhatIsDue_78 rfl ?_
          refine zV_cSS (n := 1) hX rfl hN (c_X4_bit (by omega) ) zw_co_yX4_bit zw_mX4_144 zw_in_RX4 zw_st_yX4_bit ⟨by decide, by decide, by decide +kernel⟩ rfl (by omega) (by decide) (by omega) (by omega) rfl (Nat.le_of_ble_eq_true rfl) dX4_runWhatIsDue_79 ?_ 
          refine zV_ior hX dX4_runWhatIsDue_82 ?_
          refine zV_istoren2 hX dX4_runWhatIsDue_83 ?_
          refine zV_iinc3 hX dX4_runWhatIsDue_84 ?_
          refine zV_goto (tgt := 6) hX dX4_runWhatIsDue_87 (by decide) ?_
          have a1 : (n : Int) + 1 ≤ x 0 0 9 := by omega
          have a2 : (x 0 0 9).toNat - (n + 1) < f := by omega
          subst hVe
          exact ih (n + 1) _ _ _ _ _ hu.symm a1 a2 (by rw [xWk_s, ← h4]; first | rw [if_pos b74] | rw [if_neg b74]) (by rw [xWk_c (D := xDue) h4, ← h5]; first | exact z_add_y ⟨⟨b28, b38⟩, Or.inl b54⟩ | exact z_add_y ⟨⟨b28, b38⟩, Or.inr b61⟩ | exact z_add_n (fun q => b28 q.1.1) | exact z_add_n (fun q => q.1.2 b38) | exact z_add_n (fun q => Or.elim (And.right q) b54 b61))
      · refine zV_aloadn hX dX4_runWhatIsDue_31 rfl ?_
        refine zV_aload hX dX4_runWhatIsDue_32 rfl ?_
        refine zV_iloadn hX dX4_runWhatIsDue_34 rfl ?_
        refine zV_cVS (n := 2) hX rfl hN 0 rfl rfl ⟨by decide, by decide⟩ (c_X4_isUpToDate (c := n) ⟨by omega, by omega⟩ hI) zw_co_yX4_isUpToDate zw_mX4_140 zw_in_RX4 zw_im_yX4_isUpToDate zw_se_yX4_isUpToDate ⟨by decide, by decide, by decide +kernel⟩ rfl (by omega) (by decide) (by omega) (by omega) rfl (Nat.le_of_ble_eq_true rfl) dX4_runWhatIsDue_35 ?_ 
        refine zV_ifne_b (tgt := 67) hX dX4_runWhatIsDue_38 (by decide) (fun b38 => ?_) (fun b38 => ?_)
        · first | rw [xWk_y (D := xDue) h4 ⟨b28, b38⟩] | rw [xWk_n (D := xDue) h4 (fun q => b28 q.1)] | rw [xWk_n (D := xDue) h4 (fun q => q.2 b38)]
          have hV := hS0 (n + 1) (by omega)
          obtain ⟨V, hVe⟩ : ∃ V, V = (xWk xDue x (n + 1)).1 := ⟨_, rfl⟩
          rw [← hVe] at hV ⊢
          have hVI := hV.1
          have hV9 := hV.2.2
          refine zV_aloadn hX dX4_runWhatIsDue_67 rfl ?_
          refine zV_aload hX dX4_runWhatIsDue_68 rfl ?_
          refine zV_iloadn hX dX4_runWhatIsDue_70 rfl ?_
          refine zV_cVS (n := 2) hX rfl hN 0 rfl rfl ⟨by decide, by decide⟩ (c_X4_isUpToDate (c := n) ⟨by omega, by omega⟩ hVI) zw_co_yX4_isUpToDate zw_mX4_140 zw_in_RX4 zw_im_yX4_isUpToDate zw_se_yX4_isUpToDate ⟨by decide, by decide, by decide +kernel⟩ rfl (by omega) (by decide) (by omega) (by omega) rfl (Nat.le_of_ble_eq_true rfl) dX4_runWhatIsDue_71 ?_ 
          refine zV_ifeq_b (tgt := 84) hX dX4_runWhatIsDue_74 (by decide) (fun b74 => ?_) (fun b74 => ?_)
          · refine zV_iinc3 hX dX4_runWhatIsDue_84 ?_
            refine zV_goto (tgt := 6) hX dX4_runWhatIsDue_87 (by decide) ?_
            have a1 : (n : Int) + 1 ≤ x 0 0 9 := by omega
            have a2 : (x 0 0 9).toNat - (n + 1) < f := by omega
            subst hVe
            exact ih (n + 1) _ _ _ _ _ hu.symm a1 a2 (by rw [xWk_s, ← h4]; first | rw [if_pos b74] | rw [if_neg b74]) (by rw [xWk_c (D := xDue) h4, ← h5]; first | exact z_add_y ⟨⟨b28, b38⟩, Or.inl b54⟩ | exact z_add_y ⟨⟨b28, b38⟩, Or.inr b61⟩ | exact z_add_n (fun q => b28 q.1.1) | exact z_add_n (fun q => q.1.2 b38) | exact z_add_n (fun q => Or.elim (And.right q) b54 b61))
          · refine zV_iloadn hX dX4_runWhatIsDue_77 rfl ?_
            refine zV_iloadn hX dX4_runWhatIsDue_78 rfl ?_
            refine zV_cSS (n := 1) hX rfl hN (c_X4_bit (by omega) ) zw_co_yX4_bit zw_mX4_144 zw_in_RX4 zw_st_yX4_bit ⟨by decide, by decide, by decide +kernel⟩ rfl (by omega) (by decide) (by omega) (by omega) rfl (Nat.le_of_ble_eq_true rfl) dX4_runWhatIsDue_79 ?_ 
            refine zV_ior hX dX4_runWhatIsDue_82 ?_
            refine zV_istoren2 hX dX4_runWhatIsDue_83 ?_
            refine zV_iinc3 hX dX4_runWhatIsDue_84 ?_
            refine zV_goto (tgt := 6) hX dX4_runWhatIsDue_87 (by decide) ?_
            have a1 : (n : Int) + 1 ≤ x 0 0 9 := by omega
            have a2 : (x 0 0 9).toNat - (n + 1) < f := by omega
            subst hVe
            exact ih (n + 1) _ _ _ _ _ hu.symm a1 a2 (by rw [xWk_s, ← h4]; first | rw [if_pos b74] | rw [if_neg b74]) (by rw [xWk_c (D := xDue) h4, ← h5]; first | exact z_add_y ⟨⟨b28, b38⟩, Or.inl b54⟩ | exact z_add_y ⟨⟨b28, b38⟩, Or.inr b61⟩ | exact z_add_n (fun q => b28 q.1.1) | exact z_add_n (fun q => q.1.2 b38) | exact z_add_n (fun q => Or.elim (And.right q) b54 b61))
        · refine zV_aloadn hX dX4_runWhatIsDue_41 rfl ?_
          refine zV_iloadn hX dX4_runWhatIsDue_42 rfl ?_
          refine zV_aload hX dX4_runWhatIsDue_43 rfl ?_
          refine zV_callV (n := 2) hX rfl hN 0 rfl rfl ⟨by decide, by decide⟩ (c_X4_execute (c := n) ⟨by omega, by omega⟩ (hw (by omega)).1 (hw (by omega)).2 hI) zw_co_yX4_execute zw_mX4_136 zw_in_RX4 zw_im_yX4_execute zw_se_yX4_execute ⟨by decide, by decide, by decide +kernel⟩ rfl (by omega) (by decide) (by omega) (by omega) rfl (Nat.le_of_ble_eq_true rfl) dX4_runWhatIsDue_45 (fun v45 x45 y45 p45 => ?_) (fun _ _ _ h => h.elim)
          obtain ⟨rfl, rfl, rfl⟩ := p45
          refine zV_istore5 hX dX4_runWhatIsDue_48 ?_
          refine zV_iload hX dX4_runWhatIsDue_50 rfl ?_
          refine zV_bipush hX dX4_runWhatIsDue_52 (by decide) ?_
          refine zV_icmp_eq (tgt := 64) hX dX4_runWhatIsDue_54 (by decide) (by omega) (by omega) (fun b54 => ?_) (fun b54 => ?_)
          · refine zV_iinc1 hX dX4_runWhatIsDue_64 ?_
            first | rw [xWk_y (D := xDue) h4 ⟨b28, b38⟩] | rw [xWk_n (D := xDue) h4 (fun q => b28 q.1)] | rw [xWk_n (D := xDue) h4 (fun q => q.2 b38)]
            have hV := hS0 (n + 1) (by omega)
            obtain ⟨V, hVe⟩ : ∃ V, V = (xWk xDue x (n + 1)).1 := ⟨_, rfl⟩
            rw [← hVe] at hV ⊢
            have hVI := hV.1
            have hV9 := hV.2.2
            refine zV_aloadn hX dX4_runWhatIsDue_67 rfl ?_
            refine zV_aload hX dX4_runWhatIsDue_68 rfl ?_
            refine zV_iloadn hX dX4_runWhatIsDue_70 rfl ?_
            refine zV_cVS (n := 2) hX rfl hN 0 rfl rfl ⟨by decide, by decide⟩ (c_X4_isUpToDate (c := n) ⟨by omega, by omega⟩ hVI) zw_co_yX4_isUpToDate zw_mX4_140 zw_in_RX4 zw_im_yX4_isUpToDate zw_se_yX4_isUpToDate ⟨by decide, by decide, by decide +kernel⟩ rfl (by omega) (by decide) (by omega) (by omega) rfl (Nat.le_of_ble_eq_true rfl) dX4_runWhatIsDue_71 ?_ 
            refine zV_ifeq_b (tgt := 84) hX dX4_runWhatIsDue_74 (by decide) (fun b74 => ?_) (fun b74 => ?_)
            · refine zV_iinc3 hX dX4_runWhatIsDue_84 ?_
              refine zV_goto (tgt := 6) hX dX4_runWhatIsDue_87 (by decide) ?_
              have a1 : (n : Int) + 1 ≤ x 0 0 9 := by omega
              have a2 : (x 0 0 9).toNat - (n + 1) < f := by omega
              subst hVe
              exact ih (n + 1) _ _ _ _ _ hu.symm a1 a2 (by rw [xWk_s, ← h4]; first | rw [if_pos b74] | rw [if_neg b74]) (by rw [xWk_c (D := xDue) h4, ← h5]; first | exact z_add_y ⟨⟨b28, b38⟩, Or.inl b54⟩ | exact z_add_y ⟨⟨b28, b38⟩, Or.inr b61⟩ | exact z_add_n (fun q => b28 q.1.1) | exact z_add_n (fun q => q.1.2 b38) | exact z_add_n (fun q => Or.elim (And.right q) b54 b61))
            · refine zV_iloadn hX dX4_runWhatIsDue_77 rfl ?_
              refine zV_iloadn hX dX4_runWhatIsDue_78 rfl ?_
              refine zV_cSS (n := 1) hX rfl hN (c_X4_bit (by omega) ) zw_co_yX4_bit zw_mX4_144 zw_in_RX4 zw_st_yX4_bit ⟨by decide, by decide, by decide +kernel⟩ rfl (by omega) (by decide) (by omega) (by omega) rfl (Nat.le_of_ble_eq_true rfl) dX4_runWhatIsDue_79 ?_ 
              refine zV_ior hX dX4_runWhatIsDue_82 ?_
              refine zV_istoren2 hX dX4_runWhatIsDue_83 ?_
              refine zV_iinc3 hX dX4_runWhatIsDue_84 ?_
              refine zV_goto (tgt := 6) hX dX4_runWhatIsDue_87 (by decide) ?_
              have a1 : (n : Int) + 1 ≤ x 0 0 9 := by omega
              have a2 : (x 0 0 9).toNat - (n + 1) < f := by omega
              subst hVe
              exact ih (n + 1) _ _ _ _ _ hu.symm a1 a2 (by rw [xWk_s, ← h4]; first | rw [if_pos b74] | rw [if_neg b74]) (by rw [xWk_c (D := xDue) h4, ← h5]; first | exact z_add_y ⟨⟨b28, b38⟩, Or.inl b54⟩ | exact z_add_y ⟨⟨b28, b38⟩, Or.inr b61⟩ | exact z_add_n (fun q => b28 q.1.1) | exact z_add_n (fun q => q.1.2 b38) | exact z_add_n (fun q => Or.elim (And.right q) b54 b61))
          · refine zV_iload hX dX4_runWhatIsDue_57 rfl ?_
            refine zV_bipush hX dX4_runWhatIsDue_59 (by decide) ?_
            refine zV_icmp_ne (tgt := 67) hX dX4_runWhatIsDue_61 (by decide) (by omega) (by omega) (fun b61 => ?_) (fun b61 => ?_)
            · first | rw [xWk_y (D := xDue) h4 ⟨b28, b38⟩] | rw [xWk_n (D := xDue) h4 (fun q => b28 q.1)] | rw [xWk_n (D := xDue) h4 (fun q => q.2 b38)]
              have hV := hS0 (n + 1) (by omega)
              obtain ⟨V, hVe⟩ : ∃ V, V = (xWk xDue x (n + 1)).1 := ⟨_, rfl⟩
              rw [← hVe] at hV ⊢
              have hVI := hV.1
              have hV9 := hV.2.2
              refine zV_aloadn hX dX4_runWhatIsDue_67 rfl ?_
              refine zV_aload hX dX4_runWhatIsDue_68 rfl ?_
              refine zV_iloadn hX dX4_runWhatIsDue_70 rfl ?_
              refine zV_cVS (n := 2) hX rfl hN 0 rfl rfl ⟨by decide, by decide⟩ (c_X4_isUpToDate (c := n) ⟨by omega, by omega⟩ hVI) zw_co_yX4_isUpToDate zw_mX4_140 zw_in_RX4 zw_im_yX4_isUpToDate zw_se_yX4_isUpToDate ⟨by decide, by decide, by decide +kernel⟩ rfl (by omega) (by decide) (by omega) (by omega) rfl (Nat.le_of_ble_eq_true rfl) dX4_runWhatIsDue_71 ?_ 
              refine zV_ifeq_b (tgt := 84) hX dX4_runWhatIsDue_74 (by decide) (fun b74 => ?_) (fun b74 => ?_)
              · refine zV_iinc3 hX dX4_runWhatIsDue_84 ?_
                refine zV_goto (tgt := 6) hX dX4_runWhatIsDue_87 (by decide) ?_
                have a1 : (n : Int) + 1 ≤ x 0 0 9 := by omega
                have a2 : (x 0 0 9).toNat - (n + 1) < f := by omega
                subst hVe
                exact ih (n + 1) _ _ _ _ _ hu.symm a1 a2 (by rw [xWk_s, ← h4]; first | rw [if_pos b74] | rw [if_neg b74]) (by rw [xWk_c (D := xDue) h4, ← h5]; first | exact z_add_y ⟨⟨b28, b38⟩, Or.inl b54⟩ | exact z_add_y ⟨⟨b28, b38⟩, Or.inr b61⟩ | exact z_add_n (fun q => b28 q.1.1) | exact z_add_n (fun q => q.1.2 b38) | exact z_add_n (fun q => Or.elim (And.right q) b54 b61))
              · refine zV_iloadn hX dX4_runWhatIsDue_77 rfl ?_
                refine zV_iloadn hX dX4_runWhatIsDue_78 rfl ?_
                refine zV_cSS (n := 1) hX rfl hN (c_X4_bit (by omega) ) zw_co_yX4_bit zw_mX4_144 zw_in_RX4 zw_st_yX4_bit ⟨by decide, by decide, by decide +kernel⟩ rfl (by omega) (by decide) (by omega) (by omega) rfl (Nat.le_of_ble_eq_true rfl) dX4_runWhatIsDue_79 ?_ 
                refine zV_ior hX dX4_runWhatIsDue_82 ?_
                refine zV_istoren2 hX dX4_runWhatIsDue_83 ?_
                refine zV_iinc3 hX dX4_runWhatIsDue_84 ?_
                refine zV_goto (tgt := 6) hX dX4_runWhatIsDue_87 (by decide) ?_
                have a1 : (n : Int) + 1 ≤ x 0 0 9 := by omega
                have a2 : (x 0 0 9).toNat - (n + 1) < f := by omega
                subst hVe
                exact ih (n + 1) _ _ _ _ _ hu.symm a1 a2 (by rw [xWk_s, ← h4]; first | rw [if_pos b74] | rw [if_neg b74]) (by rw [xWk_c (D := xDue) h4, ← h5]; first | exact z_add_y ⟨⟨b28, b38⟩, Or.inl b54⟩ | exact z_add_y ⟨⟨b28, b38⟩, Or.inr b61⟩ | exact z_add_n (fun q => b28 q.1.1) | exact z_add_n (fun q => q.1.2 b38) | exact z_add_n (fun q => Or.elim (And.right q) b54 b61))
            · refine zV_iinc1 hX dX4_runWhatIsDue_64 ?_
              first | rw [xWk_y (D := xDue) h4 ⟨b28, b38⟩] | rw [xWk_n (D := xDue) h4 (fun q => b28 q.1)] | rw [xWk_n (D := xDue) h4 (fun q => q.2 b38)]
              have hV := hS0 (n + 1) (by omega)
              obtain ⟨V, hVe⟩ : ∃ V, V = (xWk xDue x (n + 1)).1 := ⟨_, rfl⟩
              rw [← hVe] at hV ⊢
              have hVI := hV.1
              have hV9 := hV.2.2
              refine zV_aloadn hX dX4_runWhatIsDue_67 rfl ?_
              refine zV_aload hX dX4_runWhatIsDue_68 rfl ?_
              refine zV_iloadn hX dX4_runWhatIsDue_70 rfl ?_
              refine zV_cVS (n := 2) hX rfl hN 0 rfl rfl ⟨by decide, by decide⟩ (c_X4_isUpToDate (c := n) ⟨by omega, by omega⟩ hVI) zw_co_yX4_isUpToDate zw_mX4_140 zw_in_RX4 zw_im_yX4_isUpToDate zw_se_yX4_isUpToDate ⟨by decide, by decide, by decide +kernel⟩ rfl (by omega) (by decide) (by omega) (by omega) rfl (Nat.le_of_ble_eq_true rfl) dX4_runWhatIsDue_71 ?_ 
              refine zV_ifeq_b (tgt := 84) hX dX4_runWhatIsDue_74 (by decide) (fun b74 => ?_) (fun b74 => ?_)
              · refine zV_iinc3 hX dX4_runWhatIsDue_84 ?_
                refine zV_goto (tgt := 6) hX dX4_runWhatIsDue_87 (by decide) ?_
                have a1 : (n : Int) + 1 ≤ x 0 0 9 := by omega
                have a2 : (x 0 0 9).toNat - (n + 1) < f := by omega
                subst hVe
                exact ih (n + 1) _ _ _ _ _ hu.symm a1 a2 (by rw [xWk_s, ← h4]; first | rw [if_pos b74] | rw [if_neg b74]) (by rw [xWk_c (D := xDue) h4, ← h5]; first | exact z_add_y ⟨⟨b28, b38⟩, Or.inl b54⟩ | exact z_add_y ⟨⟨b28, b38⟩, Or.inr b61⟩ | exact z_add_n (fun q => b28 q.1.1) | exact z_add_n (fun q => q.1.2 b38) | exact z_add_n (fun q => Or.elim (And.right q) b54 b61))
              · refine zV_iloadn hX dX4_runWhatIsDue_77 rfl ?_
                refine zV_iloadn hX dX4_runWhatIsDue_78 rfl ?_
                refine zV_cSS (n := 1) hX rfl hN (c_X4_bit (by omega) ) zw_co_yX4_bit zw_mX4_144 zw_in_RX4 zw_st_yX4_bit ⟨by decide, by decide, by decide +kernel⟩ rfl (by omega) (by decide) (by omega) (by omega) rfl (Nat.le_of_ble_eq_true rfl) dX4_runWhatIsDue_79 ?_ 
                refine zV_ior hX dX4_runWhatIsDue_82 ?_
                refine zV_istoren2 hX dX4_runWhatIsDue_83 ?_
                refine zV_iinc3 hX dX4_runWhatIsDue_84 ?_
                refine zV_goto (tgt := 6) hX dX4_runWhatIsDue_87 (by decide) ?_
                have a1 : (n : Int) + 1 ≤ x 0 0 9 := by omega
                have a2 : (x 0 0 9).toNat - (n + 1) < f := by omega
                subst hVe
                exact ih (n + 1) _ _ _ _ _ hu.symm a1 a2 (by rw [xWk_s, ← h4]; first | rw [if_pos b74] | rw [if_neg b74]) (by rw [xWk_c (D := xDue) h4, ← h5]; first | exact z_add_y ⟨⟨b28, b38⟩, Or.inl b54⟩ | exact z_add_y ⟨⟨b28, b38⟩, Or.inr b61⟩ | exact z_add_n (fun q => b28 q.1.1) | exact z_add_n (fun q => q.1.2 b38) | exact z_add_n (fun q => Or.elim (And.right q) b54 b61))
set_option maxRecDepth 100000 in
set_option maxHeartbeats 4000000 in
theorem c_X4_runWhatIsDue {ad : Nat → Int → Nat} {x y : zSt} (hn : 0 ≤ x 0 0 9 ∧ x 0 0 9 ≤ 11) (hS : xOkW xDue x) : zC yX4_runWhatIsDue cX4_runWhatIsDue 6 (some .int) 7 0 0 [.ref (ad 0 0)] ad x y (zpS (xWk xDue x (x 0 0 9).toNat).2.2 (xWk xDue x (x 0 0 9).toNat).1 y) (zF) := by
  refine zC_ofV (by decide) (by intro v hv; simp only [List.mem_cons, List.not_mem_nil, or_false] at hv; subst hv; rfl) (Nat.le_of_ble_eq_true rfl) (fun Γ hX hN hM hT => ?_)
  show zV Γ ad 0 0 x y 0 [some (.ref (ad 0 0)), none, none, none, none, none] []
  refine zV_iconst hX dX4_runWhatIsDue_0 ?_
  refine zV_istoren1 hX dX4_runWhatIsDue_1 ?_
  refine zV_iconst hX dX4_runWhatIsDue_2 ?_
  refine zV_istoren2 hX dX4_runWhatIsDue_3 ?_
  refine zV_iconst hX dX4_runWhatIsDue_4 ?_
  refine zV_istoren3 hX dX4_runWhatIsDue_5 ?_
  exact lp_X4_runWhatIsDue ⟨rfl, rfl, rfl⟩ hn hS hX hN hM hT ((x 0 0 9).toNat + 1) 0 0 0 0 _ _ rfl (by omega) (by omega) rfl rfl
