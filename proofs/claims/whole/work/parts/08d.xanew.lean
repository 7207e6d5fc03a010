set_option maxRecDepth 100000 in
set_option maxHeartbeats 4000000 in
theorem lp_X4_computeAnew2 {ad : Nat → Int → Nat} {x y : zSt} {Γ : zG} {post : Option Value → zSt → zSt → Prop} {px : String → zSt → zSt → Prop} (hp : post none (xC1 x (x 0 0 9).toNat) y) (hI0 : xI x) (hb0 : xB4 x 12) (hX : zX Γ ad RX4 cX4_computeAnew 3) (hN : zN Γ 2 0 0) (hM : zM Γ ad 0 0 none (post) (px)) (hT : zNT Γ) : ∀ (f n : Nat) (i : Int) (o : Option Value), i = n → i ≤ x 0 0 9 → (x 0 0 9).toNat - n < f → zV Γ ad 0 0 (xC1 x n) y 40 [some (.ref (ad 0 0)), some (zI i), o] [] := by
  intro f
  induction f with
  | zero => intro n i o h1 h2 h3; omega
  | succ f ih =>
    intro n i o h1 h2 h3 
    subst h1
    have hu : ((n + 1 : Nat) : Int) = (n : Int) + 1 := by omega
    have hI := xI_c (u := xC1 x n) (fun k hk i j => xC1_r hk n) hI0
    have i1 := hI0.1
    have e9 := xC1_r (x := x) (k := 0) (by decide) (i := 0) (j := 9) n
    have hb := xC1_b hb0 n
    have w : (n : Int) < x 0 0 9 → _ := fun g => hI.2.2.2.2.2.1 n (by omega) (by omega)
    refine zV_iloadn hX dX4_computeAnew_40 rfl ?_
    refine zV_aloadn hX dX4_computeAnew_41 rfl ?_
    refine GF_X4_91 hX  dX4_computeAnew_42 (fun r42 => ?_)
    refine zV_icmp_ge (tgt := 106) hX dX4_computeAnew_45 (by decide) (by omega) (by omega) (fun b45 => ?_) (fun b45 => ?_)
    · obtain rfl : n = (x 0 0 9).toNat := by omega
      exact zV_vret hX hM (by omega) (by omega) dX4_computeAnew_106 (hp)
    · refine zV_aloadn hX dX4_computeAnew_48 rfl ?_
      refine GF_X4_24 hX  dX4_computeAnew_49 ?_
      refine zV_iloadn hX dX4_computeAnew_52 rfl ?_
      refine AL_5 hX  ⟨by omega, by omega⟩ dX4_computeAnew_53 ?_
      refine zV_astoren2 hX dX4_computeAnew_54 ?_
      refine zV_aloadn hX dX4_computeAnew_55 rfl ?_
      refine zV_aloadn hX dX4_computeAnew_56 rfl ?_
      refine GF_X4_19 hX  dX4_computeAnew_57 ?_
      refine zV_cSS (n := 2) hX rfl hN (c_X4_firstMissing_a (c := n) ⟨by omega, by omega⟩ hI) zw_co_yX4_firstMissing zw_mX4_290 zw_in_RX4 zw_st_yX4_firstMissing ⟨by decide, by decide, by decide +kernel⟩ rfl (by omega) (by decide) (by omega) (by omega) rfl (Nat.le_of_ble_eq_true rfl) dX4_computeAnew_60 ?_ 
      have fm := xFm_m (x := xC1 x n) (k := 4) (c := n)
      have fb : -1 ≤ xFm (xC1 x n) 4 n ∧ xFm (xC1 x n) 4 n ≤ 11 := by
        have w2 := w (by omega)
        unfold xFm
        split
        · omega
        · split <;> omega
      refine zV_iconst hX dX4_computeAnew_63 ?_
      refine zV_icmp_ne (tgt := 100) hX dX4_computeAnew_64 (by decide) (by omega) (by omega) (fun b64 => ?_) (fun b64 => ?_)
      · refine zV_iinc1 hX dX4_computeAnew_100 ?_
        refine zV_goto (tgt := 40) hX dX4_computeAnew_103 (by decide) ?_
        have q := fun oo : Option Value => ih (n + 1) _ oo hu.symm (by omega) (by omega)
        simp only [xC1] at q
        first | (rw [if_pos (by omega)] at q; exact q _) | (rw [if_neg (by omega)] at q; exact q _)
      · have fm2 := fm (by omega) (by omega)
        have p1 := hb ((xC1 x n) 9 n 1) (by omega) (by omega)
        have p2 : (xC1 x n) 9 n 2 ≠ -1 → _ := fun g => hb ((xC1 x n) 9 n 2) (by omega) (by omega)
        have p3 : -1 ≤ xVa (xC1 x n) 4 ((xC1 x n) 9 n 2) ∧ xVa (xC1 x n) 4 ((xC1 x n) 9 n 2) ≤ 999 := by
          unfold xVa
          split
          · omega
          · exact p2 (by assumption)
        have p4 : (xC1 x n) 9 n 2 ≠ -1 → 0 ≤ xVa (xC1 x n) 4 ((xC1 x n) 9 n 2) ∧ xVa (xC1 x n) 4 ((xC1 x n) 9 n 2) ≤ 999 := fun g => by
          have q1 := fm2.2 g
          have q2 := p2 g
          have q3 : xVa (xC1 x n) 4 ((xC1 x n) 9 n 2) = (xC1 x n) 4 0 ((xC1 x n) 9 n 2) := by
            unfold xVa
            rw [if_neg g]
          omega
        have p5 := xRes_b (x := xC1 x n) (c := n) (a := (xC1 x n) 4 0 ((xC1 x n) 9 n 1)) (b := xVa (xC1 x n) 4 ((xC1 x n) 9 n 2))
        refine zV_aloadn hX dX4_computeAnew_67 rfl ?_
        refine GF_X4_19 hX  dX4_computeAnew_68 ?_
        refine zV_aloadn hX dX4_computeAnew_71 rfl ?_
        refine GF_X4_109 hX ⟨by omega, by omega⟩ dX4_computeAnew_72 (fun r72 => ?_)
        refine zV_aloadn hX dX4_computeAnew_75 rfl ?_
        refine zV_aloadn hX dX4_computeAnew_76 rfl ?_
        refine GF_X4_19 hX  dX4_computeAnew_77 ?_
        refine zV_aloadn hX dX4_computeAnew_80 rfl ?_
        refine GF_X4_100 hX ⟨by omega, by omega⟩ dX4_computeAnew_81 (fun r81 => ?_)
        refine AL_4 hX  ⟨by omega, by omega⟩ dX4_computeAnew_84 (fun r84 => ?_)
        refine zV_aloadn hX dX4_computeAnew_85 rfl ?_
        refine GF_X4_103 hX ⟨by omega, by omega⟩ dX4_computeAnew_86 (fun r86 => ?_)
        refine zV_aloadn hX dX4_computeAnew_89 rfl ?_
        refine GF_X4_19 hX  dX4_computeAnew_90 ?_
        refine zV_cSS (n := 2) hX rfl hN (c_X4_valueIfAny_a (v := (xC1 x n) 9 n 2) ⟨by omega, by omega⟩) zw_co_yX4_valueIfAny zw_mX4_298 zw_in_RX4 zw_st_yX4_valueIfAny ⟨by decide, by decide, by decide +kernel⟩ rfl (by omega) (by decide) (by omega) (by omega) rfl (Nat.le_of_ble_eq_true rfl) dX4_computeAnew_93 ?_ 
        refine zV_cSS (n := 3) hX rfl hN (c_X4_resultOf (c := n) ⟨by omega, by omega⟩ (by omega) p4 ⟨by omega, by omega⟩ hI) zw_co_yX4_resultOf zw_mX4_302 zw_in_RX4 zw_st_yX4_resultOf ⟨by decide, by decide, by decide +kernel⟩ rfl (by omega) (by decide) (by omega) (by omega) rfl (Nat.le_of_ble_eq_true rfl) dX4_computeAnew_96 ?_ 
        refine AS_4 hX  ⟨by omega, by omega⟩ (by omega) dX4_computeAnew_99 ?_
        refine zV_iinc1 hX dX4_computeAnew_100 ?_
        refine zV_goto (tgt := 40) hX dX4_computeAnew_103 (by decide) ?_
        have q := fun oo : Option Value => ih (n + 1) _ oo hu.symm (by omega) (by omega)
        simp only [xC1] at q
        first | (rw [if_pos (by omega)] at q; exact q _) | (rw [if_neg (by omega)] at q; exact q _)
set_option maxRecDepth 100000 in
set_option maxHeartbeats 4000000 in
theorem lp_X4_computeAnew {ad : Nat → Int → Nat} {x y : zSt} {Γ : zG} {post : Option Value → zSt → zSt → Prop} {px : String → zSt → zSt → Prop} (hp : post none (xC1 (xC0 x 12) (x 0 0 9).toNat) y) (hI : xI x) (hX : zX Γ ad RX4 cX4_computeAnew 3) (hN : zN Γ 2 0 0) (hM : zM Γ ad 0 0 none (post) (px)) (hT : zNT Γ) : ∀ (f n : Nat) (i : Int) (o : Option Value), i = n → i ≤ 12 → 12 - n < f → zV Γ ad 0 0 (xC0 x n) y 2 [some (.ref (ad 0 0)), some (zI i), o] [] := by
  intro f
  induction f with
  | zero => intro n i o h1 h2 h3; omega
  | succ f ih =>
    intro n i o h1 h2 h3 
    subst h1
    have hu : ((n + 1 : Nat) : Int) = (n : Int) + 1 := by omega
    have i1 := hI.1
    have w : (n : Int) ≤ 11 → _ := fun g => hI.2.2.2.2.1 n (by omega) g
    have e1 := xC0_r (x := x) (k := 1) (by decide) (i := 0) (j := n) n
    have e2 := xC0_r (x := x) (k := 2) (by decide) (i := 0) (j := n) n
    refine zV_iloadn hX dX4_computeAnew_2 rfl ?_
    refine zV_bipush hX dX4_computeAnew_3 (by decide) ?_
    refine zV_icmp_ge (tgt := 38) hX dX4_computeAnew_5 (by decide) (by omega) (by omega) (fun b5 => ?_) (fun b5 => ?_)
    · obtain rfl : n = 12 := by omega
      refine zV_iconst hX dX4_computeAnew_38 ?_
      refine zV_istoren1 hX dX4_computeAnew_39 ?_
      exact lp_X4_computeAnew2 (x := xC0 x 12) (by rw [xC0_r (by decide)]; exact hp) (xI_c (fun k hk i j => xC0_r hk 12) hI) (xC0_b hI 12 (by omega)) hX hN hM hT ((x 0 0 9).toNat + 1) 0 0 _ rfl (by rw [xC0_r (by decide)]; omega) (by rw [xC0_r (by decide)]; omega)
    · refine zV_aloadn hX dX4_computeAnew_8 rfl ?_
      refine GF_X4_19 hX  dX4_computeAnew_9 ?_
      refine zV_iloadn hX dX4_computeAnew_12 rfl ?_
      refine zV_aloadn hX dX4_computeAnew_13 rfl ?_
      refine zV_iloadn hX dX4_computeAnew_14 rfl ?_
      refine zV_cVS (n := 1) hX rfl hN 0 rfl rfl ⟨by decide, by decide⟩ (c_X4_isData ⟨by omega, by omega⟩) zw_co_yX4_isData zw_mX4_193 zw_in_RX4 zw_im_yX4_isData zw_se_yX4_isData ⟨by decide, by decide, by decide +kernel⟩ rfl (by omega) (by decide) (by omega) (by omega) rfl (Nat.le_of_ble_eq_true rfl) dX4_computeAnew_15 ?_ 
      refine zV_ifeq_b (tgt := 30) hX dX4_computeAnew_18 (by decide) (fun b18 => ?_) (fun b18 => ?_)
      · refine zV_iconst hX dX4_computeAnew_30 ?_
        refine AS_4 hX  ⟨by omega, by omega⟩ (by omega) dX4_computeAnew_31 ?_
        refine zV_iinc1 hX dX4_computeAnew_32 ?_
        refine zV_goto (tgt := 2) hX dX4_computeAnew_35 (by decide) ?_
        have q := fun oo : Option Value => ih (n + 1) _ oo hu.symm (by omega) (by omega)
        simp only [xC0] at q
        first | (rw [if_pos (by omega)] at q; rw [e1]; exact q _) | (rw [if_neg (by omega)] at q; exact q _)
      · refine zV_aloadn hX dX4_computeAnew_21 rfl ?_
        refine GF_X4_9 hX  dX4_computeAnew_22 ?_
        refine zV_iloadn hX dX4_computeAnew_25 rfl ?_
        refine AL_1 hX  ⟨by omega, by omega⟩ dX4_computeAnew_26 (fun r26 => ?_)
        refine zV_goto (tgt := 31) hX dX4_computeAnew_27 (by decide) ?_
        refine AS_4 hX  ⟨by omega, by omega⟩ (by omega) dX4_computeAnew_31 ?_
        refine zV_iinc1 hX dX4_computeAnew_32 ?_
        refine zV_goto (tgt := 2) hX dX4_computeAnew_35 (by decide) ?_
        have q := fun oo : Option Value => ih (n + 1) _ oo hu.symm (by omega) (by omega)
        simp only [xC0] at q
        first | (rw [if_pos (by omega)] at q; rw [e1]; exact q _) | (rw [if_neg (by omega)] at q; exact q _)
set_option maxRecDepth 100000 in
set_option maxHeartbeats 4000000 in
theorem c_X4_computeAnew {ad : Nat → Int → Nat} {x y : zSt} (hI : xI x) : zC yX4_computeAnew cX4_computeAnew 3 none 2 0 0 [.ref (ad 0 0)] ad x y (zpV (xCs x) y) (zF) := by
  refine zC_ofV (by decide) (by intro v hv; simp only [List.mem_cons, List.not_mem_nil, or_false] at hv; subst hv; rfl) (Nat.le_of_ble_eq_true rfl) (fun Γ hX hN hM hT => ?_)
  show zV Γ ad 0 0 x y 0 [some (.ref (ad 0 0)), none, none] []
  refine zV_iconst hX dX4_computeAnew_0 ?_
  refine zV_istoren1 hX dX4_computeAnew_1 ?_
  exact lp_X4_computeAnew ⟨rfl, rfl, rfl⟩ hI hX hN hM hT 13 0 0 _ rfl (by omega) (by omega)
set_option maxRecDepth 100000 in
set_option maxHeartbeats 4000000 in
theorem c_X4_resultAnew {ad : Nat → Int → Nat} {x y : zSt} {c : Int} (hc : zR c) (hI : xI x) : zC yX4_resultAnew cX4_resultAnew 4 (some .int) 8 2 12 [.ref (ad 0 0), zI c] ad x y (zpSG ((0 ≤ c ∧ c ≤ x 0 0 9 - 1) ∧ xCs x 4 0 (x 9 c 4) ≠ -1) (xCs x 4 0 (x 9 c 4)) (xCs x) y) (fun E x1 y1 => (E = "java/lang/IndexOutOfBoundsException" ∧ ¬ (0 ≤ c ∧ c ≤ x 0 0 9 - 1) ∧ x1 = x ∧ y1 = y) ∨ (E = "java/lang/UnsupportedOperationException" ∧ ((0 ≤ c ∧ c ≤ x 0 0 9 - 1) ∧ xCs x 4 0 (x 9 c 4) = -1) ∧ x1 = xCs x ∧ y1 = y)) := by
  refine zC_ofV (by decide) (by intro v hv; simp only [List.mem_cons, List.not_mem_nil, or_false] at hv; rcases hv with rfl | rfl <;> rfl) (Nat.le_of_ble_eq_true rfl) (fun Γ hX hN hM hT => ?_)
  show zV Γ ad 0 0 x y 0 [some (.ref (ad 0 0)), some (zI c), none, none] []
  have hcm := hI.1
  have w : 0 ≤ c → c < x 0 0 9 → _ := fun g1 g2 => hI.2.2.2.2.2.1 c g1 g2
  have e4 := xCs_r (x := x) (k := 9) (by decide) (i := c) (j := 4)
  refine zV_aloadn hX dX4_resultAnew_0 rfl ?_
  refine zV_iloadn hX dX4_resultAnew_1 rfl ?_
  refine zV_cVHX (n := 1) hX rfl hN 0 rfl rfl ⟨by decide, by decide⟩ (c_X4_cellAt (by omega) hI.1) zw_co_yX4_cellAt zw_mX4_125 zw_in_RX4 zw_im_yX4_cellAt zw_se_yX4_cellAt ⟨by decide, by decide, by decide +kernel⟩ rfl (by omega) (by decide) (by omega) (by omega) rfl (Nat.le_of_ble_eq_true rfl) dX4_resultAnew_2 (fun g2 => ?_) (fun E2 x2 y2 p2 => ?_)
  · refine zV_astoren2 hX dX4_resultAnew_5 ?_
    refine zV_aloadn hX dX4_resultAnew_6 rfl ?_
    refine zV_cVV (n := 0) hX rfl hN 0 rfl rfl ⟨by decide, by decide⟩ (c_X4_computeAnew hI) zw_co_yX4_computeAnew zw_mX4_158 zw_in_RX4 zw_im_yX4_computeAnew zw_se_yX4_computeAnew ⟨by decide, by decide, by decide +kernel⟩ rfl (by omega) (by decide) (by omega) (by omega) rfl (Nat.le_of_ble_eq_true rfl) dX4_resultAnew_7 ?_ 
    refine zV_aloadn hX dX4_resultAnew_10 rfl ?_
    refine GF_X4_19 hX  dX4_resultAnew_11 ?_
    refine zV_aloadn hX dX4_resultAnew_14 rfl ?_
    refine GF_X4_109 hX ⟨by omega, by omega⟩ dX4_resultAnew_15 (fun r15 => ?_)
    rw [e4] at *
    refine AL_4 hX  ⟨by omega, by omega⟩ dX4_resultAnew_18 (fun r18 => ?_)
    refine zV_istoren3 hX dX4_resultAnew_19 ?_
    refine zV_iloadn hX dX4_resultAnew_20 rfl ?_
    refine zV_iconst hX dX4_resultAnew_21 ?_
    refine zV_icmp_ne (tgt := 35) hX dX4_resultAnew_22 (by decide) (by omega) (by omega) (fun b22 => ?_) (fun b22 => ?_)
    · refine zV_iloadn hX dX4_resultAnew_35 rfl ?_
      exact zV_iret hX hM (by omega) (by omega) rfl dX4_resultAnew_36 (zpSG_j ⟨by omega, by omega⟩ rfl rfl rfl)
    · exact zV_throw hX rfl hN (by omega) (by omega) (by omega) Bundle.six_0 Bundle.six_1 Bundle.six_2 Bundle.six_5 zat_UnsupportedOperationException zw_cX4_86 zw_in_java_lang_UnsupportedOperationException "the cell would fail" (by decide) (by decide) dX4_resultAnew_25 dX4_resultAnew_28 dX4_resultAnew_29 dX4_resultAnew_31 dX4_resultAnew_34 (zVX_out hX hT hM (by omega) (by omega) (Or.inr ⟨rfl, ⟨by omega, by omega⟩, rfl, rfl⟩))
  · exact zVX_out hX hT hM (by omega) (by omega) (by obtain ⟨⟨rfl, h⟩, rfl, rfl⟩ := p2; exact Or.inl ⟨rfl, h, rfl, rfl⟩)
