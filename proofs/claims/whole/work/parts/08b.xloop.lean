set_option maxRecDepth 100000 in
set_option maxHeartbeats 4000000 in
theorem c_X4_isDue {ad : Nat → Int → Nat} {x y : zSt} {c : Int} (hc : 0 ≤ c ∧ c < x 0 0 9) (hI : xI x) : zC yX4_isDue cX4_isDue 2 (some .boolean) 0 0 0 [.ref (ad 0 0), .ref (ad 9 c)] ad x y (zpS (zb (xDue x c = true)) x y) (zF) := by
  refine zC_ofV (by decide) (by intro v hv; simp only [List.mem_cons, List.not_mem_nil, or_false] at hv; rcases hv with rfl | rfl <;> rfl) (Nat.le_of_ble_eq_true rfl) (fun Γ hX hN hM hT => ?_)
  show zV Γ ad 0 0 x y 0 [some (.ref (ad 0 0)), some (.ref (ad 9 c))] []
  obtain ⟨i1, i2, i3, i4, i5, i6, i7, i8, i9, i10, i11⟩ := id hI
  have w1 := i6 c hc.1 hc.2
  have mb : ∀ q : Int, 0 < q → 0 ≤ x 0 0 12 % q ∧ x 0 0 12 % q < q := fun q h => ⟨Int.emod_nonneg _ (by omega), Int.emod_lt_of_pos _ h⟩
  refine zV_aloadn hX dX4_isDue_0 rfl ?_
  refine GF_X4_216 hX ⟨by omega, by omega⟩ dX4_isDue_1 (fun r1 => ?_)
  refine zV_if_eq (tgt := 23) hX dX4_isDue_4 (by decide) (by omega) (fun b4 => ?_) (fun b4 => ?_)
  · refine zV_iconst hX dX4_isDue_23 ?_
    exact zV_iret hX hM (by omega) (by omega) (zn_bool (by omega)) dX4_isDue_24 (zpS_i (by first | exact (zb_t (P := xDue x c = true) (decide_eq_true ⟨by omega, by omega⟩)).symm | exact (zb_f (P := xDue x c = true) (fun q => by have q := of_decide_eq_true q; omega)).symm))
  · refine zV_aloadn hX dX4_isDue_7 rfl ?_
    refine GF_X4_221 hX  dX4_isDue_8 (fun r8 => ?_)
    refine zV_aloadn hX dX4_isDue_11 rfl ?_
    refine GF_X4_216 hX ⟨by omega, by omega⟩ dX4_isDue_12 (fun r12 => ?_)
    refine zV_irem hX dX4_isDue_15 ⟨by omega, by omega⟩ ⟨by omega, by omega⟩ ?_
    refine zV_if_ne (tgt := 23) hX dX4_isDue_16 (by decide) (by have := mb _ (show 0 < x 9 c 7 by omega); omega) (fun b16 => ?_) (fun b16 => ?_)
    · refine zV_iconst hX dX4_isDue_23 ?_
      exact zV_iret hX hM (by omega) (by omega) (zn_bool (by omega)) dX4_isDue_24 (zpS_i (by first | exact (zb_t (P := xDue x c = true) (decide_eq_true ⟨by omega, by omega⟩)).symm | exact (zb_f (P := xDue x c = true) (fun q => by have q := of_decide_eq_true q; omega)).symm))
    · refine zV_iconst hX dX4_isDue_19 ?_
      refine zV_goto (tgt := 24) hX dX4_isDue_20 (by decide) ?_
      exact zV_iret hX hM (by omega) (by omega) (zn_bool (by omega)) dX4_isDue_24 (zpS_i (by first | exact (zb_t (P := xDue x c = true) (decide_eq_true ⟨by omega, by omega⟩)).symm | exact (zb_f (P := xDue x c = true) (fun q => by have q := of_decide_eq_true q; omega)).symm))
set_option maxRecDepth 100000 in
set_option maxHeartbeats 4000000 in
theorem lp_X4_owners {ad : Nat → Int → Nat} {x y : zSt} {Γ : zG} {post : Option Value → zSt → zSt → Prop} {px : String → zSt → zSt → Prop} {c : Int} (hp : post (some (zI (xOw x c 12))) x y) (hc : 0 ≤ c ∧ c < x 0 0 9) (hI : xI x) (hX : zX Γ ad RX4 cX4_owners 5) (hN : zN Γ 7 1 6) (hM : zM Γ ad 1 6 (some .int) (post) (px)) (hT : zNT Γ) : ∀ (f n : Nat) (i s : Int), i = n → i ≤ 12 → 12 - n < f → zR s → s = xOw x c n → zV Γ ad 1 6 x y 11 [some (.ref (ad 0 0)), some (zI c), some (.ref (ad 9 c)), some (zI s), some (zI i)] [] := by
  intro f
  induction f with
  | zero => intro n i s h1 h2 h3; omega
  | succ f ih =>
    intro n i s h1 h2 h3 h5 h4
    subst h1
    have hu : ((n + 1 : Nat) : Int) = (n : Int) + 1 := by omega
    have i1 := hI.1
    have wv : (n : Int) ≤ 11 → _ := fun g => hI.2.2.2.2.1 n (by omega) g
    refine zV_iload hX dX4_owners_11 rfl ?_
    refine zV_bipush hX dX4_owners_13 (by decide) ?_
    refine zV_icmp_ge (tgt := 58) hX dX4_owners_15 (by decide) (by omega) (by omega) (fun b15 => ?_) (fun b15 => ?_)
    · obtain rfl : n = 12 := by omega
      subst h4
      refine zV_iloadn hX dX4_owners_58 rfl ?_
      exact zV_iret hX hM (by omega) (by omega) rfl dX4_owners_59 (hp)
    · refine zV_aloadn hX dX4_owners_18 rfl ?_
      refine GF_X4_122 hX ⟨by omega, by omega⟩ dX4_owners_19 (fun r19 => ?_)
      refine zV_iload hX dX4_owners_22 rfl ?_
      refine zV_cSS (n := 2) hX rfl hN (c_X4_hasBit (by omega) ) zw_co_yX4_hasBit zw_mX4_189 zw_in_RX4 zw_st_yX4_hasBit ⟨by decide, by decide, by decide +kernel⟩ rfl (by omega) (by decide) (by omega) (by omega) rfl (Nat.le_of_ble_eq_true rfl) dX4_owners_24 ?_ 
      refine zV_ifeq_b (tgt := 52) hX dX4_owners_27 (by decide) (fun b27 => ?_) (fun b27 => ?_)
      · refine zV_iinc4 hX dX4_owners_52 ?_
        refine zV_goto (tgt := 11) hX dX4_owners_55 (by decide) ?_
        exact ih (n + 1) _ _ hu.symm (by omega) (by omega) (by first | exact zR_of _ | assumption) (by rw [h4]; simp only [xOw]; first | rw [if_pos ⟨by assumption, by assumption⟩] | rw [if_neg (fun q => by first | exact absurd q.1 (by assumption) | exact absurd q.2 (by assumption))])
      · refine zV_aloadn hX dX4_owners_30 rfl ?_
        refine zV_iload hX dX4_owners_31 rfl ?_
        refine zV_cVS (n := 1) hX rfl hN 0 rfl rfl ⟨by decide, by decide⟩ (c_X4_isData ⟨by omega, by omega⟩) zw_co_yX4_isData zw_mX4_193 zw_in_RX4 zw_im_yX4_isData zw_se_yX4_isData ⟨by decide, by decide, by decide +kernel⟩ rfl (by omega) (by decide) (by omega) (by omega) rfl (Nat.le_of_ble_eq_true rfl) dX4_owners_33 ?_ 
        refine zV_ifeq_b (tgt := 52) hX dX4_owners_36 (by decide) (fun b36 => ?_) (fun b36 => ?_)
        · refine zV_iinc4 hX dX4_owners_52 ?_
          refine zV_goto (tgt := 11) hX dX4_owners_55 (by decide) ?_
          exact ih (n + 1) _ _ hu.symm (by omega) (by omega) (by first | exact zR_of _ | assumption) (by rw [h4]; simp only [xOw]; first | rw [if_pos ⟨by assumption, by assumption⟩] | rw [if_neg (fun q => by first | exact absurd q.1 (by assumption) | exact absurd q.2 (by assumption))])
        · refine zV_iloadn hX dX4_owners_39 rfl ?_
          refine zV_aloadn hX dX4_owners_40 rfl ?_
          refine GF_X4_13 hX  dX4_owners_41 ?_
          refine zV_iload hX dX4_owners_44 rfl ?_
          refine AL_2 hX  ⟨by omega, by omega⟩ dX4_owners_46 (fun r46 => ?_)
          refine zV_cSS (n := 1) hX rfl hN (c_X4_bit (by have := wv (by omega); omega)) zw_co_yX4_bit zw_mX4_144 zw_in_RX4 zw_st_yX4_bit ⟨by decide, by decide, by decide +kernel⟩ rfl (by omega) (by decide) (by omega) (by omega) rfl (Nat.le_of_ble_eq_true rfl) dX4_owners_47 ?_ 
          refine zV_ior hX dX4_owners_50 ?_
          refine zV_istoren3 hX dX4_owners_51 ?_
          refine zV_iinc4 hX dX4_owners_52 ?_
          refine zV_goto (tgt := 11) hX dX4_owners_55 (by decide) ?_
          exact ih (n + 1) _ _ hu.symm (by omega) (by omega) (by first | exact zR_of _ | assumption) (by rw [h4]; simp only [xOw]; first | rw [if_pos ⟨by assumption, by assumption⟩] | rw [if_neg (fun q => by first | exact absurd q.1 (by assumption) | exact absurd q.2 (by assumption))])
set_option maxRecDepth 100000 in
set_option maxHeartbeats 4000000 in
theorem c_X4_owners {ad : Nat → Int → Nat} {x y : zSt} {c : Int} (hc : zR c) (hI : xI x) : zC yX4_owners cX4_owners 5 (some .int) 7 1 6 [.ref (ad 0 0), zI c] ad x y (zpSG (0 ≤ c ∧ c ≤ x 0 0 9 - 1) (xOw x c 12) x y) (zpX (fun E => (E = "java/lang/IndexOutOfBoundsException" ∧ ¬ (0 ≤ c ∧ c ≤ x 0 0 9 - 1))) x y) := by
  refine zC_ofV (by decide) (by intro v hv; simp only [List.mem_cons, List.not_mem_nil, or_false] at hv; rcases hv with rfl | rfl <;> rfl) (Nat.le_of_ble_eq_true rfl) (fun Γ hX hN hM hT => ?_)
  show zV Γ ad 0 0 x y 0 [some (.ref (ad 0 0)), some (zI c), none, none, none] []
  have hcm := hI.1
  refine zV_aloadn hX dX4_owners_0 rfl ?_
  refine zV_iloadn hX dX4_owners_1 rfl ?_
  refine zV_cVHX (n := 1) hX rfl hN 0 rfl rfl ⟨by decide, by decide⟩ (c_X4_cellAt (by omega) hI.1) zw_co_yX4_cellAt zw_mX4_125 zw_in_RX4 zw_im_yX4_cellAt zw_se_yX4_cellAt ⟨by decide, by decide, by decide +kernel⟩ rfl (by omega) (by decide) (by omega) (by omega) rfl (Nat.le_of_ble_eq_true rfl) dX4_owners_2 (fun g2 => ?_) (fun E2 x2 y2 p2 => ?_)
  · refine zV_astoren2 hX dX4_owners_5 ?_
    refine zV_iconst hX dX4_owners_6 ?_
    refine zV_istoren3 hX dX4_owners_7 ?_
    refine zV_iconst hX dX4_owners_8 ?_
    refine zV_istore4 hX dX4_owners_9 ?_
    exact lp_X4_owners (c := c) ⟨by omega, rfl, rfl, rfl⟩ ⟨by omega, by omega⟩ hI hX hN hM hT 13 0 0 0 rfl (by omega) (by omega) (by decide) rfl
  · obtain ⟨⟨rfl, q2⟩, rfl, rfl⟩ := p2
    exact zVX_out hX hT hM (by omega) (by omega) (⟨⟨rfl, by first | omega | assumption⟩, rfl, rfl⟩)
set_option maxRecDepth 100000 in
set_option maxHeartbeats 4000000 in
theorem lp_X4_dependents {ad : Nat → Int → Nat} {x y : zSt} {Γ : zG} {post : Option Value → zSt → zSt → Prop} {px : String → zSt → zSt → Prop} {v : Int} (hp : post (some (zI (xDp x v (x 0 0 9).toNat))) x y) (hv : zR v) (hI : xI x) (hX : zX Γ ad RX4 cX4_dependents 4) (hN : zN Γ 7 1 6) (hM : zM Γ ad 1 6 (some .int) (post) (px)) (hT : zNT Γ) : ∀ (f n : Nat) (i s : Int), i = n → i ≤ x 0 0 9 → (x 0 0 9).toNat - n < f → s = xDp x v n → zV Γ ad 1 6 x y 8 [some (.ref (ad 0 0)), some (zI v), some (zI s), some (zI i)] [] := by
  intro f
  induction f with
  | zero => intro n i s h1 h2 h3; omega
  | succ f ih =>
    intro n i s h1 h2 h3 h4
    subst h1
    have hu : ((n + 1 : Nat) : Int) = (n : Int) + 1 := by omega
    have i1 := hI.1
    have sb := xDp_b (x := x) (v := v) n
    refine zV_iloadn hX dX4_dependents_8 rfl ?_
    refine zV_aloadn hX dX4_dependents_9 rfl ?_
    refine GF_X4_91 hX  dX4_dependents_10 (fun r10 => ?_)
    refine zV_icmp_ge (tgt := 41) hX dX4_dependents_13 (by decide) (by omega) (by omega) (fun b13 => ?_) (fun b13 => ?_)
    · obtain rfl : n = (x 0 0 9).toNat := by omega
      subst h4
      refine zV_iloadn hX dX4_dependents_41 rfl ?_
      exact zV_iret hX hM (by omega) (by omega) rfl dX4_dependents_42 (hp)
    · refine zV_aloadn hX dX4_dependents_16 rfl ?_
      refine GF_X4_24 hX  dX4_dependents_17 ?_
      refine zV_iloadn hX dX4_dependents_20 rfl ?_
      refine AL_5 hX  ⟨by omega, by omega⟩ dX4_dependents_21 ?_
      refine GF_X4_122 hX ⟨by omega, by omega⟩ dX4_dependents_22 (fun r22 => ?_)
      refine zV_iloadn hX dX4_dependents_25 rfl ?_
      refine zV_cSS (n := 2) hX rfl hN (c_X4_hasBit (by omega) ) zw_co_yX4_hasBit zw_mX4_189 zw_in_RX4 zw_st_yX4_hasBit ⟨by decide, by decide, by decide +kernel⟩ rfl (by omega) (by decide) (by omega) (by omega) rfl (Nat.le_of_ble_eq_true rfl) dX4_dependents_26 ?_ 
      refine zV_ifeq_b (tgt := 35) hX dX4_dependents_29 (by decide) (fun b29 => ?_) (fun b29 => ?_)
      · refine zV_iinc3 hX dX4_dependents_35 ?_
        refine zV_goto (tgt := 8) hX dX4_dependents_38 (by decide) ?_
        exact ih (n + 1) _ _ hu.symm (by omega) (by omega) (by rw [h4]; simp only [xDp]; first | rw [if_pos (by assumption)] | rw [if_neg (by assumption)])
      · refine zV_iinc2 hX dX4_dependents_32 ?_
        refine zV_iinc3 hX dX4_dependents_35 ?_
        refine zV_goto (tgt := 8) hX dX4_dependents_38 (by decide) ?_
        exact ih (n + 1) _ _ hu.symm (by omega) (by omega) (by rw [h4]; simp only [xDp]; first | rw [if_pos (by assumption)] | rw [if_neg (by assumption)])
set_option maxRecDepth 100000 in
set_option maxHeartbeats 4000000 in
theorem c_X4_dependents {ad : Nat → Int → Nat} {x y : zSt} {v : Int} (hv : zR v) (hI : xI x) : zC yX4_dependents cX4_dependents 4 (some .int) 7 1 6 [.ref (ad 0 0), zI v] ad x y (zpSG (0 ≤ v ∧ v ≤ 11) (xDp x v (x 0 0 9).toNat) x y) (zpX (fun E => (E = "java/lang/IllegalArgumentException" ∧ ¬ (0 ≤ v ∧ v ≤ 11))) x y) := by
  refine zC_ofV (by decide) (by intro v hv; simp only [List.mem_cons, List.not_mem_nil, or_false] at hv; rcases hv with rfl | rfl <;> rfl) (Nat.le_of_ble_eq_true rfl) (fun Γ hX hN hM hT => ?_)
  show zV Γ ad 0 0 x y 0 [some (.ref (ad 0 0)), some (zI v), none, none] []
  have hcm := hI.1
  refine zV_iloadn hX dX4_dependents_0 rfl ?_
  refine zV_cSGX (n := 1) hX rfl hN (c_X4_checkVariable (by omega) ) zw_co_yX4_checkVariable zw_mX4_75 zw_in_RX4 zw_st_yX4_checkVariable ⟨by decide, by decide, by decide +kernel⟩ rfl (by omega) (by decide) (by omega) (by omega) rfl (Nat.le_of_ble_eq_true rfl) dX4_dependents_1 (fun g1 => ?_) (fun E1 x1 y1 p1 => ?_)
  · refine zV_iconst hX dX4_dependents_4 ?_
    refine zV_istoren2 hX dX4_dependents_5 ?_
    refine zV_iconst hX dX4_dependents_6 ?_
    refine zV_istoren3 hX dX4_dependents_7 ?_
    exact lp_X4_dependents (v := v) ⟨by omega, rfl, rfl, rfl⟩ hv hI hX hN hM hT ((x 0 0 9).toNat + 1) 0 0 0 rfl (by omega) (by omega) rfl
  · obtain ⟨⟨rfl, q1⟩, rfl, rfl⟩ := p1
    exact zVX_out hX hT hM (by omega) (by omega) (⟨⟨rfl, by first | omega | assumption⟩, rfl, rfl⟩)
