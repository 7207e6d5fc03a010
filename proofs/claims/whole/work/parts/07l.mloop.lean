set_option maxRecDepth 100000 in
set_option maxHeartbeats 4000000 in
theorem lp_X5_allFresh {ad : Nat → Int → Nat} {x y : zSt} {Γ : zG} (hI : mI y) (hX : zX Γ ad RX5 cX5_allFresh 3) (hN : zN Γ 25 0 0) (hM : zM Γ ad 0 0 (some .int) (zpS (mNf y (y 20 0 5).toNat) x y) zF) (hT : zNT Γ) : ∀ (f n : Nat) (i s : Int), i = n → i ≤ y 20 0 5 → (y 20 0 5).toNat - n < f → s = mNf y n → zV Γ ad 0 0 x y 4 [some (.ref (ad 20 0)), some (zI s), some (zI i)] [] := by
  intro f
  induction f with
  | zero => intro n i s h1 h2 h3; omega
  | succ f ih =>
    intro n i s h1 h2 h3 h4
    subst h1
    have hu : ((n + 1 : Nat) : Int) = (n : Int) + 1 := by omega
    have n5 := hI.1.1
    have sb := mNf_b (y := y) n
    refine zV_iloadn hX dX5_allFresh_4 rfl ?_
    refine zV_aloadn hX dX5_allFresh_5 rfl ?_
    refine GF_X5_116 hX  dX5_allFresh_6 (fun r6 => ?_)
    refine zV_icmp_ge (tgt := 34) hX dX5_allFresh_9 (by decide) (by omega) (by omega) (fun b9 => ?_) (fun b9 => ?_)
    · obtain rfl : n = (y 20 0 5).toNat := by omega
      subst h4
      refine zV_iloadn hX dX5_allFresh_34 rfl ?_
      exact zV_iret hX hM (by omega) (by omega) rfl dX5_allFresh_35 (zpS_i rfl)
    · refine zV_iloadn hX dX5_allFresh_12 rfl ?_
      refine zV_aloadn hX dX5_allFresh_13 rfl ?_
      refine zV_iloadn hX dX5_allFresh_14 rfl ?_
      refine zV_cVS (n := 1) hX rfl hN 20 rfl rfl ⟨by decide, by decide⟩ (c_X5_isFresh hI 11 n (by omega) (by omega) (by omega)) zw_co_yX5_isFresh zw_mX5_211 zw_in_RX5 zw_im_yX5_isFresh zw_se_yX5_isFresh ⟨by decide, by decide, by decide +kernel⟩ rfl (by omega) (by decide) (by omega) (by omega) rfl (Nat.le_of_ble_eq_true rfl) dX5_allFresh_15 ?_ 
      refine zV_ifeq_b (tgt := 25) hX dX5_allFresh_18 (by decide) (fun b18 => ?_) (fun b18 => ?_)
      · refine zV_iconst hX dX5_allFresh_25 ?_
        refine zV_iadd hX dX5_allFresh_26 ?_
        refine zV_istoren1 hX dX5_allFresh_27 ?_
        refine zV_iinc2 hX dX5_allFresh_28 ?_
        refine zV_goto (tgt := 4) hX dX5_allFresh_31 (by decide) ?_
        exact ih (n + 1) _ _ hu.symm (by omega) (by omega) (by rw [h4]; simp only [mNf]; first | rw [if_pos (by assumption)] | rw [if_neg (by assumption)])
      · refine zV_iconst hX dX5_allFresh_21 ?_
        refine zV_goto (tgt := 26) hX dX5_allFresh_22 (by decide) ?_
        refine zV_iadd hX dX5_allFresh_26 ?_
        refine zV_istoren1 hX dX5_allFresh_27 ?_
        refine zV_iinc2 hX dX5_allFresh_28 ?_
        refine zV_goto (tgt := 4) hX dX5_allFresh_31 (by decide) ?_
        exact ih (n + 1) _ _ hu.symm (by omega) (by omega) (by rw [h4]; simp only [mNf]; first | rw [if_pos (by assumption)] | rw [if_neg (by assumption)])
set_option maxRecDepth 100000 in
set_option maxHeartbeats 4000000 in
theorem c_X5_allFresh {ad : Nat → Int → Nat} {x y : zSt} (hI : mI y) : zC yX5_allFresh cX5_allFresh 3 (some .int) 25 0 0 [.ref (ad 20 0)] ad x y (zpS (mNf y (y 20 0 5).toNat) x y) (zF) := by
  refine zC_ofV (by decide) (by intro v hv; simp only [List.mem_cons, List.not_mem_nil, or_false] at hv; subst hv; rfl) (Nat.le_of_ble_eq_true rfl) (fun Γ hX hN hM hT => ?_)
  show zV Γ ad 0 0 x y 0 [some (.ref (ad 20 0)), none, none] []
  have n5 := hI.1.1
  refine zV_iconst hX dX5_allFresh_0 ?_
  refine zV_istoren1 hX dX5_allFresh_1 ?_
  refine zV_iconst hX dX5_allFresh_2 ?_
  refine zV_istoren2 hX dX5_allFresh_3 ?_
  exact lp_X5_allFresh hI hX hN hM hT ((y 20 0 5).toNat + 1) 0 0 0 rfl (by omega) (by omega) rfl
set_option maxRecDepth 100000 in
set_option maxHeartbeats 4000000 in
theorem c_X5_fresh {ad : Nat → Int → Nat} {x y : zSt} (hI : mI y) : zC yX5_fresh cX5_fresh 1 (some .int) 26 0 0 [.ref (ad 20 0)] ad x y (zpS (mNf y (y 20 0 5).toNat) x (mCod y 0)) (zF) := by
  refine zC_ofV (by decide) (by intro v hv; simp only [List.mem_cons, List.not_mem_nil, or_false] at hv; subst hv; rfl) (Nat.le_of_ble_eq_true rfl) (fun Γ hX hN hM hT => ?_)
  show zV Γ ad 0 0 x y 0 [some (.ref (ad 20 0))] []
  have n5 := hI.1.1
  have sb := mNf_b (y := y) (y 20 0 5).toNat
  refine zV_aloadn hX dX5_fresh_0 rfl ?_
  refine zV_aloadn hX dX5_fresh_1 rfl ?_
  refine zV_cVS (n := 0) hX rfl hN 20 rfl rfl ⟨by decide, by decide⟩ (c_X5_allFresh hI) zw_co_yX5_allFresh zw_mX5_214 zw_in_RX5 zw_im_yX5_allFresh zw_se_yX5_allFresh ⟨by decide, by decide, by decide +kernel⟩ rfl (by omega) (by decide) (by omega) (by omega) rfl (Nat.le_of_ble_eq_true rfl) dX5_fresh_2 ?_ 
  refine zV_cVS (n := 1) hX rfl hN 20 rfl rfl ⟨by decide, by decide⟩ (c_X5_tells (by omega) ) zw_co_yX5_tells zw_mX5_143 zw_in_RX5 zw_im_yX5_tells zw_se_yX5_tells ⟨by decide, by decide, by decide +kernel⟩ rfl (by omega) (by decide) (by omega) (by omega) rfl (Nat.le_of_ble_eq_true rfl) dX5_fresh_5 ?_ 
  exact zV_iret hX hM (by omega) (by omega) rfl dX5_fresh_8 (zpS_j rfl rfl rfl)
set_option maxRecDepth 100000 in
set_option maxHeartbeats 4000000 in
theorem lp_X5_owners {ad : Nat → Int → Nat} {x y : zSt} {Γ : zG} {post : Option Value → zSt → zSt → Prop} {c : Int} (hp : post (some (zI (mOw y c 12))) x y) (hc : 0 ≤ c ∧ c < y 20 0 5) (hI : mI y) (hX : zX Γ ad RX5 cX5_owners 4) (hN : zN Γ 26 0 0) (hM : zM Γ ad 0 0 (some .int) (post) zF) (hT : zNT Γ) : ∀ (f n : Nat) (i s : Int), i = n → i ≤ 12 → 12 - n < f → zR s → s = mOw y c n → zV Γ ad 0 0 x y 14 [some (.ref (ad 20 0)), some (zI c), some (zI s), some (zI i)] [] := by
  intro f
  induction f with
  | zero => intro n i s h1 h2 h3; omega
  | succ f ih =>
    intro n i s h1 h2 h3 h5 h4
    subst h1
    have hu : ((n + 1 : Nat) : Int) = (n : Int) + 1 := by omega
    have n5 := hI.1.1
    have w : (n : Int) ≤ 11 → _ := fun g => hI.2.1 n (by omega) g
    refine zV_iloadn hX dX5_owners_14 rfl ?_
    refine zV_bipush hX dX5_owners_15 (by decide) ?_
    refine zV_icmp_ge (tgt := 55) hX dX5_owners_17 (by decide) (by omega) (by omega) (fun b17 => ?_) (fun b17 => ?_)
    · obtain rfl : n = 12 := by omega
      subst h4
      refine zV_iloadn hX dX5_owners_55 rfl ?_
      exact zV_iret hX hM (by omega) (by omega) rfl dX5_owners_56 (hp)
    · refine zV_aloadn hX dX5_owners_20 rfl ?_
      refine GF_X5_7 hX  dX5_owners_21 ?_
      refine zV_iloadn hX dX5_owners_24 rfl ?_
      refine AL_21 hX  ⟨by omega, by omega⟩ dX5_owners_25 (fun r25 => ?_)
      refine zV_if_eq (tgt := 49) hX dX5_owners_26 (by decide) (by omega) (fun b26 => ?_) (fun b26 => ?_)
      · refine zV_iinc3 hX dX5_owners_49 ?_
        refine zV_goto (tgt := 14) hX dX5_owners_52 (by decide) ?_
        exact ih (n + 1) _ _ hu.symm (by omega) (by omega) (by first | exact zR_of _ | assumption) (by rw [h4]; simp only [mOw]; first | rw [if_pos ⟨by omega, by assumption⟩] | rw [if_neg (fun q => by first | exact absurd q.1 (by omega) | exact absurd q.2 (by assumption))])
      · refine zV_aloadn hX dX5_owners_29 rfl ?_
        refine zV_iloadn hX dX5_owners_30 rfl ?_
        refine zV_iloadn hX dX5_owners_31 rfl ?_
        refine zV_cVS (n := 2) hX rfl hN 20 rfl rfl ⟨by decide, by decide⟩ (c_X5_isOn (y := y) (by omega) hI 11 c (by omega) (by omega) (by omega)) zw_co_yX5_isOn zw_mX5_224 zw_in_RX5 zw_im_yX5_isOn zw_se_yX5_isOn ⟨by decide, by decide, by decide +kernel⟩ rfl (by omega) (by decide) (by omega) (by omega) rfl (Nat.le_of_ble_eq_true rfl) dX5_owners_32 ?_ 
        refine zV_ifeq_b (tgt := 49) hX dX5_owners_35 (by decide) (fun b35 => ?_) (fun b35 => ?_)
        · refine zV_iinc3 hX dX5_owners_49 ?_
          refine zV_goto (tgt := 14) hX dX5_owners_52 (by decide) ?_
          exact ih (n + 1) _ _ hu.symm (by omega) (by omega) (by first | exact zR_of _ | assumption) (by rw [h4]; simp only [mOw]; first | rw [if_pos ⟨by omega, by assumption⟩] | rw [if_neg (fun q => by first | exact absurd q.1 (by omega) | exact absurd q.2 (by assumption))])
        · refine zV_iloadn hX dX5_owners_38 rfl ?_
          refine zV_iconst hX dX5_owners_39 ?_
          refine zV_aloadn hX dX5_owners_40 rfl ?_
          refine GF_X5_13 hX  dX5_owners_41 ?_
          refine zV_iloadn hX dX5_owners_44 rfl ?_
          refine AL_22 hX  ⟨by omega, by omega⟩ dX5_owners_45 (fun r45 => ?_)
          refine zV_ishl hX dX5_owners_46 ?_
          refine zV_ior hX dX5_owners_47 ?_
          refine zV_istoren2 hX dX5_owners_48 ?_
          refine zV_iinc3 hX dX5_owners_49 ?_
          refine zV_goto (tgt := 14) hX dX5_owners_52 (by decide) ?_
          exact ih (n + 1) _ _ hu.symm (by omega) (by omega) (by first | exact zR_of _ | assumption) (by rw [h4]; simp only [mOw]; first | rw [if_pos ⟨by omega, by assumption⟩] | rw [if_neg (fun q => by first | exact absurd q.1 (by omega) | exact absurd q.2 (by assumption))])
set_option maxRecDepth 100000 in
set_option maxHeartbeats 4000000 in
theorem c_X5_owners {ad : Nat → Int → Nat} {x y : zSt} {c : Int} (hc : zR c) (hI : mI y) : zC yX5_owners cX5_owners 4 (some .int) 26 0 0 [.ref (ad 20 0), zI c] ad x y (fun vv x1 y1 => x1 = x ∧ ((¬ (0 ≤ c ∧ c ≤ y 20 0 5 - 1) ∧ vv = some (zI 0) ∧ y1 = mCod y 1) ∨ ((0 ≤ c ∧ c ≤ y 20 0 5 - 1) ∧ vv = some (zI (mOw (mCod y 0) c 12)) ∧ y1 = mCod y 0))) (zF) := by
  refine zC_ofV (by decide) (by intro v hv; simp only [List.mem_cons, List.not_mem_nil, or_false] at hv; rcases hv with rfl | rfl <;> rfl) (Nat.le_of_ble_eq_true rfl) (fun Γ hX hN hM hT => ?_)
  show zV Γ ad 0 0 x y 0 [some (.ref (ad 20 0)), some (zI c), none, none] []
  have n5 := hI.1.1
  refine zV_aloadn hX dX5_owners_0 rfl ?_
  refine zV_iloadn hX dX5_owners_1 rfl ?_
  refine zV_cVS (n := 1) hX rfl hN 20 rfl rfl ⟨by decide, by decide⟩ (c_X5_isNoCell (by omega) hI) zw_co_yX5_isNoCell zw_mX5_140 zw_in_RX5 zw_im_yX5_isNoCell zw_se_yX5_isNoCell ⟨by decide, by decide, by decide +kernel⟩ rfl (by omega) (by decide) (by omega) (by omega) rfl (Nat.le_of_ble_eq_true rfl) dX5_owners_2 ?_ 
  refine zV_ifeq_b (tgt := 10) hX dX5_owners_5 (by decide) (fun b5 => ?_) (fun b5 => ?_)
  · rw [if_pos (by omega)]
    refine zV_iconst hX dX5_owners_10 ?_
    refine zV_istoren2 hX dX5_owners_11 ?_
    refine zV_iconst hX dX5_owners_12 ?_
    refine zV_istoren3 hX dX5_owners_13 ?_
    exact lp_X5_owners (y := mCod y 0) (c := c) ⟨rfl, Or.inr ⟨by omega, rfl, rfl⟩⟩ ⟨by omega, by rw [mCod_j (by decide)]; omega⟩ (mI_cod hI) hX hN hM hT 13 0 0 0 rfl (by omega) (by omega) (by decide) rfl
  · refine zV_iconst hX dX5_owners_8 ?_
    exact zV_iret hX hM (by omega) (by omega) rfl dX5_owners_9 (⟨rfl, Or.inl ⟨by omega, rfl, by rw [if_neg (by omega)]⟩⟩)
set_option maxRecDepth 100000 in
set_option maxHeartbeats 4000000 in
theorem lp_X5_dependents {ad : Nat → Int → Nat} {x y : zSt} {Γ : zG} {post : Option Value → zSt → zSt → Prop} {v : Int} (hv : zR v) (hp : post (some (zI (mDp y v (y 20 0 5).toNat))) x y) (hI : mI y) (hX : zX Γ ad RX5 cX5_dependents 4) (hN : zN Γ 26 0 0) (hM : zM Γ ad 0 0 (some .int) (post) zF) (hT : zNT Γ) : ∀ (f n : Nat) (i s : Int), i = n → i ≤ y 20 0 5 → (y 20 0 5).toNat - n < f → s = mDp y v n → zV Γ ad 0 0 x y 25 [some (.ref (ad 20 0)), some (zI v), some (zI s), some (zI i)] [] := by
  intro f
  induction f with
  | zero => intro n i s h1 h2 h3; omega
  | succ f ih =>
    intro n i s h1 h2 h3 h4
    subst h1
    have hu : ((n + 1 : Nat) : Int) = (n : Int) + 1 := by omega
    have n5 := hI.1.1
    have sb := mDp_b (y := y) (v := v) n
    refine zV_iloadn hX dX5_dependents_25 rfl ?_
    refine zV_aloadn hX dX5_dependents_26 rfl ?_
    refine GF_X5_116 hX  dX5_dependents_27 (fun r27 => ?_)
    refine zV_icmp_ge (tgt := 56) hX dX5_dependents_30 (by decide) (by omega) (by omega) (fun b30 => ?_) (fun b30 => ?_)
    · obtain rfl : n = (y 20 0 5).toNat := by omega
      subst h4
      refine zV_iloadn hX dX5_dependents_56 rfl ?_
      exact zV_iret hX hM (by omega) (by omega) rfl dX5_dependents_57 (hp)
    · refine zV_iloadn hX dX5_dependents_33 rfl ?_
      refine zV_aloadn hX dX5_dependents_34 rfl ?_
      refine zV_iloadn hX dX5_dependents_35 rfl ?_
      refine zV_iloadn hX dX5_dependents_36 rfl ?_
      refine zV_cVS (n := 2) hX rfl hN 20 rfl rfl ⟨by decide, by decide⟩ (c_X5_isOn (y := y) hv hI 11 n (by omega) (by omega) (by omega)) zw_co_yX5_isOn zw_mX5_224 zw_in_RX5 zw_im_yX5_isOn zw_se_yX5_isOn ⟨by decide, by decide, by decide +kernel⟩ rfl (by omega) (by decide) (by omega) (by omega) rfl (Nat.le_of_ble_eq_true rfl) dX5_dependents_37 ?_ 
      refine zV_ifeq_b (tgt := 47) hX dX5_dependents_40 (by decide) (fun b40 => ?_) (fun b40 => ?_)
      · refine zV_iconst hX dX5_dependents_47 ?_
        refine zV_iadd hX dX5_dependents_48 ?_
        refine zV_istoren2 hX dX5_dependents_49 ?_
        refine zV_iinc3 hX dX5_dependents_50 ?_
        refine zV_goto (tgt := 25) hX dX5_dependents_53 (by decide) ?_
        exact ih (n + 1) _ _ hu.symm (by omega) (by omega) (by rw [h4]; simp only [mDp]; first | rw [if_pos (by assumption)] | rw [if_neg (by assumption)])
      · refine zV_iconst hX dX5_dependents_43 ?_
        refine zV_goto (tgt := 48) hX dX5_dependents_44 (by decide) ?_
        refine zV_iadd hX dX5_dependents_48 ?_
        refine zV_istoren2 hX dX5_dependents_49 ?_
        refine zV_iinc3 hX dX5_dependents_50 ?_
        refine zV_goto (tgt := 25) hX dX5_dependents_53 (by decide) ?_
        exact ih (n + 1) _ _ hu.symm (by omega) (by omega) (by rw [h4]; simp only [mDp]; first | rw [if_pos (by assumption)] | rw [if_neg (by assumption)])
set_option maxRecDepth 100000 in
set_option maxHeartbeats 4000000 in
theorem c_X5_dependents {ad : Nat → Int → Nat} {x y : zSt} {v : Int} (hv : zR v) (hI : mI y) : zC yX5_dependents cX5_dependents 4 (some .int) 26 0 0 [.ref (ad 20 0), zI v] ad x y (fun vv x1 y1 => x1 = x ∧ ((¬ (0 ≤ v ∧ v ≤ 11) ∧ vv = some (zI 0) ∧ y1 = mCod y 1) ∨ ((0 ≤ v ∧ v ≤ 11) ∧ vv = some (zI (mDp (mCod y 0) v (y 20 0 5).toNat)) ∧ y1 = mCod y 0))) (zF) := by
  refine zC_ofV (by decide) (by intro v hv; simp only [List.mem_cons, List.not_mem_nil, or_false] at hv; rcases hv with rfl | rfl <;> rfl) (Nat.le_of_ble_eq_true rfl) (fun Γ hX hN hM hT => ?_)
  show zV Γ ad 0 0 x y 0 [some (.ref (ad 20 0)), some (zI v), none, none] []
  have n5 := hI.1.1
  refine zV_aloadn hX dX5_dependents_0 rfl ?_
  refine zV_iloadn hX dX5_dependents_1 rfl ?_
  refine zV_cSS (n := 1) hX rfl hN (c_X5_isNoVariable (by omega) ) zw_co_yX5_isNoVariable zw_mX5_123 zw_in_RX5 zw_st_yX5_isNoVariable ⟨by decide, by decide, by decide +kernel⟩ rfl (by omega) (by decide) (by omega) (by omega) rfl (Nat.le_of_ble_eq_true rfl) dX5_dependents_2 ?_ 
  refine zV_ifeq_b (tgt := 12) hX dX5_dependents_5 (by decide) (fun b5 => ?_) (fun b5 => ?_)
  · refine zV_iconst hX dX5_dependents_12 ?_
    refine zV_cVS (n := 1) hX rfl hN 20 rfl rfl ⟨by decide, by decide⟩ (c_X5_fails (by decide)) zw_co_yX5_fails zw_mX5_119 zw_in_RX5 zw_im_yX5_fails zw_se_yX5_fails ⟨by decide, by decide, by decide +kernel⟩ rfl (by omega) (by decide) (by omega) (by omega) rfl (Nat.le_of_ble_eq_true rfl) dX5_dependents_13 ?_ 
    refine zV_ifeq_b (tgt := 21) hX dX5_dependents_16 (by decide) (fun b16 => ?_) (fun b => by exfalso; omega)
    refine zV_iconst hX dX5_dependents_21 ?_
    refine zV_istoren2 hX dX5_dependents_22 ?_
    refine zV_iconst hX dX5_dependents_23 ?_
    refine zV_istoren3 hX dX5_dependents_24 ?_
    exact lp_X5_dependents (y := mCod y 0) (v := v) hv ⟨rfl, Or.inr ⟨by omega, by rw [mCod_j (by decide)], rfl⟩⟩ (mI_cod hI) hX hN hM hT ((y 20 0 5).toNat + 1) 0 0 0 rfl (by rw [mCod_j (by decide)]; omega) (by rw [mCod_j (by decide)]; omega) rfl
  · refine zV_iconst hX dX5_dependents_8 ?_
    refine zV_goto (tgt := 13) hX dX5_dependents_9 (by decide) ?_
    refine zV_cVS (n := 1) hX rfl hN 20 rfl rfl ⟨by decide, by decide⟩ (c_X5_fails (by decide)) zw_co_yX5_fails zw_mX5_119 zw_in_RX5 zw_im_yX5_fails zw_se_yX5_fails ⟨by decide, by decide, by decide +kernel⟩ rfl (by omega) (by decide) (by omega) (by omega) rfl (Nat.le_of_ble_eq_true rfl) dX5_dependents_13 ?_ 
    refine zV_ifeq_b (tgt := 21) hX dX5_dependents_16 (by decide) (fun b => by exfalso; omega) (fun b16 => ?_)
    refine zV_iconst hX dX5_dependents_19 ?_
    exact zV_iret hX hM (by omega) (by omega) rfl dX5_dependents_20 (⟨rfl, Or.inl ⟨by omega, rfl, rfl⟩⟩)
set_option maxRecDepth 100000 in
set_option maxHeartbeats 4000000 in
theorem lp_X5_runAll {ad : Nat → Int → Nat} {x y : zSt} {Γ : zG} {post : Option Value → zSt → zSt → Prop} (hp : post (some (zI (mNf (mRa y (y 20 0 5).toNat) (y 20 0 5).toNat))) x (mRa y (y 20 0 5).toNat)) (hn : 0 ≤ y 20 0 5 ∧ y 20 0 5 ≤ 11) (hS0 : mOkR y) (hX : zX Γ ad RX5 cX5_runAll 2) (hN : zN Γ 26 0 0) (hM : zM Γ ad 0 0 (some .int) (post) zF) (hT : zNT Γ) : ∀ (f n : Nat) (i : Int), i = n → i ≤ y 20 0 5 → (y 20 0 5).toNat - n < f → zV Γ ad 0 0 x (mRa y n) 7 [some (.ref (ad 20 0)), some (zI i)] [] := by
  intro f
  induction f with
  | zero => intro n i h1 h2 h3; omega
  | succ f ih =>
    intro n i h1 h2 h3
    subst h1
    have hu : ((n + 1 : Nat) : Int) = (n : Int) + 1 := by omega
    have hS := hS0 n h2
    refine zV_iloadn hX dX5_runAll_7 rfl ?_
    refine zV_aloadn hX dX5_runAll_8 rfl ?_
    refine GF_X5_116 hX  dX5_runAll_9 (fun r9 => ?_)
    refine zV_icmp_ge (tgt := 35) hX dX5_runAll_12 (by decide) (by omega) (by omega) (fun b12 => ?_) (fun b12 => ?_)
    · obtain rfl : n = (y 20 0 5).toNat := by omega
      refine zV_aloadn hX dX5_runAll_35 rfl ?_
      refine zV_cVS (n := 0) hX rfl hN 20 rfl rfl ⟨by decide, by decide⟩ (c_X5_allFresh (y := mRa y (y 20 0 5).toNat) hS.1) zw_co_yX5_allFresh zw_mX5_214 zw_in_RX5 zw_im_yX5_allFresh zw_se_yX5_allFresh ⟨by decide, by decide, by decide +kernel⟩ rfl (by omega) (by decide) (by omega) (by omega) rfl (Nat.le_of_ble_eq_true rfl) dX5_runAll_36 ?_ 
      exact zV_iret hX hM (by omega) (by omega) rfl dX5_runAll_39 (by rw [hS.2.2]; exact hp)
    · refine zV_aloadn hX dX5_runAll_15 rfl ?_
      refine zV_iloadn hX dX5_runAll_16 rfl ?_
      refine zV_cVS (n := 1) hX rfl hN 20 rfl rfl ⟨by decide, by decide⟩ (c_X5_isFresh hS.1 11 n (by omega) (by omega) (by omega)) zw_co_yX5_isFresh zw_mX5_211 zw_in_RX5 zw_im_yX5_isFresh zw_se_yX5_isFresh ⟨by decide, by decide, by decide +kernel⟩ rfl (by omega) (by decide) (by omega) (by omega) rfl (Nat.le_of_ble_eq_true rfl) dX5_runAll_17 ?_ 
      refine zV_ifne_b (tgt := 29) hX dX5_runAll_20 (by decide) (fun b20 => ?_) (fun b20 => ?_)
      · refine zV_iinc1 hX dX5_runAll_29 ?_
        refine zV_goto (tgt := 7) hX dX5_runAll_32 (by decide) ?_
        have q := ih (n + 1) _ hu.symm (by omega) (by omega)
        simp only [mRa] at q
        first | (rw [if_pos (by assumption)] at q; exact q) | (rw [if_neg (by assumption)] at q; exact q)
      · refine zV_aloadn hX dX5_runAll_23 rfl ?_
        refine zV_iloadn hX dX5_runAll_24 rfl ?_
        refine zV_cVS (n := 1) hX rfl hN 20 rfl rfl ⟨by decide, by decide⟩ (c_X5_does (y := mRa y n) (c := n) ⟨by omega, by omega⟩ hS.1 (hS.2.1 (by have := hS.2.2; omega))) zw_co_yX5_does zw_mX5_207 zw_in_RX5 zw_im_yX5_does zw_se_yX5_does ⟨by decide, by decide, by decide +kernel⟩ rfl (by omega) (by decide) (by omega) (by omega) rfl (Nat.le_of_ble_eq_true rfl) dX5_runAll_25 ?_ 
        refine zV_pop hX dX5_runAll_28 rfl ?_
        refine zV_iinc1 hX dX5_runAll_29 ?_
        refine zV_goto (tgt := 7) hX dX5_runAll_32 (by decide) ?_
        have q := ih (n + 1) _ hu.symm (by omega) (by omega)
        simp only [mRa] at q
        first | (rw [if_pos (by assumption)] at q; exact q) | (rw [if_neg (by assumption)] at q; exact q)
set_option maxRecDepth 100000 in
set_option maxHeartbeats 4000000 in
theorem c_X5_runAll {ad : Nat → Int → Nat} {x y : zSt} (hI : mI y) (hS : mOkR (mCod y 0)) : zC yX5_runAll cX5_runAll 2 (some .int) 26 0 0 [.ref (ad 20 0)] ad x y (zpS (mNf (mRa (mCod y 0) (y 20 0 5).toNat) (y 20 0 5).toNat) x (mRa (mCod y 0) (y 20 0 5).toNat)) (zF) := by
  refine zC_ofV (by decide) (by intro v hv; simp only [List.mem_cons, List.not_mem_nil, or_false] at hv; subst hv; rfl) (Nat.le_of_ble_eq_true rfl) (fun Γ hX hN hM hT => ?_)
  show zV Γ ad 0 0 x y 0 [some (.ref (ad 20 0)), none] []
  have n5 := hI.1.1
  refine zV_aloadn hX dX5_runAll_0 rfl ?_
  refine zV_iconst hX dX5_runAll_1 ?_
  refine PF_X5_108 hX  (by omega) dX5_runAll_2 ?_
  refine zV_iconst hX dX5_runAll_5 ?_
  refine zV_istoren1 hX dX5_runAll_6 ?_
  exact lp_X5_runAll (y := mCod y 0) (by rw [mCod_j (by decide)]; exact ⟨rfl, rfl, rfl⟩) (by rw [mCod_j (by decide)]; exact n5) hS hX hN hM hT ((y 20 0 5).toNat + 1) 0 0 rfl (by rw [mCod_j (by decide)]; omega) (by rw [mCod_j (by decide)]; omega)
set_option maxRecDepth 100000 in
set_option maxHeartbeats 4000000 in
theorem lp_X5_frees {ad : Nat → Int → Nat} {x y : zSt} {Γ : zG} (h30 : 0 ≤ y 20 0 30 ∧ y 20 0 30 ≤ 60) (h37 : zR (y 20 0 37)) (hX : zX Γ ad RX5 cX5_frees 3) (hN : zN Γ 1 0 0) (hM : zM Γ ad 0 0 none (zpV x (mFrs y)) zF) (hT : zNT Γ) : ∀ (f n : Nat) (i s : Int), i = n → i ≤ y 20 0 30 → (y 20 0 30).toNat - n < f → s = mFk y n → zV Γ ad 0 0 x (mFs y n) 4 [some (.ref (ad 20 0)), some (zI s), some (zI i)] [] := by
  intro f
  induction f with
  | zero => intro n i s h1 h2 h3; omega
  | succ f ih =>
    intro n i s h1 h2 h3 h4
    subst h1
    have hu : ((n + 1 : Nat) : Int) = (n : Int) + 1 := by omega
    have kb := mFk_b (y := y) n
    have e51 := mFs_r (y := y) (k := 51) (j := n) n (fun _ => by omega) 0
    have e52 := mFs_r (y := y) (k := 52) (j := n) n (fun _ => by omega) 0
    have e53 := mFs_r (y := y) (k := 53) (j := n) n (fun _ => by omega) 0
    have e30 := mFs_r (y := y) (k := 20) (j := 30) n (fun q => by omega) 0
    have e37 := mFs_r (y := y) (k := 20) (j := 37) n (fun q => by omega) 0
    refine zV_iloadn hX dX5_frees_4 rfl ?_
    refine zV_aloadn hX dX5_frees_5 rfl ?_
    refine GF_X5_168 hX  dX5_frees_6 (fun r6 => ?_)
    refine zV_icmp_ge (tgt := 73) hX dX5_frees_9 (by decide) (by omega) (by omega) (fun b9 => ?_) (fun b9 => ?_)
    · obtain rfl : n = (y 20 0 30).toNat := by omega
      subst h4
      refine zV_aloadn hX dX5_frees_73 rfl ?_
      refine zV_iloadn hX dX5_frees_74 rfl ?_
      refine PF_X5_168 hX  (by omega) dX5_frees_75 ?_
      exact zV_vret hX hM (by omega) (by omega) dX5_frees_78 (⟨rfl, rfl, rfl⟩)
    · refine zV_aloadn hX dX5_frees_12 rfl ?_
      refine GF_X5_99 hX  dX5_frees_13 ?_
      refine zV_iloadn hX dX5_frees_16 rfl ?_
      refine AL_53 hX  ⟨by omega, by omega⟩ dX5_frees_17 (fun r17 => ?_)
      refine zV_aloadn hX dX5_frees_18 rfl ?_
      refine GF_X5_177 hX  dX5_frees_19 (fun r19 => ?_)
      refine zV_icmp_gt (tgt := 28) hX dX5_frees_22 (by decide) (by omega) (by omega) (fun b22 => ?_) (fun b22 => ?_)
      · refine zV_aloadn hX dX5_frees_28 rfl ?_
        refine GF_X5_93 hX  dX5_frees_29 ?_
        refine zV_iloadn hX dX5_frees_32 rfl ?_
        refine zV_aloadn hX dX5_frees_33 rfl ?_
        refine GF_X5_93 hX  dX5_frees_34 ?_
        refine zV_iloadn hX dX5_frees_37 rfl ?_
        refine AL_51 hX  ⟨by omega, by omega⟩ dX5_frees_38 (fun r38 => ?_)
        skip
        refine AS_51 hX  ⟨by omega, by omega⟩ (by omega) dX5_frees_39 ?_
        refine zV_aloadn hX dX5_frees_40 rfl ?_
        refine GF_X5_96 hX  dX5_frees_41 ?_
        refine zV_iloadn hX dX5_frees_44 rfl ?_
        refine zV_aloadn hX dX5_frees_45 rfl ?_
        refine GF_X5_96 hX  dX5_frees_46 ?_
        refine zV_iloadn hX dX5_frees_49 rfl ?_
        refine AL_52 hX  ⟨by omega, by omega⟩ dX5_frees_50 (fun r50 => ?_)
        try simp only [mCod_k, mCod_j, zup_d, Nat.reduceEqDiff, Int.reduceEq, reduceCtorEq, not_false_eq_true, false_and, true_and, and_true, and_false, and_self, if_false, if_true, Int.reduceNeg] at r50 ⊢
        refine AS_52 hX  ⟨by omega, by omega⟩ (by omega) dX5_frees_51 ?_
        refine zV_aloadn hX dX5_frees_52 rfl ?_
        refine GF_X5_99 hX  dX5_frees_53 ?_
        refine zV_iloadn hX dX5_frees_56 rfl ?_
        refine zV_aloadn hX dX5_frees_57 rfl ?_
        refine GF_X5_99 hX  dX5_frees_58 ?_
        refine zV_iloadn hX dX5_frees_61 rfl ?_
        refine AL_53 hX  ⟨by omega, by omega⟩ dX5_frees_62 (fun r62 => ?_)
        try simp only [mCod_k, mCod_j, zup_d, Nat.reduceEqDiff, Int.reduceEq, reduceCtorEq, not_false_eq_true, false_and, true_and, and_true, and_false, and_self, if_false, if_true, Int.reduceNeg] at r62 ⊢
        refine AS_53 hX  ⟨by omega, by omega⟩ (by omega) dX5_frees_63 ?_
        refine zV_iinc1 hX dX5_frees_64 ?_
        refine zV_iinc2 hX dX5_frees_67 ?_
        refine zV_goto (tgt := 4) hX dX5_frees_70 (by decide) ?_
        have q := ih (n + 1) _ _ hu.symm (by omega) (by omega) rfl
        simp only [mFs, mFk] at q
        first | (have g : y 53 0 n ≤ y 20 0 37 := (by omega); simp only [if_pos g] at q; subst h4; exact q) | (have g : ¬ y 53 0 n ≤ y 20 0 37 := (by omega); simp only [if_neg g] at q; subst h4; rw [e51, e52, e53]; exact q)
      · refine zV_goto (tgt := 67) hX dX5_frees_25 (by decide) ?_
        refine zV_iinc2 hX dX5_frees_67 ?_
        refine zV_goto (tgt := 4) hX dX5_frees_70 (by decide) ?_
        have q := ih (n + 1) _ _ hu.symm (by omega) (by omega) rfl
        simp only [mFs, mFk] at q
        first | (have g : y 53 0 n ≤ y 20 0 37 := (by omega); simp only [if_pos g] at q; subst h4; exact q) | (have g : ¬ y 53 0 n ≤ y 20 0 37 := (by omega); simp only [if_neg g] at q; subst h4; rw [e51, e52, e53]; exact q)
set_option maxRecDepth 100000 in
set_option maxHeartbeats 4000000 in
theorem c_X5_frees {ad : Nat → Int → Nat} {x y : zSt} (h30 : 0 ≤ y 20 0 30 ∧ y 20 0 30 ≤ 60) (h37 : zR (y 20 0 37)) : zC yX5_frees cX5_frees 3 none 1 0 0 [.ref (ad 20 0)] ad x y (zpV x (mFrs y)) (zF) := by
  refine zC_ofV (by decide) (by intro v hv; simp only [List.mem_cons, List.not_mem_nil, or_false] at hv; subst hv; rfl) (Nat.le_of_ble_eq_true rfl) (fun Γ hX hN hM hT => ?_)
  show zV Γ ad 0 0 x y 0 [some (.ref (ad 20 0)), none, none] []
  refine zV_iconst hX dX5_frees_0 ?_
  refine zV_istoren1 hX dX5_frees_1 ?_
  refine zV_iconst hX dX5_frees_2 ?_
  refine zV_istoren2 hX dX5_frees_3 ?_
  exact lp_X5_frees h30 h37 hX hN hM hT ((y 20 0 30).toNat + 1) 0 0 0 rfl (by omega) (by omega) rfl
