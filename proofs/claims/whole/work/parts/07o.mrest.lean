set_option maxRecDepth 100000 in
set_option maxHeartbeats 4000000 in
theorem lp_X5_pass {ad : Nat → Int → Nat} {x y : zSt} {Γ : zG} {post : Option Value → zSt → zSt → Prop} {t : Int} (hp : post (some (zI (mPn y t.toNat))) x (mPs y t.toNat)) (ht : 1 ≤ t ∧ t ≤ 50) (hn : 0 ≤ y 20 0 5 ∧ y 20 0 5 ≤ 11) (hS0 : mOkP y t) (hX : zX Γ ad RX5 cX5_pass 4) (hN : zN Γ 27 0 0) (hM : zM Γ ad 0 0 (some .int) (post) zF) (hT : zNT Γ) : ∀ (f n : Nat) (i s : Int), i = n → i ≤ t → (t).toNat - n < f → s = mPn y n → 0 ≤ s ∧ s ≤ 11 * n → zV Γ ad 0 0 x (mPs y n) 44 [some (.ref (ad 20 0)), some (zI t), some (zI s), some (zI i)] [] := by
  intro f
  induction f with
  | zero => intro n i s h1 h2 h3; omega
  | succ f ih =>
    intro n i s h1 h2 h3 h4 h5
    subst h1
    have hu : ((n + 1 : Nat) : Int) = (n : Int) + 1 := by omega
    refine zV_iloadn hX dX5_pass_44 rfl ?_
    refine zV_iloadn hX dX5_pass_45 rfl ?_
    refine zV_icmp_ge (tgt := 62) hX dX5_pass_46 (by decide) (by omega) (by omega) (fun b46 => ?_) (fun b46 => ?_)
    · obtain rfl : n = t.toNat := by omega
      subst h4
      refine zV_iloadn hX dX5_pass_62 rfl ?_
      exact zV_iret hX hM (by omega) (by omega) rfl dX5_pass_63 (hp)
    · refine zV_iloadn hX dX5_pass_49 rfl ?_
      refine zV_aloadn hX dX5_pass_50 rfl ?_
      refine zV_cVS (n := 0) hX rfl hN 20 rfl rfl ⟨by decide, by decide⟩ (c_X5_ticks (y := mPs y n) (hS0 n (by omega)).1) zw_co_yX5_ticks zw_mX5_234 zw_in_RX5 zw_im_yX5_ticks zw_se_yX5_ticks ⟨by decide, by decide, by decide +kernel⟩ rfl (by omega) (by decide) (by omega) (by omega) rfl (Nat.le_of_ble_eq_true rfl) dX5_pass_51 ?_ 
      rw [(hS0 n (by omega)).2]
      have tb := mTn_b (y := mTk0 (mPs y n)) (y 20 0 5).toNat
      refine zV_iadd hX dX5_pass_54 ?_
      refine zV_istoren2 hX dX5_pass_55 ?_
      refine zV_iinc3 hX dX5_pass_56 ?_
      refine zV_goto (tgt := 44) hX dX5_pass_59 (by decide) ?_
      exact ih (n + 1) _ _ hu.symm (by omega) (by omega) (by rw [h4]; rfl) (by omega)
set_option maxRecDepth 100000 in
set_option maxHeartbeats 4000000 in
theorem c_X5_pass {ad : Nat → Int → Nat} {x y : zSt} {t : Int} (ht : zR t) (hI : mI y) (hS : (1 ≤ t ∧ t ≤ 50) → ¬ 5000 < y 20 0 37 + t → mOkP (mCod y 0) t) : zC yX5_pass cX5_pass 4 (some .int) 27 0 0 [.ref (ad 20 0), zI t] ad x y (fun vv x1 y1 => x1 = x ∧ ((¬ (1 ≤ t ∧ t ≤ 50) ∧ vv = some (zI 0) ∧ y1 = mCod y 1) ∨ (((1 ≤ t ∧ t ≤ 50) ∧ 5000 < y 20 0 37 + t) ∧ vv = some (zI 0) ∧ y1 = mCod y 2) ∨ (((1 ≤ t ∧ t ≤ 50) ∧ ¬ 5000 < y 20 0 37 + t) ∧ vv = some (zI (mPn (mCod y 0) t.toNat)) ∧ y1 = mPs (mCod y 0) t.toNat))) (zF) := by
  refine zC_ofV (by decide) (by intro v hv; simp only [List.mem_cons, List.not_mem_nil, or_false] at hv; rcases hv with rfl | rfl <;> rfl) (Nat.le_of_ble_eq_true rfl) (fun Γ hX hN hM hT => ?_)
  show zV Γ ad 0 0 x y 0 [some (.ref (ad 20 0)), some (zI t), none, none] []
  have n37 := hI.1.2.2.2.1
  have n5 := hI.1.1
  refine zV_aloadn hX dX5_pass_0 rfl ?_
  refine zV_iloadn hX dX5_pass_1 rfl ?_
  refine zV_iconst hX dX5_pass_2 ?_
  refine zV_bipush hX dX5_pass_3 (by decide) ?_
  refine zV_cSS (n := 3) hX rfl hN (c_X5_in (by omega) (by omega) (by omega) ) zw_co_yX5_in zw_mX5_112 zw_in_RX5 zw_st_yX5_in ⟨by decide, by decide, by decide +kernel⟩ rfl (by omega) (by decide) (by omega) (by omega) rfl (Nat.le_of_ble_eq_true rfl) dX5_pass_5 ?_ 
  refine zV_ifne_b (tgt := 15) hX dX5_pass_8 (by decide) (fun b8 => ?_) (fun b8 => ?_)
  · refine zV_aloadn hX dX5_pass_15 rfl ?_
    refine GF_X5_177 hX  dX5_pass_16 (fun r16 => ?_)
    refine zV_iloadn hX dX5_pass_19 rfl ?_
    refine zV_iadd hX dX5_pass_20 ?_
    refine zV_sipush hX dX5_pass_21 (by decide) ?_
    refine zV_icmp_le (tgt := 31) hX dX5_pass_24 (by decide) (by omega) (by omega) (fun b24 => ?_) (fun b24 => ?_)
    · refine zV_iconst hX dX5_pass_31 ?_
      refine zV_cVS (n := 1) hX rfl hN 20 rfl rfl ⟨by decide, by decide⟩ (c_X5_fails (by decide)) zw_co_yX5_fails zw_mX5_119 zw_in_RX5 zw_im_yX5_fails zw_se_yX5_fails ⟨by decide, by decide, by decide +kernel⟩ rfl (by omega) (by decide) (by omega) (by omega) rfl (Nat.le_of_ble_eq_true rfl) dX5_pass_32 ?_ 
      refine zV_ifeq_b (tgt := 40) hX dX5_pass_35 (by decide) (fun b35 => ?_) (fun b => by exfalso; omega)
      refine zV_iconst hX dX5_pass_40 ?_
      refine zV_istoren2 hX dX5_pass_41 ?_
      refine zV_iconst hX dX5_pass_42 ?_
      refine zV_istoren3 hX dX5_pass_43 ?_
      exact lp_X5_pass (y := mCod y 0) (t := t) ⟨rfl, Or.inr (Or.inr ⟨by omega, rfl, rfl⟩)⟩ (by omega) (by rw [mCod_j (by decide)]; exact n5) (hS (by omega) (by omega)) hX hN hM hT (t.toNat + 1) 0 0 0 rfl (by omega) (by omega) rfl (by omega)
    · refine zV_iconst hX dX5_pass_27 ?_
      refine zV_goto (tgt := 32) hX dX5_pass_28 (by decide) ?_
      refine zV_cVS (n := 1) hX rfl hN 20 rfl rfl ⟨by decide, by decide⟩ (c_X5_fails (by decide)) zw_co_yX5_fails zw_mX5_119 zw_in_RX5 zw_im_yX5_fails zw_se_yX5_fails ⟨by decide, by decide, by decide +kernel⟩ rfl (by omega) (by decide) (by omega) (by omega) rfl (Nat.le_of_ble_eq_true rfl) dX5_pass_32 ?_ 
      refine zV_ifeq_b (tgt := 40) hX dX5_pass_35 (by decide) (fun b => by exfalso; omega) (fun b35 => ?_)
      refine zV_iconst hX dX5_pass_38 ?_
      exact zV_iret hX hM (by omega) (by omega) rfl dX5_pass_39 (⟨rfl, by first | exact Or.inl ⟨by omega, rfl, rfl⟩ | exact Or.inr (Or.inl ⟨by omega, rfl, rfl⟩)⟩)
  · refine zV_iconst hX dX5_pass_11 ?_
    refine zV_goto (tgt := 32) hX dX5_pass_12 (by decide) ?_
    refine zV_cVS (n := 1) hX rfl hN 20 rfl rfl ⟨by decide, by decide⟩ (c_X5_fails (by decide)) zw_co_yX5_fails zw_mX5_119 zw_in_RX5 zw_im_yX5_fails zw_se_yX5_fails ⟨by decide, by decide, by decide +kernel⟩ rfl (by omega) (by decide) (by omega) (by omega) rfl (Nat.le_of_ble_eq_true rfl) dX5_pass_32 ?_ 
    refine zV_ifeq_b (tgt := 40) hX dX5_pass_35 (by decide) (fun b => by exfalso; omega) (fun b35 => ?_)
    refine zV_iconst hX dX5_pass_38 ?_
    exact zV_iret hX hM (by omega) (by omega) rfl dX5_pass_39 (⟨rfl, by first | exact Or.inl ⟨by omega, rfl, rfl⟩ | exact Or.inr (Or.inl ⟨by omega, rfl, rfl⟩)⟩)
set_option maxRecDepth 100000 in
set_option maxHeartbeats 4000000 in
theorem lp_X5_isSound2 {ad : Nat → Int → Nat} {x y : zSt} {Γ : zG} {post : Option Value → zSt → zSt → Prop} (hI : mI y) (hp : post (some (zI 1)) x y) (hS : mSnd y) (hX : zX Γ ad RX5 cX5_isSound 2) (hN : zN Γ 37 0 0) (hM : zM Γ ad 0 0 (some .boolean) (post) zF) (hT : zNT Γ) : ∀ (f n : Nat) (i : Int), i = n → i ≤ y 20 0 28 → (y 20 0 28).toNat - n < f → zV Γ ad 0 0 x y 52 [some (.ref (ad 20 0)), some (zI i)] [] := by
  intro f
  induction f with
  | zero => intro n i h1 h2 h3; omega
  | succ f ih =>
    intro n i h1 h2 h3
    subst h1
    have hu : ((n + 1 : Nat) : Int) = (n : Int) + 1 := by omega
    have n28 := hI.1.2.1
    have lb : (n : Int) ≤ 2 → _ := fun g => mLeft_b hI (k := n) ⟨by omega, g⟩
    have hs : (n : Int) < y 20 0 28 → _ := fun g => hS.2 n (by omega) g
    refine zV_iloadn hX dX5_isSound_52 rfl ?_
    refine zV_aloadn hX dX5_isSound_53 rfl ?_
    refine GF_X5_171 hX  dX5_isSound_54 (fun r54 => ?_)
    refine zV_icmp_ge (tgt := 76) hX dX5_isSound_57 (by decide) (by omega) (by omega) (fun b57 => ?_) (fun b57 => ?_)
    · refine zV_iconst hX dX5_isSound_76 ?_
      exact zV_iret hX hM (by omega) (by omega) (zn_bool (by omega)) dX5_isSound_77 (hp)
    · refine zV_aloadn hX dX5_isSound_60 rfl ?_
      refine zV_iloadn hX dX5_isSound_61 rfl ?_
      refine zV_cVS (n := 1) hX rfl hN 20 rfl rfl ⟨by decide, by decide⟩ (c_X5_freeOf ⟨by omega, by omega⟩ hI) zw_co_yX5_freeOf zw_mX5_174 zw_in_RX5 zw_im_yX5_freeOf zw_se_yX5_freeOf ⟨by decide, by decide, by decide +kernel⟩ rfl (by omega) (by decide) (by omega) (by omega) rfl (Nat.le_of_ble_eq_true rfl) dX5_isSound_62 ?_ 
      refine zV_if_ge (tgt := 70) hX dX5_isSound_65 (by decide) (by have := lb (by omega); omega) (fun b65 => ?_) (fun b65 => ?_)
      · refine zV_iinc1 hX dX5_isSound_70 ?_
        refine zV_goto (tgt := 52) hX dX5_isSound_73 (by decide) ?_
        exact ih (n + 1) _ hu.symm (by omega) (by omega)
      · exact absurd (hs (by omega)) (by omega) --done
set_option maxRecDepth 100000 in
set_option maxHeartbeats 4000000 in
theorem lp_X5_isSound {ad : Nat → Int → Nat} {x y : zSt} {Γ : zG} {post : Option Value → zSt → zSt → Prop} (hI : mI y) (hp : post (some (zI 1)) x y) (hS : mSnd y) (hX : zX Γ ad RX5 cX5_isSound 2) (hN : zN Γ 37 0 0) (hM : zM Γ ad 0 0 (some .boolean) (post) zF) (hT : zNT Γ) : ∀ (f n : Nat) (i : Int), i = n → i ≤ y 20 0 5 → (y 20 0 5).toNat - n < f → zV Γ ad 0 0 x y 7 [some (.ref (ad 20 0)), some (zI i)] [] := by
  intro f
  induction f with
  | zero => intro n i h1 h2 h3; omega
  | succ f ih =>
    intro n i h1 h2 h3
    subst h1
    have hu : ((n + 1 : Nat) : Int) = (n : Int) + 1 := by omega
    have n5 := hI.1.1
    have n28 := hI.1.2.1
    have w : (n : Int) < y 20 0 5 → _ := fun g => hI.2.2.1 n (by omega) g
    have ab := mAn_b (y := y) 11 n
    refine zV_iloadn hX dX5_isSound_7 rfl ?_
    refine zV_aloadn hX dX5_isSound_8 rfl ?_
    refine GF_X5_116 hX  dX5_isSound_9 (fun r9 => ?_)
    refine zV_icmp_ge (tgt := 50) hX dX5_isSound_12 (by decide) (by omega) (by omega) (fun b12 => ?_) (fun b12 => ?_)
    · refine zV_iconst hX dX5_isSound_50 ?_
      refine zV_istoren1 hX dX5_isSound_51 ?_
      exact lp_X5_isSound2 hI hp hS hX hN hM hT ((y 20 0 28).toNat + 1) 0 0 rfl (by omega) (by omega)
    · refine zV_aloadn hX dX5_isSound_15 rfl ?_
      refine zV_iloadn hX dX5_isSound_16 rfl ?_
      refine zV_cVS (n := 1) hX rfl hN 20 rfl rfl ⟨by decide, by decide⟩ (c_X5_isFresh hI 11 n (by omega) (by omega) (by omega)) zw_co_yX5_isFresh zw_mX5_211 zw_in_RX5 zw_im_yX5_isFresh zw_se_yX5_isFresh ⟨by decide, by decide, by decide +kernel⟩ rfl (by omega) (by decide) (by omega) (by omega) rfl (Nat.le_of_ble_eq_true rfl) dX5_isSound_17 ?_ 
      refine zV_ifeq_b (tgt := 44) hX dX5_isSound_20 (by decide) (fun b20 => ?_) (fun b20 => ?_)
      · refine zV_iinc1 hX dX5_isSound_44 ?_
        refine zV_goto (tgt := 7) hX dX5_isSound_47 (by decide) ?_
        exact ih (n + 1) _ hu.symm (by omega) (by omega)
      · refine zV_aloadn hX dX5_isSound_23 rfl ?_
        refine GF_X5_17 hX  dX5_isSound_24 ?_
        refine zV_aloadn hX dX5_isSound_27 rfl ?_
        refine GF_X5_36 hX  dX5_isSound_28 ?_
        refine zV_iloadn hX dX5_isSound_31 rfl ?_
        refine AL_30 hX  ⟨by omega, by omega⟩ dX5_isSound_32 (fun r32 => ?_)
        refine AL_23 hX  ⟨by omega, by omega⟩ dX5_isSound_33 (fun r33 => ?_)
        refine zV_aloadn hX dX5_isSound_34 rfl ?_
        refine zV_iloadn hX dX5_isSound_35 rfl ?_
        refine zV_cVS (n := 1) hX rfl hN 20 rfl rfl ⟨by decide, by decide⟩ (c_X5_anew hI 11 n (by omega) (by omega) (by omega)) zw_co_yX5_anew zw_mX5_158 zw_in_RX5 zw_im_yX5_anew zw_se_yX5_anew ⟨by decide, by decide, by decide +kernel⟩ rfl (by omega) (by decide) (by omega) (by omega) rfl (Nat.le_of_ble_eq_true rfl) dX5_isSound_36 ?_ 
        refine zV_icmp_eq (tgt := 44) hX dX5_isSound_39 (by decide) (by omega) (by omega) (fun b39 => ?_) (fun b39 => ?_)
        · refine zV_iinc1 hX dX5_isSound_44 ?_
          refine zV_goto (tgt := 7) hX dX5_isSound_47 (by decide) ?_
          exact ih (n + 1) _ hu.symm (by omega) (by omega)
        · exact absurd (hS.1 n (by omega) (by omega) (by assumption)) (by omega) --done
set_option maxRecDepth 100000 in
set_option maxHeartbeats 4000000 in
theorem c_X5_isSound {ad : Nat → Int → Nat} {x y : zSt} (hI : mI y) (hS : mSnd (mCod y 0)) : zC yX5_isSound cX5_isSound 2 (some .boolean) 37 0 0 [.ref (ad 20 0)] ad x y (zpS 1 x (mCod y 0)) (zF) := by
  refine zC_ofV (by decide) (by intro v hv; simp only [List.mem_cons, List.not_mem_nil, or_false] at hv; subst hv; rfl) (Nat.le_of_ble_eq_true rfl) (fun Γ hX hN hM hT => ?_)
  show zV Γ ad 0 0 x y 0 [some (.ref (ad 20 0)), none] []
  have n5 := hI.1.1
  refine zV_aloadn hX dX5_isSound_0 rfl ?_
  refine zV_iconst hX dX5_isSound_1 ?_
  refine PF_X5_108 hX  (by omega) dX5_isSound_2 ?_
  refine zV_iconst hX dX5_isSound_5 ?_
  refine zV_istoren1 hX dX5_isSound_6 ?_
  exact lp_X5_isSound (y := mCod y 0) (mI_cod hI) ⟨rfl, rfl, rfl⟩ hS hX hN hM hT ((y 20 0 5).toNat + 1) 0 0 rfl (by rw [mCod_j (by decide)]; omega) (by rw [mCod_j (by decide)]; omega)
set_option maxRecDepth 100000 in
set_option maxHeartbeats 4000000 in
theorem c_X5_work {ad : Nat → Int → Nat} {x y : zSt}  : zC yX5_work cX5_work 1 (some .long) 1 0 0 [.ref (ad 20 0)] ad x y (fun v x1 y1 => v = some (.long (Int64.ofInt (y 20 0 38))) ∧ x1 = x ∧ y1 = mCod y 0) (zF) := by
  refine zC_ofV (by decide) (by intro v hv; simp only [List.mem_cons, List.not_mem_nil, or_false] at hv; subst hv; rfl) (Nat.le_of_ble_eq_true rfl) (fun Γ hX hN hM hT => ?_)
  show zV Γ ad 0 0 x y 0 [some (.ref (ad 20 0))] []
  refine zV_aloadn hX dX5_work_0 rfl ?_
  refine zV_iconst hX dX5_work_1 ?_
  refine PF_X5_108 hX  (by omega) dX5_work_2 ?_
  refine zV_aloadn hX dX5_work_5 rfl ?_
  refine GF_X5_180 hX  dX5_work_6 ?_
  exact zV_lret hX hM (by omega) (by omega) dX5_work_9 (⟨rfl, rfl, rfl⟩)
set_option maxRecDepth 100000 in
set_option maxHeartbeats 4000000 in
theorem lp_X5_load {ad : Nat → Int → Nat} {x y : zSt} {Γ : zG} {post : Option Value → zSt → zSt → Prop} (hI : mI y) (hp : post (some (.float (zFq (mSn y (y 20 0 28).toNat - mLn y (y 20 0 28).toNat) (mSn y (y 20 0 28).toNat)))) x y) (hS : mSn y (y 20 0 28).toNat ≠ 0) (hX : zX Γ ad RX5 cX5_load 4) (hN : zN Γ 3 0 0) (hM : zM Γ ad 0 0 (some .float) (post) zF) (hT : zNT Γ) : ∀ (f n : Nat) (i s t : Int), i = n → i ≤ y 20 0 28 → (y 20 0 28).toNat - n < f → s = mSn y n → t = mLn y n → zV Γ ad 0 0 x y 27 [some (.ref (ad 20 0)), some (zI s), some (zI t), some (zI i)] [] := by
  intro f
  induction f with
  | zero => intro n i s t h1 h2 h3; omega
  | succ f ih =>
    intro n i s t h1 h2 h3 h4 h5
    subst h1
    have hu : ((n + 1 : Nat) : Int) = (n : Int) + 1 := by omega
    have n28 := hI.1.2.1
    have sb := mSn_b hI n (by omega)
    have lb := mLn_b hI n (by omega)
    have qb : (n : Int) ≤ 2 → _ := fun g => hI.2.2.2.2.1 n (by omega) g
    have fb : (n : Int) ≤ 2 → _ := fun g => mLeft_b hI (k := n) ⟨by omega, g⟩
    refine zV_iloadn hX dX5_load_27 rfl ?_
    refine zV_aloadn hX dX5_load_28 rfl ?_
    refine GF_X5_171 hX  dX5_load_29 (fun r29 => ?_)
    refine zV_icmp_ge (tgt := 58) hX dX5_load_32 (by decide) (by omega) (by omega) (fun b32 => ?_) (fun b32 => ?_)
    · obtain rfl : n = (y 20 0 28).toNat := by omega
      subst h4
      subst h5
      refine zV_iloadn hX dX5_load_58 rfl ?_
      refine zV_iloadn hX dX5_load_59 rfl ?_
      refine zV_isub hX dX5_load_60 ?_
      refine zV_i2f hX dX5_load_61 ?_
      refine zV_iloadn hX dX5_load_62 rfl ?_
      refine zV_i2f hX dX5_load_63 ?_
      refine zV_fdiv hX (by omega) (by omega) dX5_load_64 ?_
      exact zV_fret hX hM (by omega) (by omega) dX5_load_65 (hp)
    · refine zV_iloadn hX dX5_load_35 rfl ?_
      refine zV_aloadn hX dX5_load_36 rfl ?_
      refine GF_X5_90 hX  dX5_load_37 ?_
      refine zV_iloadn hX dX5_load_40 rfl ?_
      refine AL_49 hX  ⟨by omega, by omega⟩ dX5_load_41 (fun r41 => ?_)
      refine zV_iadd hX dX5_load_42 ?_
      refine zV_istoren1 hX dX5_load_43 ?_
      refine zV_iloadn hX dX5_load_44 rfl ?_
      refine zV_aloadn hX dX5_load_45 rfl ?_
      refine zV_iloadn hX dX5_load_46 rfl ?_
      refine zV_cVS (n := 1) hX rfl hN 20 rfl rfl ⟨by decide, by decide⟩ (c_X5_freeOf ⟨by omega, by omega⟩ hI) zw_co_yX5_freeOf zw_mX5_174 zw_in_RX5 zw_im_yX5_freeOf zw_se_yX5_freeOf ⟨by decide, by decide, by decide +kernel⟩ rfl (by omega) (by decide) (by omega) (by omega) rfl (Nat.le_of_ble_eq_true rfl) dX5_load_47 ?_ 
      refine zV_iadd hX dX5_load_50 ?_
      refine zV_istoren2 hX dX5_load_51 ?_
      refine zV_iinc3 hX dX5_load_52 ?_
      refine zV_goto (tgt := 27) hX dX5_load_55 (by decide) ?_
      exact ih (n + 1) _ _ _ hu.symm (by omega) (by omega) (by rw [h4]; rfl) (by rw [h5]; rfl)
set_option maxRecDepth 100000 in
set_option maxHeartbeats 4000000 in
theorem c_X5_load {ad : Nat → Int → Nat} {x y : zSt} (hI : mI y) (hS : y 20 0 28 ≠ 0 → mSn (mCod y 0) (y 20 0 28).toNat ≠ 0) : zC yX5_load cX5_load 4 (some .float) 3 0 0 [.ref (ad 20 0)] ad x y (fun v x1 y1 => x1 = x ∧ ((y 20 0 28 = 0 ∧ v = some (.float FP.fconst0) ∧ y1 = mCod y 1) ∨ (y 20 0 28 ≠ 0 ∧ v = some (.float (zFq (mSn (mCod y 0) (y 20 0 28).toNat - mLn (mCod y 0) (y 20 0 28).toNat) (mSn (mCod y 0) (y 20 0 28).toNat))) ∧ y1 = mCod y 0))) (zF) := by
  refine zC_ofV (by decide) (by intro v hv; simp only [List.mem_cons, List.not_mem_nil, or_false] at hv; subst hv; rfl) (Nat.le_of_ble_eq_true rfl) (fun Γ hX hN hM hT => ?_)
  show zV Γ ad 0 0 x y 0 [some (.ref (ad 20 0)), none, none, none] []
  have n28 := hI.1.2.1
  refine zV_aloadn hX dX5_load_0 rfl ?_
  refine zV_aloadn hX dX5_load_1 rfl ?_
  refine GF_X5_171 hX  dX5_load_2 (fun r2 => ?_)
  refine zV_if_ne (tgt := 12) hX dX5_load_5 (by decide) (by omega) (fun b5 => ?_) (fun b5 => ?_)
  · refine zV_iconst hX dX5_load_12 ?_
    refine zV_cVS (n := 1) hX rfl hN 20 rfl rfl ⟨by decide, by decide⟩ (c_X5_fails (by decide)) zw_co_yX5_fails zw_mX5_119 zw_in_RX5 zw_im_yX5_fails zw_se_yX5_fails ⟨by decide, by decide, by decide +kernel⟩ rfl (by omega) (by decide) (by omega) (by omega) rfl (Nat.le_of_ble_eq_true rfl) dX5_load_13 ?_ 
    refine zV_ifeq_b (tgt := 21) hX dX5_load_16 (by decide) (fun b16 => ?_) (fun b => by exfalso; omega)
    refine zV_iconst hX dX5_load_21 ?_
    refine zV_istoren1 hX dX5_load_22 ?_
    refine zV_iconst hX dX5_load_23 ?_
    refine zV_istoren2 hX dX5_load_24 ?_
    refine zV_iconst hX dX5_load_25 ?_
    refine zV_istoren3 hX dX5_load_26 ?_
    exact lp_X5_load (y := mCod y 0) (mI_cod hI) (by rw [mCod_j (by decide)]; exact ⟨rfl, Or.inr ⟨by omega, rfl, rfl⟩⟩) (by rw [mCod_j (by decide)]; exact hS (by omega)) hX hN hM hT ((y 20 0 28).toNat + 1) 0 0 0 0 rfl (by rw [mCod_j (by decide)]; omega) (by rw [mCod_j (by decide)]; omega) rfl rfl
  · refine zV_iconst hX dX5_load_8 ?_
    refine zV_goto (tgt := 13) hX dX5_load_9 (by decide) ?_
    refine zV_cVS (n := 1) hX rfl hN 20 rfl rfl ⟨by decide, by decide⟩ (c_X5_fails (by decide)) zw_co_yX5_fails zw_mX5_119 zw_in_RX5 zw_im_yX5_fails zw_se_yX5_fails ⟨by decide, by decide, by decide +kernel⟩ rfl (by omega) (by decide) (by omega) (by omega) rfl (Nat.le_of_ble_eq_true rfl) dX5_load_13 ?_ 
    refine zV_ifeq_b (tgt := 21) hX dX5_load_16 (by decide) (fun b => by exfalso; omega) (fun b16 => ?_)
    refine zV_fconst0 hX dX5_load_19 ?_
    exact zV_fret hX hM (by omega) (by omega) dX5_load_20 (⟨rfl, Or.inl ⟨by omega, rfl, rfl⟩⟩)
set_option maxRecDepth 100000 in
set_option maxHeartbeats 4000000 in
theorem lp_X5_meanValue {ad : Nat → Int → Nat} {x y : zSt} {Γ : zG} (hI : mI y) (hX : zX Γ ad RX5 cX5_meanValue 4) (hN : zN Γ 3 0 0) (hM : zM Γ ad 0 0 (some .double) (fun v x1 y1 => x1 = x ∧ ((mVn y 12 = 0 ∧ v = some (.double FP.dconst0) ∧ y1 = mCod y 1) ∨ (mVn y 12 ≠ 0 ∧ v = some (.double (zDq (mVs y 12) (mVn y 12))) ∧ y1 = mCod y 0))) zF) (hT : zNT Γ) : ∀ (f n : Nat) (i s t : Int), i = n → i ≤ 12 → 12 - n < f → s = mVs y n → t = mVn y n → zV Γ ad 0 0 x y 6 [some (.ref (ad 20 0)), some (zI s), some (zI t), some (zI i)] [] := by
  intro f
  induction f with
  | zero => intro n i s t h1 h2 h3; omega
  | succ f ih =>
    intro n i s t h1 h2 h3 h4 h5
    subst h1
    have hu : ((n + 1 : Nat) : Int) = (n : Int) + 1 := by omega
    have vb := mVs_b hI n (by omega)
    have w : (n : Int) ≤ 11 → _ := fun g => hI.2.1 n (by omega) g
    refine zV_iloadn hX dX5_meanValue_6 rfl ?_
    refine zV_bipush hX dX5_meanValue_7 (by decide) ?_
    refine zV_icmp_ge (tgt := 42) hX dX5_meanValue_9 (by decide) (by omega) (by omega) (fun b9 => ?_) (fun b9 => ?_)
    · obtain rfl : n = 12 := by omega
      subst h4
      subst h5
      refine zV_aloadn hX dX5_meanValue_42 rfl ?_
      refine zV_iloadn hX dX5_meanValue_43 rfl ?_
      refine zV_if_ne (tgt := 51) hX dX5_meanValue_44 (by decide) (by omega) (fun b44 => ?_) (fun b44 => ?_)
      · refine zV_iconst hX dX5_meanValue_51 ?_
        refine zV_cVS (n := 1) hX rfl hN 20 rfl rfl ⟨by decide, by decide⟩ (c_X5_fails (by decide)) zw_co_yX5_fails zw_mX5_119 zw_in_RX5 zw_im_yX5_fails zw_se_yX5_fails ⟨by decide, by decide, by decide +kernel⟩ rfl (by omega) (by decide) (by omega) (by omega) rfl (Nat.le_of_ble_eq_true rfl) dX5_meanValue_52 ?_ 
        refine zV_ifeq_b (tgt := 62) hX dX5_meanValue_55 (by decide) (fun b55 => ?_) (fun b => by exfalso; omega)
        refine zV_iloadn hX dX5_meanValue_62 rfl ?_
        refine zV_i2d hX dX5_meanValue_63 ?_
        refine zV_iloadn hX dX5_meanValue_64 rfl ?_
        refine zV_i2d hX dX5_meanValue_65 ?_
        refine zV_ddiv hX (by omega) (by omega) dX5_meanValue_66 ?_
        exact zV_dret hX hM (by omega) (by omega) dX5_meanValue_67 (⟨rfl, by first | exact Or.inl ⟨by omega, rfl, rfl⟩ | exact Or.inr ⟨by omega, rfl, rfl⟩⟩)
      · refine zV_iconst hX dX5_meanValue_47 ?_
        refine zV_goto (tgt := 52) hX dX5_meanValue_48 (by decide) ?_
        refine zV_cVS (n := 1) hX rfl hN 20 rfl rfl ⟨by decide, by decide⟩ (c_X5_fails (by decide)) zw_co_yX5_fails zw_mX5_119 zw_in_RX5 zw_im_yX5_fails zw_se_yX5_fails ⟨by decide, by decide, by decide +kernel⟩ rfl (by omega) (by decide) (by omega) (by omega) rfl (Nat.le_of_ble_eq_true rfl) dX5_meanValue_52 ?_ 
        refine zV_ifeq_b (tgt := 62) hX dX5_meanValue_55 (by decide) (fun b => by exfalso; omega) (fun b55 => ?_)
        refine zV_dconst0 hX dX5_meanValue_58 ?_
        refine zV_goto (tgt := 67) hX dX5_meanValue_59 (by decide) ?_
        exact zV_dret hX hM (by omega) (by omega) dX5_meanValue_67 (⟨rfl, by first | exact Or.inl ⟨by omega, rfl, rfl⟩ | exact Or.inr ⟨by omega, rfl, rfl⟩⟩)
    · refine zV_aloadn hX dX5_meanValue_12 rfl ?_
      refine GF_X5_17 hX  dX5_meanValue_13 ?_
      refine zV_iloadn hX dX5_meanValue_16 rfl ?_
      refine AL_23 hX  ⟨by omega, by omega⟩ dX5_meanValue_17 (fun r17 => ?_)
      refine zV_if_ge (tgt := 24) hX dX5_meanValue_18 (by decide) (by omega) (fun b18 => ?_) (fun b18 => ?_)
      · refine zV_iloadn hX dX5_meanValue_24 rfl ?_
        refine zV_aloadn hX dX5_meanValue_25 rfl ?_
        refine GF_X5_17 hX  dX5_meanValue_26 ?_
        refine zV_iloadn hX dX5_meanValue_29 rfl ?_
        refine AL_23 hX  ⟨by omega, by omega⟩ dX5_meanValue_30 (fun r30 => ?_)
        refine zV_iadd hX dX5_meanValue_31 ?_
        refine zV_istoren1 hX dX5_meanValue_32 ?_
        refine zV_iinc2 hX dX5_meanValue_33 ?_
        refine zV_iinc3 hX dX5_meanValue_36 ?_
        refine zV_goto (tgt := 6) hX dX5_meanValue_39 (by decide) ?_
        exact ih (n + 1) _ _ _ hu.symm (by omega) (by omega) (by rw [h4]; simp only [mVs]; first | rw [if_pos (by omega)] | rw [if_neg (by omega)]) (by rw [h5]; simp only [mVn]; first | rw [if_pos (by omega)] | rw [if_neg (by omega)])
      · refine zV_goto (tgt := 36) hX dX5_meanValue_21 (by decide) ?_
        refine zV_iinc3 hX dX5_meanValue_36 ?_
        refine zV_goto (tgt := 6) hX dX5_meanValue_39 (by decide) ?_
        exact ih (n + 1) _ _ _ hu.symm (by omega) (by omega) (by rw [h4]; simp only [mVs]; first | rw [if_pos (by omega)] | rw [if_neg (by omega)]) (by rw [h5]; simp only [mVn]; first | rw [if_pos (by omega)] | rw [if_neg (by omega)])
set_option maxRecDepth 100000 in
set_option maxHeartbeats 4000000 in
theorem c_X5_meanValue {ad : Nat → Int → Nat} {x y : zSt} (hI : mI y) : zC yX5_meanValue cX5_meanValue 4 (some .double) 3 0 0 [.ref (ad 20 0)] ad x y (fun v x1 y1 => x1 = x ∧ ((mVn y 12 = 0 ∧ v = some (.double FP.dconst0) ∧ y1 = mCod y 1) ∨ (mVn y 12 ≠ 0 ∧ v = some (.double (zDq (mVs y 12) (mVn y 12))) ∧ y1 = mCod y 0))) (zF) := by
  refine zC_ofV (by decide) (by intro v hv; simp only [List.mem_cons, List.not_mem_nil, or_false] at hv; subst hv; rfl) (Nat.le_of_ble_eq_true rfl) (fun Γ hX hN hM hT => ?_)
  show zV Γ ad 0 0 x y 0 [some (.ref (ad 20 0)), none, none, none] []
  refine zV_iconst hX dX5_meanValue_0 ?_
  refine zV_istoren1 hX dX5_meanValue_1 ?_
  refine zV_iconst hX dX5_meanValue_2 ?_
  refine zV_istoren2 hX dX5_meanValue_3 ?_
  refine zV_iconst hX dX5_meanValue_4 ?_
  refine zV_istoren3 hX dX5_meanValue_5 ?_
  exact lp_X5_meanValue hI hX hN hM hT 13 0 0 0 0 rfl (by omega) (by omega) rfl rfl
