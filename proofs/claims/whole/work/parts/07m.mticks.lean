set_option maxRecDepth 100000 in
set_option maxHeartbeats 4000000 in
theorem lp_X5_ticks {ad : Nat → Int → Nat} {x y : zSt} {Γ : zG} {post : Option Value → zSt → zSt → Prop} {C : Int} (hp : post (some (zI (mTn y C.toNat))) x (mTs y C.toNat)) (hn : 0 ≤ C ∧ C ≤ 11) (hS0 : ∀ n : Nat, (n : Int) ≤ C → mI (mTs y n) ∧ ((n : Int) < C → 0 ≤ mKer (mTs y n) n → (mTs y n) 20 0 30 ≤ 59) ∧ (mTs y n) 20 0 5 = C) (hX : zX Γ ad RX5 cX5_ticks 4) (hN : zN Γ 26 0 0) (hM : zM Γ ad 0 0 (some .int) (post) zF) (hT : zNT Γ) : ∀ (f n : Nat) (i s : Int) (o : Option Value), i = n → i ≤ C → (C).toNat - n < f → s = mTn y n → zV Γ ad 0 0 x (mTs y n) 18 [some (.ref (ad 20 0)), some (zI s), some (zI i), o] [] := by
  intro f
  induction f with
  | zero => intro n i s o h1 h2 h3; omega
  | succ f ih =>
    intro n i s o h1 h2 h3 h4
    subst h1
    have hu : ((n + 1 : Nat) : Int) = (n : Int) + 1 := by omega
    have hS := hS0 n h2
    have hS3 := hS.2.2
    have tb := mTn_b (y := y) n
    have j3 : (n : Int) < C → _ := fun g => hS.1.2.2.1 n (by omega) (by omega)
    have j37 := hS.1.1.2.2.2.1
    have db := mDoR_b (y := mTs y n) (c := n)
    have mb : ∀ q : Int, 0 < q → 0 ≤ (mTs y n) 20 0 37 % q ∧ (mTs y n) 20 0 37 % q < q := fun q h => ⟨Int.emod_nonneg _ (by omega), Int.emod_lt_of_pos _ h⟩
    refine zV_iloadn hX dX5_ticks_18 rfl ?_
    refine zV_aloadn hX dX5_ticks_19 rfl ?_
    refine GF_X5_116 hX  dX5_ticks_20 (fun r20 => ?_)
    refine zV_icmp_ge (tgt := 92) hX dX5_ticks_23 (by decide) (by omega) (by omega) (fun b23 => ?_) (fun b23 => ?_)
    · obtain rfl : n = C.toNat := by omega
      subst h4
      refine zV_iloadn hX dX5_ticks_92 rfl ?_
      exact zV_iret hX hM (by omega) (by omega) rfl dX5_ticks_93 (hp)
    · refine zV_aloadn hX dX5_ticks_26 rfl ?_
      refine GF_X5_45 hX  dX5_ticks_27 ?_
      refine zV_iloadn hX dX5_ticks_30 rfl ?_
      refine AL_33 hX  ⟨by omega, by omega⟩ dX5_ticks_31 (fun r31 => ?_)
      refine zV_if_eq (tgt := 86) hX dX5_ticks_32 (by decide) (by omega) (fun b32 => ?_) (fun b32 => ?_)
      · refine zV_iinc2 hX dX5_ticks_86 ?_
        refine zV_goto (tgt := 18) hX dX5_ticks_89 (by decide) ?_
        have q := fun oo : Option Value => ih (n + 1) _ _ oo hu.symm (by omega) (by omega) rfl
        simp only [mTs, mTn] at q
        first | (have g : (mTs y n) 33 0 n = 0 ∨ 0 < (mTs y n) 20 0 37 % (mTs y n) 33 0 n ∨ mFr (mTs y n) 11 n = true := (by first | exact Or.inl (by omega) | exact Or.inr (Or.inl (by omega)) | exact Or.inr (Or.inr (by assumption))); simp only [if_pos g] at q; subst h4; exact q _) | (have g : ¬ ((mTs y n) 33 0 n = 0 ∨ 0 < (mTs y n) 20 0 37 % (mTs y n) 33 0 n ∨ mFr (mTs y n) 11 n = true) := fun q => q.elim (fun q => by omega) (fun q => q.elim (fun q => by omega) (fun q => absurd q (by assumption))); simp only [if_neg g] at q; subst h4; first | (rw [if_pos (by omega)] at q; exact q _) | (rw [if_neg (by omega)] at q; exact q _))
      · refine zV_aloadn hX dX5_ticks_35 rfl ?_
        refine GF_X5_177 hX  dX5_ticks_36 (fun r36 => ?_)
        refine zV_aloadn hX dX5_ticks_39 rfl ?_
        refine GF_X5_45 hX  dX5_ticks_40 ?_
        refine zV_iloadn hX dX5_ticks_43 rfl ?_
        refine AL_33 hX  ⟨by omega, by omega⟩ dX5_ticks_44 (fun r44 => ?_)
        refine zV_irem hX dX5_ticks_45 ⟨by omega, by omega⟩ ⟨by omega, by omega⟩ ?_
        refine zV_if_gt (tgt := 86) hX dX5_ticks_46 (by decide) (by have := mb _ (show 0 < (mTs y n) 33 0 n by omega); omega) (fun b46 => ?_) (fun b46 => ?_)
        · refine zV_iinc2 hX dX5_ticks_86 ?_
          refine zV_goto (tgt := 18) hX dX5_ticks_89 (by decide) ?_
          have q := fun oo : Option Value => ih (n + 1) _ _ oo hu.symm (by omega) (by omega) rfl
          simp only [mTs, mTn] at q
          first | (have g : (mTs y n) 33 0 n = 0 ∨ 0 < (mTs y n) 20 0 37 % (mTs y n) 33 0 n ∨ mFr (mTs y n) 11 n = true := (by first | exact Or.inl (by omega) | exact Or.inr (Or.inl (by omega)) | exact Or.inr (Or.inr (by assumption))); simp only [if_pos g] at q; subst h4; exact q _) | (have g : ¬ ((mTs y n) 33 0 n = 0 ∨ 0 < (mTs y n) 20 0 37 % (mTs y n) 33 0 n ∨ mFr (mTs y n) 11 n = true) := fun q => q.elim (fun q => by omega) (fun q => q.elim (fun q => by omega) (fun q => absurd q (by assumption))); simp only [if_neg g] at q; subst h4; first | (rw [if_pos (by omega)] at q; exact q _) | (rw [if_neg (by omega)] at q; exact q _))
        · refine zV_aloadn hX dX5_ticks_49 rfl ?_
          refine zV_iloadn hX dX5_ticks_50 rfl ?_
          refine zV_cVS (n := 1) hX rfl hN 20 rfl rfl ⟨by decide, by decide⟩ (c_X5_isFresh hS.1 11 n (by omega) (by omega) (by omega)) zw_co_yX5_isFresh zw_mX5_211 zw_in_RX5 zw_im_yX5_isFresh zw_se_yX5_isFresh ⟨by decide, by decide, by decide +kernel⟩ rfl (by omega) (by decide) (by omega) (by omega) rfl (Nat.le_of_ble_eq_true rfl) dX5_ticks_51 ?_ 
          refine zV_ifeq_b (tgt := 60) hX dX5_ticks_54 (by decide) (fun b54 => ?_) (fun b54 => ?_)
          · refine zV_aloadn hX dX5_ticks_60 rfl ?_
            refine zV_iloadn hX dX5_ticks_61 rfl ?_
            refine zV_cVS (n := 1) hX rfl hN 20 rfl rfl ⟨by decide, by decide⟩ (c_X5_does (y := mTs y n) (c := n) ⟨by omega, by omega⟩ hS.1 (hS.2.1 (by omega))) zw_co_yX5_does zw_mX5_207 zw_in_RX5 zw_im_yX5_does zw_se_yX5_does ⟨by decide, by decide, by decide +kernel⟩ rfl (by omega) (by decide) (by omega) (by omega) rfl (Nat.le_of_ble_eq_true rfl) dX5_ticks_62 ?_ 
            refine zV_istoren3 hX dX5_ticks_65 ?_
            refine zV_iloadn hX dX5_ticks_66 rfl ?_
            refine zV_iloadn hX dX5_ticks_67 rfl ?_
            refine zV_bipush hX dX5_ticks_68 (by decide) ?_
            refine zV_icmp_eq (tgt := 79) hX dX5_ticks_70 (by decide) (by omega) (by omega) (fun b70 => ?_) (fun b70 => ?_)
            · refine zV_iconst hX dX5_ticks_79 ?_
              refine zV_goto (tgt := 84) hX dX5_ticks_80 (by decide) ?_
              refine zV_iadd hX dX5_ticks_84 ?_
              refine zV_istoren1 hX dX5_ticks_85 ?_
              refine zV_iinc2 hX dX5_ticks_86 ?_
              refine zV_goto (tgt := 18) hX dX5_ticks_89 (by decide) ?_
              have q := fun oo : Option Value => ih (n + 1) _ _ oo hu.symm (by omega) (by omega) rfl
              simp only [mTs, mTn] at q
              first | (have g : (mTs y n) 33 0 n = 0 ∨ 0 < (mTs y n) 20 0 37 % (mTs y n) 33 0 n ∨ mFr (mTs y n) 11 n = true := (by first | exact Or.inl (by omega) | exact Or.inr (Or.inl (by omega)) | exact Or.inr (Or.inr (by assumption))); simp only [if_pos g] at q; subst h4; exact q _) | (have g : ¬ ((mTs y n) 33 0 n = 0 ∨ 0 < (mTs y n) 20 0 37 % (mTs y n) 33 0 n ∨ mFr (mTs y n) 11 n = true) := fun q => q.elim (fun q => by omega) (fun q => q.elim (fun q => by omega) (fun q => absurd q (by assumption))); simp only [if_neg g] at q; subst h4; first | (rw [if_pos (by omega)] at q; exact q _) | (rw [if_neg (by omega)] at q; exact q _))
            · refine zV_iloadn hX dX5_ticks_73 rfl ?_
              refine zV_bipush hX dX5_ticks_74 (by decide) ?_
              refine zV_icmp_ne (tgt := 83) hX dX5_ticks_76 (by decide) (by omega) (by omega) (fun b76 => ?_) (fun b76 => ?_)
              · refine zV_iconst hX dX5_ticks_83 ?_
                refine zV_iadd hX dX5_ticks_84 ?_
                refine zV_istoren1 hX dX5_ticks_85 ?_
                refine zV_iinc2 hX dX5_ticks_86 ?_
                refine zV_goto (tgt := 18) hX dX5_ticks_89 (by decide) ?_
                have q := fun oo : Option Value => ih (n + 1) _ _ oo hu.symm (by omega) (by omega) rfl
                simp only [mTs, mTn] at q
                first | (have g : (mTs y n) 33 0 n = 0 ∨ 0 < (mTs y n) 20 0 37 % (mTs y n) 33 0 n ∨ mFr (mTs y n) 11 n = true := (by first | exact Or.inl (by omega) | exact Or.inr (Or.inl (by omega)) | exact Or.inr (Or.inr (by assumption))); simp only [if_pos g] at q; subst h4; exact q _) | (have g : ¬ ((mTs y n) 33 0 n = 0 ∨ 0 < (mTs y n) 20 0 37 % (mTs y n) 33 0 n ∨ mFr (mTs y n) 11 n = true) := fun q => q.elim (fun q => by omega) (fun q => q.elim (fun q => by omega) (fun q => absurd q (by assumption))); simp only [if_neg g] at q; subst h4; first | (rw [if_pos (by omega)] at q; exact q _) | (rw [if_neg (by omega)] at q; exact q _))
              · refine zV_iconst hX dX5_ticks_79 ?_
                refine zV_goto (tgt := 84) hX dX5_ticks_80 (by decide) ?_
                refine zV_iadd hX dX5_ticks_84 ?_
                refine zV_istoren1 hX dX5_ticks_85 ?_
                refine zV_iinc2 hX dX5_ticks_86 ?_
                refine zV_goto (tgt := 18) hX dX5_ticks_89 (by decide) ?_
                have q := fun oo : Option Value => ih (n + 1) _ _ oo hu.symm (by omega) (by omega) rfl
                simp only [mTs, mTn] at q
                first | (have g : (mTs y n) 33 0 n = 0 ∨ 0 < (mTs y n) 20 0 37 % (mTs y n) 33 0 n ∨ mFr (mTs y n) 11 n = true := (by first | exact Or.inl (by omega) | exact Or.inr (Or.inl (by omega)) | exact Or.inr (Or.inr (by assumption))); simp only [if_pos g] at q; subst h4; exact q _) | (have g : ¬ ((mTs y n) 33 0 n = 0 ∨ 0 < (mTs y n) 20 0 37 % (mTs y n) 33 0 n ∨ mFr (mTs y n) 11 n = true) := fun q => q.elim (fun q => by omega) (fun q => q.elim (fun q => by omega) (fun q => absurd q (by assumption))); simp only [if_neg g] at q; subst h4; first | (rw [if_pos (by omega)] at q; exact q _) | (rw [if_neg (by omega)] at q; exact q _))
          · refine zV_goto (tgt := 86) hX dX5_ticks_57 (by decide) ?_
            refine zV_iinc2 hX dX5_ticks_86 ?_
            refine zV_goto (tgt := 18) hX dX5_ticks_89 (by decide) ?_
            have q := fun oo : Option Value => ih (n + 1) _ _ oo hu.symm (by omega) (by omega) rfl
            simp only [mTs, mTn] at q
            first | (have g : (mTs y n) 33 0 n = 0 ∨ 0 < (mTs y n) 20 0 37 % (mTs y n) 33 0 n ∨ mFr (mTs y n) 11 n = true := (by first | exact Or.inl (by omega) | exact Or.inr (Or.inl (by omega)) | exact Or.inr (Or.inr (by assumption))); simp only [if_pos g] at q; subst h4; exact q _) | (have g : ¬ ((mTs y n) 33 0 n = 0 ∨ 0 < (mTs y n) 20 0 37 % (mTs y n) 33 0 n ∨ mFr (mTs y n) 11 n = true) := fun q => q.elim (fun q => by omega) (fun q => q.elim (fun q => by omega) (fun q => absurd q (by assumption))); simp only [if_neg g] at q; subst h4; first | (rw [if_pos (by omega)] at q; exact q _) | (rw [if_neg (by omega)] at q; exact q _))
set_option maxRecDepth 100000 in
set_option maxHeartbeats 4000000 in
theorem c_X5_ticks {ad : Nat → Int → Nat} {x y : zSt} (hS : mOkT y) : zC yX5_ticks cX5_ticks 4 (some .int) 26 0 0 [.ref (ad 20 0)] ad x y (zpS (mTn (mTk0 y) (y 20 0 5).toNat) x (mTs (mTk0 y) (y 20 0 5).toNat)) (zF) := by
  refine zC_ofV (by decide) (by intro v hv; simp only [List.mem_cons, List.not_mem_nil, or_false] at hv; subst hv; rfl) (Nat.le_of_ble_eq_true rfl) (fun Γ hX hN hM hT => ?_)
  show zV Γ ad 0 0 x y 0 [some (.ref (ad 20 0)), none, none, none] []
  obtain ⟨hI, n37, n5q, hS2⟩ := hS
  have n5 := hI.1.1
  have n30 := hI.1.2.2.2.2.1
  have n37b := hI.1.2.2.2.1
  refine zV_aloadn hX dX5_ticks_0 rfl ?_
  refine zV_dup hX dX5_ticks_1 rfl ?_
  refine GF_X5_177 hX  dX5_ticks_2 (fun r2 => ?_)
  refine zV_iconst hX dX5_ticks_5 ?_
  refine zV_iadd hX dX5_ticks_6 ?_
  refine PF_X5_177 hX  (by omega) dX5_ticks_7 ?_
  refine zV_aloadn hX dX5_ticks_10 rfl ?_
  refine zV_cVV (n := 0) hX rfl hN 20 rfl rfl ⟨by decide, by decide⟩ (c_X5_frees (by simp only [zup_d, Int.reduceEq, and_false, if_false]; exact n30) (by simp only [zup_d, and_self, if_true]; omega)) zw_co_yX5_frees zw_mX5_231 zw_in_RX5 zw_im_yX5_frees zw_se_yX5_frees ⟨by decide, by decide, by decide +kernel⟩ rfl (by omega) (by decide) (by omega) (by omega) rfl (Nat.le_of_ble_eq_true rfl) dX5_ticks_11 ?_ 
  change zV Γ ad 0 0 x (mTk0 y) _ _ _
  refine zV_iconst hX dX5_ticks_14 ?_
  refine zV_istoren1 hX dX5_ticks_15 ?_
  refine zV_iconst hX dX5_ticks_16 ?_
  refine zV_istoren2 hX dX5_ticks_17 ?_
  exact lp_X5_ticks (y := mTk0 y) (C := y 20 0 5) ⟨rfl, rfl, rfl⟩ n5 hS2 hX hN hM hT ((y 20 0 5).toNat + 1) 0 0 0 none rfl (by omega) (by omega) rfl
