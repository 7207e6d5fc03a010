set_option maxRecDepth 100000 in
set_option maxHeartbeats 4000000 in
theorem c_X5_isFreshBelow {ad : Nat → Int → Nat} {x y : zSt} {n : Nat} {v : Int} (hv : 0 ≤ v ∧ v ≤ 11) (hw : y 24 0 v < y 20 0 5 ∧ y 24 0 v < n) (hI : mI y) (H : ∀ c : Int, 0 ≤ c → c < y 20 0 5 → c < n → zC yX5_isFresh cX5_isFresh 2 (some .boolean) (2 * n + 2) 0 0 [.ref (ad 20 0), zI c] ad x y (zpS (zb (mFr y n c = true)) x y) zF) : zC yX5_isFreshBelow cX5_isFreshBelow 2 (some .boolean) (2 * n + 3) 0 0 [.ref (ad 20 0), zI v] ad x y (zpS (zb (y 24 0 v < 0 ∨ mFr y n (y 24 0 v) = true)) x y) (zF) := by
  refine zC_ofV (by decide) (by intro v hv; simp only [List.mem_cons, List.not_mem_nil, or_false] at hv; rcases hv with rfl | rfl <;> rfl) (Nat.le_of_ble_eq_true rfl) (fun Γ hX hN hM hT => ?_)
  show zV Γ ad 0 0 x y 0 [some (.ref (ad 20 0)), some (zI v)] []
  refine zV_aloadn hX dX5_isFreshBelow_0 rfl ?_
  refine GF_X5_20 hX  dX5_isFreshBelow_1 ?_
  refine zV_iloadn hX dX5_isFreshBelow_4 rfl ?_
  refine AL_24 hX  ⟨by omega, by omega⟩ dX5_isFreshBelow_5 (fun r5 => ?_)
  refine zV_if_lt (tgt := 22) hX dX5_isFreshBelow_6 (by decide) (by omega) (fun b6 => ?_) (fun b6 => ?_)
  · refine zV_iconst hX dX5_isFreshBelow_22 ?_
    refine zV_goto (tgt := 27) hX dX5_isFreshBelow_23 (by decide) ?_
    exact zV_iret hX hM (by omega) (by omega) (zn_bool (by omega)) dX5_isFreshBelow_27 (zpS_i (by first | exact (zb_t (Or.inl (by omega))).symm | exact (zb_t (Or.inr (by assumption))).symm | exact (zb_f (fun q => q.elim (fun h => by omega) (fun h => absurd h (by assumption)))).symm))
  · refine zV_aloadn hX dX5_isFreshBelow_9 rfl ?_
    refine zV_aloadn hX dX5_isFreshBelow_10 rfl ?_
    refine GF_X5_20 hX  dX5_isFreshBelow_11 ?_
    refine zV_iloadn hX dX5_isFreshBelow_14 rfl ?_
    refine AL_24 hX  ⟨by omega, by omega⟩ dX5_isFreshBelow_15 (fun r15 => ?_)
    refine zV_cVS (n := 1) hX rfl hN 20 rfl rfl ⟨by decide, by decide⟩ (H (y 24 0 v) (by omega) (by omega) (by omega)) zw_co_yX5_isFresh zw_mX5_211 zw_in_RX5 zw_im_yX5_isFresh zw_se_yX5_isFresh ⟨by decide, by decide, by decide +kernel⟩ rfl (by omega) (by decide) (by omega) (by omega) rfl (Nat.le_of_ble_eq_true rfl) dX5_isFreshBelow_16 ?_ 
    refine zV_ifeq_b (tgt := 26) hX dX5_isFreshBelow_19 (by decide) (fun b19 => ?_) (fun b19 => ?_)
    · refine zV_iconst hX dX5_isFreshBelow_26 ?_
      exact zV_iret hX hM (by omega) (by omega) (zn_bool (by omega)) dX5_isFreshBelow_27 (zpS_i (by first | exact (zb_t (Or.inl (by omega))).symm | exact (zb_t (Or.inr (by assumption))).symm | exact (zb_f (fun q => q.elim (fun h => by omega) (fun h => absurd h (by assumption)))).symm))
    · refine zV_iconst hX dX5_isFreshBelow_22 ?_
      refine zV_goto (tgt := 27) hX dX5_isFreshBelow_23 (by decide) ?_
      exact zV_iret hX hM (by omega) (by omega) (zn_bool (by omega)) dX5_isFreshBelow_27 (zpS_i (by first | exact (zb_t (Or.inl (by omega))).symm | exact (zb_t (Or.inr (by assumption))).symm | exact (zb_f (fun q => q.elim (fun h => by omega) (fun h => absurd h (by assumption)))).symm))
set_option maxRecDepth 100000 in
set_option maxHeartbeats 4000000 in
theorem c_X5_isFresh {ad : Nat → Int → Nat} {x y : zSt} (hI : mI y) : ∀ (n : Nat) (c : Int), 0 ≤ c → c < y 20 0 5 → c < n → zC yX5_isFresh cX5_isFresh 2 (some .boolean) (2 * n + 2) 0 0 [.ref (ad 20 0), zI c] ad x y (zpS (zb (mFr y n c = true)) x y) (zF) := by
  intro n
  induction n with
  | zero => intro c h1 h2 h3; omega
  | succ n ih =>
    intro c h1 h2 h3
    refine zC_ofV (by decide) (by intro v hv; simp only [List.mem_cons, List.not_mem_nil, or_false] at hv; rcases hv with rfl | rfl <;> rfl) (Nat.le_of_ble_eq_true rfl) (fun Γ hX hN hM hT => ?_)
    show zV Γ ad 0 0 x y 0 [some (.ref (ad 20 0)), some (zI c)] []
    obtain ⟨⟨n1, n2, n3, n4, n5, n6⟩, j2, j3, j4, j5, j6, j7⟩ := id hI
    have w := j3 c h1 h2
    have hs := mSec_b hI ⟨h1, h2⟩
    refine zV_aloadn hX dX5_isFresh_0 rfl ?_
    refine GF_X5_48 hX  dX5_isFresh_1 ?_
    refine zV_iloadn hX dX5_isFresh_4 rfl ?_
    refine AL_34 hX  ⟨by omega, by omega⟩ dX5_isFresh_5 (fun r5 => ?_)
    refine zV_bipush hX dX5_isFresh_6 (by decide) ?_
    refine zV_icmp_ne (tgt := 60) hX dX5_isFresh_8 (by decide) (by omega) (by omega) (fun b8 => ?_) (fun b8 => ?_)
    · refine zV_iconst hX dX5_isFresh_60 ?_
      exact zV_iret hX hM (by omega) (by omega) (zn_bool (by omega)) dX5_isFresh_61 (zpS_i (by first | exact (zb_t (mFr_s.mpr ⟨by omega, by omega, by unfold mFst; omega, by omega, by assumption, by first | exact Or.inl (by omega) | exact Or.inr (by assumption)⟩)).symm | exact (zb_f (fun q => by have q := mFr_s.mp q; unfold mFst at q; first | omega | exact absurd q.2.2.2.2.1 (by assumption) | exact q.2.2.2.2.2.elim (fun g => by omega) (fun g => absurd g (by assumption)))).symm))
    · refine zV_aloadn hX dX5_isFresh_11 rfl ?_
      refine GF_X5_57 hX  dX5_isFresh_12 ?_
      refine zV_iloadn hX dX5_isFresh_15 rfl ?_
      refine AL_37 hX  ⟨by omega, by omega⟩ dX5_isFresh_16 (fun r16 => ?_)
      refine zV_aloadn hX dX5_isFresh_17 rfl ?_
      refine GF_X5_33 hX  dX5_isFresh_18 ?_
      refine zV_iloadn hX dX5_isFresh_21 rfl ?_
      refine AL_29 hX  ⟨by omega, by omega⟩ dX5_isFresh_22 (fun r22 => ?_)
      refine zV_icmp_ne (tgt := 60) hX dX5_isFresh_23 (by decide) (by omega) (by omega) (fun b23 => ?_) (fun b23 => ?_)
      · refine zV_iconst hX dX5_isFresh_60 ?_
        exact zV_iret hX hM (by omega) (by omega) (zn_bool (by omega)) dX5_isFresh_61 (zpS_i (by first | exact (zb_t (mFr_s.mpr ⟨by omega, by omega, by unfold mFst; omega, by omega, by assumption, by first | exact Or.inl (by omega) | exact Or.inr (by assumption)⟩)).symm | exact (zb_f (fun q => by have q := mFr_s.mp q; unfold mFst at q; first | omega | exact absurd q.2.2.2.2.1 (by assumption) | exact q.2.2.2.2.2.elim (fun g => by omega) (fun g => absurd g (by assumption)))).symm))
      · refine zV_aloadn hX dX5_isFresh_26 rfl ?_
        refine GF_X5_51 hX  dX5_isFresh_27 ?_
        refine zV_iloadn hX dX5_isFresh_30 rfl ?_
        refine AL_35 hX  ⟨by omega, by omega⟩ dX5_isFresh_31 (fun r31 => ?_)
        refine zV_aloadn hX dX5_isFresh_32 rfl ?_
        refine GF_X5_17 hX  dX5_isFresh_33 ?_
        refine zV_aloadn hX dX5_isFresh_36 rfl ?_
        refine GF_X5_27 hX  dX5_isFresh_37 ?_
        refine zV_iloadn hX dX5_isFresh_40 rfl ?_
        refine AL_27 hX  ⟨by omega, by omega⟩ dX5_isFresh_41 (fun r41 => ?_)
        refine AL_23 hX  ⟨by omega, by omega⟩ dX5_isFresh_42 (fun r42 => ?_)
        refine zV_icmp_ne (tgt := 60) hX dX5_isFresh_43 (by decide) (by omega) (by omega) (fun b43 => ?_) (fun b43 => ?_)
        · refine zV_iconst hX dX5_isFresh_60 ?_
          exact zV_iret hX hM (by omega) (by omega) (zn_bool (by omega)) dX5_isFresh_61 (zpS_i (by first | exact (zb_t (mFr_s.mpr ⟨by omega, by omega, by unfold mFst; omega, by omega, by assumption, by first | exact Or.inl (by omega) | exact Or.inr (by assumption)⟩)).symm | exact (zb_f (fun q => by have q := mFr_s.mp q; unfold mFst at q; first | omega | exact absurd q.2.2.2.2.1 (by assumption) | exact q.2.2.2.2.2.elim (fun g => by omega) (fun g => absurd g (by assumption)))).symm))
        · refine zV_aloadn hX dX5_isFresh_46 rfl ?_
          refine GF_X5_54 hX  dX5_isFresh_47 ?_
          refine zV_iloadn hX dX5_isFresh_50 rfl ?_
          refine AL_36 hX  ⟨by omega, by omega⟩ dX5_isFresh_51 (fun r51 => ?_)
          refine zV_aloadn hX dX5_isFresh_52 rfl ?_
          refine zV_iloadn hX dX5_isFresh_53 rfl ?_
          refine zV_cVS (n := 1) hX rfl hN 20 rfl rfl ⟨by decide, by decide⟩ (c_X5_second (c := c) (by omega) (by omega)) zw_co_yX5_second zw_mX5_165 zw_in_RX5 zw_im_yX5_second zw_se_yX5_second ⟨by decide, by decide, by decide +kernel⟩ rfl (by omega) (by decide) (by omega) (by omega) rfl (Nat.le_of_ble_eq_true rfl) dX5_isFresh_54 ?_ 
          refine zV_icmp_eq (tgt := 62) hX dX5_isFresh_57 (by decide) (by omega) (by omega) (fun b57 => ?_) (fun b57 => ?_)
          · refine zV_aloadn hX dX5_isFresh_62 rfl ?_
            refine zV_aloadn hX dX5_isFresh_63 rfl ?_
            refine GF_X5_27 hX  dX5_isFresh_64 ?_
            refine zV_iloadn hX dX5_isFresh_67 rfl ?_
            refine AL_27 hX  ⟨by omega, by omega⟩ dX5_isFresh_68 (fun r68 => ?_)
            refine zV_cVS (n := 1) hX rfl hN 20 rfl rfl ⟨by decide, by decide⟩ (c_X5_isFreshBelow (n := n) (v := y 27 0 c) ⟨by omega, by omega⟩ ⟨by omega, by omega⟩ hI ih) zw_co_yX5_isFreshBelow zw_mX5_218 zw_in_RX5 zw_im_yX5_isFreshBelow zw_se_yX5_isFreshBelow ⟨by decide, by decide, by decide +kernel⟩ rfl (by omega) (by decide) (by omega) (by omega) rfl (Nat.le_of_ble_eq_true rfl) dX5_isFresh_69 ?_ 
            refine zV_ifeq_b (tgt := 101) hX dX5_isFresh_72 (by decide) (fun b72 => ?_) (fun b72 => ?_)
            · refine zV_iconst hX dX5_isFresh_101 ?_
              exact zV_iret hX hM (by omega) (by omega) (zn_bool (by omega)) dX5_isFresh_102 (zpS_i (by first | exact (zb_t (mFr_s.mpr ⟨by omega, by omega, by unfold mFst; omega, by omega, by assumption, by first | exact Or.inl (by omega) | exact Or.inr (by assumption)⟩)).symm | exact (zb_f (fun q => by have q := mFr_s.mp q; unfold mFst at q; first | omega | exact absurd q.2.2.2.2.1 (by assumption) | exact q.2.2.2.2.2.elim (fun g => by omega) (fun g => absurd g (by assumption)))).symm))
            · refine zV_aloadn hX dX5_isFresh_75 rfl ?_
              refine GF_X5_30 hX  dX5_isFresh_76 ?_
              refine zV_iloadn hX dX5_isFresh_79 rfl ?_
              refine AL_28 hX  ⟨by omega, by omega⟩ dX5_isFresh_80 (fun r80 => ?_)
              refine zV_if_lt (tgt := 97) hX dX5_isFresh_81 (by decide) (by omega) (fun b81 => ?_) (fun b81 => ?_)
              · refine zV_iconst hX dX5_isFresh_97 ?_
                refine zV_goto (tgt := 102) hX dX5_isFresh_98 (by decide) ?_
                exact zV_iret hX hM (by omega) (by omega) (zn_bool (by omega)) dX5_isFresh_102 (zpS_i (by first | exact (zb_t (mFr_s.mpr ⟨by omega, by omega, by unfold mFst; omega, by omega, by assumption, by first | exact Or.inl (by omega) | exact Or.inr (by assumption)⟩)).symm | exact (zb_f (fun q => by have q := mFr_s.mp q; unfold mFst at q; first | omega | exact absurd q.2.2.2.2.1 (by assumption) | exact q.2.2.2.2.2.elim (fun g => by omega) (fun g => absurd g (by assumption)))).symm))
              · refine zV_aloadn hX dX5_isFresh_84 rfl ?_
                refine zV_aloadn hX dX5_isFresh_85 rfl ?_
                refine GF_X5_30 hX  dX5_isFresh_86 ?_
                refine zV_iloadn hX dX5_isFresh_89 rfl ?_
                refine AL_28 hX  ⟨by omega, by omega⟩ dX5_isFresh_90 (fun r90 => ?_)
                refine zV_cVS (n := 1) hX rfl hN 20 rfl rfl ⟨by decide, by decide⟩ (c_X5_isFreshBelow (n := n) (v := y 28 0 c) ⟨by omega, by omega⟩ ⟨by omega, by omega⟩ hI ih) zw_co_yX5_isFreshBelow zw_mX5_218 zw_in_RX5 zw_im_yX5_isFreshBelow zw_se_yX5_isFreshBelow ⟨by decide, by decide, by decide +kernel⟩ rfl (by omega) (by decide) (by omega) (by omega) rfl (Nat.le_of_ble_eq_true rfl) dX5_isFresh_91 ?_ 
                refine zV_ifeq_b (tgt := 101) hX dX5_isFresh_94 (by decide) (fun b94 => ?_) (fun b94 => ?_)
                · refine zV_iconst hX dX5_isFresh_101 ?_
                  exact zV_iret hX hM (by omega) (by omega) (zn_bool (by omega)) dX5_isFresh_102 (zpS_i (by first | exact (zb_t (mFr_s.mpr ⟨by omega, by omega, by unfold mFst; omega, by omega, by assumption, by first | exact Or.inl (by omega) | exact Or.inr (by assumption)⟩)).symm | exact (zb_f (fun q => by have q := mFr_s.mp q; unfold mFst at q; first | omega | exact absurd q.2.2.2.2.1 (by assumption) | exact q.2.2.2.2.2.elim (fun g => by omega) (fun g => absurd g (by assumption)))).symm))
                · refine zV_iconst hX dX5_isFresh_97 ?_
                  refine zV_goto (tgt := 102) hX dX5_isFresh_98 (by decide) ?_
                  exact zV_iret hX hM (by omega) (by omega) (zn_bool (by omega)) dX5_isFresh_102 (zpS_i (by first | exact (zb_t (mFr_s.mpr ⟨by omega, by omega, by unfold mFst; omega, by omega, by assumption, by first | exact Or.inl (by omega) | exact Or.inr (by assumption)⟩)).symm | exact (zb_f (fun q => by have q := mFr_s.mp q; unfold mFst at q; first | omega | exact absurd q.2.2.2.2.1 (by assumption) | exact q.2.2.2.2.2.elim (fun g => by omega) (fun g => absurd g (by assumption)))).symm))
          · refine zV_iconst hX dX5_isFresh_60 ?_
            exact zV_iret hX hM (by omega) (by omega) (zn_bool (by omega)) dX5_isFresh_61 (zpS_i (by first | exact (zb_t (mFr_s.mpr ⟨by omega, by omega, by unfold mFst; omega, by omega, by assumption, by first | exact Or.inl (by omega) | exact Or.inr (by assumption)⟩)).symm | exact (zb_f (fun q => by have q := mFr_s.mp q; unfold mFst at q; first | omega | exact absurd q.2.2.2.2.1 (by assumption) | exact q.2.2.2.2.2.elim (fun g => by omega) (fun g => absurd g (by assumption)))).symm))
set_option maxRecDepth 100000 in
set_option maxHeartbeats 4000000 in
theorem c_X5_anewOf {ad : Nat → Int → Nat} {x y : zSt} {n : Nat} {v : Int} (hv : 0 ≤ v ∧ v ≤ 11) (hw : y 21 0 v ≠ 0 ∨ (0 ≤ y 24 0 v ∧ y 24 0 v < y 20 0 5 ∧ y 24 0 v < n)) (hI : mI y) (H : ∀ c : Int, 0 ≤ c → c < y 20 0 5 → c < n → zC yX5_anew cX5_anew 4 (some .int) (3 * n + 3) 0 0 [.ref (ad 20 0), zI c] ad x y (zpS (mAn y n c) x y) zF) : zC yX5_anewOf cX5_anewOf 2 (some .int) (3 * n + 4) 0 0 [.ref (ad 20 0), zI v] ad x y (zpS (mAo y n v) x y) (zF) := by
  refine zC_ofV (by decide) (by intro v hv; simp only [List.mem_cons, List.not_mem_nil, or_false] at hv; rcases hv with rfl | rfl <;> rfl) (Nat.le_of_ble_eq_true rfl) (fun Γ hX hN hM hT => ?_)
  show zV Γ ad 0 0 x y 0 [some (.ref (ad 20 0)), some (zI v)] []
  refine zV_aloadn hX dX5_anewOf_0 rfl ?_
  refine GF_X5_7 hX  dX5_anewOf_1 ?_
  refine zV_iloadn hX dX5_anewOf_4 rfl ?_
  refine AL_21 hX  ⟨by omega, by omega⟩ dX5_anewOf_5 (fun r5 => ?_)
  refine zV_if_eq (tgt := 18) hX dX5_anewOf_6 (by decide) (by omega) (fun b6 => ?_) (fun b6 => ?_)
  · refine zV_aloadn hX dX5_anewOf_18 rfl ?_
    refine zV_aloadn hX dX5_anewOf_19 rfl ?_
    refine GF_X5_20 hX  dX5_anewOf_20 ?_
    refine zV_iloadn hX dX5_anewOf_23 rfl ?_
    refine AL_24 hX  ⟨by omega, by omega⟩ dX5_anewOf_24 (fun r24 => ?_)
    refine zV_cVS (n := 1) hX rfl hN 20 rfl rfl ⟨by decide, by decide⟩ (H (y 24 0 v) (by omega) (by omega) (by omega)) zw_co_yX5_anew zw_mX5_158 zw_in_RX5 zw_im_yX5_anew zw_se_yX5_anew ⟨by decide, by decide, by decide +kernel⟩ rfl (by omega) (by decide) (by omega) (by omega) rfl (Nat.le_of_ble_eq_true rfl) dX5_anewOf_25 ?_ 
    exact zV_iret hX hM (by omega) (by omega) rfl dX5_anewOf_28 (zpS_i (by unfold mAo; first | rw [if_pos (by omega)] | rw [if_neg (by omega)]))
  · refine zV_aloadn hX dX5_anewOf_9 rfl ?_
    refine GF_X5_17 hX  dX5_anewOf_10 ?_
    refine zV_iloadn hX dX5_anewOf_13 rfl ?_
    refine AL_23 hX  ⟨by omega, by omega⟩ dX5_anewOf_14 (fun r14 => ?_)
    refine zV_goto (tgt := 28) hX dX5_anewOf_15 (by decide) ?_
    exact zV_iret hX hM (by omega) (by omega) rfl dX5_anewOf_28 (zpS_i (by unfold mAo; first | rw [if_pos (by omega)] | rw [if_neg (by omega)]))
set_option maxRecDepth 100000 in
set_option maxHeartbeats 4000000 in
theorem c_X5_anew {ad : Nat → Int → Nat} {x y : zSt} (hI : mI y) : ∀ (n : Nat) (c : Int), 0 ≤ c → c < y 20 0 5 → c < n → zC yX5_anew cX5_anew 4 (some .int) (3 * n + 3) 0 0 [.ref (ad 20 0), zI c] ad x y (zpS (mAn y n c) x y) (zF) := by
  intro n
  induction n with
  | zero => intro c h1 h2 h3; omega
  | succ n ih =>
    intro c h1 h2 h3
    refine zC_ofV (by decide) (by intro v hv; simp only [List.mem_cons, List.not_mem_nil, or_false] at hv; rcases hv with rfl | rfl <;> rfl) (Nat.le_of_ble_eq_true rfl) (fun Γ hX hN hM hT => ?_)
    show zV Γ ad 0 0 x y 0 [some (.ref (ad 20 0)), some (zI c), none, none] []
    obtain ⟨⟨n1, n2, n3, n4, n5, n6⟩, j2, j3, j4, j5, j6, j7⟩ := id hI
    have w := j3 c h1 h2
    have b1 := mAo_b (n := n) hI (v := y 27 0 c) ⟨by omega, by omega⟩
    have b2 : 0 ≤ y 28 0 c → _ := fun g => mAo_b (n := n) hI (v := y 28 0 c) ⟨by omega, by omega⟩
    refine zV_aloadn hX dX5_anew_0 rfl ?_
    refine zV_aloadn hX dX5_anew_1 rfl ?_
    refine GF_X5_27 hX  dX5_anew_2 ?_
    refine zV_iloadn hX dX5_anew_5 rfl ?_
    refine AL_27 hX  ⟨by omega, by omega⟩ dX5_anew_6 (fun r6 => ?_)
    refine zV_cVS (n := 1) hX rfl hN 20 rfl rfl ⟨by decide, by decide⟩ (c_X5_anewOf (n := n) (v := y 27 0 c) ⟨by omega, by omega⟩ (by omega) hI ih) zw_co_yX5_anewOf zw_mX5_151 zw_in_RX5 zw_im_yX5_anewOf zw_se_yX5_anewOf ⟨by decide, by decide, by decide +kernel⟩ rfl (by omega) (by decide) (by omega) (by omega) rfl (Nat.le_of_ble_eq_true rfl) dX5_anew_7 ?_ 
    refine zV_istoren2 hX dX5_anew_10 ?_
    refine zV_aloadn hX dX5_anew_11 rfl ?_
    refine GF_X5_30 hX  dX5_anew_12 ?_
    refine zV_iloadn hX dX5_anew_15 rfl ?_
    refine AL_28 hX  ⟨by omega, by omega⟩ dX5_anew_16 (fun r16 => ?_)
    refine zV_if_ge (tgt := 24) hX dX5_anew_17 (by decide) (by omega) (fun b17 => ?_) (fun b17 => ?_)
    · refine zV_aloadn hX dX5_anew_24 rfl ?_
      refine zV_aloadn hX dX5_anew_25 rfl ?_
      refine GF_X5_30 hX  dX5_anew_26 ?_
      refine zV_iloadn hX dX5_anew_29 rfl ?_
      refine AL_28 hX  ⟨by omega, by omega⟩ dX5_anew_30 (fun r30 => ?_)
      refine zV_cVS (n := 1) hX rfl hN 20 rfl rfl ⟨by decide, by decide⟩ (c_X5_anewOf (n := n) (v := y 28 0 c) ⟨by omega, by omega⟩ (by omega) hI ih) zw_co_yX5_anewOf zw_mX5_151 zw_in_RX5 zw_im_yX5_anewOf zw_se_yX5_anewOf ⟨by decide, by decide, by decide +kernel⟩ rfl (by omega) (by decide) (by omega) (by omega) rfl (Nat.le_of_ble_eq_true rfl) dX5_anew_31 ?_ 
      refine zV_istoren3 hX dX5_anew_34 ?_
      refine zV_iloadn hX dX5_anew_35 rfl ?_
      refine zV_if_lt (tgt := 43) hX dX5_anew_36 (by decide) (by omega) (fun b36 => ?_) (fun b36 => ?_)
      · refine zV_iconst hX dX5_anew_43 ?_
        refine zV_goto (tgt := 54) hX dX5_anew_44 (by decide) ?_
        exact zV_iret hX hM (by omega) (by omega) rfl dX5_anew_54 (zpS_i (by rw [mAn_s]; first | rw [if_pos (by first | exact Or.inl (by omega) | exact Or.inr (by rw [if_neg (by omega)]; omega))] | (exfalso; omega) | (rw [if_neg (fun q => q.elim (fun g => by omega) (fun g => by first | (rw [if_pos (by omega)] at g; omega) | (rw [if_neg (by omega)] at g; omega)))]; first | rw [if_pos (by omega)] | rw [if_neg (by omega)])))
      · refine zV_iloadn hX dX5_anew_39 rfl ?_
        refine zV_if_ge (tgt := 47) hX dX5_anew_40 (by decide) (by first | omega | (have := b2 (by omega); omega)) (fun b40 => ?_) (fun b40 => ?_)
        · refine zV_aloadn hX dX5_anew_47 rfl ?_
          refine zV_iloadn hX dX5_anew_48 rfl ?_
          refine zV_iloadn hX dX5_anew_49 rfl ?_
          refine zV_iloadn hX dX5_anew_50 rfl ?_
          refine zV_cVS (n := 3) hX rfl hN 20 rfl rfl ⟨by decide, by decide⟩ (c_X5_computes (c := c) (a := mAo y n (y 27 0 c)) ⟨by omega, by omega⟩ (by first | omega | (have := b2 (by omega); omega)) (fun g => by first | omega | (have := b2 (by omega); omega)) ⟨h1, h2⟩ hI) zw_co_yX5_computes zw_mX5_154 zw_in_RX5 zw_im_yX5_computes zw_se_yX5_computes ⟨by decide, by decide, by decide +kernel⟩ rfl (by omega) (by decide) (by omega) (by omega) rfl (Nat.le_of_ble_eq_true rfl) dX5_anew_51 ?_ 
          exact zV_iret hX hM (by omega) (by omega) rfl dX5_anew_54 (zpS_i (by rw [mAn_s]; first | rw [if_pos (by first | exact Or.inl (by omega) | exact Or.inr (by rw [if_neg (by omega)]; omega))] | (exfalso; omega) | (rw [if_neg (fun q => q.elim (fun g => by omega) (fun g => by first | (rw [if_pos (by omega)] at g; omega) | (rw [if_neg (by omega)] at g; omega)))]; first | rw [if_pos (by omega)] | rw [if_neg (by omega)])))
        · refine zV_iconst hX dX5_anew_43 ?_
          refine zV_goto (tgt := 54) hX dX5_anew_44 (by decide) ?_
          exact zV_iret hX hM (by omega) (by omega) rfl dX5_anew_54 (zpS_i (by rw [mAn_s]; first | rw [if_pos (by first | exact Or.inl (by omega) | exact Or.inr (by rw [if_neg (by omega)]; omega))] | (exfalso; omega) | (rw [if_neg (fun q => q.elim (fun g => by omega) (fun g => by first | (rw [if_pos (by omega)] at g; omega) | (rw [if_neg (by omega)] at g; omega)))]; first | rw [if_pos (by omega)] | rw [if_neg (by omega)])))
    · refine zV_iconst hX dX5_anew_20 ?_
      refine zV_goto (tgt := 34) hX dX5_anew_21 (by decide) ?_
      refine zV_istoren3 hX dX5_anew_34 ?_
      refine zV_iloadn hX dX5_anew_35 rfl ?_
      refine zV_if_lt (tgt := 43) hX dX5_anew_36 (by decide) (by omega) (fun b36 => ?_) (fun b36 => ?_)
      · refine zV_iconst hX dX5_anew_43 ?_
        refine zV_goto (tgt := 54) hX dX5_anew_44 (by decide) ?_
        exact zV_iret hX hM (by omega) (by omega) rfl dX5_anew_54 (zpS_i (by rw [mAn_s]; first | rw [if_pos (by first | exact Or.inl (by omega) | exact Or.inr (by rw [if_neg (by omega)]; omega))] | (exfalso; omega) | (rw [if_neg (fun q => q.elim (fun g => by omega) (fun g => by first | (rw [if_pos (by omega)] at g; omega) | (rw [if_neg (by omega)] at g; omega)))]; first | rw [if_pos (by omega)] | rw [if_neg (by omega)])))
      · refine zV_iloadn hX dX5_anew_39 rfl ?_
        refine zV_if_ge (tgt := 47) hX dX5_anew_40 (by decide) (by omega) (fun b40 => ?_) (fun b => by exfalso; omega)
        refine zV_aloadn hX dX5_anew_47 rfl ?_
        refine zV_iloadn hX dX5_anew_48 rfl ?_
        refine zV_iloadn hX dX5_anew_49 rfl ?_
        refine zV_iloadn hX dX5_anew_50 rfl ?_
        refine zV_cVS (n := 3) hX rfl hN 20 rfl rfl ⟨by decide, by decide⟩ (c_X5_computes (c := c) (a := mAo y n (y 27 0 c)) ⟨by omega, by omega⟩ (by first | omega | (have := b2 (by omega); omega)) (fun g => by first | omega | (have := b2 (by omega); omega)) ⟨h1, h2⟩ hI) zw_co_yX5_computes zw_mX5_154 zw_in_RX5 zw_im_yX5_computes zw_se_yX5_computes ⟨by decide, by decide, by decide +kernel⟩ rfl (by omega) (by decide) (by omega) (by omega) rfl (Nat.le_of_ble_eq_true rfl) dX5_anew_51 ?_ 
        exact zV_iret hX hM (by omega) (by omega) rfl dX5_anew_54 (zpS_i (by rw [mAn_s]; first | rw [if_pos (by first | exact Or.inl (by omega) | exact Or.inr (by rw [if_neg (by omega)]; omega))] | (exfalso; omega) | (rw [if_neg (fun q => q.elim (fun g => by omega) (fun g => by first | (rw [if_pos (by omega)] at g; omega) | (rw [if_neg (by omega)] at g; omega)))]; first | rw [if_pos (by omega)] | rw [if_neg (by omega)])))
set_option maxRecDepth 100000 in
set_option maxHeartbeats 4000000 in
theorem c_X5_comesFrom {ad : Nat → Int → Nat} {x y : zSt} {n : Nat} {r v : Int} (hr : 0 ≤ r ∧ r ≤ 11) (hv : zR v) (hw : y 24 0 r < y 20 0 5 ∧ y 24 0 r < n) (hI : mI y) (H : ∀ c : Int, 0 ≤ c → c < y 20 0 5 → c < n → zC yX5_isOn cX5_isOn 3 (some .boolean) (2 * n + 2) 0 0 [.ref (ad 20 0), zI c, zI v] ad x y (zpS (zb (mOn y v n c = true)) x y) zF) : zC yX5_comesFrom cX5_comesFrom 3 (some .boolean) (2 * n + 3) 0 0 [.ref (ad 20 0), zI r, zI v] ad x y (zpS (zb (r = v ∨ (0 ≤ y 24 0 r ∧ mOn y v n (y 24 0 r) = true))) x y) (zF) := by
  refine zC_ofV (by decide) (by intro v hv; simp only [List.mem_cons, List.not_mem_nil, or_false] at hv; rcases hv with rfl | rfl | rfl <;> rfl) (Nat.le_of_ble_eq_true rfl) (fun Γ hX hN hM hT => ?_)
  show zV Γ ad 0 0 x y 0 [some (.ref (ad 20 0)), some (zI r), some (zI v)] []
  refine zV_iloadn hX dX5_comesFrom_0 rfl ?_
  refine zV_iloadn hX dX5_comesFrom_1 rfl ?_
  refine zV_icmp_eq (tgt := 28) hX dX5_comesFrom_2 (by decide) (by omega) (by omega) (fun b2 => ?_) (fun b2 => ?_)
  · refine zV_iconst hX dX5_comesFrom_28 ?_
    refine zV_goto (tgt := 33) hX dX5_comesFrom_29 (by decide) ?_
    exact zV_iret hX hM (by omega) (by omega) (zn_bool (by omega)) dX5_comesFrom_33 (zpS_i (by first | exact (zb_t (Or.inl (by omega))).symm | exact (zb_t (Or.inr ⟨by omega, by assumption⟩)).symm | exact (zb_f (fun q => q.elim (fun h => by omega) (fun h => by first | omega | exact absurd h.2 (by assumption)))).symm))
  · refine zV_aloadn hX dX5_comesFrom_5 rfl ?_
    refine GF_X5_20 hX  dX5_comesFrom_6 ?_
    refine zV_iloadn hX dX5_comesFrom_9 rfl ?_
    refine AL_24 hX  ⟨by omega, by omega⟩ dX5_comesFrom_10 (fun r10 => ?_)
    refine zV_if_lt (tgt := 32) hX dX5_comesFrom_11 (by decide) (by omega) (fun b11 => ?_) (fun b11 => ?_)
    · refine zV_iconst hX dX5_comesFrom_32 ?_
      exact zV_iret hX hM (by omega) (by omega) (zn_bool (by omega)) dX5_comesFrom_33 (zpS_i (by first | exact (zb_t (Or.inl (by omega))).symm | exact (zb_t (Or.inr ⟨by omega, by assumption⟩)).symm | exact (zb_f (fun q => q.elim (fun h => by omega) (fun h => by first | omega | exact absurd h.2 (by assumption)))).symm))
    · refine zV_aloadn hX dX5_comesFrom_14 rfl ?_
      refine zV_aloadn hX dX5_comesFrom_15 rfl ?_
      refine GF_X5_20 hX  dX5_comesFrom_16 ?_
      refine zV_iloadn hX dX5_comesFrom_19 rfl ?_
      refine AL_24 hX  ⟨by omega, by omega⟩ dX5_comesFrom_20 (fun r20 => ?_)
      refine zV_iloadn hX dX5_comesFrom_21 rfl ?_
      refine zV_cVS (n := 2) hX rfl hN 20 rfl rfl ⟨by decide, by decide⟩ (H (y 24 0 r) (by omega) (by omega) (by omega)) zw_co_yX5_isOn zw_mX5_224 zw_in_RX5 zw_im_yX5_isOn zw_se_yX5_isOn ⟨by decide, by decide, by decide +kernel⟩ rfl (by omega) (by decide) (by omega) (by omega) rfl (Nat.le_of_ble_eq_true rfl) dX5_comesFrom_22 ?_ 
      refine zV_ifeq_b (tgt := 32) hX dX5_comesFrom_25 (by decide) (fun b25 => ?_) (fun b25 => ?_)
      · refine zV_iconst hX dX5_comesFrom_32 ?_
        exact zV_iret hX hM (by omega) (by omega) (zn_bool (by omega)) dX5_comesFrom_33 (zpS_i (by first | exact (zb_t (Or.inl (by omega))).symm | exact (zb_t (Or.inr ⟨by omega, by assumption⟩)).symm | exact (zb_f (fun q => q.elim (fun h => by omega) (fun h => by first | omega | exact absurd h.2 (by assumption)))).symm))
      · refine zV_iconst hX dX5_comesFrom_28 ?_
        refine zV_goto (tgt := 33) hX dX5_comesFrom_29 (by decide) ?_
        exact zV_iret hX hM (by omega) (by omega) (zn_bool (by omega)) dX5_comesFrom_33 (zpS_i (by first | exact (zb_t (Or.inl (by omega))).symm | exact (zb_t (Or.inr ⟨by omega, by assumption⟩)).symm | exact (zb_f (fun q => q.elim (fun h => by omega) (fun h => by first | omega | exact absurd h.2 (by assumption)))).symm))
set_option maxRecDepth 100000 in
set_option maxHeartbeats 4000000 in
theorem c_X5_isOn {ad : Nat → Int → Nat} {x y : zSt} {v : Int} (hv : zR v) (hI : mI y) : ∀ (n : Nat) (c : Int), 0 ≤ c → c < y 20 0 5 → c < n → zC yX5_isOn cX5_isOn 3 (some .boolean) (2 * n + 2) 0 0 [.ref (ad 20 0), zI c, zI v] ad x y (zpS (zb (mOn y v n c = true)) x y) (zF) := by
  intro n
  induction n with
  | zero => intro c h1 h2 h3; omega
  | succ n ih =>
    intro c h1 h2 h3
    refine zC_ofV (by decide) (by intro v hv; simp only [List.mem_cons, List.not_mem_nil, or_false] at hv; rcases hv with rfl | rfl | rfl <;> rfl) (Nat.le_of_ble_eq_true rfl) (fun Γ hX hN hM hT => ?_)
    show zV Γ ad 0 0 x y 0 [some (.ref (ad 20 0)), some (zI c), some (zI v)] []
    obtain ⟨⟨n1, n2, n3, n4, n5, n6⟩, j2, j3, j4, j5, j6, j7⟩ := id hI
    have w := j3 c h1 h2
    refine zV_aloadn hX dX5_isOn_0 rfl ?_
    refine zV_aloadn hX dX5_isOn_1 rfl ?_
    refine GF_X5_27 hX  dX5_isOn_2 ?_
    refine zV_iloadn hX dX5_isOn_5 rfl ?_
    refine AL_27 hX  ⟨by omega, by omega⟩ dX5_isOn_6 (fun r6 => ?_)
    refine zV_iloadn hX dX5_isOn_7 rfl ?_
    refine zV_cVS (n := 2) hX rfl hN 20 rfl rfl ⟨by decide, by decide⟩ (c_X5_comesFrom (n := n) (r := y 27 0 c) ⟨by omega, by omega⟩ hv ⟨by omega, by omega⟩ hI ih) zw_co_yX5_comesFrom zw_mX5_228 zw_in_RX5 zw_im_yX5_comesFrom zw_se_yX5_comesFrom ⟨by decide, by decide, by decide +kernel⟩ rfl (by omega) (by decide) (by omega) (by omega) rfl (Nat.le_of_ble_eq_true rfl) dX5_isOn_8 ?_ 
    refine zV_ifne_b (tgt := 37) hX dX5_isOn_11 (by decide) (fun b11 => ?_) (fun b11 => ?_)
    · refine zV_iconst hX dX5_isOn_37 ?_
      refine zV_goto (tgt := 42) hX dX5_isOn_38 (by decide) ?_
      exact zV_iret hX hM (by omega) (by omega) (zn_bool (by omega)) dX5_isOn_42 (zpS_i (by first | exact (zb_t (mOn_s.mpr (Or.inl (by assumption)))).symm | exact (zb_t (mOn_s.mpr (Or.inr ⟨by omega, by assumption⟩))).symm | exact (zb_f (fun q => (mOn_s.mp q).elim (fun q => absurd q (by assumption)) (fun q => by first | omega | exact absurd q.2 (by assumption)))).symm))
    · refine zV_aloadn hX dX5_isOn_14 rfl ?_
      refine GF_X5_30 hX  dX5_isOn_15 ?_
      refine zV_iloadn hX dX5_isOn_18 rfl ?_
      refine AL_28 hX  ⟨by omega, by omega⟩ dX5_isOn_19 (fun r19 => ?_)
      refine zV_if_lt (tgt := 41) hX dX5_isOn_20 (by decide) (by omega) (fun b20 => ?_) (fun b20 => ?_)
      · refine zV_iconst hX dX5_isOn_41 ?_
        exact zV_iret hX hM (by omega) (by omega) (zn_bool (by omega)) dX5_isOn_42 (zpS_i (by first | exact (zb_t (mOn_s.mpr (Or.inl (by assumption)))).symm | exact (zb_t (mOn_s.mpr (Or.inr ⟨by omega, by assumption⟩))).symm | exact (zb_f (fun q => (mOn_s.mp q).elim (fun q => absurd q (by assumption)) (fun q => by first | omega | exact absurd q.2 (by assumption)))).symm))
      · refine zV_aloadn hX dX5_isOn_23 rfl ?_
        refine zV_aloadn hX dX5_isOn_24 rfl ?_
        refine GF_X5_30 hX  dX5_isOn_25 ?_
        refine zV_iloadn hX dX5_isOn_28 rfl ?_
        refine AL_28 hX  ⟨by omega, by omega⟩ dX5_isOn_29 (fun r29 => ?_)
        refine zV_iloadn hX dX5_isOn_30 rfl ?_
        refine zV_cVS (n := 2) hX rfl hN 20 rfl rfl ⟨by decide, by decide⟩ (c_X5_comesFrom (n := n) (r := y 28 0 c) ⟨by omega, by omega⟩ hv ⟨by omega, by omega⟩ hI ih) zw_co_yX5_comesFrom zw_mX5_228 zw_in_RX5 zw_im_yX5_comesFrom zw_se_yX5_comesFrom ⟨by decide, by decide, by decide +kernel⟩ rfl (by omega) (by decide) (by omega) (by omega) rfl (Nat.le_of_ble_eq_true rfl) dX5_isOn_31 ?_ 
        refine zV_ifeq_b (tgt := 41) hX dX5_isOn_34 (by decide) (fun b34 => ?_) (fun b34 => ?_)
        · refine zV_iconst hX dX5_isOn_41 ?_
          exact zV_iret hX hM (by omega) (by omega) (zn_bool (by omega)) dX5_isOn_42 (zpS_i (by first | exact (zb_t (mOn_s.mpr (Or.inl (by assumption)))).symm | exact (zb_t (mOn_s.mpr (Or.inr ⟨by omega, by assumption⟩))).symm | exact (zb_f (fun q => (mOn_s.mp q).elim (fun q => absurd q (by assumption)) (fun q => by first | omega | exact absurd q.2 (by assumption)))).symm))
        · refine zV_iconst hX dX5_isOn_37 ?_
          refine zV_goto (tgt := 42) hX dX5_isOn_38 (by decide) ?_
          exact zV_iret hX hM (by omega) (by omega) (zn_bool (by omega)) dX5_isOn_42 (zpS_i (by first | exact (zb_t (mOn_s.mpr (Or.inl (by assumption)))).symm | exact (zb_t (mOn_s.mpr (Or.inr ⟨by omega, by assumption⟩))).symm | exact (zb_f (fun q => (mOn_s.mp q).elim (fun q => absurd q (by assumption)) (fun q => by first | omega | exact absurd q.2 (by assumption)))).symm))
