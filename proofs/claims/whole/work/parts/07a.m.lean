set_option maxRecDepth 100000 in
set_option maxHeartbeats 4000000 in
theorem c_X5_thrown {ad : Nat → Int → Nat} {x y : zSt}  : zC yX5_thrown cX5_thrown 1 (some .int) 0 0 0 [.ref (ad 20 0)] ad x y (zpS (y 20 0 39) x y) (zF) := by
  refine zC_ofV (by decide) (by intro v hv; simp only [List.mem_cons, List.not_mem_nil, or_false] at hv; subst hv; rfl) (Nat.le_of_ble_eq_true rfl) (fun Γ hX hN hM hT => ?_)
  show zV Γ ad 0 0 x y 0 [some (.ref (ad 20 0))] []
  refine zV_aloadn hX dX5_thrown_0 rfl ?_
  refine GF_X5_108 hX  dX5_thrown_1 (fun r1 => ?_)
  exact zV_iret hX hM (by omega) (by omega) rfl dX5_thrown_4 (zpS_i rfl)
set_option maxRecDepth 100000 in
set_option maxHeartbeats 4000000 in
theorem c_X5_fails {ad : Nat → Int → Nat} {x y : zSt} {p : Int} (hp : zR p) : zC yX5_fails cX5_fails 2 (some .boolean) 0 0 0 [.ref (ad 20 0), zI p] ad x y (zpS (zb (0 < p)) x (mCod y p)) (zF) := by
  refine zC_ofV (by decide) (by intro v hv; simp only [List.mem_cons, List.not_mem_nil, or_false] at hv; rcases hv with rfl | rfl <;> rfl) (Nat.le_of_ble_eq_true rfl) (fun Γ hX hN hM hT => ?_)
  show zV Γ ad 0 0 x y 0 [some (.ref (ad 20 0)), some (zI p)] []
  refine zV_aloadn hX dX5_fails_0 rfl ?_
  refine zV_iloadn hX dX5_fails_1 rfl ?_
  refine PF_X5_108 hX  (by omega) dX5_fails_2 ?_
  refine zV_iloadn hX dX5_fails_5 rfl ?_
  refine zV_if_le (tgt := 13) hX dX5_fails_6 (by decide) (by omega) (fun b6 => ?_) (fun b6 => ?_)
  · refine zV_iconst hX dX5_fails_13 ?_
    exact zV_iret hX hM (by omega) (by omega) (zn_bool (by omega)) dX5_fails_14 (zpS_j (by first | exact (zb_t (by omega)).symm | exact (zb_f (by omega)).symm) rfl rfl)
  · refine zV_iconst hX dX5_fails_9 ?_
    refine zV_goto (tgt := 14) hX dX5_fails_10 (by decide) ?_
    exact zV_iret hX hM (by omega) (by omega) (zn_bool (by omega)) dX5_fails_14 (zpS_j (by first | exact (zb_t (by omega)).symm | exact (zb_f (by omega)).symm) rfl rfl)
set_option maxRecDepth 100000 in
set_option maxHeartbeats 4000000 in
theorem c_X5_tells {ad : Nat → Int → Nat} {x y : zSt} {v : Int} (hv : zR v) : zC yX5_tells cX5_tells 2 (some .int) 0 0 0 [.ref (ad 20 0), zI v] ad x y (zpS v x (mCod y 0)) (zF) := by
  refine zC_ofV (by decide) (by intro v hv; simp only [List.mem_cons, List.not_mem_nil, or_false] at hv; rcases hv with rfl | rfl <;> rfl) (Nat.le_of_ble_eq_true rfl) (fun Γ hX hN hM hT => ?_)
  show zV Γ ad 0 0 x y 0 [some (.ref (ad 20 0)), some (zI v)] []
  refine zV_aloadn hX dX5_tells_0 rfl ?_
  refine zV_iconst hX dX5_tells_1 ?_
  refine PF_X5_108 hX  (by omega) dX5_tells_2 ?_
  refine zV_iloadn hX dX5_tells_5 rfl ?_
  exact zV_iret hX hM (by omega) (by omega) rfl dX5_tells_6 (zpS_j rfl rfl rfl)
set_option maxRecDepth 100000 in
set_option maxHeartbeats 4000000 in
theorem c_X5_in {ad : Nat → Int → Nat} {x y : zSt} {a b c : Int} (ha : zR a) (hb : zR b) (hc : zR c) : zC yX5_in cX5_in 3 (some .boolean) 0 0 0 [zI a, zI b, zI c] ad x y (zpS (zb (b ≤ a ∧ a ≤ c)) x y) (zF) := by
  refine zC_ofV (by decide) (by intro v hv; simp only [List.mem_cons, List.not_mem_nil, or_false] at hv; rcases hv with rfl | rfl | rfl <;> rfl) (Nat.le_of_ble_eq_true rfl) (fun Γ hX hN hM hT => ?_)
  show zV Γ ad 0 0 x y 0 [some (zI a), some (zI b), some (zI c)] []
  refine zV_iloadn hX dX5_in_0 rfl ?_
  refine zV_iloadn hX dX5_in_1 rfl ?_
  refine zV_icmp_lt (tgt := 14) hX dX5_in_2 (by decide) (by omega) (by omega) (fun b2 => ?_) (fun b2 => ?_)
  · refine zV_iconst hX dX5_in_14 ?_
    exact zV_iret hX hM (by omega) (by omega) (zn_bool (by omega)) dX5_in_15 (zpS_i (by first | rfl | exact (zb_t (by omega)).symm | exact (zb_f (by omega)).symm))
  · refine zV_iloadn hX dX5_in_5 rfl ?_
    refine zV_iloadn hX dX5_in_6 rfl ?_
    refine zV_icmp_gt (tgt := 14) hX dX5_in_7 (by decide) (by omega) (by omega) (fun b7 => ?_) (fun b7 => ?_)
    · refine zV_iconst hX dX5_in_14 ?_
      exact zV_iret hX hM (by omega) (by omega) (zn_bool (by omega)) dX5_in_15 (zpS_i (by first | rfl | exact (zb_t (by omega)).symm | exact (zb_f (by omega)).symm))
    · refine zV_iconst hX dX5_in_10 ?_
      refine zV_goto (tgt := 15) hX dX5_in_11 (by decide) ?_
      exact zV_iret hX hM (by omega) (by omega) (zn_bool (by omega)) dX5_in_15 (zpS_i (by first | rfl | exact (zb_t (by omega)).symm | exact (zb_f (by omega)).symm))
set_option maxRecDepth 100000 in
set_option maxHeartbeats 4000000 in
theorem c_X5_isNoVariable {ad : Nat → Int → Nat} {x y : zSt} {v : Int} (hv : zR v) : zC yX5_isNoVariable cX5_isNoVariable 1 (some .boolean) 1 0 0 [zI v] ad x y (zpS (zb (¬ (0 ≤ v ∧ v ≤ 11))) x y) (zF) := by
  refine zC_ofV (by decide) (by intro v hv; simp only [List.mem_cons, List.not_mem_nil, or_false] at hv; subst hv; rfl) (Nat.le_of_ble_eq_true rfl) (fun Γ hX hN hM hT => ?_)
  show zV Γ ad 0 0 x y 0 [some (zI v)] []
  refine zV_iloadn hX dX5_isNoVariable_0 rfl ?_
  refine zV_iconst hX dX5_isNoVariable_1 ?_
  refine zV_bipush hX dX5_isNoVariable_2 (by decide) ?_
  refine zV_cSS (n := 3) hX rfl hN (c_X5_in (by omega) (by omega) (by omega) ) zw_co_yX5_in zw_mX5_112 zw_in_RX5 zw_st_yX5_in ⟨by decide, by decide, by decide +kernel⟩ rfl (by omega) (by decide) (by omega) (by omega) rfl (Nat.le_of_ble_eq_true rfl) dX5_isNoVariable_4 ?_ 
  refine zV_ifne_b (tgt := 14) hX dX5_isNoVariable_7 (by decide) (fun b7 => ?_) (fun b7 => ?_)
  · refine zV_iconst hX dX5_isNoVariable_14 ?_
    exact zV_iret hX hM (by omega) (by omega) (zn_bool (by omega)) dX5_isNoVariable_15 (zpS_i (by first | rfl | exact (zb_t (by omega)).symm | exact (zb_f (by omega)).symm))
  · refine zV_iconst hX dX5_isNoVariable_10 ?_
    refine zV_goto (tgt := 15) hX dX5_isNoVariable_11 (by decide) ?_
    exact zV_iret hX hM (by omega) (by omega) (zn_bool (by omega)) dX5_isNoVariable_15 (zpS_i (by first | rfl | exact (zb_t (by omega)).symm | exact (zb_f (by omega)).symm))
set_option maxRecDepth 100000 in
set_option maxHeartbeats 4000000 in
theorem c_X5_isNoCell {ad : Nat → Int → Nat} {x y : zSt} {c : Int} (hc : zR c) (hI : mI y) : zC yX5_isNoCell cX5_isNoCell 2 (some .boolean) 1 0 0 [.ref (ad 20 0), zI c] ad x y (zpS (zb (¬ (0 ≤ c ∧ c ≤ y 20 0 5 - 1))) x (mCod y (if 0 ≤ c ∧ c ≤ y 20 0 5 - 1 then 0 else 1))) (zF) := by
  refine zC_ofV (by decide) (by intro v hv; simp only [List.mem_cons, List.not_mem_nil, or_false] at hv; rcases hv with rfl | rfl <;> rfl) (Nat.le_of_ble_eq_true rfl) (fun Γ hX hN hM hT => ?_)
  show zV Γ ad 0 0 x y 0 [some (.ref (ad 20 0)), some (zI c)] []
  have hn := hI.1.1
  refine zV_aloadn hX dX5_isNoCell_0 rfl ?_
  refine zV_iloadn hX dX5_isNoCell_1 rfl ?_
  refine zV_iconst hX dX5_isNoCell_2 ?_
  refine zV_aloadn hX dX5_isNoCell_3 rfl ?_
  refine GF_X5_116 hX  dX5_isNoCell_4 (fun r4 => ?_)
  refine zV_iconst hX dX5_isNoCell_7 ?_
  refine zV_isub hX dX5_isNoCell_8 ?_
  refine zV_cSS (n := 3) hX rfl hN (c_X5_in (by omega) (by omega) (by omega) ) zw_co_yX5_in zw_mX5_112 zw_in_RX5 zw_st_yX5_in ⟨by decide, by decide, by decide +kernel⟩ rfl (by omega) (by decide) (by omega) (by omega) rfl (Nat.le_of_ble_eq_true rfl) dX5_isNoCell_9 ?_ 
  refine zV_ifeq_b (tgt := 19) hX dX5_isNoCell_12 (by decide) (fun b12 => ?_) (fun b12 => ?_)
  · refine zV_iconst hX dX5_isNoCell_19 ?_
    refine zV_cVS (n := 1) hX rfl hN 20 rfl rfl ⟨by decide, by decide⟩ (c_X5_fails (by omega) ) zw_co_yX5_fails zw_mX5_119 zw_in_RX5 zw_im_yX5_fails zw_se_yX5_fails ⟨by decide, by decide, by decide +kernel⟩ rfl (by omega) (by decide) (by omega) (by omega) rfl (Nat.le_of_ble_eq_true rfl) dX5_isNoCell_20 ?_ 
    exact zV_iret hX hM (by omega) (by omega) zn_b dX5_isNoCell_23 (zpS_j (zb_congr (by first | omega | (constructor <;> intro _ <;> omega))) rfl (by first | rw [if_pos (by omega)] | rw [if_neg (by omega)]))
  · refine zV_iconst hX dX5_isNoCell_15 ?_
    refine zV_goto (tgt := 20) hX dX5_isNoCell_16 (by decide) ?_
    refine zV_cVS (n := 1) hX rfl hN 20 rfl rfl ⟨by decide, by decide⟩ (c_X5_fails (by omega) ) zw_co_yX5_fails zw_mX5_119 zw_in_RX5 zw_im_yX5_fails zw_se_yX5_fails ⟨by decide, by decide, by decide +kernel⟩ rfl (by omega) (by decide) (by omega) (by omega) rfl (Nat.le_of_ble_eq_true rfl) dX5_isNoCell_20 ?_ 
    exact zV_iret hX hM (by omega) (by omega) zn_b dX5_isNoCell_23 (zpS_j (zb_congr (by first | omega | (constructor <;> intro _ <;> omega))) rfl (by first | rw [if_pos (by omega)] | rw [if_neg (by omega)]))
set_option maxRecDepth 100000 in
set_option maxHeartbeats 4000000 in
theorem c_X5_isThere {ad : Nat → Int → Nat} {x y : zSt} {v : Int} (hv : 0 ≤ v ∧ v ≤ 11) : zC yX5_isThere cX5_isThere 2 (some .boolean) 0 0 0 [.ref (ad 20 0), zI v] ad x y (zpS (zb (mThere y v)) x y) (zF) := by
  refine zC_ofV (by decide) (by intro v hv; simp only [List.mem_cons, List.not_mem_nil, or_false] at hv; rcases hv with rfl | rfl <;> rfl) (Nat.le_of_ble_eq_true rfl) (fun Γ hX hN hM hT => ?_)
  show zV Γ ad 0 0 x y 0 [some (.ref (ad 20 0)), some (zI v)] []
  refine zV_aloadn hX dX5_isThere_0 rfl ?_
  refine GF_X5_7 hX  dX5_isThere_1 ?_
  refine zV_iloadn hX dX5_isThere_4 rfl ?_
  refine AL_21 hX  ⟨by omega, by omega⟩ dX5_isThere_5 (fun r5 => ?_)
  refine zV_if_ne (tgt := 18) hX dX5_isThere_6 (by decide) (by omega) (fun b6 => ?_) (fun b6 => ?_)
  · refine zV_iconst hX dX5_isThere_18 ?_
    refine zV_goto (tgt := 23) hX dX5_isThere_19 (by decide) ?_
    exact zV_iret hX hM (by omega) (by omega) (zn_bool (by omega)) dX5_isThere_23 (zpS_i (by first | rfl | exact (zb_t (by omega)).symm | exact (zb_f (by omega)).symm))
  · refine zV_aloadn hX dX5_isThere_9 rfl ?_
    refine GF_X5_20 hX  dX5_isThere_10 ?_
    refine zV_iloadn hX dX5_isThere_13 rfl ?_
    refine AL_24 hX  ⟨by omega, by omega⟩ dX5_isThere_14 (fun r14 => ?_)
    refine zV_if_lt (tgt := 22) hX dX5_isThere_15 (by decide) (by omega) (fun b15 => ?_) (fun b15 => ?_)
    · refine zV_iconst hX dX5_isThere_22 ?_
      exact zV_iret hX hM (by omega) (by omega) (zn_bool (by omega)) dX5_isThere_23 (zpS_i (by first | rfl | exact (zb_t (by omega)).symm | exact (zb_f (by omega)).symm))
    · refine zV_iconst hX dX5_isThere_18 ?_
      refine zV_goto (tgt := 23) hX dX5_isThere_19 (by decide) ?_
      exact zV_iret hX hM (by omega) (by omega) (zn_bool (by omega)) dX5_isThere_23 (zpS_i (by first | rfl | exact (zb_t (by omega)).symm | exact (zb_f (by omega)).symm))
set_option maxRecDepth 100000 in
set_option maxHeartbeats 4000000 in
theorem c_X5_apart {ad : Nat → Int → Nat} {x y : zSt} {a b : Int} (ha : zR a) (hb : zR b) : zC yX5_apart cX5_apart 2 (some .int) 0 0 0 [zI a, zI b] ad x y (zpS (if b < a then a - b else b - a) x y) (zF) := by
  refine zC_ofV (by decide) (by intro v hv; simp only [List.mem_cons, List.not_mem_nil, or_false] at hv; rcases hv with rfl | rfl <;> rfl) (Nat.le_of_ble_eq_true rfl) (fun Γ hX hN hM hT => ?_)
  show zV Γ ad 0 0 x y 0 [some (zI a), some (zI b)] []
  refine zV_iloadn hX dX5_apart_0 rfl ?_
  refine zV_iloadn hX dX5_apart_1 rfl ?_
  refine zV_icmp_le (tgt := 11) hX dX5_apart_2 (by decide) (by omega) (by omega) (fun b2 => ?_) (fun b2 => ?_)
  · refine zV_iloadn hX dX5_apart_11 rfl ?_
    refine zV_iloadn hX dX5_apart_12 rfl ?_
    refine zV_isub hX dX5_apart_13 ?_
    exact zV_iret hX hM (by omega) (by omega) rfl dX5_apart_14 (zpS_i (by first | rw [if_pos (by omega)] | rw [if_neg (by omega)]))
  · refine zV_iloadn hX dX5_apart_5 rfl ?_
    refine zV_iloadn hX dX5_apart_6 rfl ?_
    refine zV_isub hX dX5_apart_7 ?_
    refine zV_goto (tgt := 14) hX dX5_apart_8 (by decide) ?_
    exact zV_iret hX hM (by omega) (by omega) rfl dX5_apart_14 (zpS_i (by first | rw [if_pos (by omega)] | rw [if_neg (by omega)]))
set_option maxRecDepth 100000 in
set_option maxHeartbeats 4000000 in
theorem c_X5_isKind {ad : Nat → Int → Nat} {x y : zSt} {k : Int} (hk : zR k) : zC yX5_isKind cX5_isKind 1 (some .boolean) 0 0 0 [zI k] ad x y (zpS (zb (k = 43 ∨ k = 42 ∨ k = 45 ∨ k = 47)) x y) (zF) := by
  refine zC_ofV (by decide) (by intro v hv; simp only [List.mem_cons, List.not_mem_nil, or_false] at hv; subst hv; rfl) (Nat.le_of_ble_eq_true rfl) (fun Γ hX hN hM hT => ?_)
  show zV Γ ad 0 0 x y 0 [some (zI k)] []
  refine zV_iloadn hX dX5_isKind_0 rfl ?_
  refine zV_bipush hX dX5_isKind_1 (by decide) ?_
  refine zV_icmp_eq (tgt := 24) hX dX5_isKind_3 (by decide) (by omega) (by omega) (fun b3 => ?_) (fun b3 => ?_)
  · refine zV_iconst hX dX5_isKind_24 ?_
    refine zV_goto (tgt := 29) hX dX5_isKind_25 (by decide) ?_
    exact zV_iret hX hM (by omega) (by omega) (zn_bool (by omega)) dX5_isKind_29 (zpS_i (by first | rfl | exact (zb_t (by omega)).symm | exact (zb_f (by omega)).symm))
  · refine zV_iloadn hX dX5_isKind_6 rfl ?_
    refine zV_bipush hX dX5_isKind_7 (by decide) ?_
    refine zV_icmp_eq (tgt := 24) hX dX5_isKind_9 (by decide) (by omega) (by omega) (fun b9 => ?_) (fun b9 => ?_)
    · refine zV_iconst hX dX5_isKind_24 ?_
      refine zV_goto (tgt := 29) hX dX5_isKind_25 (by decide) ?_
      exact zV_iret hX hM (by omega) (by omega) (zn_bool (by omega)) dX5_isKind_29 (zpS_i (by first | rfl | exact (zb_t (by omega)).symm | exact (zb_f (by omega)).symm))
    · refine zV_iloadn hX dX5_isKind_12 rfl ?_
      refine zV_bipush hX dX5_isKind_13 (by decide) ?_
      refine zV_icmp_eq (tgt := 24) hX dX5_isKind_15 (by decide) (by omega) (by omega) (fun b15 => ?_) (fun b15 => ?_)
      · refine zV_iconst hX dX5_isKind_24 ?_
        refine zV_goto (tgt := 29) hX dX5_isKind_25 (by decide) ?_
        exact zV_iret hX hM (by omega) (by omega) (zn_bool (by omega)) dX5_isKind_29 (zpS_i (by first | rfl | exact (zb_t (by omega)).symm | exact (zb_f (by omega)).symm))
      · refine zV_iloadn hX dX5_isKind_18 rfl ?_
        refine zV_bipush hX dX5_isKind_19 (by decide) ?_
        refine zV_icmp_ne (tgt := 28) hX dX5_isKind_21 (by decide) (by omega) (by omega) (fun b21 => ?_) (fun b21 => ?_)
        · refine zV_iconst hX dX5_isKind_28 ?_
          exact zV_iret hX hM (by omega) (by omega) (zn_bool (by omega)) dX5_isKind_29 (zpS_i (by first | rfl | exact (zb_t (by omega)).symm | exact (zb_f (by omega)).symm))
        · refine zV_iconst hX dX5_isKind_24 ?_
          refine zV_goto (tgt := 29) hX dX5_isKind_25 (by decide) ?_
          exact zV_iret hX hM (by omega) (by omega) (zn_bool (by omega)) dX5_isKind_29 (zpS_i (by first | rfl | exact (zb_t (by omega)).symm | exact (zb_f (by omega)).symm))
set_option maxRecDepth 100000 in
set_option maxHeartbeats 4000000 in
theorem c_X5_second {ad : Nat → Int → Nat} {x y : zSt} {c : Int} (w : 0 ≤ c ∧ c < 11) (w2 : -1 ≤ y 28 0 c ∧ y 28 0 c ≤ 11) : zC yX5_second cX5_second 2 (some .int) 0 0 0 [.ref (ad 20 0), zI c] ad x y (zpS (mSec y c) x y) (zF) := by
  refine zC_ofV (by decide) (by intro v hv; simp only [List.mem_cons, List.not_mem_nil, or_false] at hv; rcases hv with rfl | rfl <;> rfl) (Nat.le_of_ble_eq_true rfl) (fun Γ hX hN hM hT => ?_)
  show zV Γ ad 0 0 x y 0 [some (.ref (ad 20 0)), some (zI c)] []
  refine zV_aloadn hX dX5_second_0 rfl ?_
  refine GF_X5_30 hX  dX5_second_1 ?_
  refine zV_iloadn hX dX5_second_4 rfl ?_
  refine AL_28 hX  ⟨by omega, by omega⟩ dX5_second_5 (fun r5 => ?_)
  refine zV_if_ge (tgt := 13) hX dX5_second_6 (by decide) (by omega) (fun b6 => ?_) (fun b6 => ?_)
  · refine zV_aloadn hX dX5_second_13 rfl ?_
    refine GF_X5_17 hX  dX5_second_14 ?_
    refine zV_aloadn hX dX5_second_17 rfl ?_
    refine GF_X5_30 hX  dX5_second_18 ?_
    refine zV_iloadn hX dX5_second_21 rfl ?_
    refine AL_28 hX  ⟨by omega, by omega⟩ dX5_second_22 (fun r22 => ?_)
    refine AL_23 hX  ⟨by omega, by omega⟩ dX5_second_23 (fun r23 => ?_)
    exact zV_iret hX hM (by omega) (by omega) rfl dX5_second_24 (zpS_i (by unfold mSec; first | rw [if_pos (by omega)] | rw [if_neg (by omega)]))
  · refine zV_iconst hX dX5_second_9 ?_
    refine zV_goto (tgt := 24) hX dX5_second_10 (by decide) ?_
    exact zV_iret hX hM (by omega) (by omega) rfl dX5_second_24 (zpS_i (by unfold mSec; first | rw [if_pos (by omega)] | rw [if_neg (by omega)]))
set_option maxRecDepth 100000 in
set_option maxHeartbeats 4000000 in
theorem c_X5_lacks {ad : Nat → Int → Nat} {x y : zSt} {c : Int} (hc : 0 ≤ c ∧ c < y 20 0 5) (hI : mI y) : zC yX5_lacks cX5_lacks 2 (some .boolean) 0 0 0 [.ref (ad 20 0), zI c] ad x y (zpS (zb (mLacks y c)) x y) (zF) := by
  refine zC_ofV (by decide) (by intro v hv; simp only [List.mem_cons, List.not_mem_nil, or_false] at hv; rcases hv with rfl | rfl <;> rfl) (Nat.le_of_ble_eq_true rfl) (fun Γ hX hN hM hT => ?_)
  show zV Γ ad 0 0 x y 0 [some (.ref (ad 20 0)), some (zI c)] []
  obtain ⟨⟨n1, n2, n3, n4, n5, n6⟩, j2, j3, j4, j5, j6, j7⟩ := id hI
  have w := j3 c hc.1 hc.2
  refine zV_aloadn hX dX5_lacks_0 rfl ?_
  refine GF_X5_17 hX  dX5_lacks_1 ?_
  refine zV_aloadn hX dX5_lacks_4 rfl ?_
  refine GF_X5_27 hX  dX5_lacks_5 ?_
  refine zV_iloadn hX dX5_lacks_8 rfl ?_
  refine AL_27 hX  ⟨by omega, by omega⟩ dX5_lacks_9 (fun r9 => ?_)
  refine AL_23 hX  ⟨by omega, by omega⟩ dX5_lacks_10 (fun r10 => ?_)
  refine zV_if_lt (tgt := 37) hX dX5_lacks_11 (by decide) (by omega) (fun b11 => ?_) (fun b11 => ?_)
  · refine zV_iconst hX dX5_lacks_37 ?_
    refine zV_goto (tgt := 42) hX dX5_lacks_38 (by decide) ?_
    exact zV_iret hX hM (by omega) (by omega) (zn_bool (by omega)) dX5_lacks_42 (zpS_i (by first | exact (zb_t (P := mLacks y c) (by simp only [mLacks, mFst]; omega)).symm | exact (zb_f (P := mLacks y c) (by simp only [mLacks, mFst]; omega)).symm))
  · refine zV_aloadn hX dX5_lacks_14 rfl ?_
    refine GF_X5_30 hX  dX5_lacks_15 ?_
    refine zV_iloadn hX dX5_lacks_18 rfl ?_
    refine AL_28 hX  ⟨by omega, by omega⟩ dX5_lacks_19 (fun r19 => ?_)
    refine zV_if_lt (tgt := 41) hX dX5_lacks_20 (by decide) (by omega) (fun b20 => ?_) (fun b20 => ?_)
    · refine zV_iconst hX dX5_lacks_41 ?_
      exact zV_iret hX hM (by omega) (by omega) (zn_bool (by omega)) dX5_lacks_42 (zpS_i (by first | exact (zb_t (P := mLacks y c) (by simp only [mLacks, mFst]; omega)).symm | exact (zb_f (P := mLacks y c) (by simp only [mLacks, mFst]; omega)).symm))
    · refine zV_aloadn hX dX5_lacks_23 rfl ?_
      refine GF_X5_17 hX  dX5_lacks_24 ?_
      refine zV_aloadn hX dX5_lacks_27 rfl ?_
      refine GF_X5_30 hX  dX5_lacks_28 ?_
      refine zV_iloadn hX dX5_lacks_31 rfl ?_
      refine AL_28 hX  ⟨by omega, by omega⟩ dX5_lacks_32 (fun r32 => ?_)
      refine AL_23 hX  ⟨by omega, by omega⟩ dX5_lacks_33 (fun r33 => ?_)
      refine zV_if_ge (tgt := 41) hX dX5_lacks_34 (by decide) (by omega) (fun b34 => ?_) (fun b34 => ?_)
      · refine zV_iconst hX dX5_lacks_41 ?_
        exact zV_iret hX hM (by omega) (by omega) (zn_bool (by omega)) dX5_lacks_42 (zpS_i (by first | exact (zb_t (P := mLacks y c) (by simp only [mLacks, mFst]; omega)).symm | exact (zb_f (P := mLacks y c) (by simp only [mLacks, mFst]; omega)).symm))
      · refine zV_iconst hX dX5_lacks_37 ?_
        refine zV_goto (tgt := 42) hX dX5_lacks_38 (by decide) ?_
        exact zV_iret hX hM (by omega) (by omega) (zn_bool (by omega)) dX5_lacks_42 (zpS_i (by first | exact (zb_t (P := mLacks y c) (by simp only [mLacks, mFst]; omega)).symm | exact (zb_f (P := mLacks y c) (by simp only [mLacks, mFst]; omega)).symm))
set_option maxRecDepth 100000 in
set_option maxHeartbeats 4000000 in
theorem c_X5_computes {ad : Nat → Int → Nat} {x y : zSt} {c a b : Int} (ha : 0 ≤ a ∧ a ≤ 999) (hb : zR b) (hb2 : y 28 0 c ≠ -1 → 0 ≤ b ∧ b ≤ 999) (hc : 0 ≤ c ∧ c < y 20 0 5) (hI : mI y) : zC yX5_computes cX5_computes 7 (some .int) 1 0 0 [.ref (ad 20 0), zI c, zI a, zI b] ad x y (zpS (mCmp y c a b) x y) (zF) := by
  refine zC_ofV (by decide) (by intro v hv; simp only [List.mem_cons, List.not_mem_nil, or_false] at hv; rcases hv with rfl | rfl | rfl | rfl <;> rfl) (Nat.le_of_ble_eq_true rfl) (fun Γ hX hN hM hT => ?_)
  show zV Γ ad 0 0 x y 0 [some (.ref (ad 20 0)), some (zI c), some (zI a), some (zI b), none, none, none] []
  obtain ⟨⟨n1, n2, n3, n4, n5, n6⟩, j2, j3, j4, j5, j6, j7⟩ := id hI
  have w := j3 c hc.1 hc.2
  have m1 := zmul_b ha w.2.2.1
  have m2 : y 28 0 c ≠ -1 → 0 ≤ a * y 29 0 c * b ∧ a * y 29 0 c * b ≤ 999 * 99 * 999 := fun h => zmul_b m1 (hb2 h)
  have m3 : a * y 29 0 c * 1 = a * y 29 0 c := Int.mul_one _
  have m4 : ∀ q : Int, 0 < q → 0 ≤ a / q ∧ a / q ≤ 999 := fun q hq => ⟨Int.ediv_nonneg ha.1 (by omega), Int.le_trans (Int.ediv_le_self _ ha.1) ha.2⟩
  refine zV_aloadn hX dX5_computes_0 rfl ?_
  refine GF_X5_33 hX  dX5_computes_1 ?_
  refine zV_iloadn hX dX5_computes_4 rfl ?_
  refine AL_29 hX  ⟨by omega, by omega⟩ dX5_computes_5 (fun r5 => ?_)
  refine zV_istore4 hX dX5_computes_6 ?_
  refine zV_aloadn hX dX5_computes_8 rfl ?_
  refine GF_X5_30 hX  dX5_computes_9 ?_
  refine zV_iloadn hX dX5_computes_12 rfl ?_
  refine AL_28 hX  ⟨by omega, by omega⟩ dX5_computes_13 (fun r13 => ?_)
  refine zV_if_ge (tgt := 22) hX dX5_computes_14 (by decide) (by omega) (fun b14 => ?_) (fun b14 => ?_)
  · refine zV_iloadn hX dX5_computes_22 rfl ?_
    refine zV_istore5 hX dX5_computes_23 ?_
    refine zV_aloadn hX dX5_computes_25 rfl ?_
    refine GF_X5_23 hX  dX5_computes_26 ?_
    refine zV_iloadn hX dX5_computes_29 rfl ?_
    refine AL_26 hX  ⟨by omega, by omega⟩ dX5_computes_30 (fun r30 => ?_)
    refine zV_bipush hX dX5_computes_31 (by decide) ?_
    refine zV_icmp_ne (tgt := 44) hX dX5_computes_33 (by decide) (by omega) (by omega) (fun b33 => ?_) (fun b33 => ?_)
    · refine zV_aloadn hX dX5_computes_44 rfl ?_
      refine GF_X5_23 hX  dX5_computes_45 ?_
      refine zV_iloadn hX dX5_computes_48 rfl ?_
      refine AL_26 hX  ⟨by omega, by omega⟩ dX5_computes_49 (fun r49 => ?_)
      refine zV_bipush hX dX5_computes_50 (by decide) ?_
      refine zV_icmp_ne (tgt := 62) hX dX5_computes_52 (by decide) (by omega) (by omega) (fun b52 => ?_) (fun b52 => ?_)
      · refine zV_aloadn hX dX5_computes_62 rfl ?_
        refine GF_X5_23 hX  dX5_computes_63 ?_
        refine zV_iloadn hX dX5_computes_66 rfl ?_
        refine AL_26 hX  ⟨by omega, by omega⟩ dX5_computes_67 (fun r67 => ?_)
        refine zV_bipush hX dX5_computes_68 (by decide) ?_
        refine zV_icmp_ne (tgt := 82) hX dX5_computes_70 (by decide) (by omega) (by omega) (fun b70 => ?_) (fun b70 => ?_)
        · refine zV_aloadn hX dX5_computes_82 rfl ?_
          refine GF_X5_23 hX  dX5_computes_83 ?_
          refine zV_iloadn hX dX5_computes_86 rfl ?_
          refine AL_26 hX  ⟨by omega, by omega⟩ dX5_computes_87 (fun r87 => ?_)
          refine zV_bipush hX dX5_computes_88 (by decide) ?_
          refine zV_icmp_ne (tgt := 115) hX dX5_computes_90 (by decide) (by omega) (by omega) (fun b90 => ?_) (fun b90 => ?_)
          · refine zV_iloadn hX dX5_computes_115 rfl ?_
            refine zV_iload hX dX5_computes_116 rfl ?_
            refine zV_imul hX dX5_computes_118 ?_
            refine zV_aloadn hX dX5_computes_119 rfl ?_
            refine GF_X5_30 hX  dX5_computes_120 ?_
            refine zV_iloadn hX dX5_computes_123 rfl ?_
            refine AL_28 hX  ⟨by omega, by omega⟩ dX5_computes_124 (fun r124 => ?_)
            refine zV_if_ge (tgt := 132) hX dX5_computes_125 (by decide) (by omega) (fun b125 => ?_) (fun b125 => ?_)
            · refine zV_iloadn hX dX5_computes_132 rfl ?_
              refine zV_imul hX dX5_computes_133 ?_
              refine zV_istore6 hX dX5_computes_134 ?_
              refine zV_iload hX dX5_computes_136 rfl ?_
              refine zV_sipush hX dX5_computes_138 (by decide) ?_
              refine zV_irem hX dX5_computes_141 ⟨by first | omega | (have := m4 (y 29 0 c) (by omega); omega) | (have := m4 b (by omega); omega) | (split <;> omega), by first | omega | (have := m4 (y 29 0 c) (by omega); omega) | (have := m4 b (by omega); omega) | (split <;> omega)⟩ ⟨by omega, by omega⟩ ?_
              exact zV_iret hX hM (by omega) (by omega) rfl dX5_computes_142 (zpS_i (by first | (exfalso; omega) | (unfold mCmp; by_cases hs : y 28 0 c < 0 <;> simp only [hs, *, if_true, if_false, ite_true, ite_false, ne_eq, not_true_eq_false, not_false_eq_true, reduceCtorEq, Int.reduceEq, Int.reduceNeg, and_true, and_false, true_and, false_and] <;> first | rfl | (exfalso; omega))))
            · refine zV_iconst hX dX5_computes_128 ?_
              refine zV_goto (tgt := 133) hX dX5_computes_129 (by decide) ?_
              refine zV_imul hX dX5_computes_133 ?_
              refine zV_istore6 hX dX5_computes_134 ?_
              refine zV_iload hX dX5_computes_136 rfl ?_
              refine zV_sipush hX dX5_computes_138 (by decide) ?_
              refine zV_irem hX dX5_computes_141 ⟨by first | omega | (have := m4 (y 29 0 c) (by omega); omega) | (have := m4 b (by omega); omega) | (split <;> omega), by first | omega | (have := m4 (y 29 0 c) (by omega); omega) | (have := m4 b (by omega); omega) | (split <;> omega)⟩ ⟨by omega, by omega⟩ ?_
              exact zV_iret hX hM (by omega) (by omega) rfl dX5_computes_142 (zpS_i (by first | (exfalso; omega) | (unfold mCmp; by_cases hs : y 28 0 c < 0 <;> simp only [hs, *, if_true, if_false, ite_true, ite_false, ne_eq, not_true_eq_false, not_false_eq_true, reduceCtorEq, Int.reduceEq, Int.reduceNeg, and_true, and_false, true_and, false_and] <;> first | rfl | (exfalso; omega))))
          · refine zV_iloadn hX dX5_computes_93 rfl ?_
            refine zV_iload hX dX5_computes_94 rfl ?_
            refine zV_iadd hX dX5_computes_96 ?_
            refine zV_aloadn hX dX5_computes_97 rfl ?_
            refine GF_X5_30 hX  dX5_computes_98 ?_
            refine zV_iloadn hX dX5_computes_101 rfl ?_
            refine AL_28 hX  ⟨by omega, by omega⟩ dX5_computes_102 (fun r102 => ?_)
            refine zV_if_ge (tgt := 110) hX dX5_computes_103 (by decide) (by omega) (fun b103 => ?_) (fun b103 => ?_)
            · refine zV_iloadn hX dX5_computes_110 rfl ?_
              refine zV_iadd hX dX5_computes_111 ?_
              refine zV_goto (tgt := 134) hX dX5_computes_112 (by decide) ?_
              refine zV_istore6 hX dX5_computes_134 ?_
              refine zV_iload hX dX5_computes_136 rfl ?_
              refine zV_sipush hX dX5_computes_138 (by decide) ?_
              refine zV_irem hX dX5_computes_141 ⟨by first | omega | (have := m4 (y 29 0 c) (by omega); omega) | (have := m4 b (by omega); omega) | (split <;> omega), by first | omega | (have := m4 (y 29 0 c) (by omega); omega) | (have := m4 b (by omega); omega) | (split <;> omega)⟩ ⟨by omega, by omega⟩ ?_
              exact zV_iret hX hM (by omega) (by omega) rfl dX5_computes_142 (zpS_i (by first | (exfalso; omega) | (unfold mCmp; by_cases hs : y 28 0 c < 0 <;> simp only [hs, *, if_true, if_false, ite_true, ite_false, ne_eq, not_true_eq_false, not_false_eq_true, reduceCtorEq, Int.reduceEq, Int.reduceNeg, and_true, and_false, true_and, false_and] <;> first | rfl | (exfalso; omega))))
            · refine zV_iconst hX dX5_computes_106 ?_
              refine zV_goto (tgt := 111) hX dX5_computes_107 (by decide) ?_
              refine zV_iadd hX dX5_computes_111 ?_
              refine zV_goto (tgt := 134) hX dX5_computes_112 (by decide) ?_
              refine zV_istore6 hX dX5_computes_134 ?_
              refine zV_iload hX dX5_computes_136 rfl ?_
              refine zV_sipush hX dX5_computes_138 (by decide) ?_
              refine zV_irem hX dX5_computes_141 ⟨by first | omega | (have := m4 (y 29 0 c) (by omega); omega) | (have := m4 b (by omega); omega) | (split <;> omega), by first | omega | (have := m4 (y 29 0 c) (by omega); omega) | (have := m4 b (by omega); omega) | (split <;> omega)⟩ ⟨by omega, by omega⟩ ?_
              exact zV_iret hX hM (by omega) (by omega) rfl dX5_computes_142 (zpS_i (by first | (exfalso; omega) | (unfold mCmp; by_cases hs : y 28 0 c < 0 <;> simp only [hs, *, if_true, if_false, ite_true, ite_false, ne_eq, not_true_eq_false, not_false_eq_true, reduceCtorEq, Int.reduceEq, Int.reduceNeg, and_true, and_false, true_and, false_and] <;> first | rfl | (exfalso; omega))))
        · refine zV_iloadn hX dX5_computes_73 rfl ?_
          refine zV_iload hX dX5_computes_74 rfl ?_
          refine zV_cSS (n := 2) hX rfl hN (c_X5_apart (by omega) (by omega) ) zw_co_yX5_apart zw_mX5_147 zw_in_RX5 zw_st_yX5_apart ⟨by decide, by decide, by decide +kernel⟩ rfl (by omega) (by decide) (by omega) (by omega) rfl (Nat.le_of_ble_eq_true rfl) dX5_computes_76 ?_ 
          refine zV_goto (tgt := 134) hX dX5_computes_79 (by decide) ?_
          refine zV_istore6 hX dX5_computes_134 ?_
          refine zV_iload hX dX5_computes_136 rfl ?_
          refine zV_sipush hX dX5_computes_138 (by decide) ?_
          refine zV_irem hX dX5_computes_141 ⟨by first | omega | (have := m4 (y 29 0 c) (by omega); omega) | (have := m4 b (by omega); omega) | (split <;> omega), by first | omega | (have := m4 (y 29 0 c) (by omega); omega) | (have := m4 b (by omega); omega) | (split <;> omega)⟩ ⟨by omega, by omega⟩ ?_
          exact zV_iret hX hM (by omega) (by omega) rfl dX5_computes_142 (zpS_i (by first | (exfalso; omega) | (unfold mCmp; by_cases hs : y 28 0 c < 0 <;> simp only [hs, *, if_true, if_false, ite_true, ite_false, ne_eq, not_true_eq_false, not_false_eq_true, reduceCtorEq, Int.reduceEq, Int.reduceNeg, and_true, and_false, true_and, false_and] <;> first | rfl | (exfalso; omega))))
      · refine zV_iloadn hX dX5_computes_55 rfl ?_
        refine zV_iload hX dX5_computes_56 rfl ?_
        refine zV_idiv hX dX5_computes_58 ⟨by omega, by omega⟩ ⟨by omega, by omega⟩ ?_
        refine zV_goto (tgt := 134) hX dX5_computes_59 (by decide) ?_
        refine zV_istore6 hX dX5_computes_134 ?_
        refine zV_iload hX dX5_computes_136 rfl ?_
        refine zV_sipush hX dX5_computes_138 (by decide) ?_
        refine zV_irem hX dX5_computes_141 ⟨by first | omega | (have := m4 (y 29 0 c) (by omega); omega) | (have := m4 b (by omega); omega) | (split <;> omega), by first | omega | (have := m4 (y 29 0 c) (by omega); omega) | (have := m4 b (by omega); omega) | (split <;> omega)⟩ ⟨by omega, by omega⟩ ?_
        exact zV_iret hX hM (by omega) (by omega) rfl dX5_computes_142 (zpS_i (by first | (exfalso; omega) | (unfold mCmp; by_cases hs : y 28 0 c < 0 <;> simp only [hs, *, if_true, if_false, ite_true, ite_false, ne_eq, not_true_eq_false, not_false_eq_true, reduceCtorEq, Int.reduceEq, Int.reduceNeg, and_true, and_false, true_and, false_and] <;> first | rfl | (exfalso; omega))))
    · refine zV_iload hX dX5_computes_36 rfl ?_
      refine zV_if_ne (tgt := 44) hX dX5_computes_38 (by decide) (by omega) (fun b38 => ?_) (fun b38 => ?_)
      · refine zV_aloadn hX dX5_computes_44 rfl ?_
        refine GF_X5_23 hX  dX5_computes_45 ?_
        refine zV_iloadn hX dX5_computes_48 rfl ?_
        refine AL_26 hX  ⟨by omega, by omega⟩ dX5_computes_49 (fun r49 => ?_)
        refine zV_bipush hX dX5_computes_50 (by decide) ?_
        refine zV_icmp_ne (tgt := 62) hX dX5_computes_52 (by decide) (by omega) (by omega) (fun b52 => ?_) (fun b52 => ?_)
        · refine zV_aloadn hX dX5_computes_62 rfl ?_
          refine GF_X5_23 hX  dX5_computes_63 ?_
          refine zV_iloadn hX dX5_computes_66 rfl ?_
          refine AL_26 hX  ⟨by omega, by omega⟩ dX5_computes_67 (fun r67 => ?_)
          refine zV_bipush hX dX5_computes_68 (by decide) ?_
          refine zV_icmp_ne (tgt := 82) hX dX5_computes_70 (by decide) (by omega) (by omega) (fun b70 => ?_) (fun b70 => ?_)
          · refine zV_aloadn hX dX5_computes_82 rfl ?_
            refine GF_X5_23 hX  dX5_computes_83 ?_
            refine zV_iloadn hX dX5_computes_86 rfl ?_
            refine AL_26 hX  ⟨by omega, by omega⟩ dX5_computes_87 (fun r87 => ?_)
            refine zV_bipush hX dX5_computes_88 (by decide) ?_
            refine zV_icmp_ne (tgt := 115) hX dX5_computes_90 (by decide) (by omega) (by omega) (fun b90 => ?_) (fun b90 => ?_)
            · refine zV_iloadn hX dX5_computes_115 rfl ?_
              refine zV_iload hX dX5_computes_116 rfl ?_
              refine zV_imul hX dX5_computes_118 ?_
              refine zV_aloadn hX dX5_computes_119 rfl ?_
              refine GF_X5_30 hX  dX5_computes_120 ?_
              refine zV_iloadn hX dX5_computes_123 rfl ?_
              refine AL_28 hX  ⟨by omega, by omega⟩ dX5_computes_124 (fun r124 => ?_)
              refine zV_if_ge (tgt := 132) hX dX5_computes_125 (by decide) (by omega) (fun b125 => ?_) (fun b125 => ?_)
              · refine zV_iloadn hX dX5_computes_132 rfl ?_
                refine zV_imul hX dX5_computes_133 ?_
                refine zV_istore6 hX dX5_computes_134 ?_
                refine zV_iload hX dX5_computes_136 rfl ?_
                refine zV_sipush hX dX5_computes_138 (by decide) ?_
                refine zV_irem hX dX5_computes_141 ⟨by first | omega | (have := m4 (y 29 0 c) (by omega); omega) | (have := m4 b (by omega); omega) | (split <;> omega), by first | omega | (have := m4 (y 29 0 c) (by omega); omega) | (have := m4 b (by omega); omega) | (split <;> omega)⟩ ⟨by omega, by omega⟩ ?_
                exact zV_iret hX hM (by omega) (by omega) rfl dX5_computes_142 (zpS_i (by first | (exfalso; omega) | (unfold mCmp; by_cases hs : y 28 0 c < 0 <;> simp only [hs, *, if_true, if_false, ite_true, ite_false, ne_eq, not_true_eq_false, not_false_eq_true, reduceCtorEq, Int.reduceEq, Int.reduceNeg, and_true, and_false, true_and, false_and] <;> first | rfl | (exfalso; omega))))
              · refine zV_iconst hX dX5_computes_128 ?_
                refine zV_goto (tgt := 133) hX dX5_computes_129 (by decide) ?_
                refine zV_imul hX dX5_computes_133 ?_
                refine zV_istore6 hX dX5_computes_134 ?_
                refine zV_iload hX dX5_computes_136 rfl ?_
                refine zV_sipush hX dX5_computes_138 (by decide) ?_
                refine zV_irem hX dX5_computes_141 ⟨by first | omega | (have := m4 (y 29 0 c) (by omega); omega) | (have := m4 b (by omega); omega) | (split <;> omega), by first | omega | (have := m4 (y 29 0 c) (by omega); omega) | (have := m4 b (by omega); omega) | (split <;> omega)⟩ ⟨by omega, by omega⟩ ?_
                exact zV_iret hX hM (by omega) (by omega) rfl dX5_computes_142 (zpS_i (by first | (exfalso; omega) | (unfold mCmp; by_cases hs : y 28 0 c < 0 <;> simp only [hs, *, if_true, if_false, ite_true, ite_false, ne_eq, not_true_eq_false, not_false_eq_true, reduceCtorEq, Int.reduceEq, Int.reduceNeg, and_true, and_false, true_and, false_and] <;> first | rfl | (exfalso; omega))))
            · refine zV_iloadn hX dX5_computes_93 rfl ?_
              refine zV_iload hX dX5_computes_94 rfl ?_
              refine zV_iadd hX dX5_computes_96 ?_
              refine zV_aloadn hX dX5_computes_97 rfl ?_
              refine GF_X5_30 hX  dX5_computes_98 ?_
              refine zV_iloadn hX dX5_computes_101 rfl ?_
              refine AL_28 hX  ⟨by omega, by omega⟩ dX5_computes_102 (fun r102 => ?_)
              refine zV_if_ge (tgt := 110) hX dX5_computes_103 (by decide) (by omega) (fun b103 => ?_) (fun b103 => ?_)
              · refine zV_iloadn hX dX5_computes_110 rfl ?_
                refine zV_iadd hX dX5_computes_111 ?_
                refine zV_goto (tgt := 134) hX dX5_computes_112 (by decide) ?_
                refine zV_istore6 hX dX5_computes_134 ?_
                refine zV_iload hX dX5_computes_136 rfl ?_
                refine zV_sipush hX dX5_computes_138 (by decide) ?_
                refine zV_irem hX dX5_computes_141 ⟨by first | omega | (have := m4 (y 29 0 c) (by omega); omega) | (have := m4 b (by omega); omega) | (split <;> omega), by first | omega | (have := m4 (y 29 0 c) (by omega); omega) | (have := m4 b (by omega); omega) | (split <;> omega)⟩ ⟨by omega, by omega⟩ ?_
                exact zV_iret hX hM (by omega) (by omega) rfl dX5_computes_142 (zpS_i (by first | (exfalso; omega) | (unfold mCmp; by_cases hs : y 28 0 c < 0 <;> simp only [hs, *, if_true, if_false, ite_true, ite_false, ne_eq, not_true_eq_false, not_false_eq_true, reduceCtorEq, Int.reduceEq, Int.reduceNeg, and_true, and_false, true_and, false_and] <;> first | rfl | (exfalso; omega))))
              · refine zV_iconst hX dX5_computes_106 ?_
                refine zV_goto (tgt := 111) hX dX5_computes_107 (by decide) ?_
                refine zV_iadd hX dX5_computes_111 ?_
                refine zV_goto (tgt := 134) hX dX5_computes_112 (by decide) ?_
                refine zV_istore6 hX dX5_computes_134 ?_
                refine zV_iload hX dX5_computes_136 rfl ?_
                refine zV_sipush hX dX5_computes_138 (by decide) ?_
                refine zV_irem hX dX5_computes_141 ⟨by first | omega | (have := m4 (y 29 0 c) (by omega); omega) | (have := m4 b (by omega); omega) | (split <;> omega), by first | omega | (have := m4 (y 29 0 c) (by omega); omega) | (have := m4 b (by omega); omega) | (split <;> omega)⟩ ⟨by omega, by omega⟩ ?_
                exact zV_iret hX hM (by omega) (by omega) rfl dX5_computes_142 (zpS_i (by first | (exfalso; omega) | (unfold mCmp; by_cases hs : y 28 0 c < 0 <;> simp only [hs, *, if_true, if_false, ite_true, ite_false, ne_eq, not_true_eq_false, not_false_eq_true, reduceCtorEq, Int.reduceEq, Int.reduceNeg, and_true, and_false, true_and, false_and] <;> first | rfl | (exfalso; omega))))
          · refine zV_iloadn hX dX5_computes_73 rfl ?_
            refine zV_iload hX dX5_computes_74 rfl ?_
            refine zV_cSS (n := 2) hX rfl hN (c_X5_apart (by omega) (by omega) ) zw_co_yX5_apart zw_mX5_147 zw_in_RX5 zw_st_yX5_apart ⟨by decide, by decide, by decide +kernel⟩ rfl (by omega) (by decide) (by omega) (by omega) rfl (Nat.le_of_ble_eq_true rfl) dX5_computes_76 ?_ 
            refine zV_goto (tgt := 134) hX dX5_computes_79 (by decide) ?_
            refine zV_istore6 hX dX5_computes_134 ?_
            refine zV_iload hX dX5_computes_136 rfl ?_
            refine zV_sipush hX dX5_computes_138 (by decide) ?_
            refine zV_irem hX dX5_computes_141 ⟨by first | omega | (have := m4 (y 29 0 c) (by omega); omega) | (have := m4 b (by omega); omega) | (split <;> omega), by first | omega | (have := m4 (y 29 0 c) (by omega); omega) | (have := m4 b (by omega); omega) | (split <;> omega)⟩ ⟨by omega, by omega⟩ ?_
            exact zV_iret hX hM (by omega) (by omega) rfl dX5_computes_142 (zpS_i (by first | (exfalso; omega) | (unfold mCmp; by_cases hs : y 28 0 c < 0 <;> simp only [hs, *, if_true, if_false, ite_true, ite_false, ne_eq, not_true_eq_false, not_false_eq_true, reduceCtorEq, Int.reduceEq, Int.reduceNeg, and_true, and_false, true_and, false_and] <;> first | rfl | (exfalso; omega))))
        · refine zV_iloadn hX dX5_computes_55 rfl ?_
          refine zV_iload hX dX5_computes_56 rfl ?_
          refine zV_idiv hX dX5_computes_58 ⟨by omega, by omega⟩ ⟨by omega, by omega⟩ ?_
          refine zV_goto (tgt := 134) hX dX5_computes_59 (by decide) ?_
          refine zV_istore6 hX dX5_computes_134 ?_
          refine zV_iload hX dX5_computes_136 rfl ?_
          refine zV_sipush hX dX5_computes_138 (by decide) ?_
          refine zV_irem hX dX5_computes_141 ⟨by first | omega | (have := m4 (y 29 0 c) (by omega); omega) | (have := m4 b (by omega); omega) | (split <;> omega), by first | omega | (have := m4 (y 29 0 c) (by omega); omega) | (have := m4 b (by omega); omega) | (split <;> omega)⟩ ⟨by omega, by omega⟩ ?_
          exact zV_iret hX hM (by omega) (by omega) rfl dX5_computes_142 (zpS_i (by first | (exfalso; omega) | (unfold mCmp; by_cases hs : y 28 0 c < 0 <;> simp only [hs, *, if_true, if_false, ite_true, ite_false, ne_eq, not_true_eq_false, not_false_eq_true, reduceCtorEq, Int.reduceEq, Int.reduceNeg, and_true, and_false, true_and, false_and] <;> first | rfl | (exfalso; omega))))
      · refine zV_bipush hX dX5_computes_41 (by decide) ?_
        exact zV_iret hX hM (by omega) (by omega) rfl dX5_computes_43 (zpS_i (by first | (exfalso; omega) | (unfold mCmp; by_cases hs : y 28 0 c < 0 <;> simp only [hs, *, if_true, if_false, ite_true, ite_false, ne_eq, not_true_eq_false, not_false_eq_true, reduceCtorEq, Int.reduceEq, Int.reduceNeg, and_true, and_false, true_and, false_and] <;> first | rfl | (exfalso; omega))))
  · refine zV_iload hX dX5_computes_17 rfl ?_
    refine zV_goto (tgt := 23) hX dX5_computes_19 (by decide) ?_
    refine zV_istore5 hX dX5_computes_23 ?_
    refine zV_aloadn hX dX5_computes_25 rfl ?_
    refine GF_X5_23 hX  dX5_computes_26 ?_
    refine zV_iloadn hX dX5_computes_29 rfl ?_
    refine AL_26 hX  ⟨by omega, by omega⟩ dX5_computes_30 (fun r30 => ?_)
    refine zV_bipush hX dX5_computes_31 (by decide) ?_
    refine zV_icmp_ne (tgt := 44) hX dX5_computes_33 (by decide) (by omega) (by omega) (fun b33 => ?_) (fun b33 => ?_)
    · refine zV_aloadn hX dX5_computes_44 rfl ?_
      refine GF_X5_23 hX  dX5_computes_45 ?_
      refine zV_iloadn hX dX5_computes_48 rfl ?_
      refine AL_26 hX  ⟨by omega, by omega⟩ dX5_computes_49 (fun r49 => ?_)
      refine zV_bipush hX dX5_computes_50 (by decide) ?_
      refine zV_icmp_ne (tgt := 62) hX dX5_computes_52 (by decide) (by omega) (by omega) (fun b52 => ?_) (fun b52 => ?_)
      · refine zV_aloadn hX dX5_computes_62 rfl ?_
        refine GF_X5_23 hX  dX5_computes_63 ?_
        refine zV_iloadn hX dX5_computes_66 rfl ?_
        refine AL_26 hX  ⟨by omega, by omega⟩ dX5_computes_67 (fun r67 => ?_)
        refine zV_bipush hX dX5_computes_68 (by decide) ?_
        refine zV_icmp_ne (tgt := 82) hX dX5_computes_70 (by decide) (by omega) (by omega) (fun b70 => ?_) (fun b70 => ?_)
        · refine zV_aloadn hX dX5_computes_82 rfl ?_
          refine GF_X5_23 hX  dX5_computes_83 ?_
          refine zV_iloadn hX dX5_computes_86 rfl ?_
          refine AL_26 hX  ⟨by omega, by omega⟩ dX5_computes_87 (fun r87 => ?_)
          refine zV_bipush hX dX5_computes_88 (by decide) ?_
          refine zV_icmp_ne (tgt := 115) hX dX5_computes_90 (by decide) (by omega) (by omega) (fun b90 => ?_) (fun b90 => ?_)
          · refine zV_iloadn hX dX5_computes_115 rfl ?_
            refine zV_iload hX dX5_computes_116 rfl ?_
            refine zV_imul hX dX5_computes_118 ?_
            refine zV_aloadn hX dX5_computes_119 rfl ?_
            refine GF_X5_30 hX  dX5_computes_120 ?_
            refine zV_iloadn hX dX5_computes_123 rfl ?_
            refine AL_28 hX  ⟨by omega, by omega⟩ dX5_computes_124 (fun r124 => ?_)
            refine zV_if_ge (tgt := 132) hX dX5_computes_125 (by decide) (by omega) (fun b125 => ?_) (fun b125 => ?_)
            · refine zV_iloadn hX dX5_computes_132 rfl ?_
              refine zV_imul hX dX5_computes_133 ?_
              refine zV_istore6 hX dX5_computes_134 ?_
              refine zV_iload hX dX5_computes_136 rfl ?_
              refine zV_sipush hX dX5_computes_138 (by decide) ?_
              refine zV_irem hX dX5_computes_141 ⟨by first | omega | (have := m4 (y 29 0 c) (by omega); omega) | (have := m4 b (by omega); omega) | (split <;> omega), by first | omega | (have := m4 (y 29 0 c) (by omega); omega) | (have := m4 b (by omega); omega) | (split <;> omega)⟩ ⟨by omega, by omega⟩ ?_
              exact zV_iret hX hM (by omega) (by omega) rfl dX5_computes_142 (zpS_i (by first | (exfalso; omega) | (unfold mCmp; by_cases hs : y 28 0 c < 0 <;> simp only [hs, *, if_true, if_false, ite_true, ite_false, ne_eq, not_true_eq_false, not_false_eq_true, reduceCtorEq, Int.reduceEq, Int.reduceNeg, and_true, and_false, true_and, false_and] <;> first | rfl | (exfalso; omega))))
            · refine zV_iconst hX dX5_computes_128 ?_
              refine zV_goto (tgt := 133) hX dX5_computes_129 (by decide) ?_
              refine zV_imul hX dX5_computes_133 ?_
              refine zV_istore6 hX dX5_computes_134 ?_
              refine zV_iload hX dX5_computes_136 rfl ?_
              refine zV_sipush hX dX5_computes_138 (by decide) ?_
              refine zV_irem hX dX5_computes_141 ⟨by first | omega | (have := m4 (y 29 0 c) (by omega); omega) | (have := m4 b (by omega); omega) | (split <;> omega), by first | omega | (have := m4 (y 29 0 c) (by omega); omega) | (have := m4 b (by omega); omega) | (split <;> omega)⟩ ⟨by omega, by omega⟩ ?_
              exact zV_iret hX hM (by omega) (by omega) rfl dX5_computes_142 (zpS_i (by first | (exfalso; omega) | (unfold mCmp; by_cases hs : y 28 0 c < 0 <;> simp only [hs, *, if_true, if_false, ite_true, ite_false, ne_eq, not_true_eq_false, not_false_eq_true, reduceCtorEq, Int.reduceEq, Int.reduceNeg, and_true, and_false, true_and, false_and] <;> first | rfl | (exfalso; omega))))
          · refine zV_iloadn hX dX5_computes_93 rfl ?_
            refine zV_iload hX dX5_computes_94 rfl ?_
            refine zV_iadd hX dX5_computes_96 ?_
            refine zV_aloadn hX dX5_computes_97 rfl ?_
            refine GF_X5_30 hX  dX5_computes_98 ?_
            refine zV_iloadn hX dX5_computes_101 rfl ?_
            refine AL_28 hX  ⟨by omega, by omega⟩ dX5_computes_102 (fun r102 => ?_)
            refine zV_if_ge (tgt := 110) hX dX5_computes_103 (by decide) (by omega) (fun b103 => ?_) (fun b103 => ?_)
            · refine zV_iloadn hX dX5_computes_110 rfl ?_
              refine zV_iadd hX dX5_computes_111 ?_
              refine zV_goto (tgt := 134) hX dX5_computes_112 (by decide) ?_
              refine zV_istore6 hX dX5_computes_134 ?_
              refine zV_iload hX dX5_computes_136 rfl ?_
              refine zV_sipush hX dX5_computes_138 (by decide) ?_
              refine zV_irem hX dX5_computes_141 ⟨by first | omega | (have := m4 (y 29 0 c) (by omega); omega) | (have := m4 b (by omega); omega) | (split <;> omega), by first | omega | (have := m4 (y 29 0 c) (by omega); omega) | (have := m4 b (by omega); omega) | (split <;> omega)⟩ ⟨by omega, by omega⟩ ?_
              exact zV_iret hX hM (by omega) (by omega) rfl dX5_computes_142 (zpS_i (by first | (exfalso; omega) | (unfold mCmp; by_cases hs : y 28 0 c < 0 <;> simp only [hs, *, if_true, if_false, ite_true, ite_false, ne_eq, not_true_eq_false, not_false_eq_true, reduceCtorEq, Int.reduceEq, Int.reduceNeg, and_true, and_false, true_and, false_and] <;> first | rfl | (exfalso; omega))))
            · refine zV_iconst hX dX5_computes_106 ?_
              refine zV_goto (tgt := 111) hX dX5_computes_107 (by decide) ?_
              refine zV_iadd hX dX5_computes_111 ?_
              refine zV_goto (tgt := 134) hX dX5_computes_112 (by decide) ?_
              refine zV_istore6 hX dX5_computes_134 ?_
              refine zV_iload hX dX5_computes_136 rfl ?_
              refine zV_sipush hX dX5_computes_138 (by decide) ?_
              refine zV_irem hX dX5_computes_141 ⟨by first | omega | (have := m4 (y 29 0 c) (by omega); omega) | (have := m4 b (by omega); omega) | (split <;> omega), by first | omega | (have := m4 (y 29 0 c) (by omega); omega) | (have := m4 b (by omega); omega) | (split <;> omega)⟩ ⟨by omega, by omega⟩ ?_
              exact zV_iret hX hM (by omega) (by omega) rfl dX5_computes_142 (zpS_i (by first | (exfalso; omega) | (unfold mCmp; by_cases hs : y 28 0 c < 0 <;> simp only [hs, *, if_true, if_false, ite_true, ite_false, ne_eq, not_true_eq_false, not_false_eq_true, reduceCtorEq, Int.reduceEq, Int.reduceNeg, and_true, and_false, true_and, false_and] <;> first | rfl | (exfalso; omega))))
        · refine zV_iloadn hX dX5_computes_73 rfl ?_
          refine zV_iload hX dX5_computes_74 rfl ?_
          refine zV_cSS (n := 2) hX rfl hN (c_X5_apart (by omega) (by omega) ) zw_co_yX5_apart zw_mX5_147 zw_in_RX5 zw_st_yX5_apart ⟨by decide, by decide, by decide +kernel⟩ rfl (by omega) (by decide) (by omega) (by omega) rfl (Nat.le_of_ble_eq_true rfl) dX5_computes_76 ?_ 
          refine zV_goto (tgt := 134) hX dX5_computes_79 (by decide) ?_
          refine zV_istore6 hX dX5_computes_134 ?_
          refine zV_iload hX dX5_computes_136 rfl ?_
          refine zV_sipush hX dX5_computes_138 (by decide) ?_
          refine zV_irem hX dX5_computes_141 ⟨by first | omega | (have := m4 (y 29 0 c) (by omega); omega) | (have := m4 b (by omega); omega) | (split <;> omega), by first | omega | (have := m4 (y 29 0 c) (by omega); omega) | (have := m4 b (by omega); omega) | (split <;> omega)⟩ ⟨by omega, by omega⟩ ?_
          exact zV_iret hX hM (by omega) (by omega) rfl dX5_computes_142 (zpS_i (by first | (exfalso; omega) | (unfold mCmp; by_cases hs : y 28 0 c < 0 <;> simp only [hs, *, if_true, if_false, ite_true, ite_false, ne_eq, not_true_eq_false, not_false_eq_true, reduceCtorEq, Int.reduceEq, Int.reduceNeg, and_true, and_false, true_and, false_and] <;> first | rfl | (exfalso; omega))))
      · refine zV_iloadn hX dX5_computes_55 rfl ?_
        refine zV_iload hX dX5_computes_56 rfl ?_
        refine zV_idiv hX dX5_computes_58 ⟨by omega, by omega⟩ ⟨by omega, by omega⟩ ?_
        refine zV_goto (tgt := 134) hX dX5_computes_59 (by decide) ?_
        refine zV_istore6 hX dX5_computes_134 ?_
        refine zV_iload hX dX5_computes_136 rfl ?_
        refine zV_sipush hX dX5_computes_138 (by decide) ?_
        refine zV_irem hX dX5_computes_141 ⟨by first | omega | (have := m4 (y 29 0 c) (by omega); omega) | (have := m4 b (by omega); omega) | (split <;> omega), by first | omega | (have := m4 (y 29 0 c) (by omega); omega) | (have := m4 b (by omega); omega) | (split <;> omega)⟩ ⟨by omega, by omega⟩ ?_
        exact zV_iret hX hM (by omega) (by omega) rfl dX5_computes_142 (zpS_i (by first | (exfalso; omega) | (unfold mCmp; by_cases hs : y 28 0 c < 0 <;> simp only [hs, *, if_true, if_false, ite_true, ite_false, ne_eq, not_true_eq_false, not_false_eq_true, reduceCtorEq, Int.reduceEq, Int.reduceNeg, and_true, and_false, true_and, false_and] <;> first | rfl | (exfalso; omega))))
    · refine zV_iload hX dX5_computes_36 rfl ?_
      refine zV_if_ne (tgt := 44) hX dX5_computes_38 (by decide) (by omega) (fun b38 => ?_) (fun b38 => ?_)
      · refine zV_aloadn hX dX5_computes_44 rfl ?_
        refine GF_X5_23 hX  dX5_computes_45 ?_
        refine zV_iloadn hX dX5_computes_48 rfl ?_
        refine AL_26 hX  ⟨by omega, by omega⟩ dX5_computes_49 (fun r49 => ?_)
        refine zV_bipush hX dX5_computes_50 (by decide) ?_
        refine zV_icmp_ne (tgt := 62) hX dX5_computes_52 (by decide) (by omega) (by omega) (fun b52 => ?_) (fun b52 => ?_)
        · refine zV_aloadn hX dX5_computes_62 rfl ?_
          refine GF_X5_23 hX  dX5_computes_63 ?_
          refine zV_iloadn hX dX5_computes_66 rfl ?_
          refine AL_26 hX  ⟨by omega, by omega⟩ dX5_computes_67 (fun r67 => ?_)
          refine zV_bipush hX dX5_computes_68 (by decide) ?_
          refine zV_icmp_ne (tgt := 82) hX dX5_computes_70 (by decide) (by omega) (by omega) (fun b70 => ?_) (fun b70 => ?_)
          · refine zV_aloadn hX dX5_computes_82 rfl ?_
            refine GF_X5_23 hX  dX5_computes_83 ?_
            refine zV_iloadn hX dX5_computes_86 rfl ?_
            refine AL_26 hX  ⟨by omega, by omega⟩ dX5_computes_87 (fun r87 => ?_)
            refine zV_bipush hX dX5_computes_88 (by decide) ?_
            refine zV_icmp_ne (tgt := 115) hX dX5_computes_90 (by decide) (by omega) (by omega) (fun b90 => ?_) (fun b90 => ?_)
            · refine zV_iloadn hX dX5_computes_115 rfl ?_
              refine zV_iload hX dX5_computes_116 rfl ?_
              refine zV_imul hX dX5_computes_118 ?_
              refine zV_aloadn hX dX5_computes_119 rfl ?_
              refine GF_X5_30 hX  dX5_computes_120 ?_
              refine zV_iloadn hX dX5_computes_123 rfl ?_
              refine AL_28 hX  ⟨by omega, by omega⟩ dX5_computes_124 (fun r124 => ?_)
              refine zV_if_ge (tgt := 132) hX dX5_computes_125 (by decide) (by omega) (fun b125 => ?_) (fun b125 => ?_)
              · refine zV_iloadn hX dX5_computes_132 rfl ?_
                refine zV_imul hX dX5_computes_133 ?_
                refine zV_istore6 hX dX5_computes_134 ?_
                refine zV_iload hX dX5_computes_136 rfl ?_
                refine zV_sipush hX dX5_computes_138 (by decide) ?_
                refine zV_irem hX dX5_computes_141 ⟨by first | omega | (have := m4 (y 29 0 c) (by omega); omega) | (have := m4 b (by omega); omega) | (split <;> omega), by first | omega | (have := m4 (y 29 0 c) (by omega); omega) | (have := m4 b (by omega); omega) | (split <;> omega)⟩ ⟨by omega, by omega⟩ ?_
                exact zV_iret hX hM (by omega) (by omega) rfl dX5_computes_142 (zpS_i (by first | (exfalso; omega) | (unfold mCmp; by_cases hs : y 28 0 c < 0 <;> simp only [hs, *, if_true, if_false, ite_true, ite_false, ne_eq, not_true_eq_false, not_false_eq_true, reduceCtorEq, Int.reduceEq, Int.reduceNeg, and_true, and_false, true_and, false_and] <;> first | rfl | (exfalso; omega))))
              · refine zV_iconst hX dX5_computes_128 ?_
                refine zV_goto (tgt := 133) hX dX5_computes_129 (by decide) ?_
                refine zV_imul hX dX5_computes_133 ?_
                refine zV_istore6 hX dX5_computes_134 ?_
                refine zV_iload hX dX5_computes_136 rfl ?_
                refine zV_sipush hX dX5_computes_138 (by decide) ?_
                refine zV_irem hX dX5_computes_141 ⟨by first | omega | (have := m4 (y 29 0 c) (by omega); omega) | (have := m4 b (by omega); omega) | (split <;> omega), by first | omega | (have := m4 (y 29 0 c) (by omega); omega) | (have := m4 b (by omega); omega) | (split <;> omega)⟩ ⟨by omega, by omega⟩ ?_
                exact zV_iret hX hM (by omega) (by omega) rfl dX5_computes_142 (zpS_i (by first | (exfalso; omega) | (unfold mCmp; by_cases hs : y 28 0 c < 0 <;> simp only [hs, *, if_true, if_false, ite_true, ite_false, ne_eq, not_true_eq_false, not_false_eq_true, reduceCtorEq, Int.reduceEq, Int.reduceNeg, and_true, and_false, true_and, false_and] <;> first | rfl | (exfalso; omega))))
            · refine zV_iloadn hX dX5_computes_93 rfl ?_
              refine zV_iload hX dX5_computes_94 rfl ?_
              refine zV_iadd hX dX5_computes_96 ?_
              refine zV_aloadn hX dX5_computes_97 rfl ?_
              refine GF_X5_30 hX  dX5_computes_98 ?_
              refine zV_iloadn hX dX5_computes_101 rfl ?_
              refine AL_28 hX  ⟨by omega, by omega⟩ dX5_computes_102 (fun r102 => ?_)
              refine zV_if_ge (tgt := 110) hX dX5_computes_103 (by decide) (by omega) (fun b103 => ?_) (fun b103 => ?_)
              · refine zV_iloadn hX dX5_computes_110 rfl ?_
                refine zV_iadd hX dX5_computes_111 ?_
                refine zV_goto (tgt := 134) hX dX5_computes_112 (by decide) ?_
                refine zV_istore6 hX dX5_computes_134 ?_
                refine zV_iload hX dX5_computes_136 rfl ?_
                refine zV_sipush hX dX5_computes_138 (by decide) ?_
                refine zV_irem hX dX5_computes_141 ⟨by first | omega | (have := m4 (y 29 0 c) (by omega); omega) | (have := m4 b (by omega); omega) | (split <;> omega), by first | omega | (have := m4 (y 29 0 c) (by omega); omega) | (have := m4 b (by omega); omega) | (split <;> omega)⟩ ⟨by omega, by omega⟩ ?_
                exact zV_iret hX hM (by omega) (by omega) rfl dX5_computes_142 (zpS_i (by first | (exfalso; omega) | (unfold mCmp; by_cases hs : y 28 0 c < 0 <;> simp only [hs, *, if_true, if_false, ite_true, ite_false, ne_eq, not_true_eq_false, not_false_eq_true, reduceCtorEq, Int.reduceEq, Int.reduceNeg, and_true, and_false, true_and, false_and] <;> first | rfl | (exfalso; omega))))
              · refine zV_iconst hX dX5_computes_106 ?_
                refine zV_goto (tgt := 111) hX dX5_computes_107 (by decide) ?_
                refine zV_iadd hX dX5_computes_111 ?_
                refine zV_goto (tgt := 134) hX dX5_computes_112 (by decide) ?_
                refine zV_istore6 hX dX5_computes_134 ?_
                refine zV_iload hX dX5_computes_136 rfl ?_
                refine zV_sipush hX dX5_computes_138 (by decide) ?_
                refine zV_irem hX dX5_computes_141 ⟨by first | omega | (have := m4 (y 29 0 c) (by omega); omega) | (have := m4 b (by omega); omega) | (split <;> omega), by first | omega | (have := m4 (y 29 0 c) (by omega); omega) | (have := m4 b (by omega); omega) | (split <;> omega)⟩ ⟨by omega, by omega⟩ ?_
                exact zV_iret hX hM (by omega) (by omega) rfl dX5_computes_142 (zpS_i (by first | (exfalso; omega) | (unfold mCmp; by_cases hs : y 28 0 c < 0 <;> simp only [hs, *, if_true, if_false, ite_true, ite_false, ne_eq, not_true_eq_false, not_false_eq_true, reduceCtorEq, Int.reduceEq, Int.reduceNeg, and_true, and_false, true_and, false_and] <;> first | rfl | (exfalso; omega))))
          · refine zV_iloadn hX dX5_computes_73 rfl ?_
            refine zV_iload hX dX5_computes_74 rfl ?_
            refine zV_cSS (n := 2) hX rfl hN (c_X5_apart (by omega) (by omega) ) zw_co_yX5_apart zw_mX5_147 zw_in_RX5 zw_st_yX5_apart ⟨by decide, by decide, by decide +kernel⟩ rfl (by omega) (by decide) (by omega) (by omega) rfl (Nat.le_of_ble_eq_true rfl) dX5_computes_76 ?_ 
            refine zV_goto (tgt := 134) hX dX5_computes_79 (by decide) ?_
            refine zV_istore6 hX dX5_computes_134 ?_
            refine zV_iload hX dX5_computes_136 rfl ?_
            refine zV_sipush hX dX5_computes_138 (by decide) ?_
            refine zV_irem hX dX5_computes_141 ⟨by first | omega | (have := m4 (y 29 0 c) (by omega); omega) | (have := m4 b (by omega); omega) | (split <;> omega), by first | omega | (have := m4 (y 29 0 c) (by omega); omega) | (have := m4 b (by omega); omega) | (split <;> omega)⟩ ⟨by omega, by omega⟩ ?_
            exact zV_iret hX hM (by omega) (by omega) rfl dX5_computes_142 (zpS_i (by first | (exfalso; omega) | (unfold mCmp; by_cases hs : y 28 0 c < 0 <;> simp only [hs, *, if_true, if_false, ite_true, ite_false, ne_eq, not_true_eq_false, not_false_eq_true, reduceCtorEq, Int.reduceEq, Int.reduceNeg, and_true, and_false, true_and, false_and] <;> first | rfl | (exfalso; omega))))
        · refine zV_iloadn hX dX5_computes_55 rfl ?_
          refine zV_iload hX dX5_computes_56 rfl ?_
          refine zV_idiv hX dX5_computes_58 ⟨by omega, by omega⟩ ⟨by omega, by omega⟩ ?_
          refine zV_goto (tgt := 134) hX dX5_computes_59 (by decide) ?_
          refine zV_istore6 hX dX5_computes_134 ?_
          refine zV_iload hX dX5_computes_136 rfl ?_
          refine zV_sipush hX dX5_computes_138 (by decide) ?_
          refine zV_irem hX dX5_computes_141 ⟨by first | omega | (have := m4 (y 29 0 c) (by omega); omega) | (have := m4 b (by omega); omega) | (split <;> omega), by first | omega | (have := m4 (y 29 0 c) (by omega); omega) | (have := m4 b (by omega); omega) | (split <;> omega)⟩ ⟨by omega, by omega⟩ ?_
          exact zV_iret hX hM (by omega) (by omega) rfl dX5_computes_142 (zpS_i (by first | (exfalso; omega) | (unfold mCmp; by_cases hs : y 28 0 c < 0 <;> simp only [hs, *, if_true, if_false, ite_true, ite_false, ne_eq, not_true_eq_false, not_false_eq_true, reduceCtorEq, Int.reduceEq, Int.reduceNeg, and_true, and_false, true_and, false_and] <;> first | rfl | (exfalso; omega))))
      · refine zV_bipush hX dX5_computes_41 (by decide) ?_
        exact zV_iret hX hM (by omega) (by omega) rfl dX5_computes_43 (zpS_i (by first | (exfalso; omega) | (unfold mCmp; by_cases hs : y 28 0 c < 0 <;> simp only [hs, *, if_true, if_false, ite_true, ite_false, ne_eq, not_true_eq_false, not_false_eq_true, reduceCtorEq, Int.reduceEq, Int.reduceNeg, and_true, and_false, true_and, false_and] <;> first | rfl | (exfalso; omega))))
