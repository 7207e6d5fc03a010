set_option maxRecDepth 100000 in
set_option maxHeartbeats 4000000 in
theorem lp_X3_find {ad : Nat → Int → Nat} {x y : zSt} {Γ : zG} {c a b k r : Int} (ha : zR a) (hb : zR b) (hk : zR k) (hc : 0 ≤ c ∧ c < x 0 0 9) (hI : xI x) (hX : zX Γ ad RX3 cX3_find 5) (hN : zN Γ 0 0 0) (hM : zM Γ ad 0 0 (some .int) (zpS r x y) zF) (hT : zNT Γ) : ∀ (f n : Nat) (i : Int), n < f → 0 ≤ i → i + n = x 11 c 4 → r = xFnd x c a b k n i → zV Γ ad 0 0 x y 3 [some (.ref (ad 11 c)), some (zI a), some (zI b), some (zI k), some (zI i)] [] := by
  intro f
  induction f with
  | zero => intro n i h1 h2 h3 h4; omega
  | succ f ih =>
    intro n i h1 h2 h3 h4
    obtain ⟨i1, i2, i3, i4, i5, i6, i7, i8, i9, i10, i11⟩ := id hI
    have w8 := i8 c hc.1 hc.2
    refine zV_iload hX dX3_find_3 rfl ?_
    refine zV_aloadn hX dX3_find_5 rfl ?_
    refine GF_X3_24 hX ⟨by omega, by omega⟩ dX3_find_6 (fun r6 => ?_)
    refine zV_icmp_ge (tgt := 59) hX dX3_find_9 (by decide) (by omega) (by omega) (fun b9 => ?_) (fun b9 => ?_)
    · obtain rfl : n = 0 := by omega
      refine zV_iconst hX dX3_find_59 ?_
      exact zV_iret hX hM (by omega) (by omega) rfl dX3_find_60 (zpS_i (by rw [h4]; rfl))
    · obtain ⟨n, rfl⟩ : ∃ q, n = q + 1 := ⟨n - 1, by omega⟩
      simp only [xFnd] at h4
      refine zV_aloadn hX dX3_find_12 rfl ?_
      refine GF_X3_11 hX ⟨by omega, by omega⟩ dX3_find_13 ?_
      refine zV_iload hX dX3_find_16 rfl ?_
      refine AL_12 hX ⟨by omega, by omega⟩ ⟨by omega, by omega⟩ dX3_find_18 (fun r18 => ?_)
      refine zV_iloadn hX dX3_find_19 rfl ?_
      refine zV_icmp_ne (tgt := 53) hX dX3_find_20 (by decide) (by omega) (by omega) (fun b20 => ?_) (fun b20 => ?_)
      · refine zV_iinc4 hX dX3_find_53 ?_
        refine zV_goto (tgt := 3) hX dX3_find_56 (by decide) ?_
        exact ih n (i + 1) (by omega) (by omega) (by omega) (by rw [h4, if_neg (fun q => by omega)])
      · refine zV_aloadn hX dX3_find_23 rfl ?_
        refine GF_X3_15 hX ⟨by omega, by omega⟩ dX3_find_24 ?_
        refine zV_iload hX dX3_find_27 rfl ?_
        refine AL_13 hX ⟨by omega, by omega⟩ ⟨by omega, by omega⟩ dX3_find_29 (fun r29 => ?_)
        refine zV_iloadn hX dX3_find_30 rfl ?_
        refine zV_icmp_ne (tgt := 53) hX dX3_find_31 (by decide) (by omega) (by omega) (fun b31 => ?_) (fun b31 => ?_)
        · refine zV_iinc4 hX dX3_find_53 ?_
          refine zV_goto (tgt := 3) hX dX3_find_56 (by decide) ?_
          exact ih n (i + 1) (by omega) (by omega) (by omega) (by rw [h4, if_neg (fun q => by omega)])
        · refine zV_aloadn hX dX3_find_34 rfl ?_
          refine GF_X3_18 hX ⟨by omega, by omega⟩ dX3_find_35 ?_
          refine zV_iload hX dX3_find_38 rfl ?_
          refine AL_14 hX ⟨by omega, by omega⟩ ⟨by omega, by omega⟩ dX3_find_40 (fun r40 => ?_)
          refine zV_iloadn hX dX3_find_41 rfl ?_
          refine zV_icmp_ne (tgt := 53) hX dX3_find_42 (by decide) (by omega) (by omega) (fun b42 => ?_) (fun b42 => ?_)
          · refine zV_iinc4 hX dX3_find_53 ?_
            refine zV_goto (tgt := 3) hX dX3_find_56 (by decide) ?_
            exact ih n (i + 1) (by omega) (by omega) (by omega) (by rw [h4, if_neg (fun q => by omega)])
          · refine zV_aloadn hX dX3_find_45 rfl ?_
            refine GF_X3_21 hX ⟨by omega, by omega⟩ dX3_find_46 ?_
            refine zV_iload hX dX3_find_49 rfl ?_
            refine AL_15 hX ⟨by omega, by omega⟩ ⟨by omega, by omega⟩ dX3_find_51 (fun r51 => ?_)
            exact zV_iret hX hM (by omega) (by omega) rfl dX3_find_52 (zpS_i (by rw [h4, if_pos ⟨by omega, by omega, by omega⟩]))
set_option maxRecDepth 100000 in
set_option maxHeartbeats 4000000 in
theorem c_X3_find {ad : Nat → Int → Nat} {x y : zSt} {c a b k : Int} (ha : zR a) (hb : zR b) (hk : zR k) (hc : 0 ≤ c ∧ c < x 0 0 9) (hI : xI x) : zC yX3_find cX3_find 5 (some .int) 0 0 0 [.ref (ad 11 c), zI a, zI b, zI k] ad x y (zpS (xFnd x c a b k (x 11 c 4).toNat 0) x y) (zF) := by
  refine zC_ofV (by decide) (by intro v hv; simp only [List.mem_cons, List.not_mem_nil, or_false] at hv; rcases hv with rfl | rfl | rfl | rfl <;> rfl) (Nat.le_of_ble_eq_true rfl) (fun Γ hX hN hM hT => ?_)
  show zV Γ ad 0 0 x y 0 [some (.ref (ad 11 c)), some (zI a), some (zI b), some (zI k), none] []
  have w8 := hI.2.2.2.2.2.2.2.1 c hc.1 hc.2
  refine zV_iconst hX dX3_find_0 ?_
  refine zV_istore4 hX dX3_find_1 ?_
  exact lp_X3_find ha hb hk hc hI hX hN hM hT ((x 11 c 4).toNat + 1) (x 11 c 4).toNat 0 (by omega) (by omega) (by omega) rfl
set_option maxRecDepth 100000 in
set_option maxHeartbeats 4000000 in
theorem c_X3_keep {ad : Nat → Int → Nat} {x y : zSt} {c a b k r : Int} (ha : zR a) (hb : zR b) (hk : zR k) (hr : zR r) (hc : 0 ≤ c ∧ c < 11) (w8 : (0 ≤ x 11 c 4 ∧ x 11 c 4 ≤ 4) ∧ (0 ≤ x 11 c 5 ∧ x 11 c 5 ≤ 3)) : zC yX3_keep cX3_keep 5 none 0 0 0 [.ref (ad 11 c), zI a, zI b, zI k, zI r] ad x y (zpV (xKeep x c a b k r) y) (zF) := by
  refine zC_ofV (by decide) (by intro v hv; simp only [List.mem_cons, List.not_mem_nil, or_false] at hv; rcases hv with rfl | rfl | rfl | rfl | rfl <;> rfl) (Nat.le_of_ble_eq_true rfl) (fun Γ hX hN hM hT => ?_)
  show zV Γ ad 0 0 x y 0 [some (.ref (ad 11 c)), some (zI a), some (zI b), some (zI k), some (zI r)] []
  refine zV_aloadn hX dX3_keep_0 rfl ?_
  refine GF_X3_11 hX ⟨by omega, by omega⟩ dX3_keep_1 ?_
  refine zV_aloadn hX dX3_keep_4 rfl ?_
  refine GF_X3_28 hX ⟨by omega, by omega⟩ dX3_keep_5 (fun r5 => ?_)
  refine zV_iloadn hX dX3_keep_8 rfl ?_
  refine AS_12 hX ⟨by omega, by omega⟩ ⟨by omega, by omega⟩ (by omega) dX3_keep_9 ?_
  refine zV_aloadn hX dX3_keep_10 rfl ?_
  refine GF_X3_15 hX ⟨by omega, by omega⟩ dX3_keep_11 ?_
  refine zV_aloadn hX dX3_keep_14 rfl ?_
  refine GF_X3_28 hX ⟨by omega, by omega⟩ dX3_keep_15 (fun r15 => ?_)
  try simp only [zup_d, Nat.reduceEqDiff, Int.reduceEq, reduceCtorEq, false_and, true_and, and_true, and_false, and_self, if_false, if_true, Int.reduceNeg] at r15 ⊢
  refine zV_iloadn hX dX3_keep_18 rfl ?_
  refine AS_13 hX ⟨by omega, by omega⟩ ⟨by omega, by omega⟩ (by omega) dX3_keep_19 ?_
  refine zV_aloadn hX dX3_keep_20 rfl ?_
  refine GF_X3_18 hX ⟨by omega, by omega⟩ dX3_keep_21 ?_
  refine zV_aloadn hX dX3_keep_24 rfl ?_
  refine GF_X3_28 hX ⟨by omega, by omega⟩ dX3_keep_25 (fun r25 => ?_)
  try simp only [zup_d, Nat.reduceEqDiff, Int.reduceEq, reduceCtorEq, false_and, true_and, and_true, and_false, and_self, if_false, if_true, Int.reduceNeg] at r25 ⊢
  refine zV_iloadn hX dX3_keep_28 rfl ?_
  refine AS_14 hX ⟨by omega, by omega⟩ ⟨by omega, by omega⟩ (by omega) dX3_keep_29 ?_
  refine zV_aloadn hX dX3_keep_30 rfl ?_
  refine GF_X3_21 hX ⟨by omega, by omega⟩ dX3_keep_31 ?_
  refine zV_aloadn hX dX3_keep_34 rfl ?_
  refine GF_X3_28 hX ⟨by omega, by omega⟩ dX3_keep_35 (fun r35 => ?_)
  try simp only [zup_d, Nat.reduceEqDiff, Int.reduceEq, reduceCtorEq, false_and, true_and, and_true, and_false, and_self, if_false, if_true, Int.reduceNeg] at r35 ⊢
  refine zV_iload hX dX3_keep_38 rfl ?_
  refine AS_15 hX ⟨by omega, by omega⟩ ⟨by omega, by omega⟩ (by omega) dX3_keep_40 ?_
  refine zV_aloadn hX dX3_keep_41 rfl ?_
  refine zV_aloadn hX dX3_keep_42 rfl ?_
  refine GF_X3_28 hX ⟨by omega, by omega⟩ dX3_keep_43 (fun r43 => ?_)
  try simp only [zup_d, Nat.reduceEqDiff, Int.reduceEq, reduceCtorEq, false_and, true_and, and_true, and_false, and_self, if_false, if_true, Int.reduceNeg] at r43 ⊢
  refine zV_iconst hX dX3_keep_46 ?_
  refine zV_iadd hX dX3_keep_47 ?_
  refine zV_iconst hX dX3_keep_48 ?_
  refine zV_icmp_ge (tgt := 61) hX dX3_keep_49 (by decide) (by omega) (by omega) (fun b49 => ?_) (fun b49 => ?_)
  · refine zV_iconst hX dX3_keep_61 ?_
    refine PF_X3_28 hX ⟨by omega, by omega⟩ (by omega) dX3_keep_62 ?_
    refine zV_aloadn hX dX3_keep_65 rfl ?_
    refine GF_X3_24 hX ⟨by omega, by omega⟩ dX3_keep_66 (fun r66 => ?_)
    try simp only [zup_d, Nat.reduceEqDiff, Int.reduceEq, reduceCtorEq, false_and, true_and, and_true, and_false, and_self, if_false, if_true, Int.reduceNeg] at r66 ⊢
    refine zV_iconst hX dX3_keep_69 ?_
    refine zV_icmp_ge (tgt := 83) hX dX3_keep_70 (by decide) (by omega) (by omega) (fun b70 => ?_) (fun b70 => ?_)
    · exact zV_vret hX hM (by omega) (by omega) dX3_keep_83 (zpV_j (by unfold xKeep; simp only []; first | rw [if_pos (by omega), if_pos (by omega)] | rw [if_neg (by omega), if_pos (by omega)] | rw [if_pos (by omega), if_neg (by omega)] | rw [if_neg (by omega), if_neg (by omega)]) rfl)
    · refine zV_aloadn hX dX3_keep_73 rfl ?_
      refine zV_dup hX dX3_keep_74 rfl ?_
      refine GF_X3_24 hX ⟨by omega, by omega⟩ dX3_keep_75 (fun r75 => ?_)
      try simp only [zup_d, Nat.reduceEqDiff, Int.reduceEq, reduceCtorEq, false_and, true_and, and_true, and_false, and_self, if_false, if_true, Int.reduceNeg] at r75 ⊢
      refine zV_iconst hX dX3_keep_78 ?_
      refine zV_iadd hX dX3_keep_79 ?_
      refine PF_X3_24 hX ⟨by omega, by omega⟩ (by omega) dX3_keep_80 ?_
      exact zV_vret hX hM (by omega) (by omega) dX3_keep_83 (zpV_j (by unfold xKeep; simp only []; first | rw [if_pos (by omega), if_pos (by omega)] | rw [if_neg (by omega), if_pos (by omega)] | rw [if_pos (by omega), if_neg (by omega)] | rw [if_neg (by omega), if_neg (by omega)]) rfl)
  · refine zV_aloadn hX dX3_keep_52 rfl ?_
    refine GF_X3_28 hX ⟨by omega, by omega⟩ dX3_keep_53 (fun r53 => ?_)
    try simp only [zup_d, Nat.reduceEqDiff, Int.reduceEq, reduceCtorEq, false_and, true_and, and_true, and_false, and_self, if_false, if_true, Int.reduceNeg] at r53 ⊢
    refine zV_iconst hX dX3_keep_56 ?_
    refine zV_iadd hX dX3_keep_57 ?_
    refine zV_goto (tgt := 62) hX dX3_keep_58 (by decide) ?_
    refine PF_X3_28 hX ⟨by omega, by omega⟩ (by omega) dX3_keep_62 ?_
    refine zV_aloadn hX dX3_keep_65 rfl ?_
    refine GF_X3_24 hX ⟨by omega, by omega⟩ dX3_keep_66 (fun r66 => ?_)
    try simp only [zup_d, Nat.reduceEqDiff, Int.reduceEq, reduceCtorEq, false_and, true_and, and_true, and_false, and_self, if_false, if_true, Int.reduceNeg] at r66 ⊢
    refine zV_iconst hX dX3_keep_69 ?_
    refine zV_icmp_ge (tgt := 83) hX dX3_keep_70 (by decide) (by omega) (by omega) (fun b70 => ?_) (fun b70 => ?_)
    · exact zV_vret hX hM (by omega) (by omega) dX3_keep_83 (zpV_j (by unfold xKeep; simp only []; first | rw [if_pos (by omega), if_pos (by omega)] | rw [if_neg (by omega), if_pos (by omega)] | rw [if_pos (by omega), if_neg (by omega)] | rw [if_neg (by omega), if_neg (by omega)]) rfl)
    · refine zV_aloadn hX dX3_keep_73 rfl ?_
      refine zV_dup hX dX3_keep_74 rfl ?_
      refine GF_X3_24 hX ⟨by omega, by omega⟩ dX3_keep_75 (fun r75 => ?_)
      try simp only [zup_d, Nat.reduceEqDiff, Int.reduceEq, reduceCtorEq, false_and, true_and, and_true, and_false, and_self, if_false, if_true, Int.reduceNeg] at r75 ⊢
      refine zV_iconst hX dX3_keep_78 ?_
      refine zV_iadd hX dX3_keep_79 ?_
      refine PF_X3_24 hX ⟨by omega, by omega⟩ (by omega) dX3_keep_80 ?_
      exact zV_vret hX hM (by omega) (by omega) dX3_keep_83 (zpV_j (by unfold xKeep; simp only []; first | rw [if_pos (by omega), if_pos (by omega)] | rw [if_neg (by omega), if_pos (by omega)] | rw [if_pos (by omega), if_neg (by omega)] | rw [if_neg (by omega), if_neg (by omega)]) rfl)
set_option maxRecDepth 100000 in
set_option maxHeartbeats 4000000 in
theorem c_X2_take {ad : Nat → Int → Nat} {x y : zSt} {k : Int} (hk : 0 ≤ k ∧ k ≤ 2) {a b : Int} (ha : 0 ≤ a ∧ a ≤ 5) (hb : 0 ≤ b ∧ b ≤ 6000) (hI : xI x) : zC yX2_take cX2_take 3 none 1 0 0 [.ref (ad 16 k), zI a, zI b] ad x y (zpV (xTake x k a b) y) (zF) := by
  refine zC_ofV (by decide) (by intro v hv; simp only [List.mem_cons, List.not_mem_nil, or_false] at hv; rcases hv with rfl | rfl | rfl <;> rfl) (Nat.le_of_ble_eq_true rfl) (fun Γ hX hN hM hT => ?_)
  show zV Γ ad 0 0 x y 0 [some (.ref (ad 16 k)), some (zI a), some (zI b)] []
  obtain ⟨i1, i2, i3, i4, i5, i6, i7, i8, i9, i10, i11⟩ := hI
  have w9 := i9 k hk.1 hk.2
  have w10 := i10 k (b % 10) hk.1 hk.2 (by omega) (by omega)
  refine zV_aloadn hX dX2_take_0 rfl ?_
  refine zV_dup hX dX2_take_1 rfl ?_
  refine GF_X2_19 hX ⟨by omega, by omega⟩ dX2_take_2 (fun r2 => ?_)
  refine zV_iloadn hX dX2_take_5 rfl ?_
  refine zV_iadd hX dX2_take_6 ?_
  refine PF_X2_19 hX ⟨by omega, by omega⟩ (by omega) dX2_take_7 ?_
  refine zV_aloadn hX dX2_take_10 rfl ?_
  refine GF_X2_11 hX ⟨by omega, by omega⟩ dX2_take_11 ?_
  refine zV_iloadn hX dX2_take_14 rfl ?_
  refine zV_bipush hX dX2_take_15 (by decide) ?_
  refine zV_cSS (n := 2) hX rfl hN (c_J9_floorMod_7cf53 ⟨by omega, by omega⟩ ⟨by omega, by omega⟩) zw_co_yJ9_floorMod_7cf53 zw_mX2_22 zw_in_RJ9 zw_st_yJ9_floorMod_7cf53 ⟨by decide, by decide, by decide +kernel⟩ rfl (by omega) (by decide) (by omega) (by omega) rfl (Nat.le_of_ble_eq_true rfl) dX2_take_17 ?_ 
  refine zV_dup2 hX dX2_take_20 rfl rfl ?_
  refine AL_17 hX ⟨by omega, by omega⟩ ⟨by omega, by omega⟩ dX2_take_21 (fun r21 => ?_)
  try simp only [zup_d, Nat.reduceEqDiff, Int.reduceEq, reduceCtorEq, false_and, true_and, and_true, and_false, and_self, if_false, if_true, Int.reduceNeg] at r21 ⊢
  refine zV_iloadn hX dX2_take_22 rfl ?_
  refine zV_iadd hX dX2_take_23 ?_
  refine AS_17 hX ⟨by omega, by omega⟩ ⟨by omega, by omega⟩ (by omega) dX2_take_24 ?_
  exact zV_vret hX hM (by omega) (by omega) dX2_take_25 (⟨rfl, rfl, rfl⟩)
set_option maxRecDepth 100000 in
set_option maxHeartbeats 4000000 in
theorem c_X2_giveBack {ad : Nat → Int → Nat} {x y : zSt} {k : Int} (hk : 0 ≤ k ∧ k ≤ 2) {t : Int} (ht : 0 ≤ t ∧ t ≤ 6000) (hI : xI x) : zC yX2_giveBack cX2_giveBack 3 none 1 0 0 [.ref (ad 16 k), zI t] ad x y (zpV (xGive x k t) y) (zF) := by
  refine zC_ofV (by decide) (by intro v hv; simp only [List.mem_cons, List.not_mem_nil, or_false] at hv; rcases hv with rfl | rfl <;> rfl) (Nat.le_of_ble_eq_true rfl) (fun Γ hX hN hM hT => ?_)
  show zV Γ ad 0 0 x y 0 [some (.ref (ad 16 k)), some (zI t), none] []
  obtain ⟨i1, i2, i3, i4, i5, i6, i7, i8, i9, i10, i11⟩ := hI
  have w9 := i9 k hk.1 hk.2
  have w10 := i10 k (t % 10) hk.1 hk.2 (by omega) (by omega)
  refine zV_iloadn hX dX2_giveBack_0 rfl ?_
  refine zV_bipush hX dX2_giveBack_1 (by decide) ?_
  refine zV_cSS (n := 2) hX rfl hN (c_J9_floorMod_7cf53 ⟨by omega, by omega⟩ ⟨by omega, by omega⟩) zw_co_yJ9_floorMod_7cf53 zw_mX2_22 zw_in_RJ9 zw_st_yJ9_floorMod_7cf53 ⟨by decide, by decide, by decide +kernel⟩ rfl (by omega) (by decide) (by omega) (by omega) rfl (Nat.le_of_ble_eq_true rfl) dX2_giveBack_3 ?_ 
  refine zV_istoren2 hX dX2_giveBack_6 ?_
  refine zV_aloadn hX dX2_giveBack_7 rfl ?_
  refine zV_dup hX dX2_giveBack_8 rfl ?_
  refine GF_X2_19 hX ⟨by omega, by omega⟩ dX2_giveBack_9 (fun r9 => ?_)
  refine zV_aloadn hX dX2_giveBack_12 rfl ?_
  refine GF_X2_11 hX ⟨by omega, by omega⟩ dX2_giveBack_13 ?_
  refine zV_iloadn hX dX2_giveBack_16 rfl ?_
  refine AL_17 hX ⟨by omega, by omega⟩ ⟨by omega, by omega⟩ dX2_giveBack_17 (fun r17 => ?_)
  refine zV_isub hX dX2_giveBack_18 ?_
  refine PF_X2_19 hX ⟨by omega, by omega⟩ (by omega) dX2_giveBack_19 ?_
  refine zV_aloadn hX dX2_giveBack_22 rfl ?_
  refine GF_X2_11 hX ⟨by omega, by omega⟩ dX2_giveBack_23 ?_
  refine zV_iloadn hX dX2_giveBack_26 rfl ?_
  refine zV_iconst hX dX2_giveBack_27 ?_
  refine AS_17 hX ⟨by omega, by omega⟩ ⟨by omega, by omega⟩ (by omega) dX2_giveBack_28 ?_
  exact zV_vret hX hM (by omega) (by omega) dX2_giveBack_29 (⟨rfl, rfl, rfl⟩)
set_option maxRecDepth 100000 in
set_option maxHeartbeats 4000000 in
theorem c_X1_setWithoutCause {ad : Nat → Int → Nat} {x y : zSt} {i c w : Int} (hi : 0 ≤ i ∧ i < 11) (hc : zR c) (hw : 0 ≤ w ∧ w ≤ 65535) : zC yX1_setWithoutCause cX1_setWithoutCause 3 none 0 0 0 [.ref (ad 10 i), zI c, zI w] ad x y (zpV (xSwc x i c w) y) (zF) := by
  refine zC_ofV (by decide) (by intro v hv; simp only [List.mem_cons, List.not_mem_nil, or_false] at hv; rcases hv with rfl | rfl | rfl <;> rfl) (Nat.le_of_ble_eq_true rfl) (fun Γ hX hN hM hT => ?_)
  show zV Γ ad 0 0 x y 0 [some (.ref (ad 10 i)), some (zI c), some (zI w)] []
  refine zV_aloadn hX dX1_setWithoutCause_0 rfl ?_
  refine zV_iloadn hX dX1_setWithoutCause_1 rfl ?_
  refine PF_X1_7 hX ⟨by omega, by omega⟩ (by omega) dX1_setWithoutCause_2 ?_
  refine zV_aloadn hX dX1_setWithoutCause_5 rfl ?_
  refine zV_iloadn hX dX1_setWithoutCause_6 rfl ?_
  refine PF_X1_13 hX ⟨by omega, by omega⟩ (by omega) dX1_setWithoutCause_7 ?_
  refine zV_aloadn hX dX1_setWithoutCause_10 rfl ?_
  refine zV_iloadn hX dX1_setWithoutCause_11 rfl ?_
  refine PF_X1_17 hX ⟨by omega, by omega⟩ (by omega) dX1_setWithoutCause_12 ?_
  refine zV_aloadn hX dX1_setWithoutCause_15 rfl ?_
  refine zV_iconst hX dX1_setWithoutCause_16 ?_
  refine PF_X1_20 hX ⟨by omega, by omega⟩ (by omega) dX1_setWithoutCause_17 ?_
  exact zV_vret hX hM (by omega) (by omega) dX1_setWithoutCause_20 (⟨rfl, rfl, rfl⟩)
set_option maxRecDepth 100000 in
set_option maxHeartbeats 4000000 in
theorem c_X1_setCausedBy {ad : Nat → Int → Nat} {x y : zSt} {i j w : Int} (hi : 0 ≤ i ∧ i < 11) (hj : 0 ≤ j ∧ j < 11) (hij : j ≠ i) (hw : 0 ≤ w ∧ w ≤ 65535) (h2 : 0 ≤ x 10 j 2 ∧ x 10 j 2 ≤ 65535) (h3 : 0 ≤ x 10 j 3 ∧ x 10 j 3 ≤ 1000000) : zC yX1_setCausedBy cX1_setCausedBy 3 none 0 0 0 [.ref (ad 10 i), .ref (ad 10 j), zI w] ad x y (zpV (xScb x i j w) y) (zF) := by
  refine zC_ofV (by decide) (by intro v hv; simp only [List.mem_cons, List.not_mem_nil, or_false] at hv; rcases hv with rfl | rfl | rfl <;> rfl) (Nat.le_of_ble_eq_true rfl) (fun Γ hX hN hM hT => ?_)
  show zV Γ ad 0 0 x y 0 [some (.ref (ad 10 i)), some (.ref (ad 10 j)), some (zI w)] []
  refine zV_aloadn hX dX1_setCausedBy_0 rfl ?_
  refine zV_iloadn hX dX1_setCausedBy_1 rfl ?_
  refine PF_X1_7 hX ⟨by omega, by omega⟩ (by omega) dX1_setCausedBy_2 ?_
  refine zV_aloadn hX dX1_setCausedBy_5 rfl ?_
  refine zV_aloadn hX dX1_setCausedBy_6 rfl ?_
  refine GF_X1_13 hX ⟨by omega, by omega⟩ dX1_setCausedBy_7 (fun r7 => ?_)
  try simp only [zup_d, Nat.reduceEqDiff, Int.reduceEq, reduceCtorEq, false_and, true_and, and_true, and_false, and_self, if_false, if_true, Int.reduceNeg] at r7 ⊢
  refine PF_X1_13 hX ⟨by omega, by omega⟩ (by omega) dX1_setCausedBy_10 ?_
  refine zV_aloadn hX dX1_setCausedBy_13 rfl ?_
  refine zV_aloadn hX dX1_setCausedBy_14 rfl ?_
  refine GF_X1_17 hX ⟨by omega, by omega⟩ dX1_setCausedBy_15 (fun r15 => ?_)
  try simp only [zup_d, Nat.reduceEqDiff, Int.reduceEq, reduceCtorEq, false_and, true_and, and_true, and_false, and_self, if_false, if_true, Int.reduceNeg] at r15 ⊢
  refine PF_X1_17 hX ⟨by omega, by omega⟩ (by omega) dX1_setCausedBy_18 ?_
  refine zV_aloadn hX dX1_setCausedBy_21 rfl ?_
  refine zV_aloadn hX dX1_setCausedBy_22 rfl ?_
  refine GF_X1_20 hX ⟨by omega, by omega⟩ dX1_setCausedBy_23 (fun r23 => ?_)
  try simp only [zup_d, Nat.reduceEqDiff, Int.reduceEq, reduceCtorEq, false_and, true_and, and_true, and_false, and_self, if_false, if_true, Int.reduceNeg] at r23 ⊢
  refine zV_iconst hX dX1_setCausedBy_26 ?_
  refine zV_iadd hX dX1_setCausedBy_27 ?_
  refine PF_X1_20 hX ⟨by omega, by omega⟩ (by omega) dX1_setCausedBy_28 ?_
  exact zV_vret hX hM (by omega) (by omega) dX1_setCausedBy_31 (zpV_j (by unfold xScb; simp only [zup_d, Nat.reduceEqDiff, Int.reduceEq, hij, false_and, and_false, if_false]) rfl)
set_option maxRecDepth 100000 in
set_option maxHeartbeats 4000000 in
theorem c_X4_endWith {ad : Nat → Int → Nat} {x y : zSt} {c e v : Int} (he : zR e) (hv : zR v) (hc : 0 ≤ c ∧ c < 11) (hw : 0 ≤ x 9 c 4 ∧ x 9 c 4 ≤ 11) : zC yX4_endWith cX4_endWith 4 none 0 0 0 [.ref (ad 0 0), .ref (ad 9 c), zI e, zI v] ad x y (zpV (xEnd x c e v) y) (zF) := by
  refine zC_ofV (by decide) (by intro v hv; simp only [List.mem_cons, List.not_mem_nil, or_false] at hv; rcases hv with rfl | rfl | rfl | rfl <;> rfl) (Nat.le_of_ble_eq_true rfl) (fun Γ hX hN hM hT => ?_)
  show zV Γ ad 0 0 x y 0 [some (.ref (ad 0 0)), some (.ref (ad 9 c)), some (zI e), some (zI v)] []
  refine zV_aloadn hX dX4_endWith_0 rfl ?_
  refine zV_iloadn hX dX4_endWith_1 rfl ?_
  refine PF_X4_152 hX ⟨by omega, by omega⟩ (by omega) dX4_endWith_2 ?_
  refine zV_aloadn hX dX4_endWith_5 rfl ?_
  refine GF_X4_9 hX  dX4_endWith_6 ?_
  refine zV_aloadn hX dX4_endWith_9 rfl ?_
  refine GF_X4_109 hX ⟨by omega, by omega⟩ dX4_endWith_10 (fun r10 => ?_)
  try simp only [zup_d, Nat.reduceEqDiff, Int.reduceEq, reduceCtorEq, false_and, true_and, and_true, and_false, and_self, if_false, if_true, Int.reduceNeg] at r10 ⊢
  refine zV_iloadn hX dX4_endWith_13 rfl ?_
  refine AS_1 hX  ⟨by omega, by omega⟩ (by omega) dX4_endWith_14 ?_
  exact zV_vret hX hM (by omega) (by omega) dX4_endWith_15 (⟨rfl, rfl, rfl⟩)
set_option maxRecDepth 100000 in
set_option maxHeartbeats 4000000 in
theorem c_X4_succeedWith {ad : Nat → Int → Nat} {x y : zSt} {c a b r : Int} (ha : zR a) (hb : zR b) (hr : zR r) (hc : 0 ≤ c ∧ c < 11) (hw : 0 ≤ x 9 c 4 ∧ x 9 c 4 ≤ 11) : zC yX4_succeedWith cX4_succeedWith 5 none 1 0 0 [.ref (ad 0 0), .ref (ad 9 c), zI a, zI b, zI r] ad x y (zpV (xSuc x c a b r) y) (zF) := by
  refine zC_ofV (by decide) (by intro v hv; simp only [List.mem_cons, List.not_mem_nil, or_false] at hv; rcases hv with rfl | rfl | rfl | rfl | rfl <;> rfl) (Nat.le_of_ble_eq_true rfl) (fun Γ hX hN hM hT => ?_)
  show zV Γ ad 0 0 x y 0 [some (.ref (ad 0 0)), some (.ref (ad 9 c)), some (zI a), some (zI b), some (zI r)] []
  refine zV_aloadn hX dX4_succeedWith_0 rfl ?_
  refine zV_iloadn hX dX4_succeedWith_1 rfl ?_
  refine PF_X4_281 hX ⟨by omega, by omega⟩ (by omega) dX4_succeedWith_2 ?_
  refine zV_aloadn hX dX4_succeedWith_5 rfl ?_
  refine zV_iloadn hX dX4_succeedWith_6 rfl ?_
  refine PF_X4_287 hX ⟨by omega, by omega⟩ (by omega) dX4_succeedWith_7 ?_
  refine zV_aloadn hX dX4_succeedWith_10 rfl ?_
  refine zV_aloadn hX dX4_succeedWith_11 rfl ?_
  refine GF_X4_106 hX ⟨by omega, by omega⟩ dX4_succeedWith_12 (fun r12 => ?_)
  try simp only [zup_d, Nat.reduceEqDiff, Int.reduceEq, reduceCtorEq, false_and, true_and, and_true, and_false, and_self, if_false, if_true, Int.reduceNeg] at r12 ⊢
  refine PF_X4_278 hX ⟨by omega, by omega⟩ (by omega) dX4_succeedWith_15 ?_
  refine zV_aloadn hX dX4_succeedWith_18 rfl ?_
  refine zV_aloadn hX dX4_succeedWith_19 rfl ?_
  refine zV_iconst hX dX4_succeedWith_20 ?_
  refine zV_iload hX dX4_succeedWith_21 rfl ?_
  refine zV_cVV (n := 3) hX rfl hN 0 rfl rfl ⟨by decide, by decide⟩ (c_X4_endWith (c := c) (by omega) (by omega) hc (by simpa only [zup_d, Nat.reduceEqDiff, Int.reduceEq, and_false, false_and, if_false] using hw)) zw_co_yX4_endWith zw_mX4_310 zw_in_RX4 zw_im_yX4_endWith zw_se_yX4_endWith ⟨by decide, by decide, by decide +kernel⟩ rfl (by omega) (by decide) (by omega) (by omega) rfl (Nat.le_of_ble_eq_true rfl) dX4_succeedWith_23 ?_ 
  exact zV_vret hX hM (by omega) (by omega) dX4_succeedWith_26 (⟨rfl, rfl, rfl⟩)
set_option maxRecDepth 100000 in
set_option maxHeartbeats 4000000 in
theorem c_X4_failForMissing {ad : Nat → Int → Nat} {x y : zSt} {n c v : Int} (hn : zR n) (hv : 0 ≤ v ∧ v ≤ 11) (hvc : x 3 0 v ≠ c) (hc : 0 ≤ c ∧ c < x 0 0 9) (hI : xI x) : zC yX4_failForMissing cX4_failForMissing 5 none 2 0 0 [.ref (ad 0 0), zI n, .ref (ad 9 c), zI v] ad x y (zpV (xFfm x n c v) y) (zF) := by
  refine zC_ofV (by decide) (by intro v hv; simp only [List.mem_cons, List.not_mem_nil, or_false] at hv; rcases hv with rfl | rfl | rfl | rfl <;> rfl) (Nat.le_of_ble_eq_true rfl) (fun Γ hX hN hM hT => ?_)
  show zV Γ ad 0 0 x y 0 [some (.ref (ad 0 0)), some (zI n), some (.ref (ad 9 c)), some (zI v), none] []
  obtain ⟨i1, i2, i3, i4, i5, i6, i7, i8, i9, i10, i11⟩ := hI
  have w1 := i6 c hc.1 hc.2
  have w5 := i5 v hv.1 hv.2
  have w7 : x 3 0 v ≠ -1 → _ := fun h => i7 (x 3 0 v) (by omega) (by omega)
  refine zV_aloadn hX dX4_failForMissing_0 rfl ?_
  refine GF_X4_16 hX  dX4_failForMissing_1 ?_
  refine zV_iloadn hX dX4_failForMissing_4 rfl ?_
  refine AL_3 hX  ⟨by omega, by omega⟩ dX4_failForMissing_5 (fun r5 => ?_)
  refine zV_istore4 hX dX4_failForMissing_6 ?_
  refine zV_iload hX dX4_failForMissing_8 rfl ?_
  refine zV_iconst hX dX4_failForMissing_10 ?_
  refine zV_icmp_eq (tgt := 50) hX dX4_failForMissing_11 (by decide) (by omega) (by omega) (fun b11 => ?_) (fun b11 => ?_)
  · refine zV_aloadn hX dX4_failForMissing_50 rfl ?_
    refine GF_X4_274 hX ⟨by omega, by omega⟩ dX4_failForMissing_51 ?_
    refine zV_iloadn hX dX4_failForMissing_54 rfl ?_
    refine zV_bipush hX dX4_failForMissing_55 (by decide) ?_
    refine zV_cVV (n := 2) hX rfl hN 10 rfl rfl ⟨by omega, by omega⟩ (c_X1_setWithoutCause ⟨by omega, by omega⟩ hn ⟨by decide, by decide⟩) zw_co_yX1_setWithoutCause zw_mX4_306 zw_in_RX1 zw_im_yX1_setWithoutCause zw_se_yX1_setWithoutCause ⟨by decide, by decide, by decide +kernel⟩ rfl (by omega) (by decide) (by omega) (by omega) rfl (Nat.le_of_ble_eq_true rfl) dX4_failForMissing_57 ?_ 
    refine zV_aloadn hX dX4_failForMissing_60 rfl ?_
    refine zV_aloadn hX dX4_failForMissing_61 rfl ?_
    refine zV_iconst hX dX4_failForMissing_62 ?_
    refine zV_iconst hX dX4_failForMissing_63 ?_
    refine zV_cVV (n := 3) hX rfl hN 0 rfl rfl ⟨by decide, by decide⟩ (c_X4_endWith (c := c) (by omega) (by omega) ⟨by omega, by omega⟩ (by simp only [xScb_r, xSwc_r, ne_eq, Nat.reduceEqDiff, not_false_eq_true]; omega)) zw_co_yX4_endWith zw_mX4_310 zw_in_RX4 zw_im_yX4_endWith zw_se_yX4_endWith ⟨by decide, by decide, by decide +kernel⟩ rfl (by omega) (by decide) (by omega) (by omega) rfl (Nat.le_of_ble_eq_true rfl) dX4_failForMissing_64 ?_ 
    exact zV_vret hX hM (by omega) (by omega) dX4_failForMissing_67 (zpV_j (by unfold xFfm; first | rw [if_pos ⟨by omega, by omega⟩] | rw [if_neg (fun q => by omega)]) rfl)
  · refine zV_aloadn hX dX4_failForMissing_14 rfl ?_
    refine GF_X4_24 hX  dX4_failForMissing_15 ?_
    refine zV_iload hX dX4_failForMissing_18 rfl ?_
    refine AL_5 hX  ⟨by omega, by omega⟩ dX4_failForMissing_20 ?_
    refine GF_X4_152 hX ⟨by omega, by omega⟩ dX4_failForMissing_21 (fun r21 => ?_)
    refine zV_iconst hX dX4_failForMissing_24 ?_
    refine zV_icmp_ne (tgt := 50) hX dX4_failForMissing_25 (by decide) (by omega) (by omega) (fun b25 => ?_) (fun b25 => ?_)
    · refine zV_aloadn hX dX4_failForMissing_50 rfl ?_
      refine GF_X4_274 hX ⟨by omega, by omega⟩ dX4_failForMissing_51 ?_
      refine zV_iloadn hX dX4_failForMissing_54 rfl ?_
      refine zV_bipush hX dX4_failForMissing_55 (by decide) ?_
      refine zV_cVV (n := 2) hX rfl hN 10 rfl rfl ⟨by omega, by omega⟩ (c_X1_setWithoutCause ⟨by omega, by omega⟩ hn ⟨by decide, by decide⟩) zw_co_yX1_setWithoutCause zw_mX4_306 zw_in_RX1 zw_im_yX1_setWithoutCause zw_se_yX1_setWithoutCause ⟨by decide, by decide, by decide +kernel⟩ rfl (by omega) (by decide) (by omega) (by omega) rfl (Nat.le_of_ble_eq_true rfl) dX4_failForMissing_57 ?_ 
      refine zV_aloadn hX dX4_failForMissing_60 rfl ?_
      refine zV_aloadn hX dX4_failForMissing_61 rfl ?_
      refine zV_iconst hX dX4_failForMissing_62 ?_
      refine zV_iconst hX dX4_failForMissing_63 ?_
      refine zV_cVV (n := 3) hX rfl hN 0 rfl rfl ⟨by decide, by decide⟩ (c_X4_endWith (c := c) (by omega) (by omega) ⟨by omega, by omega⟩ (by simp only [xScb_r, xSwc_r, ne_eq, Nat.reduceEqDiff, not_false_eq_true]; omega)) zw_co_yX4_endWith zw_mX4_310 zw_in_RX4 zw_im_yX4_endWith zw_se_yX4_endWith ⟨by decide, by decide, by decide +kernel⟩ rfl (by omega) (by decide) (by omega) (by omega) rfl (Nat.le_of_ble_eq_true rfl) dX4_failForMissing_64 ?_ 
      exact zV_vret hX hM (by omega) (by omega) dX4_failForMissing_67 (zpV_j (by unfold xFfm; first | rw [if_pos ⟨by omega, by omega⟩] | rw [if_neg (fun q => by omega)]) rfl)
    · refine zV_aloadn hX dX4_failForMissing_28 rfl ?_
      refine GF_X4_274 hX ⟨by omega, by omega⟩ dX4_failForMissing_29 ?_
      refine zV_aloadn hX dX4_failForMissing_32 rfl ?_
      refine GF_X4_24 hX  dX4_failForMissing_33 ?_
      refine zV_iload hX dX4_failForMissing_36 rfl ?_
      refine AL_5 hX  ⟨by omega, by omega⟩ dX4_failForMissing_38 ?_
      refine GF_X4_274 hX ⟨by omega, by omega⟩ dX4_failForMissing_39 ?_
      refine zV_bipush hX dX4_failForMissing_42 (by decide) ?_
      refine zV_cVV (n := 2) hX rfl hN 10 rfl rfl ⟨by omega, by omega⟩ (c_X1_setCausedBy ⟨by omega, by omega⟩ ⟨by omega, by omega⟩ (by omega) ⟨by decide, by decide⟩ (w7 (by omega)).2.1 (w7 (by omega)).2.2) zw_co_yX1_setCausedBy zw_mX4_339 zw_in_RX1 zw_im_yX1_setCausedBy zw_se_yX1_setCausedBy ⟨by decide, by decide, by decide +kernel⟩ rfl (by omega) (by decide) (by omega) (by omega) rfl (Nat.le_of_ble_eq_true rfl) dX4_failForMissing_44 ?_ 
      refine zV_goto (tgt := 60) hX dX4_failForMissing_47 (by decide) ?_
      refine zV_aloadn hX dX4_failForMissing_60 rfl ?_
      refine zV_aloadn hX dX4_failForMissing_61 rfl ?_
      refine zV_iconst hX dX4_failForMissing_62 ?_
      refine zV_iconst hX dX4_failForMissing_63 ?_
      refine zV_cVV (n := 3) hX rfl hN 0 rfl rfl ⟨by decide, by decide⟩ (c_X4_endWith (c := c) (by omega) (by omega) ⟨by omega, by omega⟩ (by simp only [xScb_r, xSwc_r, ne_eq, Nat.reduceEqDiff, not_false_eq_true]; omega)) zw_co_yX4_endWith zw_mX4_310 zw_in_RX4 zw_im_yX4_endWith zw_se_yX4_endWith ⟨by decide, by decide, by decide +kernel⟩ rfl (by omega) (by decide) (by omega) (by omega) rfl (Nat.le_of_ble_eq_true rfl) dX4_failForMissing_64 ?_ 
      exact zV_vret hX hM (by omega) (by omega) dX4_failForMissing_67 (zpV_j (by unfold xFfm; first | rw [if_pos ⟨by omega, by omega⟩] | rw [if_neg (fun q => by omega)]) rfl)
set_option maxRecDepth 100000 in
set_option maxHeartbeats 4000000 in
theorem c_J6_bitCount_0f7a4 {ad : Nat → Int → Nat} {x y : zSt} {a : Int} (ha : 0 ≤ a ∧ a < 2048) : zC yJ6_bitCount_0f7a4 cJ6_bitCount_0f7a4 1 (some .int) 0 0 0 [zI a] ad x y (zpS (zPop a) x y) (zF) := by
  refine zC_ofVF (by decide +kernel) (by intro v hv; simp only [List.mem_cons, List.not_mem_nil, or_false] at hv; subst hv; rfl) (Nat.le_of_ble_eq_true rfl) (fun Γ hX hN hM hT => ?_)
  show zV Γ ad 0 0 x y 0 [some (zI a)] []
  refine zV_iloadn hX dJ6_bitCount_0f7a4_0 rfl ?_
  refine zV_iloadn hX dJ6_bitCount_0f7a4_1 rfl ?_
  refine zV_iconst hX dJ6_bitCount_0f7a4_2 ?_
  refine zV_iushr hX dJ6_bitCount_0f7a4_3 ?_
  refine zV_ldcw hX zk_265 dJ6_bitCount_0f7a4_4 ?_
  refine zV_iand hX dJ6_bitCount_0f7a4_7 ?_
  refine zV_isub hX dJ6_bitCount_0f7a4_8 ?_
  refine zV_istoren0 hX dJ6_bitCount_0f7a4_9 ?_
  refine zV_iloadn hX dJ6_bitCount_0f7a4_10 rfl ?_
  refine zV_ldcw hX zk_266 dJ6_bitCount_0f7a4_11 ?_
  refine zV_iand hX dJ6_bitCount_0f7a4_14 ?_
  refine zV_iloadn hX dJ6_bitCount_0f7a4_15 rfl ?_
  refine zV_iconst hX dJ6_bitCount_0f7a4_16 ?_
  refine zV_iushr hX dJ6_bitCount_0f7a4_17 ?_
  refine zV_ldcw hX zk_266 dJ6_bitCount_0f7a4_18 ?_
  refine zV_iand hX dJ6_bitCount_0f7a4_21 ?_
  refine zV_iadd hX dJ6_bitCount_0f7a4_22 ?_
  refine zV_istoren0 hX dJ6_bitCount_0f7a4_23 ?_
  refine zV_iloadn hX dJ6_bitCount_0f7a4_24 rfl ?_
  refine zV_iloadn hX dJ6_bitCount_0f7a4_25 rfl ?_
  refine zV_iconst hX dJ6_bitCount_0f7a4_26 ?_
  refine zV_iushr hX dJ6_bitCount_0f7a4_27 ?_
  refine zV_iadd hX dJ6_bitCount_0f7a4_28 ?_
  refine zV_ldcw hX zk_267 dJ6_bitCount_0f7a4_29 ?_
  refine zV_iand hX dJ6_bitCount_0f7a4_32 ?_
  refine zV_istoren0 hX dJ6_bitCount_0f7a4_33 ?_
  refine zV_iloadn hX dJ6_bitCount_0f7a4_34 rfl ?_
  refine zV_iloadn hX dJ6_bitCount_0f7a4_35 rfl ?_
  refine zV_bipush hX dJ6_bitCount_0f7a4_36 (by decide) ?_
  refine zV_iushr hX dJ6_bitCount_0f7a4_38 ?_
  refine zV_iadd hX dJ6_bitCount_0f7a4_39 ?_
  refine zV_istoren0 hX dJ6_bitCount_0f7a4_40 ?_
  refine zV_iloadn hX dJ6_bitCount_0f7a4_41 rfl ?_
  refine zV_iloadn hX dJ6_bitCount_0f7a4_42 rfl ?_
  refine zV_bipush hX dJ6_bitCount_0f7a4_43 (by decide) ?_
  refine zV_iushr hX dJ6_bitCount_0f7a4_45 ?_
  refine zV_iadd hX dJ6_bitCount_0f7a4_46 ?_
  refine zV_istoren0 hX dJ6_bitCount_0f7a4_47 ?_
  refine zV_iloadn hX dJ6_bitCount_0f7a4_48 rfl ?_
  refine zV_bipush hX dJ6_bitCount_0f7a4_49 (by decide) ?_
  refine zV_iand hX dJ6_bitCount_0f7a4_51 ?_
  exact zV_iret hX hM (by omega) (by omega) rfl dJ6_bitCount_0f7a4_52 (zpS_i (zBc_eq ha))
