set_option maxRecDepth 100000 in
set_option maxHeartbeats 4000000 in
theorem c_J9_floorMod_7cf53 {ad : Nat → Int → Nat} {x y : zSt} {a b : Int} (ha : 0 ≤ a ∧ a ≤ 100000) (hb : 0 < b ∧ b ≤ 100000) : zC yJ9_floorMod_7cf53 cJ9_floorMod_7cf53 3 (some .int) 0 0 0 [zI a, zI b] ad x y (zpS (a % b) x y) (zF) := by
  refine zC_ofVF (by decide +kernel) (by intro v hv; simp only [List.mem_cons, List.not_mem_nil, or_false] at hv; rcases hv with rfl | rfl <;> rfl) (Nat.le_of_ble_eq_true rfl) (fun Γ hX hN hM hT => ?_)
  show zV Γ ad 0 0 x y 0 [some (zI a), some (zI b), none] []
  refine zV_iloadn hX dJ9_floorMod_7cf53_0 rfl ?_
  refine zV_iloadn hX dJ9_floorMod_7cf53_1 rfl ?_
  refine zV_irem hX dJ9_floorMod_7cf53_2 ⟨by omega, by omega⟩ ⟨by omega, by omega⟩ ?_
  refine zV_istoren2 hX dJ9_floorMod_7cf53_3 ?_
  refine zV_iloadn hX dJ9_floorMod_7cf53_4 rfl ?_
  refine zV_iloadn hX dJ9_floorMod_7cf53_5 rfl ?_
  refine zV_ixor hX dJ9_floorMod_7cf53_6 ?_
  refine zV_if_ge (tgt := 18) hX dJ9_floorMod_7cf53_7 (by decide) (zxor_nn ⟨by omega, by omega⟩ ⟨by omega, by omega⟩).2 (fun b7 => ?_) (fun b7 => ?_)
  · refine zV_iloadn hX dJ9_floorMod_7cf53_18 rfl ?_
    exact zV_iret hX hM (by omega) (by omega) rfl dJ9_floorMod_7cf53_19 (zpS_i (by first | rfl | omega))
  · exact absurd (zxor_nn (a := a) (b := b) ⟨by omega, by omega⟩ ⟨by omega, by omega⟩).1 b7 --done
set_option maxRecDepth 100000 in
set_option maxHeartbeats 4000000 in
theorem c_J9_abs_0f7a4 {ad : Nat → Int → Nat} {x y : zSt} {a : Int} (ha : -1000000000 ≤ a ∧ a ≤ 1000000000) : zC yJ9_abs_0f7a4 cJ9_abs_0f7a4 1 (some .int) 0 0 0 [zI a] ad x y (zpS (if a < 0 then -a else a) x y) (zF) := by
  refine zC_ofVF (by decide +kernel) (by intro v hv; simp only [List.mem_cons, List.not_mem_nil, or_false] at hv; subst hv; rfl) (Nat.le_of_ble_eq_true rfl) (fun Γ hX hN hM hT => ?_)
  show zV Γ ad 0 0 x y 0 [some (zI a)] []
  refine zV_iloadn hX dJ9_abs_0f7a4_0 rfl ?_
  refine zV_if_ge (tgt := 9) hX dJ9_abs_0f7a4_1 (by decide) (by omega) (fun b1 => ?_) (fun b1 => ?_)
  · refine zV_iloadn hX dJ9_abs_0f7a4_9 rfl ?_
    exact zV_iret hX hM (by omega) (by omega) rfl dJ9_abs_0f7a4_10 (zpS_i (by first | rw [if_pos (by omega)] | rw [if_neg (by omega)]))
  · refine zV_iloadn hX dJ9_abs_0f7a4_4 rfl ?_
    refine zV_ineg hX dJ9_abs_0f7a4_5 ?_
    refine zV_goto (tgt := 10) hX dJ9_abs_0f7a4_6 (by decide) ?_
    exact zV_iret hX hM (by omega) (by omega) rfl dJ9_abs_0f7a4_10 (zpS_i (by first | rw [if_pos (by omega)] | rw [if_neg (by omega)]))
set_option maxRecDepth 100000 in
set_option maxHeartbeats 4000000 in
theorem c_X4_resultOf {ad : Nat → Int → Nat} {x y : zSt} {c a b : Int} (ha : 0 ≤ a ∧ a ≤ 999) (hb : zR b) (hb2 : x 9 c 2 ≠ -1 → 0 ≤ b ∧ b ≤ 999) (hc : 0 ≤ c ∧ c < x 0 0 9) (hI : xI x) : zC yX4_resultOf cX4_resultOf 5 (some .int) 1 0 0 [.ref (ad 9 c), zI a, zI b] ad x y (zpS (xRes x c a b) x y) (zF) := by
  refine zC_ofV (by decide) (by intro v hv; simp only [List.mem_cons, List.not_mem_nil, or_false] at hv; rcases hv with rfl | rfl | rfl <;> rfl) (Nat.le_of_ble_eq_true rfl) (fun Γ hX hN hM hT => ?_)
  show zV Γ ad 0 0 x y 0 [some (.ref (ad 9 c)), some (zI a), some (zI b), none, none] []
  obtain ⟨i1, i2, i3, i4, i5, i6, i7, i8, i9, i10, i11⟩ := hI
  have w1 := i6 c hc.1 hc.2
  have m1 := zmul_b ha w1.2.2.1
  have m2 : x 9 c 2 ≠ -1 → 0 ≤ a * x 9 c 3 * b ∧ a * x 9 c 3 * b ≤ 999 * 99 * 999 := fun h => zmul_b m1 (hb2 h)
  have m3 : a * x 9 c 3 * 1 = a * x 9 c 3 := Int.mul_one _
  refine zV_aloadn hX dX4_resultOf_0 rfl ?_
  refine GF_X4_103 hX ⟨by omega, by omega⟩ dX4_resultOf_1 (fun r1 => ?_)
  refine zV_iconst hX dX4_resultOf_4 ?_
  refine zV_icmp_eq (tgt := 12) hX dX4_resultOf_5 (by decide) (by omega) (by omega) (fun b5 => ?_) (fun b5 => ?_)
  · refine zV_iconst hX dX4_resultOf_12 ?_
    refine zV_istoren3 hX dX4_resultOf_13 ?_
    refine zV_iloadn hX dX4_resultOf_14 rfl ?_
    refine zV_if_eq (tgt := 22) hX dX4_resultOf_15 (by decide) (by omega) (fun b15 => ?_) (fun b => by exfalso; omega)
    refine zV_aloadn hX dX4_resultOf_22 rfl ?_
    refine GF_X4_106 hX ⟨by omega, by omega⟩ dX4_resultOf_23 (fun r23 => ?_)
    refine zV_istore4 hX dX4_resultOf_26 ?_
    refine zV_aloadn hX dX4_resultOf_28 rfl ?_
    refine GF_X4_96 hX ⟨by omega, by omega⟩ dX4_resultOf_29 (fun r29 => ?_)
    refine zV_bipush hX dX4_resultOf_32 (by decide) ?_
    refine zV_icmp_ne (tgt := 58) hX dX4_resultOf_34 (by decide) (by omega) (by omega) (fun b34 => ?_) (fun b34 => ?_)
    · refine zV_aloadn hX dX4_resultOf_58 rfl ?_
      refine GF_X4_96 hX ⟨by omega, by omega⟩ dX4_resultOf_59 (fun r59 => ?_)
      refine zV_bipush hX dX4_resultOf_62 (by decide) ?_
      refine zV_icmp_ne (tgt := 88) hX dX4_resultOf_64 (by decide) (by omega) (by omega) (fun b64 => ?_) (fun b64 => ?_)
      · refine zV_aloadn hX dX4_resultOf_88 rfl ?_
        refine GF_X4_96 hX ⟨by omega, by omega⟩ dX4_resultOf_89 (fun r89 => ?_)
        refine zV_bipush hX dX4_resultOf_92 (by decide) ?_
        refine zV_icmp_ne (tgt := 109) hX dX4_resultOf_94 (by decide) (by omega) (by omega) (fun b94 => ?_) (fun b94 => ?_)
        · refine zV_iload hX dX4_resultOf_109 rfl ?_
          refine zV_if_ne (tgt := 118) hX dX4_resultOf_111 (by decide) (by omega) (fun b111 => ?_) (fun b111 => ?_)
          · refine zV_iloadn hX dX4_resultOf_118 rfl ?_
            refine zV_iload hX dX4_resultOf_119 rfl ?_
            refine zV_idiv hX dX4_resultOf_121 ⟨by omega, by omega⟩ ⟨by omega, by omega⟩ ?_
            refine zV_sipush hX dX4_resultOf_122 (by decide) ?_
            refine zV_irem hX dX4_resultOf_125 ⟨by first | exact Int.ediv_nonneg (by omega) (by omega) | omega, Int.le_trans (Int.ediv_le_self _ (by omega)) (by omega)⟩ ⟨by omega, by omega⟩ ?_
            exact zV_iret hX hM (by omega) (by omega) rfl dX4_resultOf_126 (zpS_i (by unfold xRes; simp only [*, if_true, if_false, ite_true, ite_false, ne_eq, not_true_eq_false, not_false_eq_true, reduceCtorEq, Int.reduceEq, Int.reduceNeg]))
          · refine zV_iconst hX dX4_resultOf_114 ?_
            refine zV_goto (tgt := 126) hX dX4_resultOf_115 (by decide) ?_
            exact zV_iret hX hM (by omega) (by omega) rfl dX4_resultOf_126 (zpS_i (by unfold xRes; simp only [*, if_true, if_false, ite_true, ite_false, ne_eq, not_true_eq_false, not_false_eq_true, reduceCtorEq, Int.reduceEq, Int.reduceNeg]))
        · refine zV_iloadn hX dX4_resultOf_97 rfl ?_
          refine zV_iload hX dX4_resultOf_98 rfl ?_
          refine zV_isub hX dX4_resultOf_100 ?_
          refine zV_cSS (n := 1) hX rfl hN (c_J9_abs_0f7a4 ⟨by omega, by omega⟩) zw_co_yJ9_abs_0f7a4 zw_mX4_343 zw_in_RJ9 zw_st_yJ9_abs_0f7a4 ⟨by decide, by decide, by decide +kernel⟩ rfl (by omega) (by decide) (by omega) (by omega) rfl (Nat.le_of_ble_eq_true rfl) dX4_resultOf_101 ?_ 
          refine zV_sipush hX dX4_resultOf_104 (by decide) ?_
          refine zV_irem hX dX4_resultOf_107 ⟨by split <;> omega, by split <;> omega⟩ ⟨by omega, by omega⟩ ?_
          exact zV_iret hX hM (by omega) (by omega) rfl dX4_resultOf_108 (zpS_i (by unfold xRes; simp only [*, if_true, if_false, ite_true, ite_false, ne_eq, not_true_eq_false, not_false_eq_true, reduceCtorEq, Int.reduceEq, Int.reduceNeg]))
      · refine zV_iloadn hX dX4_resultOf_67 rfl ?_
        refine zV_aloadn hX dX4_resultOf_68 rfl ?_
        refine GF_X4_106 hX ⟨by omega, by omega⟩ dX4_resultOf_69 (fun r69 => ?_)
        refine zV_imul hX dX4_resultOf_72 ?_
        refine zV_iloadn hX dX4_resultOf_73 rfl ?_
        refine zV_if_eq (tgt := 81) hX dX4_resultOf_74 (by decide) (by omega) (fun b74 => ?_) (fun b => by exfalso; omega)
        refine zV_iconst hX dX4_resultOf_81 ?_
        refine zV_imul hX dX4_resultOf_82 ?_
        refine zV_sipush hX dX4_resultOf_83 (by decide) ?_
        refine zV_irem hX dX4_resultOf_86 ⟨by omega, by omega⟩ ⟨by omega, by omega⟩ ?_
        exact zV_iret hX hM (by omega) (by omega) rfl dX4_resultOf_87 (zpS_i (by unfold xRes; simp only [*, if_true, if_false, ite_true, ite_false, ne_eq, not_true_eq_false, not_false_eq_true, reduceCtorEq, Int.reduceEq, Int.reduceNeg]))
    · refine zV_iloadn hX dX4_resultOf_37 rfl ?_
      refine zV_aloadn hX dX4_resultOf_38 rfl ?_
      refine GF_X4_106 hX ⟨by omega, by omega⟩ dX4_resultOf_39 (fun r39 => ?_)
      refine zV_iadd hX dX4_resultOf_42 ?_
      refine zV_iloadn hX dX4_resultOf_43 rfl ?_
      refine zV_if_eq (tgt := 51) hX dX4_resultOf_44 (by decide) (by omega) (fun b44 => ?_) (fun b => by exfalso; omega)
      refine zV_iconst hX dX4_resultOf_51 ?_
      refine zV_iadd hX dX4_resultOf_52 ?_
      refine zV_sipush hX dX4_resultOf_53 (by decide) ?_
      refine zV_irem hX dX4_resultOf_56 ⟨by omega, by omega⟩ ⟨by omega, by omega⟩ ?_
      exact zV_iret hX hM (by omega) (by omega) rfl dX4_resultOf_57 (zpS_i (by unfold xRes; simp only [*, if_true, if_false, ite_true, ite_false, ne_eq, not_true_eq_false, not_false_eq_true, reduceCtorEq, Int.reduceEq, Int.reduceNeg]))
  · refine zV_iconst hX dX4_resultOf_8 ?_
    refine zV_goto (tgt := 13) hX dX4_resultOf_9 (by decide) ?_
    refine zV_istoren3 hX dX4_resultOf_13 ?_
    refine zV_iloadn hX dX4_resultOf_14 rfl ?_
    refine zV_if_eq (tgt := 22) hX dX4_resultOf_15 (by decide) (by omega) (fun b => by exfalso; omega) (fun b15 => ?_)
    refine zV_iloadn hX dX4_resultOf_18 rfl ?_
    refine zV_goto (tgt := 26) hX dX4_resultOf_19 (by decide) ?_
    refine zV_istore4 hX dX4_resultOf_26 ?_
    refine zV_aloadn hX dX4_resultOf_28 rfl ?_
    refine GF_X4_96 hX ⟨by omega, by omega⟩ dX4_resultOf_29 (fun r29 => ?_)
    refine zV_bipush hX dX4_resultOf_32 (by decide) ?_
    refine zV_icmp_ne (tgt := 58) hX dX4_resultOf_34 (by decide) (by omega) (by omega) (fun b34 => ?_) (fun b34 => ?_)
    · refine zV_aloadn hX dX4_resultOf_58 rfl ?_
      refine GF_X4_96 hX ⟨by omega, by omega⟩ dX4_resultOf_59 (fun r59 => ?_)
      refine zV_bipush hX dX4_resultOf_62 (by decide) ?_
      refine zV_icmp_ne (tgt := 88) hX dX4_resultOf_64 (by decide) (by omega) (by omega) (fun b64 => ?_) (fun b64 => ?_)
      · refine zV_aloadn hX dX4_resultOf_88 rfl ?_
        refine GF_X4_96 hX ⟨by omega, by omega⟩ dX4_resultOf_89 (fun r89 => ?_)
        refine zV_bipush hX dX4_resultOf_92 (by decide) ?_
        refine zV_icmp_ne (tgt := 109) hX dX4_resultOf_94 (by decide) (by omega) (by omega) (fun b94 => ?_) (fun b94 => ?_)
        · refine zV_iload hX dX4_resultOf_109 rfl ?_
          refine zV_if_ne (tgt := 118) hX dX4_resultOf_111 (by decide) (by omega) (fun b111 => ?_) (fun b111 => ?_)
          · refine zV_iloadn hX dX4_resultOf_118 rfl ?_
            refine zV_iload hX dX4_resultOf_119 rfl ?_
            refine zV_idiv hX dX4_resultOf_121 ⟨by omega, by omega⟩ ⟨by omega, by omega⟩ ?_
            refine zV_sipush hX dX4_resultOf_122 (by decide) ?_
            refine zV_irem hX dX4_resultOf_125 ⟨by first | exact Int.ediv_nonneg (by omega) (by omega) | omega, Int.le_trans (Int.ediv_le_self _ (by omega)) (by omega)⟩ ⟨by omega, by omega⟩ ?_
            exact zV_iret hX hM (by omega) (by omega) rfl dX4_resultOf_126 (zpS_i (by unfold xRes; simp only [*, if_true, if_false, ite_true, ite_false, ne_eq, not_true_eq_false, not_false_eq_true, reduceCtorEq, Int.reduceEq, Int.reduceNeg]))
          · refine zV_iconst hX dX4_resultOf_114 ?_
            refine zV_goto (tgt := 126) hX dX4_resultOf_115 (by decide) ?_
            exact zV_iret hX hM (by omega) (by omega) rfl dX4_resultOf_126 (zpS_i (by unfold xRes; simp only [*, if_true, if_false, ite_true, ite_false, ne_eq, not_true_eq_false, not_false_eq_true, reduceCtorEq, Int.reduceEq, Int.reduceNeg]))
        · refine zV_iloadn hX dX4_resultOf_97 rfl ?_
          refine zV_iload hX dX4_resultOf_98 rfl ?_
          refine zV_isub hX dX4_resultOf_100 ?_
          refine zV_cSS (n := 1) hX rfl hN (c_J9_abs_0f7a4 ⟨by omega, by omega⟩) zw_co_yJ9_abs_0f7a4 zw_mX4_343 zw_in_RJ9 zw_st_yJ9_abs_0f7a4 ⟨by decide, by decide, by decide +kernel⟩ rfl (by omega) (by decide) (by omega) (by omega) rfl (Nat.le_of_ble_eq_true rfl) dX4_resultOf_101 ?_ 
          refine zV_sipush hX dX4_resultOf_104 (by decide) ?_
          refine zV_irem hX dX4_resultOf_107 ⟨by split <;> omega, by split <;> omega⟩ ⟨by omega, by omega⟩ ?_
          exact zV_iret hX hM (by omega) (by omega) rfl dX4_resultOf_108 (zpS_i (by unfold xRes; simp only [*, if_true, if_false, ite_true, ite_false, ne_eq, not_true_eq_false, not_false_eq_true, reduceCtorEq, Int.reduceEq, Int.reduceNeg]))
      · refine zV_iloadn hX dX4_resultOf_67 rfl ?_
        refine zV_aloadn hX dX4_resultOf_68 rfl ?_
        refine GF_X4_106 hX ⟨by omega, by omega⟩ dX4_resultOf_69 (fun r69 => ?_)
        refine zV_imul hX dX4_resultOf_72 ?_
        refine zV_iloadn hX dX4_resultOf_73 rfl ?_
        refine zV_if_eq (tgt := 81) hX dX4_resultOf_74 (by decide) (by omega) (fun b => by exfalso; omega) (fun b74 => ?_)
        refine zV_iloadn hX dX4_resultOf_77 rfl ?_
        refine zV_goto (tgt := 82) hX dX4_resultOf_78 (by decide) ?_
        refine zV_imul hX dX4_resultOf_82 ?_
        refine zV_sipush hX dX4_resultOf_83 (by decide) ?_
        refine zV_irem hX dX4_resultOf_86 ⟨by omega, by omega⟩ ⟨by omega, by omega⟩ ?_
        exact zV_iret hX hM (by omega) (by omega) rfl dX4_resultOf_87 (zpS_i (by unfold xRes; simp only [*, if_true, if_false, ite_true, ite_false, ne_eq, not_true_eq_false, not_false_eq_true, reduceCtorEq, Int.reduceEq, Int.reduceNeg]))
    · refine zV_iloadn hX dX4_resultOf_37 rfl ?_
      refine zV_aloadn hX dX4_resultOf_38 rfl ?_
      refine GF_X4_106 hX ⟨by omega, by omega⟩ dX4_resultOf_39 (fun r39 => ?_)
      refine zV_iadd hX dX4_resultOf_42 ?_
      refine zV_iloadn hX dX4_resultOf_43 rfl ?_
      refine zV_if_eq (tgt := 51) hX dX4_resultOf_44 (by decide) (by omega) (fun b => by exfalso; omega) (fun b44 => ?_)
      refine zV_iloadn hX dX4_resultOf_47 rfl ?_
      refine zV_goto (tgt := 52) hX dX4_resultOf_48 (by decide) ?_
      refine zV_iadd hX dX4_resultOf_52 ?_
      refine zV_sipush hX dX4_resultOf_53 (by decide) ?_
      refine zV_irem hX dX4_resultOf_56 ⟨by omega, by omega⟩ ⟨by omega, by omega⟩ ?_
      exact zV_iret hX hM (by omega) (by omega) rfl dX4_resultOf_57 (zpS_i (by unfold xRes; simp only [*, if_true, if_false, ite_true, ite_false, ne_eq, not_true_eq_false, not_false_eq_true, reduceCtorEq, Int.reduceEq, Int.reduceNeg]))
set_option maxRecDepth 100000 in
set_option maxHeartbeats 4000000 in
theorem c_X2_roomLeft {ad : Nat → Int → Nat} {x y : zSt} {k : Int} (hk : 0 ≤ k ∧ k ≤ 2) : zC yX2_roomLeft cX2_roomLeft 1 (some .int) 0 0 0 [.ref (ad 16 k)] ad x y (zpS (xLeft x k) x y) (zF) := by
  refine zC_ofV (by decide) (by intro v hv; simp only [List.mem_cons, List.not_mem_nil, or_false] at hv; subst hv; rfl) (Nat.le_of_ble_eq_true rfl) (fun Γ hX hN hM hT => ?_)
  show zV Γ ad 0 0 x y 0 [some (.ref (ad 16 k))] []
  refine zV_aloadn hX dX2_roomLeft_0 rfl ?_
  refine GF_X2_15 hX ⟨by omega, by omega⟩ dX2_roomLeft_1 (fun r1 => ?_)
  refine zV_aloadn hX dX2_roomLeft_4 rfl ?_
  refine GF_X2_19 hX ⟨by omega, by omega⟩ dX2_roomLeft_5 (fun r5 => ?_)
  refine zV_isub hX dX2_roomLeft_8 ?_
  exact zV_iret hX hM (by omega) (by omega) rfl dX2_roomLeft_9 (zpS_i rfl)
set_option maxRecDepth 100000 in
set_option maxHeartbeats 4000000 in
theorem lp_X4_kernelFor {ad : Nat → Int → Nat} {x y : zSt} {Γ : zG} {need : Int} (hneed : zR need) (hX : zX Γ ad RX4 cX4_kernelFor 5) (hN : zN Γ 1 0 0) (hM : zM Γ ad 0 0 (some .int) (zpS (xKf x need (x 0 0 10).toNat) x y) zF) (hT : zNT Γ) (hI : xI x) : ∀ (k n : Nat) (i b : Int) (w : Option Value), i = n → i ≤ x 0 0 10 → (x 0 0 10).toNat - n < k → b = xKf x need n → -1 ≤ b ∧ b < i → zV Γ ad 0 0 x y 4 [some (.ref (ad 0 0)), some (zI need), some (zI b), some (zI i), w] [] := by
  intro k
  induction k with
  | zero => intro n i b w h1 h2 h3 h4 h5; omega
  | succ k ih =>
    intro n i b w h1 h2 h3 h4 h5
    obtain ⟨i1, i2, i3, i4, i5, i6, i7, i8, i9, i10, i11⟩ := id hI
    refine zV_iloadn hX dX4_kernelFor_4 rfl ?_
    refine zV_aloadn hX dX4_kernelFor_5 rfl ?_
    refine GF_X4_198 hX  dX4_kernelFor_6 (fun r6 => ?_)
    refine zV_icmp_ge (tgt := 56) hX dX4_kernelFor_9 (by decide) (by omega) (by omega) (fun b9 => ?_) (fun b9 => ?_)
    · refine zV_iloadn hX dX4_kernelFor_56 rfl ?_
      exact zV_iret hX hM (by omega) (by omega) rfl dX4_kernelFor_57 (zpS_i (by rw [h4]; congr 1; omega))
    · refine zV_aloadn hX dX4_kernelFor_12 rfl ?_
      refine GF_X4_30 hX  dX4_kernelFor_13 ?_
      refine zV_iloadn hX dX4_kernelFor_16 rfl ?_
      refine AL_6 hX  ⟨by omega, by omega⟩ dX4_kernelFor_17 ?_
      refine zV_cVS (n := 0) hX rfl hN 16 rfl rfl ⟨by omega, by omega⟩ (c_X2_roomLeft ⟨by omega, by omega⟩) zw_co_yX2_roomLeft zw_mX4_211 zw_in_RX2 zw_im_yX2_roomLeft zw_se_yX2_roomLeft ⟨by decide, by decide, by decide +kernel⟩ rfl (by omega) (by decide) (by omega) (by omega) rfl (Nat.le_of_ble_eq_true rfl) dX4_kernelFor_18 ?_ 
      refine zV_istore4 hX dX4_kernelFor_21 ?_
      refine zV_iload hX dX4_kernelFor_23 rfl ?_
      refine zV_iloadn hX dX4_kernelFor_25 rfl ?_
      refine zV_icmp_lt (tgt := 50) hX dX4_kernelFor_26 (by decide) (by have := i9 i (by omega) (by omega); unfold xLeft; omega) (by omega) (fun b26 => ?_) (fun b26 => ?_)
      · refine zV_iinc3 hX dX4_kernelFor_50 ?_
        refine zV_goto (tgt := 4) hX dX4_kernelFor_53 (by decide) ?_
        exact ih (n + 1) (i + 1) _ _ (by omega) (by omega) (by omega) (by rw [h1, h4] at *; simp only [xKf]; first | rw [if_pos ⟨by omega, by first | exact Or.inl (by assumption) | exact Or.inr (by omega)⟩] | rw [if_neg (fun q => by first | omega | exact q.2.elim (fun h => by omega) (fun h => by omega))]) (by omega)
      · refine zV_iloadn hX dX4_kernelFor_29 rfl ?_
        refine zV_iconst hX dX4_kernelFor_30 ?_
        refine zV_icmp_eq (tgt := 48) hX dX4_kernelFor_31 (by decide) (by omega) (by omega) (fun b31 => ?_) (fun b31 => ?_)
        · refine zV_iloadn hX dX4_kernelFor_48 rfl ?_
          refine zV_istoren2 hX dX4_kernelFor_49 ?_
          refine zV_iinc3 hX dX4_kernelFor_50 ?_
          refine zV_goto (tgt := 4) hX dX4_kernelFor_53 (by decide) ?_
          exact ih (n + 1) (i + 1) _ _ (by omega) (by omega) (by omega) (by rw [h1, h4] at *; simp only [xKf]; first | rw [if_pos ⟨by omega, by first | exact Or.inl (by assumption) | exact Or.inr (by omega)⟩] | rw [if_neg (fun q => by first | omega | exact q.2.elim (fun h => by omega) (fun h => by omega))]) (by omega)
        · refine zV_iload hX dX4_kernelFor_34 rfl ?_
          refine zV_aloadn hX dX4_kernelFor_36 rfl ?_
          refine GF_X4_30 hX  dX4_kernelFor_37 ?_
          refine zV_iloadn hX dX4_kernelFor_40 rfl ?_
          refine AL_6 hX  ⟨by omega, by omega⟩ dX4_kernelFor_41 ?_
          refine zV_cVS (n := 0) hX rfl hN 16 rfl rfl ⟨by omega, by omega⟩ (c_X2_roomLeft ⟨by omega, by omega⟩) zw_co_yX2_roomLeft zw_mX4_211 zw_in_RX2 zw_im_yX2_roomLeft zw_se_yX2_roomLeft ⟨by decide, by decide, by decide +kernel⟩ rfl (by omega) (by decide) (by omega) (by omega) rfl (Nat.le_of_ble_eq_true rfl) dX4_kernelFor_42 ?_ 
          refine zV_icmp_ge (tgt := 50) hX dX4_kernelFor_45 (by decide) (by have := i9 i (by omega) (by omega); unfold xLeft; omega) (by have := i9 b (by omega) (by omega); unfold xLeft; omega) (fun b45 => ?_) (fun b45 => ?_)
          · refine zV_iinc3 hX dX4_kernelFor_50 ?_
            refine zV_goto (tgt := 4) hX dX4_kernelFor_53 (by decide) ?_
            exact ih (n + 1) (i + 1) _ _ (by omega) (by omega) (by omega) (by rw [h1, h4] at *; simp only [xKf]; first | rw [if_pos ⟨by omega, by first | exact Or.inl (by assumption) | exact Or.inr (by omega)⟩] | rw [if_neg (fun q => by first | omega | exact q.2.elim (fun h => by omega) (fun h => by omega))]) (by omega)
          · refine zV_iloadn hX dX4_kernelFor_48 rfl ?_
            refine zV_istoren2 hX dX4_kernelFor_49 ?_
            refine zV_iinc3 hX dX4_kernelFor_50 ?_
            refine zV_goto (tgt := 4) hX dX4_kernelFor_53 (by decide) ?_
            exact ih (n + 1) (i + 1) _ _ (by omega) (by omega) (by omega) (by rw [h1, h4] at *; simp only [xKf]; first | rw [if_pos ⟨by omega, by first | exact Or.inl (by assumption) | exact Or.inr (by omega)⟩] | rw [if_neg (fun q => by first | omega | exact q.2.elim (fun h => by omega) (fun h => by omega))]) (by omega)
set_option maxRecDepth 100000 in
set_option maxHeartbeats 4000000 in
theorem c_X4_kernelFor {ad : Nat → Int → Nat} {x y : zSt} {need : Int} (hneed : zR need) (hI : xI x) : zC yX4_kernelFor cX4_kernelFor 5 (some .int) 1 0 0 [.ref (ad 0 0), zI need] ad x y (zpS (xKf x need (x 0 0 10).toNat) x y) (zF) := by
  refine zC_ofV (by decide) (by intro v hv; simp only [List.mem_cons, List.not_mem_nil, or_false] at hv; rcases hv with rfl | rfl <;> rfl) (Nat.le_of_ble_eq_true rfl) (fun Γ hX hN hM hT => ?_)
  show zV Γ ad 0 0 x y 0 [some (.ref (ad 0 0)), some (zI need), none, none, none] []
  refine zV_iconst hX dX4_kernelFor_0 ?_
  refine zV_istoren2 hX dX4_kernelFor_1 ?_
  refine zV_iconst hX dX4_kernelFor_2 ?_
  refine zV_istoren3 hX dX4_kernelFor_3 ?_
  exact lp_X4_kernelFor hneed hX hN hM hT hI ((x 0 0 10).toNat + 1) 0 0 (-1) _ rfl hI.2.1.1 (by omega) rfl ⟨by decide, by decide⟩
