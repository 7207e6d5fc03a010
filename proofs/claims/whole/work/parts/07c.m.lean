set_option maxRecDepth 100000 in
set_option maxHeartbeats 4000000 in
theorem c_X5_fallsShort {ad : Nat → Int → Nat} {x y : zSt} {c : Int} (w : (0 ≤ c ∧ c < 11) ∧ (0 ≤ mReas y c ∧ mReas y c ≤ 11) ∧ (0 ≤ y 27 0 c ∧ y 27 0 c ≤ 11) ∧ (-1 ≤ y 28 0 c ∧ y 28 0 c ≤ 11) ∧ (0 ≤ y 30 0 c ∧ y 30 0 c ≤ 11)) (wr : -1 ≤ y 24 0 (mReas y c) ∧ y 24 0 (mReas y c) < 11) (wk : 0 ≤ y 24 0 (mReas y c) → (y 24 0 (mReas y c) ≠ c) ∧ (0 ≤ y 41 0 (y 24 0 (mReas y c)) ∧ y 41 0 (y 24 0 (mReas y c)) ≤ 65535) ∧ (0 ≤ y 43 0 (y 24 0 (mReas y c)) ∧ y 43 0 (y 24 0 (mReas y c)) ≤ 1000000)) : zC yX5_fallsShort cX5_fallsShort 5 none 0 0 0 [.ref (ad 20 0), zI c] ad x y (zpV x (mFalls y c)) (zF) := by
  refine zC_ofV (by decide) (by intro v hv; simp only [List.mem_cons, List.not_mem_nil, or_false] at hv; rcases hv with rfl | rfl <;> rfl) (Nat.le_of_ble_eq_true rfl) (fun Γ hX hN hM hT => ?_)
  show zV Γ ad 0 0 x y 0 [some (.ref (ad 20 0)), some (zI c), none, none, none] []
  refine zV_aloadn hX dX5_fallsShort_0 rfl ?_
  refine GF_X5_17 hX  dX5_fallsShort_1 ?_
  refine zV_aloadn hX dX5_fallsShort_4 rfl ?_
  refine GF_X5_27 hX  dX5_fallsShort_5 ?_
  refine zV_iloadn hX dX5_fallsShort_8 rfl ?_
  refine AL_27 hX  ⟨by omega, by omega⟩ dX5_fallsShort_9 (fun r9 => ?_)
  refine AL_23 hX  ⟨by omega, by omega⟩ dX5_fallsShort_10 (fun r10 => ?_)
  refine zV_if_ge (tgt := 23) hX dX5_fallsShort_11 (by decide) (by omega) (fun b11 => ?_) (fun b11 => ?_)
  · have e1 : y 28 0 c = mReas y c := by unfold mReas; rw [if_neg (by unfold mFst; omega)]
    refine zV_aloadn hX dX5_fallsShort_23 rfl ?_
    refine GF_X5_30 hX  dX5_fallsShort_24 ?_
    refine zV_iloadn hX dX5_fallsShort_27 rfl ?_
    refine AL_28 hX  ⟨by omega, by omega⟩ dX5_fallsShort_28 (fun r28 => ?_)
    rw [e1]
    refine zV_istoren2 hX dX5_fallsShort_29 ?_
    refine zV_aloadn hX dX5_fallsShort_30 rfl ?_
    refine GF_X5_20 hX  dX5_fallsShort_31 ?_
    refine zV_iloadn hX dX5_fallsShort_34 rfl ?_
    refine AL_24 hX  ⟨by omega, by omega⟩ dX5_fallsShort_35 (fun r35 => ?_)
    refine zV_istoren3 hX dX5_fallsShort_36 ?_
    refine zV_iloadn hX dX5_fallsShort_37 rfl ?_
    refine zV_if_lt (tgt := 56) hX dX5_fallsShort_38 (by decide) (by omega) (fun b38 => ?_) (fun b38 => ?_)
    · refine zV_iconst hX dX5_fallsShort_56 ?_
      refine zV_istore4 hX dX5_fallsShort_57 ?_
      refine zV_aloadn hX dX5_fallsShort_59 rfl ?_
      refine GF_X5_66 hX  dX5_fallsShort_60 ?_
      refine zV_iloadn hX dX5_fallsShort_63 rfl ?_
      refine zV_iload hX dX5_fallsShort_64 rfl ?_
      refine zV_if_eq (tgt := 78) hX dX5_fallsShort_66 (by decide) (by omega) (fun b66 => ?_) (fun b => by exfalso; omega)
      refine zV_iloadn hX dX5_fallsShort_78 rfl ?_
      refine AS_40 hX  ⟨by omega, by omega⟩ (by first | omega | assumption) dX5_fallsShort_79 ?_
      refine zV_aloadn hX dX5_fallsShort_80 rfl ?_
      refine GF_X5_69 hX  dX5_fallsShort_81 ?_
      refine zV_iloadn hX dX5_fallsShort_84 rfl ?_
      refine zV_iload hX dX5_fallsShort_85 rfl ?_
      refine zV_if_eq (tgt := 99) hX dX5_fallsShort_87 (by decide) (by omega) (fun b87 => ?_) (fun b => by exfalso; omega)
      refine zV_bipush hX dX5_fallsShort_99 (by decide) ?_
      refine AS_41 hX  ⟨by omega, by omega⟩ (by first | omega | (have := wk (by omega); omega)) dX5_fallsShort_101 ?_
      refine zV_aloadn hX dX5_fallsShort_102 rfl ?_
      refine GF_X5_75 hX  dX5_fallsShort_103 ?_
      refine zV_iloadn hX dX5_fallsShort_106 rfl ?_
      refine zV_iload hX dX5_fallsShort_107 rfl ?_
      refine zV_if_eq (tgt := 123) hX dX5_fallsShort_109 (by decide) (by omega) (fun b109 => ?_) (fun b => by exfalso; omega)
      refine zV_iconst hX dX5_fallsShort_123 ?_
      refine AS_43 hX  ⟨by omega, by omega⟩ (by first | omega | (have := wk (by omega); omega)) dX5_fallsShort_124 ?_
      exact zV_vret hX hM (by omega) (by omega) dX5_fallsShort_125 (zpV_j rfl (by first | (exfalso; omega) | (unfold mFalls; (first | rw [if_pos ⟨by omega, by omega⟩] | rw [if_neg (fun q => by omega)]))))
    · refine zV_aloadn hX dX5_fallsShort_41 rfl ?_
      refine GF_X5_48 hX  dX5_fallsShort_42 ?_
      refine zV_iloadn hX dX5_fallsShort_45 rfl ?_
      refine AL_34 hX  ⟨by omega, by omega⟩ dX5_fallsShort_46 (fun r46 => ?_)
      refine zV_bipush hX dX5_fallsShort_47 (by decide) ?_
      refine zV_icmp_ne (tgt := 56) hX dX5_fallsShort_49 (by decide) (by omega) (by omega) (fun b49 => ?_) (fun b49 => ?_)
      · refine zV_iconst hX dX5_fallsShort_56 ?_
        refine zV_istore4 hX dX5_fallsShort_57 ?_
        refine zV_aloadn hX dX5_fallsShort_59 rfl ?_
        refine GF_X5_66 hX  dX5_fallsShort_60 ?_
        refine zV_iloadn hX dX5_fallsShort_63 rfl ?_
        refine zV_iload hX dX5_fallsShort_64 rfl ?_
        refine zV_if_eq (tgt := 78) hX dX5_fallsShort_66 (by decide) (by omega) (fun b66 => ?_) (fun b => by exfalso; omega)
        refine zV_iloadn hX dX5_fallsShort_78 rfl ?_
        refine AS_40 hX  ⟨by omega, by omega⟩ (by first | omega | assumption) dX5_fallsShort_79 ?_
        refine zV_aloadn hX dX5_fallsShort_80 rfl ?_
        refine GF_X5_69 hX  dX5_fallsShort_81 ?_
        refine zV_iloadn hX dX5_fallsShort_84 rfl ?_
        refine zV_iload hX dX5_fallsShort_85 rfl ?_
        refine zV_if_eq (tgt := 99) hX dX5_fallsShort_87 (by decide) (by omega) (fun b87 => ?_) (fun b => by exfalso; omega)
        refine zV_bipush hX dX5_fallsShort_99 (by decide) ?_
        refine AS_41 hX  ⟨by omega, by omega⟩ (by first | omega | (have := wk (by omega); omega)) dX5_fallsShort_101 ?_
        refine zV_aloadn hX dX5_fallsShort_102 rfl ?_
        refine GF_X5_75 hX  dX5_fallsShort_103 ?_
        refine zV_iloadn hX dX5_fallsShort_106 rfl ?_
        refine zV_iload hX dX5_fallsShort_107 rfl ?_
        refine zV_if_eq (tgt := 123) hX dX5_fallsShort_109 (by decide) (by omega) (fun b109 => ?_) (fun b => by exfalso; omega)
        refine zV_iconst hX dX5_fallsShort_123 ?_
        refine AS_43 hX  ⟨by omega, by omega⟩ (by first | omega | (have := wk (by omega); omega)) dX5_fallsShort_124 ?_
        exact zV_vret hX hM (by omega) (by omega) dX5_fallsShort_125 (zpV_j rfl (by first | (exfalso; omega) | (unfold mFalls; (first | rw [if_pos ⟨by omega, by omega⟩] | rw [if_neg (fun q => by omega)]))))
      · refine zV_iconst hX dX5_fallsShort_52 ?_
        refine zV_goto (tgt := 57) hX dX5_fallsShort_53 (by decide) ?_
        refine zV_istore4 hX dX5_fallsShort_57 ?_
        refine zV_aloadn hX dX5_fallsShort_59 rfl ?_
        refine GF_X5_66 hX  dX5_fallsShort_60 ?_
        refine zV_iloadn hX dX5_fallsShort_63 rfl ?_
        refine zV_iload hX dX5_fallsShort_64 rfl ?_
        refine zV_if_eq (tgt := 78) hX dX5_fallsShort_66 (by decide) (by omega) (fun b => by exfalso; omega) (fun b66 => ?_)
        refine zV_aloadn hX dX5_fallsShort_69 rfl ?_
        refine GF_X5_66 hX  dX5_fallsShort_70 ?_
        refine zV_iloadn hX dX5_fallsShort_73 rfl ?_
        refine AL_40 hX  ⟨by omega, by omega⟩ dX5_fallsShort_74 (fun r74 => ?_)
        refine zV_goto (tgt := 79) hX dX5_fallsShort_75 (by decide) ?_
        refine AS_40 hX  ⟨by omega, by omega⟩ (by first | omega | assumption) dX5_fallsShort_79 ?_
        refine zV_aloadn hX dX5_fallsShort_80 rfl ?_
        refine GF_X5_69 hX  dX5_fallsShort_81 ?_
        refine zV_iloadn hX dX5_fallsShort_84 rfl ?_
        refine zV_iload hX dX5_fallsShort_85 rfl ?_
        refine zV_if_eq (tgt := 99) hX dX5_fallsShort_87 (by decide) (by omega) (fun b => by exfalso; omega) (fun b87 => ?_)
        refine zV_aloadn hX dX5_fallsShort_90 rfl ?_
        refine GF_X5_69 hX  dX5_fallsShort_91 ?_
        refine zV_iloadn hX dX5_fallsShort_94 rfl ?_
        refine AL_41 hX  ⟨by omega, by omega⟩ dX5_fallsShort_95 (fun r95 => ?_)
        try simp only [zup_d, Nat.reduceEqDiff, Int.reduceEq, reduceCtorEq, false_and, true_and, and_true, and_false, and_self, if_false, if_true, Int.reduceNeg] at r95 ⊢
        refine zV_goto (tgt := 101) hX dX5_fallsShort_96 (by decide) ?_
        refine AS_41 hX  ⟨by omega, by omega⟩ (by first | omega | (have := wk (by omega); omega)) dX5_fallsShort_101 ?_
        refine zV_aloadn hX dX5_fallsShort_102 rfl ?_
        refine GF_X5_75 hX  dX5_fallsShort_103 ?_
        refine zV_iloadn hX dX5_fallsShort_106 rfl ?_
        refine zV_iload hX dX5_fallsShort_107 rfl ?_
        refine zV_if_eq (tgt := 123) hX dX5_fallsShort_109 (by decide) (by omega) (fun b => by exfalso; omega) (fun b109 => ?_)
        refine zV_aloadn hX dX5_fallsShort_112 rfl ?_
        refine GF_X5_75 hX  dX5_fallsShort_113 ?_
        refine zV_iloadn hX dX5_fallsShort_116 rfl ?_
        refine AL_43 hX  ⟨by omega, by omega⟩ dX5_fallsShort_117 (fun r117 => ?_)
        try simp only [zup_d, Nat.reduceEqDiff, Int.reduceEq, reduceCtorEq, false_and, true_and, and_true, and_false, and_self, if_false, if_true, Int.reduceNeg] at r117 ⊢
        refine zV_iconst hX dX5_fallsShort_118 ?_
        refine zV_iadd hX dX5_fallsShort_119 ?_
        refine zV_goto (tgt := 124) hX dX5_fallsShort_120 (by decide) ?_
        refine AS_43 hX  ⟨by omega, by omega⟩ (by first | omega | (have := wk (by omega); omega)) dX5_fallsShort_124 ?_
        exact zV_vret hX hM (by omega) (by omega) dX5_fallsShort_125 (zpV_j rfl (by first | (exfalso; omega) | (unfold mFalls; (first | rw [if_pos ⟨by omega, by omega⟩] | rw [if_neg (fun q => by omega)]))))
  · obtain ⟨q, hq⟩ : ∃ q, q = mReas y c := ⟨_, rfl⟩
    have e1 : y 27 0 c = mReas y c := by unfold mReas; rw [if_pos (by unfold mFst; omega)]
    refine zV_aloadn hX dX5_fallsShort_14 rfl ?_
    refine GF_X5_27 hX  dX5_fallsShort_15 ?_
    refine zV_iloadn hX dX5_fallsShort_18 rfl ?_
    refine AL_27 hX  ⟨by omega, by omega⟩ dX5_fallsShort_19 (fun r19 => ?_)
    refine zV_goto (tgt := 29) hX dX5_fallsShort_20 (by decide) ?_
    rw [e1]
    refine zV_istoren2 hX dX5_fallsShort_29 ?_
    refine zV_aloadn hX dX5_fallsShort_30 rfl ?_
    refine GF_X5_20 hX  dX5_fallsShort_31 ?_
    refine zV_iloadn hX dX5_fallsShort_34 rfl ?_
    refine AL_24 hX  ⟨by omega, by omega⟩ dX5_fallsShort_35 (fun r35 => ?_)
    refine zV_istoren3 hX dX5_fallsShort_36 ?_
    refine zV_iloadn hX dX5_fallsShort_37 rfl ?_
    refine zV_if_lt (tgt := 56) hX dX5_fallsShort_38 (by decide) (by omega) (fun b38 => ?_) (fun b38 => ?_)
    · refine zV_iconst hX dX5_fallsShort_56 ?_
      refine zV_istore4 hX dX5_fallsShort_57 ?_
      refine zV_aloadn hX dX5_fallsShort_59 rfl ?_
      refine GF_X5_66 hX  dX5_fallsShort_60 ?_
      refine zV_iloadn hX dX5_fallsShort_63 rfl ?_
      refine zV_iload hX dX5_fallsShort_64 rfl ?_
      refine zV_if_eq (tgt := 78) hX dX5_fallsShort_66 (by decide) (by omega) (fun b66 => ?_) (fun b => by exfalso; omega)
      refine zV_iloadn hX dX5_fallsShort_78 rfl ?_
      refine AS_40 hX  ⟨by omega, by omega⟩ (by first | omega | assumption) dX5_fallsShort_79 ?_
      refine zV_aloadn hX dX5_fallsShort_80 rfl ?_
      refine GF_X5_69 hX  dX5_fallsShort_81 ?_
      refine zV_iloadn hX dX5_fallsShort_84 rfl ?_
      refine zV_iload hX dX5_fallsShort_85 rfl ?_
      refine zV_if_eq (tgt := 99) hX dX5_fallsShort_87 (by decide) (by omega) (fun b87 => ?_) (fun b => by exfalso; omega)
      refine zV_bipush hX dX5_fallsShort_99 (by decide) ?_
      refine AS_41 hX  ⟨by omega, by omega⟩ (by first | omega | (have := wk (by omega); omega)) dX5_fallsShort_101 ?_
      refine zV_aloadn hX dX5_fallsShort_102 rfl ?_
      refine GF_X5_75 hX  dX5_fallsShort_103 ?_
      refine zV_iloadn hX dX5_fallsShort_106 rfl ?_
      refine zV_iload hX dX5_fallsShort_107 rfl ?_
      refine zV_if_eq (tgt := 123) hX dX5_fallsShort_109 (by decide) (by omega) (fun b109 => ?_) (fun b => by exfalso; omega)
      refine zV_iconst hX dX5_fallsShort_123 ?_
      refine AS_43 hX  ⟨by omega, by omega⟩ (by first | omega | (have := wk (by omega); omega)) dX5_fallsShort_124 ?_
      exact zV_vret hX hM (by omega) (by omega) dX5_fallsShort_125 (zpV_j rfl (by first | (exfalso; omega) | (unfold mFalls; (first | rw [if_pos ⟨by omega, by omega⟩] | rw [if_neg (fun q => by omega)]))))
    · refine zV_aloadn hX dX5_fallsShort_41 rfl ?_
      refine GF_X5_48 hX  dX5_fallsShort_42 ?_
      refine zV_iloadn hX dX5_fallsShort_45 rfl ?_
      refine AL_34 hX  ⟨by omega, by omega⟩ dX5_fallsShort_46 (fun r46 => ?_)
      refine zV_bipush hX dX5_fallsShort_47 (by decide) ?_
      refine zV_icmp_ne (tgt := 56) hX dX5_fallsShort_49 (by decide) (by omega) (by omega) (fun b49 => ?_) (fun b49 => ?_)
      · refine zV_iconst hX dX5_fallsShort_56 ?_
        refine zV_istore4 hX dX5_fallsShort_57 ?_
        refine zV_aloadn hX dX5_fallsShort_59 rfl ?_
        refine GF_X5_66 hX  dX5_fallsShort_60 ?_
        refine zV_iloadn hX dX5_fallsShort_63 rfl ?_
        refine zV_iload hX dX5_fallsShort_64 rfl ?_
        refine zV_if_eq (tgt := 78) hX dX5_fallsShort_66 (by decide) (by omega) (fun b66 => ?_) (fun b => by exfalso; omega)
        refine zV_iloadn hX dX5_fallsShort_78 rfl ?_
        refine AS_40 hX  ⟨by omega, by omega⟩ (by first | omega | assumption) dX5_fallsShort_79 ?_
        refine zV_aloadn hX dX5_fallsShort_80 rfl ?_
        refine GF_X5_69 hX  dX5_fallsShort_81 ?_
        refine zV_iloadn hX dX5_fallsShort_84 rfl ?_
        refine zV_iload hX dX5_fallsShort_85 rfl ?_
        refine zV_if_eq (tgt := 99) hX dX5_fallsShort_87 (by decide) (by omega) (fun b87 => ?_) (fun b => by exfalso; omega)
        refine zV_bipush hX dX5_fallsShort_99 (by decide) ?_
        refine AS_41 hX  ⟨by omega, by omega⟩ (by first | omega | (have := wk (by omega); omega)) dX5_fallsShort_101 ?_
        refine zV_aloadn hX dX5_fallsShort_102 rfl ?_
        refine GF_X5_75 hX  dX5_fallsShort_103 ?_
        refine zV_iloadn hX dX5_fallsShort_106 rfl ?_
        refine zV_iload hX dX5_fallsShort_107 rfl ?_
        refine zV_if_eq (tgt := 123) hX dX5_fallsShort_109 (by decide) (by omega) (fun b109 => ?_) (fun b => by exfalso; omega)
        refine zV_iconst hX dX5_fallsShort_123 ?_
        refine AS_43 hX  ⟨by omega, by omega⟩ (by first | omega | (have := wk (by omega); omega)) dX5_fallsShort_124 ?_
        exact zV_vret hX hM (by omega) (by omega) dX5_fallsShort_125 (zpV_j rfl (by first | (exfalso; omega) | (unfold mFalls; (first | rw [if_pos ⟨by omega, by omega⟩] | rw [if_neg (fun q => by omega)]))))
      · refine zV_iconst hX dX5_fallsShort_52 ?_
        refine zV_goto (tgt := 57) hX dX5_fallsShort_53 (by decide) ?_
        refine zV_istore4 hX dX5_fallsShort_57 ?_
        refine zV_aloadn hX dX5_fallsShort_59 rfl ?_
        refine GF_X5_66 hX  dX5_fallsShort_60 ?_
        refine zV_iloadn hX dX5_fallsShort_63 rfl ?_
        refine zV_iload hX dX5_fallsShort_64 rfl ?_
        refine zV_if_eq (tgt := 78) hX dX5_fallsShort_66 (by decide) (by omega) (fun b => by exfalso; omega) (fun b66 => ?_)
        refine zV_aloadn hX dX5_fallsShort_69 rfl ?_
        refine GF_X5_66 hX  dX5_fallsShort_70 ?_
        refine zV_iloadn hX dX5_fallsShort_73 rfl ?_
        refine AL_40 hX  ⟨by omega, by omega⟩ dX5_fallsShort_74 (fun r74 => ?_)
        refine zV_goto (tgt := 79) hX dX5_fallsShort_75 (by decide) ?_
        refine AS_40 hX  ⟨by omega, by omega⟩ (by first | omega | assumption) dX5_fallsShort_79 ?_
        refine zV_aloadn hX dX5_fallsShort_80 rfl ?_
        refine GF_X5_69 hX  dX5_fallsShort_81 ?_
        refine zV_iloadn hX dX5_fallsShort_84 rfl ?_
        refine zV_iload hX dX5_fallsShort_85 rfl ?_
        refine zV_if_eq (tgt := 99) hX dX5_fallsShort_87 (by decide) (by omega) (fun b => by exfalso; omega) (fun b87 => ?_)
        refine zV_aloadn hX dX5_fallsShort_90 rfl ?_
        refine GF_X5_69 hX  dX5_fallsShort_91 ?_
        refine zV_iloadn hX dX5_fallsShort_94 rfl ?_
        refine AL_41 hX  ⟨by omega, by omega⟩ dX5_fallsShort_95 (fun r95 => ?_)
        try simp only [zup_d, Nat.reduceEqDiff, Int.reduceEq, reduceCtorEq, false_and, true_and, and_true, and_false, and_self, if_false, if_true, Int.reduceNeg] at r95 ⊢
        refine zV_goto (tgt := 101) hX dX5_fallsShort_96 (by decide) ?_
        refine AS_41 hX  ⟨by omega, by omega⟩ (by first | omega | (have := wk (by omega); omega)) dX5_fallsShort_101 ?_
        refine zV_aloadn hX dX5_fallsShort_102 rfl ?_
        refine GF_X5_75 hX  dX5_fallsShort_103 ?_
        refine zV_iloadn hX dX5_fallsShort_106 rfl ?_
        refine zV_iload hX dX5_fallsShort_107 rfl ?_
        refine zV_if_eq (tgt := 123) hX dX5_fallsShort_109 (by decide) (by omega) (fun b => by exfalso; omega) (fun b109 => ?_)
        refine zV_aloadn hX dX5_fallsShort_112 rfl ?_
        refine GF_X5_75 hX  dX5_fallsShort_113 ?_
        refine zV_iloadn hX dX5_fallsShort_116 rfl ?_
        refine AL_43 hX  ⟨by omega, by omega⟩ dX5_fallsShort_117 (fun r117 => ?_)
        try simp only [zup_d, Nat.reduceEqDiff, Int.reduceEq, reduceCtorEq, false_and, true_and, and_true, and_false, and_self, if_false, if_true, Int.reduceNeg] at r117 ⊢
        refine zV_iconst hX dX5_fallsShort_118 ?_
        refine zV_iadd hX dX5_fallsShort_119 ?_
        refine zV_goto (tgt := 124) hX dX5_fallsShort_120 (by decide) ?_
        refine AS_43 hX  ⟨by omega, by omega⟩ (by first | omega | (have := wk (by omega); omega)) dX5_fallsShort_124 ?_
        exact zV_vret hX hM (by omega) (by omega) dX5_fallsShort_125 (zpV_j rfl (by first | (exfalso; omega) | (unfold mFalls; (first | rw [if_pos ⟨by omega, by omega⟩] | rw [if_neg (fun q => by omega)]))))
set_option maxRecDepth 100000 in
set_option maxHeartbeats 4000000 in
theorem c_X5_failed_m {ad : Nat → Int → Nat} {x y : zSt} {c : Int} (w : (0 ≤ c ∧ c < 11) ∧ (0 ≤ mReas y c ∧ mReas y c ≤ 11) ∧ (0 ≤ y 27 0 c ∧ y 27 0 c ≤ 11) ∧ (-1 ≤ y 28 0 c ∧ y 28 0 c ≤ 11) ∧ (0 ≤ y 30 0 c ∧ y 30 0 c ≤ 11)) (wr : -1 ≤ y 24 0 (mReas y c) ∧ y 24 0 (mReas y c) < 11) (wk : 0 ≤ y 24 0 (mReas y c) → (y 24 0 (mReas y c) ≠ c) ∧ (0 ≤ y 41 0 (y 24 0 (mReas y c)) ∧ y 41 0 (y 24 0 (mReas y c)) ≤ 65535) ∧ (0 ≤ y 43 0 (y 24 0 (mReas y c)) ∧ y 43 0 (y 24 0 (mReas y c)) ≤ 1000000)) : zC yX5_failed cX5_failed 3 (some .char) 1 0 0 [.ref (ad 20 0), zI c, zI 109] ad x y (zpS 109 x (mFailM y c)) (zF) := by
  refine zC_ofV (by decide) (by intro v hv; simp only [List.mem_cons, List.not_mem_nil, or_false] at hv; rcases hv with rfl | rfl | rfl <;> rfl) (Nat.le_of_ble_eq_true rfl) (fun Γ hX hN hM hT => ?_)
  show zV Γ ad 0 0 x y 0 [some (.ref (ad 20 0)), some (zI c), some (zI 109)] []
  refine zV_iloadn hX dX5_failed_0 rfl ?_
  refine zV_bipush hX dX5_failed_1 (by decide) ?_
  refine zV_icmp_ne (tgt := 14) hX dX5_failed_3 (by decide) (by omega) (by omega) (fun b => by exfalso; omega) (fun b3 => ?_)
  refine zV_aloadn hX dX5_failed_6 rfl ?_
  refine zV_iloadn hX dX5_failed_7 rfl ?_
  refine zV_cVV (n := 1) hX rfl hN 20 rfl rfl ⟨by decide, by decide⟩ (c_X5_fallsShort w wr wk) zw_co_yX5_fallsShort zw_mX5_161 zw_in_RX5 zw_im_yX5_fallsShort zw_se_yX5_fallsShort ⟨by decide, by decide, by decide +kernel⟩ rfl (by omega) (by decide) (by omega) (by omega) rfl (Nat.le_of_ble_eq_true rfl) dX5_failed_8 ?_ 
  refine zV_goto (tgt := 35) hX dX5_failed_11 (by decide) ?_
  have e2 : mFalls y c 30 0 c = y 30 0 c := by unfold mFalls; split <;> simp only [zup_d, Nat.reduceEqDiff, false_and, if_false]
  refine zV_aloadn hX dX5_failed_35 rfl ?_
  refine GF_X5_48 hX  dX5_failed_36 ?_
  refine zV_iloadn hX dX5_failed_39 rfl ?_
  refine zV_bipush hX dX5_failed_40 (by decide) ?_
  refine AS_34 hX  ⟨by omega, by omega⟩ (by omega) dX5_failed_42 ?_
  refine zV_aloadn hX dX5_failed_43 rfl ?_
  refine GF_X5_72 hX  dX5_failed_44 ?_
  refine zV_iloadn hX dX5_failed_47 rfl ?_
  refine zV_iloadn hX dX5_failed_48 rfl ?_
  refine AS_42 hX  ⟨by omega, by omega⟩ (by omega) dX5_failed_49 ?_
  refine zV_aloadn hX dX5_failed_50 rfl ?_
  refine GF_X5_17 hX  dX5_failed_51 ?_
  refine zV_aloadn hX dX5_failed_54 rfl ?_
  refine GF_X5_36 hX  dX5_failed_55 ?_
  refine zV_iloadn hX dX5_failed_58 rfl ?_
  refine AL_30 hX  ⟨by omega, by omega⟩ dX5_failed_59 (fun r59 => ?_)
  try simp only [zup_d, Nat.reduceEqDiff, Int.reduceEq, reduceCtorEq, false_and, true_and, and_true, and_false, and_self, if_false, if_true, Int.reduceNeg] at r59 ⊢
  rw [e2]
  refine zV_iconst hX dX5_failed_60 ?_
  refine AS_23 hX  ⟨by omega, by omega⟩ (by omega) dX5_failed_61 ?_
  refine zV_iloadn hX dX5_failed_62 rfl ?_
  exact zV_iret hX hM (by omega) (by omega) (zn_char (by omega)) dX5_failed_63 (zpS_j rfl rfl (by unfold mFailM mEndF; rw [e2]))
set_option maxRecDepth 100000 in
set_option maxHeartbeats 4000000 in
theorem c_X5_failed_z {ad : Nat → Int → Nat} {x y : zSt} {c : Int} (w : 0 ≤ c ∧ c < 11) (w2 : 0 ≤ y 30 0 c ∧ y 30 0 c ≤ 11) : zC yX5_failed cX5_failed 3 (some .char) 1 0 0 [.ref (ad 20 0), zI c, zI 122] ad x y (zpS 122 x (mFailZ y c 122)) (zF) := by
  refine zC_ofV (by decide) (by intro v hv; simp only [List.mem_cons, List.not_mem_nil, or_false] at hv; rcases hv with rfl | rfl | rfl <;> rfl) (Nat.le_of_ble_eq_true rfl) (fun Γ hX hN hM hT => ?_)
  show zV Γ ad 0 0 x y 0 [some (.ref (ad 20 0)), some (zI c), some (zI 122)] []
  refine zV_iloadn hX dX5_failed_0 rfl ?_
  refine zV_bipush hX dX5_failed_1 (by decide) ?_
  refine zV_icmp_ne (tgt := 14) hX dX5_failed_3 (by decide) (by omega) (by omega) (fun b3 => ?_) (fun b => by exfalso; omega)
  refine zV_aloadn hX dX5_failed_14 rfl ?_
  refine GF_X5_66 hX  dX5_failed_15 ?_
  refine zV_iloadn hX dX5_failed_18 rfl ?_
  refine zV_iloadn hX dX5_failed_19 rfl ?_
  refine AS_40 hX  ⟨by omega, by omega⟩ (by omega) dX5_failed_20 ?_
  refine zV_aloadn hX dX5_failed_21 rfl ?_
  refine GF_X5_69 hX  dX5_failed_22 ?_
  refine zV_iloadn hX dX5_failed_25 rfl ?_
  refine zV_iloadn hX dX5_failed_26 rfl ?_
  refine AS_41 hX  ⟨by omega, by omega⟩ (by omega) dX5_failed_27 ?_
  refine zV_aloadn hX dX5_failed_28 rfl ?_
  refine GF_X5_75 hX  dX5_failed_29 ?_
  refine zV_iloadn hX dX5_failed_32 rfl ?_
  refine zV_iconst hX dX5_failed_33 ?_
  refine AS_43 hX  ⟨by omega, by omega⟩ (by omega) dX5_failed_34 ?_
  refine zV_aloadn hX dX5_failed_35 rfl ?_
  refine GF_X5_48 hX  dX5_failed_36 ?_
  refine zV_iloadn hX dX5_failed_39 rfl ?_
  refine zV_bipush hX dX5_failed_40 (by decide) ?_
  refine AS_34 hX  ⟨by omega, by omega⟩ (by omega) dX5_failed_42 ?_
  refine zV_aloadn hX dX5_failed_43 rfl ?_
  refine GF_X5_72 hX  dX5_failed_44 ?_
  refine zV_iloadn hX dX5_failed_47 rfl ?_
  refine zV_iloadn hX dX5_failed_48 rfl ?_
  refine AS_42 hX  ⟨by omega, by omega⟩ (by omega) dX5_failed_49 ?_
  refine zV_aloadn hX dX5_failed_50 rfl ?_
  refine GF_X5_17 hX  dX5_failed_51 ?_
  refine zV_aloadn hX dX5_failed_54 rfl ?_
  refine GF_X5_36 hX  dX5_failed_55 ?_
  refine zV_iloadn hX dX5_failed_58 rfl ?_
  refine AL_30 hX  ⟨by omega, by omega⟩ dX5_failed_59 (fun r59 => ?_)
  try simp only [zup_d, Nat.reduceEqDiff, Int.reduceEq, reduceCtorEq, false_and, true_and, and_true, and_false, and_self, if_false, if_true, Int.reduceNeg] at r59 ⊢
  refine zV_iconst hX dX5_failed_60 ?_
  refine AS_23 hX  ⟨by omega, by omega⟩ (by omega) dX5_failed_61 ?_
  refine zV_iloadn hX dX5_failed_62 rfl ?_
  exact zV_iret hX hM (by omega) (by omega) (zn_char (by omega)) dX5_failed_63 (zpS_j rfl rfl (by unfold mFailZ mEndF; simp only [zup_d, Nat.reduceEqDiff, false_and, if_false]))
