/-! the model's constructor -/
def zups : Nat → Nat → Int32
  | 0 => z0
  | n + 1 => upd (zups n) n (Int32.ofInt (-1))
def zuph : Nat → Nat → Int32
  | 0 => z0
  | n + 1 => upd (zuph n) n (vp_nar .char (Int32.ofInt 110))
theorem zups_at {j : Nat} : ∀ n : Nat, j < n → zups n j = Int32.ofInt (-1) := by
  intro n
  induction n with
  | zero => intro h; omega
  | succ n ih =>
    intro h
    show upd (zups n) n (Int32.ofInt (-1)) j = _
    unfold upd
    by_cases e : j = n
    · rw [if_pos e]
    · rw [if_neg e]
      exact ih (by omega)
theorem zuph_at {j : Nat} : ∀ n : Nat, j < n → zuph n j = Int32.ofInt 110 := by
  intro n
  induction n with
  | zero => intro h; omega
  | succ n ih =>
    intro h
    show upd (zuph n) n (vp_nar .char (Int32.ofInt 110)) j = _
    unfold upd
    by_cases e : j = n
    · rw [if_pos e]
      decide
    · rw [if_neg e]
      exact ih (by omega)
abbrev eY : va_E := .inr (5, [.int 0, .null, .null, .null, .null, .int 0, .null, .null, .null, .null, .null, .null, .null, .null, .null, .null, .null, .null, .null, .null, .null, .null, .null, .null, .null, .null, .null, .null, .int 0, .null, .int 0, .null, .null, .null, .int 0, .null, .null, .int 0, .long 0, .int 0])
def zYl (cA : Nat → ClassId) (r : Nat → Nat) : va_W := [(r 20, .inr (5, [.int 0, .ref (r 21), .ref (r 22), .ref (r 23), .ref (r 24), .int 0, .ref (r 26), .ref (r 27), .ref (r 28), .ref (r 29), .ref (r 30), .ref (r 31), .ref (r 32), .ref (r 33), .ref (r 34), .ref (r 35), .ref (r 36), .ref (r 37), .ref (r 38), .ref (r 39), .ref (r 40), .ref (r 41), .ref (r 42), .ref (r 43), .ref (r 44), .ref (r 45), .ref (r 46), .ref (r 47), .int 0, .ref (r 49), .int 0, .ref (r 51), .ref (r 52), .ref (r 53), .int 0, .ref (r 55), .ref (r 56), .int 0, .long 0, .int 0])), (r 21, aI cA 21 12 z0), (r 22, aI cA 22 12 z0), (r 23, aI cA 23 12 (zups 12)), (r 24, aI cA 24 12 (zups 12)), (r 26, aI cA 26 16 z0), (r 27, aI cA 27 16 z0), (r 28, aI cA 28 16 z0), (r 29, aI cA 29 16 z0), (r 30, aI cA 30 16 z0), (r 31, aI cA 31 16 z0), (r 32, aI cA 32 16 z0), (r 33, aI cA 33 16 z0), (r 34, aI cA 34 16 (zuph 16)), (r 35, aI cA 35 16 z0), (r 36, aI cA 36 16 z0), (r 37, aI cA 37 16 z0), (r 38, aI cA 38 16 z0), (r 39, aI cA 39 16 z0), (r 40, aI cA 40 16 z0), (r 41, aI cA 41 16 z0), (r 42, aI cA 42 16 z0), (r 43, aI cA 43 16 z0), (r 44, aI cA 44 64 z0), (r 45, aI cA 45 64 z0), (r 46, aI cA 46 64 z0), (r 47, aI cA 47 64 z0), (r 49, aI cA 49 3 z0), (r 51, aI cA 51 60 z0), (r 52, aI cA 52 60 z0), (r 53, aI cA 53 60 z0), (r 55, aI cA 55 20 z0), (r 56, aI cA 56 20 z0)]
def zYpost (h0 : Nat) (cA : Nat → ClassId) (w1 : va_W) : Prop := ∃ r : Nat → Nat, r 20 = h0 ∧ w1 = zYl cA r
set_option maxRecDepth 100000 in
set_option maxHeartbeats 8000000 in
theorem c_X5_init : zKC yX5_init cX5_init 1 1 32 815 eY zYpost := by
  refine zKC_of (by decide) rfl (by decide) (fun Γ h0 hY hI hR hM => ?_)
  show zU Γ 0 0 [(h0, eY)] 0 [some (.ref h0)] []
  refine zU_aloadn hY dX5_init_0 rfl ?_
  refine zU_objinit hY rfl hR (by decide) zw_oi_X5 (by decide) dX5_init_1 ?_
  refine zU_aloadn hY dX5_init_4 rfl ?_
  refine zU_bipush hY dX5_init_5 (by decide) ?_
  refine zU_newa hY hR (atype := .boolean) (ty := .boolean) zw_ac_boolean rfl 21 (by decide) rfl (N := 12) (a0 := (12, .inl z0)) (fun _ => rfl) (by decide) (by decide) (by decide) (by omega) (by omega) dX5_init_7 (fun q21 => ?_)
  refine zU_putF hY hI zw_lay5 tyX5 tyX5_ok nmX5 (ci := 5) rfl 0 rfl 1 (by decide) zw_fX5_7 rfl rfl rfl rfl (Nat.le_of_ble_eq_true rfl) dX5_init_9 ?_
  show zU Γ _ _ [(h0, .inr (5, [.int 0, .ref q21, .null, .null, .null, .int 0, .null, .null, .null, .null, .null, .null, .null, .null, .null, .null, .null, .null, .null, .null, .null, .null, .null, .null, .null, .null, .null, .null, .int 0, .null, .int 0, .null, .null, .null, .int 0, .null, .null, .int 0, .long 0, .int 0])), (q21, aI (zcA Γ) 21 12 z0)] 12 [some (.ref h0)] []
  refine zU_aloadn hY dX5_init_12 rfl ?_
  refine zU_bipush hY dX5_init_13 (by decide) ?_
  refine zU_newa hY hR (atype := .int) (ty := .int) zw_ac_int rfl 22 (by decide) rfl (N := 12) (a0 := (12, .inl z0)) (fun _ => rfl) (by decide) (by decide) (by decide) (by omega) (by omega) dX5_init_15 (fun q22 => ?_)
  refine zU_putF hY hI zw_lay5 tyX5 tyX5_ok nmX5 (ci := 5) rfl 0 rfl 2 (by decide) zw_fX5_13 rfl rfl rfl rfl (Nat.le_of_ble_eq_true rfl) dX5_init_17 ?_
  show zU Γ _ _ [(h0, .inr (5, [.int 0, .ref q21, .ref q22, .null, .null, .int 0, .null, .null, .null, .null, .null, .null, .null, .null, .null, .null, .null, .null, .null, .null, .null, .null, .null, .null, .null, .null, .null, .null, .int 0, .null, .int 0, .null, .null, .null, .int 0, .null, .null, .int 0, .long 0, .int 0])), (q21, aI (zcA Γ) 21 12 z0), (q22, aI (zcA Γ) 22 12 z0)] 20 [some (.ref h0)] []
  refine zU_aloadn hY dX5_init_20 rfl ?_
  refine zU_bipush hY dX5_init_21 (by decide) ?_
  refine zU_newa hY hR (atype := .int) (ty := .int) zw_ac_int rfl 23 (by decide) rfl (N := 12) (a0 := (12, .inl z0)) (fun _ => rfl) (by decide) (by decide) (by decide) (by omega) (by omega) dX5_init_23 (fun q23 => ?_)
  refine zU_dup hY dX5_init_25 rfl ?_
  refine zU_iconst hY dX5_init_26 ?_
  refine zU_iconst hY dX5_init_27 ?_
  refine zU_iast hY 23 (by decide) rfl 3 rfl (j := 0) rfl ⟨by decide, by decide⟩ dX5_init_28 ?_
  refine zU_dup hY dX5_init_29 rfl ?_
  refine zU_iconst hY dX5_init_30 ?_
  refine zU_iconst hY dX5_init_31 ?_
  refine zU_iast hY 23 (by decide) rfl 3 rfl (j := 1) rfl ⟨by decide, by decide⟩ dX5_init_32 ?_
  refine zU_dup hY dX5_init_33 rfl ?_
  refine zU_iconst hY dX5_init_34 ?_
  refine zU_iconst hY dX5_init_35 ?_
  refine zU_iast hY 23 (by decide) rfl 3 rfl (j := 2) rfl ⟨by decide, by decide⟩ dX5_init_36 ?_
  refine zU_dup hY dX5_init_37 rfl ?_
  refine zU_iconst hY dX5_init_38 ?_
  refine zU_iconst hY dX5_init_39 ?_
  refine zU_iast hY 23 (by decide) rfl 3 rfl (j := 3) rfl ⟨by decide, by decide⟩ dX5_init_40 ?_
  refine zU_dup hY dX5_init_41 rfl ?_
  refine zU_iconst hY dX5_init_42 ?_
  refine zU_iconst hY dX5_init_43 ?_
  refine zU_iast hY 23 (by decide) rfl 3 rfl (j := 4) rfl ⟨by decide, by decide⟩ dX5_init_44 ?_
  refine zU_dup hY dX5_init_45 rfl ?_
  refine zU_iconst hY dX5_init_46 ?_
  refine zU_iconst hY dX5_init_47 ?_
  refine zU_iast hY 23 (by decide) rfl 3 rfl (j := 5) rfl ⟨by decide, by decide⟩ dX5_init_48 ?_
  refine zU_dup hY dX5_init_49 rfl ?_
  refine zU_bipush hY dX5_init_50 (by decide) ?_
  refine zU_iconst hY dX5_init_52 ?_
  refine zU_iast hY 23 (by decide) rfl 3 rfl (j := 6) rfl ⟨by decide, by decide⟩ dX5_init_53 ?_
  refine zU_dup hY dX5_init_54 rfl ?_
  refine zU_bipush hY dX5_init_55 (by decide) ?_
  refine zU_iconst hY dX5_init_57 ?_
  refine zU_iast hY 23 (by decide) rfl 3 rfl (j := 7) rfl ⟨by decide, by decide⟩ dX5_init_58 ?_
  refine zU_dup hY dX5_init_59 rfl ?_
  refine zU_bipush hY dX5_init_60 (by decide) ?_
  refine zU_iconst hY dX5_init_62 ?_
  refine zU_iast hY 23 (by decide) rfl 3 rfl (j := 8) rfl ⟨by decide, by decide⟩ dX5_init_63 ?_
  refine zU_dup hY dX5_init_64 rfl ?_
  refine zU_bipush hY dX5_init_65 (by decide) ?_
  refine zU_iconst hY dX5_init_67 ?_
  refine zU_iast hY 23 (by decide) rfl 3 rfl (j := 9) rfl ⟨by decide, by decide⟩ dX5_init_68 ?_
  refine zU_dup hY dX5_init_69 rfl ?_
  refine zU_bipush hY dX5_init_70 (by decide) ?_
  refine zU_iconst hY dX5_init_72 ?_
  refine zU_iast hY 23 (by decide) rfl 3 rfl (j := 10) rfl ⟨by decide, by decide⟩ dX5_init_73 ?_
  refine zU_dup hY dX5_init_74 rfl ?_
  refine zU_bipush hY dX5_init_75 (by decide) ?_
  refine zU_iconst hY dX5_init_77 ?_
  refine zU_iast hY 23 (by decide) rfl 3 rfl (j := 11) rfl ⟨by decide, by decide⟩ dX5_init_78 ?_
  refine zU_putF hY hI zw_lay5 tyX5 tyX5_ok nmX5 (ci := 5) rfl 0 rfl 3 (by decide) zw_fX5_17 rfl rfl rfl rfl (Nat.le_of_ble_eq_true rfl) dX5_init_79 ?_
  show zU Γ _ _ [(h0, .inr (5, [.int 0, .ref q21, .ref q22, .ref q23, .null, .int 0, .null, .null, .null, .null, .null, .null, .null, .null, .null, .null, .null, .null, .null, .null, .null, .null, .null, .null, .null, .null, .null, .null, .int 0, .null, .int 0, .null, .null, .null, .int 0, .null, .null, .int 0, .long 0, .int 0])), (q21, aI (zcA Γ) 21 12 z0), (q22, aI (zcA Γ) 22 12 z0), (q23, aI (zcA Γ) 23 12 (zups 12))] 82 [some (.ref h0)] []
  refine zU_aloadn hY dX5_init_82 rfl ?_
  refine zU_bipush hY dX5_init_83 (by decide) ?_
  refine zU_newa hY hR (atype := .int) (ty := .int) zw_ac_int rfl 24 (by decide) rfl (N := 12) (a0 := (12, .inl z0)) (fun _ => rfl) (by decide) (by decide) (by decide) (by omega) (by omega) dX5_init_85 (fun q24 => ?_)
  refine zU_dup hY dX5_init_87 rfl ?_
  refine zU_iconst hY dX5_init_88 ?_
  refine zU_iconst hY dX5_init_89 ?_
  refine zU_iast hY 24 (by decide) rfl 4 rfl (j := 0) rfl ⟨by decide, by decide⟩ dX5_init_90 ?_
  refine zU_dup hY dX5_init_91 rfl ?_
  refine zU_iconst hY dX5_init_92 ?_
  refine zU_iconst hY dX5_init_93 ?_
  refine zU_iast hY 24 (by decide) rfl 4 rfl (j := 1) rfl ⟨by decide, by decide⟩ dX5_init_94 ?_
  refine zU_dup hY dX5_init_95 rfl ?_
  refine zU_iconst hY dX5_init_96 ?_
  refine zU_iconst hY dX5_init_97 ?_
  refine zU_iast hY 24 (by decide) rfl 4 rfl (j := 2) rfl ⟨by decide, by decide⟩ dX5_init_98 ?_
  refine zU_dup hY dX5_init_99 rfl ?_
  refine zU_iconst hY dX5_init_100 ?_
  refine zU_iconst hY dX5_init_101 ?_
  refine zU_iast hY 24 (by decide) rfl 4 rfl (j := 3) rfl ⟨by decide, by decide⟩ dX5_init_102 ?_
  refine zU_dup hY dX5_init_103 rfl ?_
  refine zU_iconst hY dX5_init_104 ?_
  refine zU_iconst hY dX5_init_105 ?_
  refine zU_iast hY 24 (by decide) rfl 4 rfl (j := 4) rfl ⟨by decide, by decide⟩ dX5_init_106 ?_
  refine zU_dup hY dX5_init_107 rfl ?_
  refine zU_iconst hY dX5_init_108 ?_
  refine zU_iconst hY dX5_init_109 ?_
  refine zU_iast hY 24 (by decide) rfl 4 rfl (j := 5) rfl ⟨by decide, by decide⟩ dX5_init_110 ?_
  refine zU_dup hY dX5_init_111 rfl ?_
  refine zU_bipush hY dX5_init_112 (by decide) ?_
  refine zU_iconst hY dX5_init_114 ?_
  refine zU_iast hY 24 (by decide) rfl 4 rfl (j := 6) rfl ⟨by decide, by decide⟩ dX5_init_115 ?_
  refine zU_dup hY dX5_init_116 rfl ?_
  refine zU_bipush hY dX5_init_117 (by decide) ?_
  refine zU_iconst hY dX5_init_119 ?_
  refine zU_iast hY 24 (by decide) rfl 4 rfl (j := 7) rfl ⟨by decide, by decide⟩ dX5_init_120 ?_
  refine zU_dup hY dX5_init_121 rfl ?_
  refine zU_bipush hY dX5_init_122 (by decide) ?_
  refine zU_iconst hY dX5_init_124 ?_
  refine zU_iast hY 24 (by decide) rfl 4 rfl (j := 8) rfl ⟨by decide, by decide⟩ dX5_init_125 ?_
  refine zU_dup hY dX5_init_126 rfl ?_
  refine zU_bipush hY dX5_init_127 (by decide) ?_
  refine zU_iconst hY dX5_init_129 ?_
  refine zU_iast hY 24 (by decide) rfl 4 rfl (j := 9) rfl ⟨by decide, by decide⟩ dX5_init_130 ?_
  refine zU_dup hY dX5_init_131 rfl ?_
  refine zU_bipush hY dX5_init_132 (by decide) ?_
  refine zU_iconst hY dX5_init_134 ?_
  refine zU_iast hY 24 (by decide) rfl 4 rfl (j := 10) rfl ⟨by decide, by decide⟩ dX5_init_135 ?_
  refine zU_dup hY dX5_init_136 rfl ?_
  refine zU_bipush hY dX5_init_137 (by decide) ?_
  refine zU_iconst hY dX5_init_139 ?_
  refine zU_iast hY 24 (by decide) rfl 4 rfl (j := 11) rfl ⟨by decide, by decide⟩ dX5_init_140 ?_
  refine zU_putF hY hI zw_lay5 tyX5 tyX5_ok nmX5 (ci := 5) rfl 0 rfl 4 (by decide) zw_fX5_20 rfl rfl rfl rfl (Nat.le_of_ble_eq_true rfl) dX5_init_141 ?_
  show zU Γ _ _ [(h0, .inr (5, [.int 0, .ref q21, .ref q22, .ref q23, .ref q24, .int 0, .null, .null, .null, .null, .null, .null, .null, .null, .null, .null, .null, .null, .null, .null, .null, .null, .null, .null, .null, .null, .null, .null, .int 0, .null, .int 0, .null, .null, .null, .int 0, .null, .null, .int 0, .long 0, .int 0])), (q21, aI (zcA Γ) 21 12 z0), (q22, aI (zcA Γ) 22 12 z0), (q23, aI (zcA Γ) 23 12 (zups 12)), (q24, aI (zcA Γ) 24 12 (zups 12))] 144 [some (.ref h0)] []
  refine zU_aloadn hY dX5_init_144 rfl ?_
  refine zU_bipush hY dX5_init_145 (by decide) ?_
  refine zU_newa hY hR (atype := .char) (ty := .char) zw_ac_char rfl 26 (by decide) rfl (N := 16) (a0 := (16, .inl z0)) (fun _ => rfl) (by decide) (by decide) (by decide) (by omega) (by omega) dX5_init_147 (fun q26 => ?_)
  refine zU_putF hY hI zw_lay5 tyX5 tyX5_ok nmX5 (ci := 5) rfl 0 rfl 6 (by decide) zw_fX5_23 rfl rfl rfl rfl (Nat.le_of_ble_eq_true rfl) dX5_init_149 ?_
  show zU Γ _ _ [(h0, .inr (5, [.int 0, .ref q21, .ref q22, .ref q23, .ref q24, .int 0, .ref q26, .null, .null, .null, .null, .null, .null, .null, .null, .null, .null, .null, .null, .null, .null, .null, .null, .null, .null, .null, .null, .null, .int 0, .null, .int 0, .null, .null, .null, .int 0, .null, .null, .int 0, .long 0, .int 0])), (q21, aI (zcA Γ) 21 12 z0), (q22, aI (zcA Γ) 22 12 z0), (q23, aI (zcA Γ) 23 12 (zups 12)), (q24, aI (zcA Γ) 24 12 (zups 12)), (q26, aI (zcA Γ) 26 16 z0)] 152 [some (.ref h0)] []
  refine zU_aloadn hY dX5_init_152 rfl ?_
  refine zU_bipush hY dX5_init_153 (by decide) ?_
  refine zU_newa hY hR (atype := .int) (ty := .int) zw_ac_int rfl 27 (by decide) rfl (N := 16) (a0 := (16, .inl z0)) (fun _ => rfl) (by decide) (by decide) (by decide) (by omega) (by omega) dX5_init_155 (fun q27 => ?_)
  refine zU_putF hY hI zw_lay5 tyX5 tyX5_ok nmX5 (ci := 5) rfl 0 rfl 7 (by decide) zw_fX5_27 rfl rfl rfl rfl (Nat.le_of_ble_eq_true rfl) dX5_init_157 ?_
  show zU Γ _ _ [(h0, .inr (5, [.int 0, .ref q21, .ref q22, .ref q23, .ref q24, .int 0, .ref q26, .ref q27, .null, .null, .null, .null, .null, .null, .null, .null, .null, .null, .null, .null, .null, .null, .null, .null, .null, .null, .null, .null, .int 0, .null, .int 0, .null, .null, .null, .int 0, .null, .null, .int 0, .long 0, .int 0])), (q21, aI (zcA Γ) 21 12 z0), (q22, aI (zcA Γ) 22 12 z0), (q23, aI (zcA Γ) 23 12 (zups 12)), (q24, aI (zcA Γ) 24 12 (zups 12)), (q26, aI (zcA Γ) 26 16 z0), (q27, aI (zcA Γ) 27 16 z0)] 160 [some (.ref h0)] []
  refine zU_aloadn hY dX5_init_160 rfl ?_
  refine zU_bipush hY dX5_init_161 (by decide) ?_
  refine zU_newa hY hR (atype := .int) (ty := .int) zw_ac_int rfl 28 (by decide) rfl (N := 16) (a0 := (16, .inl z0)) (fun _ => rfl) (by decide) (by decide) (by decide) (by omega) (by omega) dX5_init_163 (fun q28 => ?_)
  refine zU_putF hY hI zw_lay5 tyX5 tyX5_ok nmX5 (ci := 5) rfl 0 rfl 8 (by decide) zw_fX5_30 rfl rfl rfl rfl (Nat.le_of_ble_eq_true rfl) dX5_init_165 ?_
  show zU Γ _ _ [(h0, .inr (5, [.int 0, .ref q21, .ref q22, .ref q23, .ref q24, .int 0, .ref q26, .ref q27, .ref q28, .null, .null, .null, .null, .null, .null, .null, .null, .null, .null, .null, .null, .null, .null, .null, .null, .null, .null, .null, .int 0, .null, .int 0, .null, .null, .null, .int 0, .null, .null, .int 0, .long 0, .int 0])), (q21, aI (zcA Γ) 21 12 z0), (q22, aI (zcA Γ) 22 12 z0), (q23, aI (zcA Γ) 23 12 (zups 12)), (q24, aI (zcA Γ) 24 12 (zups 12)), (q26, aI (zcA Γ) 26 16 z0), (q27, aI (zcA Γ) 27 16 z0), (q28, aI (zcA Γ) 28 16 z0)] 168 [some (.ref h0)] []
  refine zU_aloadn hY dX5_init_168 rfl ?_
  refine zU_bipush hY dX5_init_169 (by decide) ?_
  refine zU_newa hY hR (atype := .int) (ty := .int) zw_ac_int rfl 29 (by decide) rfl (N := 16) (a0 := (16, .inl z0)) (fun _ => rfl) (by decide) (by decide) (by decide) (by omega) (by omega) dX5_init_171 (fun q29 => ?_)
  refine zU_putF hY hI zw_lay5 tyX5 tyX5_ok nmX5 (ci := 5) rfl 0 rfl 9 (by decide) zw_fX5_33 rfl rfl rfl rfl (Nat.le_of_ble_eq_true rfl) dX5_init_173 ?_
  show zU Γ _ _ [(h0, .inr (5, [.int 0, .ref q21, .ref q22, .ref q23, .ref q24, .int 0, .ref q26, .ref q27, .ref q28, .ref q29, .null, .null, .null, .null, .null, .null, .null, .null, .null, .null, .null, .null, .null, .null, .null, .null, .null, .null, .int 0, .null, .int 0, .null, .null, .null, .int 0, .null, .null, .int 0, .long 0, .int 0])), (q21, aI (zcA Γ) 21 12 z0), (q22, aI (zcA Γ) 22 12 z0), (q23, aI (zcA Γ) 23 12 (zups 12)), (q24, aI (zcA Γ) 24 12 (zups 12)), (q26, aI (zcA Γ) 26 16 z0), (q27, aI (zcA Γ) 27 16 z0), (q28, aI (zcA Γ) 28 16 z0), (q29, aI (zcA Γ) 29 16 z0)] 176 [some (.ref h0)] []
  refine zU_aloadn hY dX5_init_176 rfl ?_
  refine zU_bipush hY dX5_init_177 (by decide) ?_
  refine zU_newa hY hR (atype := .int) (ty := .int) zw_ac_int rfl 30 (by decide) rfl (N := 16) (a0 := (16, .inl z0)) (fun _ => rfl) (by decide) (by decide) (by decide) (by omega) (by omega) dX5_init_179 (fun q30 => ?_)
  refine zU_putF hY hI zw_lay5 tyX5 tyX5_ok nmX5 (ci := 5) rfl 0 rfl 10 (by decide) zw_fX5_36 rfl rfl rfl rfl (Nat.le_of_ble_eq_true rfl) dX5_init_181 ?_
  show zU Γ _ _ [(h0, .inr (5, [.int 0, .ref q21, .ref q22, .ref q23, .ref q24, .int 0, .ref q26, .ref q27, .ref q28, .ref q29, .ref q30, .null, .null, .null, .null, .null, .null, .null, .null, .null, .null, .null, .null, .null, .null, .null, .null, .null, .int 0, .null, .int 0, .null, .null, .null, .int 0, .null, .null, .int 0, .long 0, .int 0])), (q21, aI (zcA Γ) 21 12 z0), (q22, aI (zcA Γ) 22 12 z0), (q23, aI (zcA Γ) 23 12 (zups 12)), (q24, aI (zcA Γ) 24 12 (zups 12)), (q26, aI (zcA Γ) 26 16 z0), (q27, aI (zcA Γ) 27 16 z0), (q28, aI (zcA Γ) 28 16 z0), (q29, aI (zcA Γ) 29 16 z0), (q30, aI (zcA Γ) 30 16 z0)] 184 [some (.ref h0)] []
  refine zU_aloadn hY dX5_init_184 rfl ?_
  refine zU_bipush hY dX5_init_185 (by decide) ?_
  refine zU_newa hY hR (atype := .int) (ty := .int) zw_ac_int rfl 31 (by decide) rfl (N := 16) (a0 := (16, .inl z0)) (fun _ => rfl) (by decide) (by decide) (by decide) (by omega) (by omega) dX5_init_187 (fun q31 => ?_)
  refine zU_putF hY hI zw_lay5 tyX5 tyX5_ok nmX5 (ci := 5) rfl 0 rfl 11 (by decide) zw_fX5_39 rfl rfl rfl rfl (Nat.le_of_ble_eq_true rfl) dX5_init_189 ?_
  show zU Γ _ _ [(h0, .inr (5, [.int 0, .ref q21, .ref q22, .ref q23, .ref q24, .int 0, .ref q26, .ref q27, .ref q28, .ref q29, .ref q30, .ref q31, .null, .null, .null, .null, .null, .null, .null, .null, .null, .null, .null, .null, .null, .null, .null, .null, .int 0, .null, .int 0, .null, .null, .null, .int 0, .null, .null, .int 0, .long 0, .int 0])), (q21, aI (zcA Γ) 21 12 z0), (q22, aI (zcA Γ) 22 12 z0), (q23, aI (zcA Γ) 23 12 (zups 12)), (q24, aI (zcA Γ) 24 12 (zups 12)), (q26, aI (zcA Γ) 26 16 z0), (q27, aI (zcA Γ) 27 16 z0), (q28, aI (zcA Γ) 28 16 z0), (q29, aI (zcA Γ) 29 16 z0), (q30, aI (zcA Γ) 30 16 z0), (q31, aI (zcA Γ) 31 16 z0)] 192 [some (.ref h0)] []
  refine zU_aloadn hY dX5_init_192 rfl ?_
  refine zU_bipush hY dX5_init_193 (by decide) ?_
  refine zU_newa hY hR (atype := .int) (ty := .int) zw_ac_int rfl 32 (by decide) rfl (N := 16) (a0 := (16, .inl z0)) (fun _ => rfl) (by decide) (by decide) (by decide) (by omega) (by omega) dX5_init_195 (fun q32 => ?_)
  refine zU_putF hY hI zw_lay5 tyX5 tyX5_ok nmX5 (ci := 5) rfl 0 rfl 12 (by decide) zw_fX5_42 rfl rfl rfl rfl (Nat.le_of_ble_eq_true rfl) dX5_init_197 ?_
  show zU Γ _ _ [(h0, .inr (5, [.int 0, .ref q21, .ref q22, .ref q23, .ref q24, .int 0, .ref q26, .ref q27, .ref q28, .ref q29, .ref q30, .ref q31, .ref q32, .null, .null, .null, .null, .null, .null, .null, .null, .null, .null, .null, .null, .null, .null, .null, .int 0, .null, .int 0, .null, .null, .null, .int 0, .null, .null, .int 0, .long 0, .int 0])), (q21, aI (zcA Γ) 21 12 z0), (q22, aI (zcA Γ) 22 12 z0), (q23, aI (zcA Γ) 23 12 (zups 12)), (q24, aI (zcA Γ) 24 12 (zups 12)), (q26, aI (zcA Γ) 26 16 z0), (q27, aI (zcA Γ) 27 16 z0), (q28, aI (zcA Γ) 28 16 z0), (q29, aI (zcA Γ) 29 16 z0), (q30, aI (zcA Γ) 30 16 z0), (q31, aI (zcA Γ) 31 16 z0), (q32, aI (zcA Γ) 32 16 z0)] 200 [some (.ref h0)] []
  refine zU_aloadn hY dX5_init_200 rfl ?_
  refine zU_bipush hY dX5_init_201 (by decide) ?_
  refine zU_newa hY hR (atype := .int) (ty := .int) zw_ac_int rfl 33 (by decide) rfl (N := 16) (a0 := (16, .inl z0)) (fun _ => rfl) (by decide) (by decide) (by decide) (by omega) (by omega) dX5_init_203 (fun q33 => ?_)
  refine zU_putF hY hI zw_lay5 tyX5 tyX5_ok nmX5 (ci := 5) rfl 0 rfl 13 (by decide) zw_fX5_45 rfl rfl rfl rfl (Nat.le_of_ble_eq_true rfl) dX5_init_205 ?_
  show zU Γ _ _ [(h0, .inr (5, [.int 0, .ref q21, .ref q22, .ref q23, .ref q24, .int 0, .ref q26, .ref q27, .ref q28, .ref q29, .ref q30, .ref q31, .ref q32, .ref q33, .null, .null, .null, .null, .null, .null, .null, .null, .null, .null, .null, .null, .null, .null, .int 0, .null, .int 0, .null, .null, .null, .int 0, .null, .null, .int 0, .long 0, .int 0])), (q21, aI (zcA Γ) 21 12 z0), (q22, aI (zcA Γ) 22 12 z0), (q23, aI (zcA Γ) 23 12 (zups 12)), (q24, aI (zcA Γ) 24 12 (zups 12)), (q26, aI (zcA Γ) 26 16 z0), (q27, aI (zcA Γ) 27 16 z0), (q28, aI (zcA Γ) 28 16 z0), (q29, aI (zcA Γ) 29 16 z0), (q30, aI (zcA Γ) 30 16 z0), (q31, aI (zcA Γ) 31 16 z0), (q32, aI (zcA Γ) 32 16 z0), (q33, aI (zcA Γ) 33 16 z0)] 208 [some (.ref h0)] []
  refine zU_aloadn hY dX5_init_208 rfl ?_
  refine zU_bipush hY dX5_init_209 (by decide) ?_
  refine zU_newa hY hR (atype := .char) (ty := .char) zw_ac_char rfl 34 (by decide) rfl (N := 16) (a0 := (16, .inl z0)) (fun _ => rfl) (by decide) (by decide) (by decide) (by omega) (by omega) dX5_init_211 (fun q34 => ?_)
  refine zU_dup hY dX5_init_213 rfl ?_
  refine zU_iconst hY dX5_init_214 ?_
  refine zU_bipush hY dX5_init_215 (by decide) ?_
  refine zU_cast hY 34 (by decide) rfl 13 rfl (j := 0) rfl ⟨by decide, by decide⟩ dX5_init_217 ?_
  refine zU_dup hY dX5_init_218 rfl ?_
  refine zU_iconst hY dX5_init_219 ?_
  refine zU_bipush hY dX5_init_220 (by decide) ?_
  refine zU_cast hY 34 (by decide) rfl 13 rfl (j := 1) rfl ⟨by decide, by decide⟩ dX5_init_222 ?_
  refine zU_dup hY dX5_init_223 rfl ?_
  refine zU_iconst hY dX5_init_224 ?_
  refine zU_bipush hY dX5_init_225 (by decide) ?_
  refine zU_cast hY 34 (by decide) rfl 13 rfl (j := 2) rfl ⟨by decide, by decide⟩ dX5_init_227 ?_
  refine zU_dup hY dX5_init_228 rfl ?_
  refine zU_iconst hY dX5_init_229 ?_
  refine zU_bipush hY dX5_init_230 (by decide) ?_
  refine zU_cast hY 34 (by decide) rfl 13 rfl (j := 3) rfl ⟨by decide, by decide⟩ dX5_init_232 ?_
  refine zU_dup hY dX5_init_233 rfl ?_
  refine zU_iconst hY dX5_init_234 ?_
  refine zU_bipush hY dX5_init_235 (by decide) ?_
  refine zU_cast hY 34 (by decide) rfl 13 rfl (j := 4) rfl ⟨by decide, by decide⟩ dX5_init_237 ?_
  refine zU_dup hY dX5_init_238 rfl ?_
  refine zU_iconst hY dX5_init_239 ?_
  refine zU_bipush hY dX5_init_240 (by decide) ?_
  refine zU_cast hY 34 (by decide) rfl 13 rfl (j := 5) rfl ⟨by decide, by decide⟩ dX5_init_242 ?_
  refine zU_dup hY dX5_init_243 rfl ?_
  refine zU_bipush hY dX5_init_244 (by decide) ?_
  refine zU_bipush hY dX5_init_246 (by decide) ?_
  refine zU_cast hY 34 (by decide) rfl 13 rfl (j := 6) rfl ⟨by decide, by decide⟩ dX5_init_248 ?_
  refine zU_dup hY dX5_init_249 rfl ?_
  refine zU_bipush hY dX5_init_250 (by decide) ?_
  refine zU_bipush hY dX5_init_252 (by decide) ?_
  refine zU_cast hY 34 (by decide) rfl 13 rfl (j := 7) rfl ⟨by decide, by decide⟩ dX5_init_254 ?_
  refine zU_dup hY dX5_init_255 rfl ?_
  refine zU_bipush hY dX5_init_256 (by decide) ?_
  refine zU_bipush hY dX5_init_258 (by decide) ?_
  refine zU_cast hY 34 (by decide) rfl 13 rfl (j := 8) rfl ⟨by decide, by decide⟩ dX5_init_260 ?_
  refine zU_dup hY dX5_init_261 rfl ?_
  refine zU_bipush hY dX5_init_262 (by decide) ?_
  refine zU_bipush hY dX5_init_264 (by decide) ?_
  refine zU_cast hY 34 (by decide) rfl 13 rfl (j := 9) rfl ⟨by decide, by decide⟩ dX5_init_266 ?_
  refine zU_dup hY dX5_init_267 rfl ?_
  refine zU_bipush hY dX5_init_268 (by decide) ?_
  refine zU_bipush hY dX5_init_270 (by decide) ?_
  refine zU_cast hY 34 (by decide) rfl 13 rfl (j := 10) rfl ⟨by decide, by decide⟩ dX5_init_272 ?_
  refine zU_dup hY dX5_init_273 rfl ?_
  refine zU_bipush hY dX5_init_274 (by decide) ?_
  refine zU_bipush hY dX5_init_276 (by decide) ?_
  refine zU_cast hY 34 (by decide) rfl 13 rfl (j := 11) rfl ⟨by decide, by decide⟩ dX5_init_278 ?_
  refine zU_dup hY dX5_init_279 rfl ?_
  refine zU_bipush hY dX5_init_280 (by decide) ?_
  refine zU_bipush hY dX5_init_282 (by decide) ?_
  refine zU_cast hY 34 (by decide) rfl 13 rfl (j := 12) rfl ⟨by decide, by decide⟩ dX5_init_284 ?_
  refine zU_dup hY dX5_init_285 rfl ?_
  refine zU_bipush hY dX5_init_286 (by decide) ?_
  refine zU_bipush hY dX5_init_288 (by decide) ?_
  refine zU_cast hY 34 (by decide) rfl 13 rfl (j := 13) rfl ⟨by decide, by decide⟩ dX5_init_290 ?_
  refine zU_dup hY dX5_init_291 rfl ?_
  refine zU_bipush hY dX5_init_292 (by decide) ?_
  refine zU_bipush hY dX5_init_294 (by decide) ?_
  refine zU_cast hY 34 (by decide) rfl 13 rfl (j := 14) rfl ⟨by decide, by decide⟩ dX5_init_296 ?_
  refine zU_dup hY dX5_init_297 rfl ?_
  refine zU_bipush hY dX5_init_298 (by decide) ?_
  refine zU_bipush hY dX5_init_300 (by decide) ?_
  refine zU_cast hY 34 (by decide) rfl 13 rfl (j := 15) rfl ⟨by decide, by decide⟩ dX5_init_302 ?_
  refine zU_putF hY hI zw_lay5 tyX5 tyX5_ok nmX5 (ci := 5) rfl 0 rfl 14 (by decide) zw_fX5_48 rfl rfl rfl rfl (Nat.le_of_ble_eq_true rfl) dX5_init_303 ?_
  show zU Γ _ _ [(h0, .inr (5, [.int 0, .ref q21, .ref q22, .ref q23, .ref q24, .int 0, .ref q26, .ref q27, .ref q28, .ref q29, .ref q30, .ref q31, .ref q32, .ref q33, .ref q34, .null, .null, .null, .null, .null, .null, .null, .null, .null, .null, .null, .null, .null, .int 0, .null, .int 0, .null, .null, .null, .int 0, .null, .null, .int 0, .long 0, .int 0])), (q21, aI (zcA Γ) 21 12 z0), (q22, aI (zcA Γ) 22 12 z0), (q23, aI (zcA Γ) 23 12 (zups 12)), (q24, aI (zcA Γ) 24 12 (zups 12)), (q26, aI (zcA Γ) 26 16 z0), (q27, aI (zcA Γ) 27 16 z0), (q28, aI (zcA Γ) 28 16 z0), (q29, aI (zcA Γ) 29 16 z0), (q30, aI (zcA Γ) 30 16 z0), (q31, aI (zcA Γ) 31 16 z0), (q32, aI (zcA Γ) 32 16 z0), (q33, aI (zcA Γ) 33 16 z0), (q34, aI (zcA Γ) 34 16 (zuph 16))] 306 [some (.ref h0)] []
  refine zU_aloadn hY dX5_init_306 rfl ?_
  refine zU_bipush hY dX5_init_307 (by decide) ?_
  refine zU_newa hY hR (atype := .int) (ty := .int) zw_ac_int rfl 35 (by decide) rfl (N := 16) (a0 := (16, .inl z0)) (fun _ => rfl) (by decide) (by decide) (by decide) (by omega) (by omega) dX5_init_309 (fun q35 => ?_)
  refine zU_putF hY hI zw_lay5 tyX5 tyX5_ok nmX5 (ci := 5) rfl 0 rfl 15 (by decide) zw_fX5_51 rfl rfl rfl rfl (Nat.le_of_ble_eq_true rfl) dX5_init_311 ?_
  show zU Γ _ _ [(h0, .inr (5, [.int 0, .ref q21, .ref q22, .ref q23, .ref q24, .int 0, .ref q26, .ref q27, .ref q28, .ref q29, .ref q30, .ref q31, .ref q32, .ref q33, .ref q34, .ref q35, .null, .null, .null, .null, .null, .null, .null, .null, .null, .null, .null, .null, .int 0, .null, .int 0, .null, .null, .null, .int 0, .null, .null, .int 0, .long 0, .int 0])), (q21, aI (zcA Γ) 21 12 z0), (q22, aI (zcA Γ) 22 12 z0), (q23, aI (zcA Γ) 23 12 (zups 12)), (q24, aI (zcA Γ) 24 12 (zups 12)), (q26, aI (zcA Γ) 26 16 z0), (q27, aI (zcA Γ) 27 16 z0), (q28, aI (zcA Γ) 28 16 z0), (q29, aI (zcA Γ) 29 16 z0), (q30, aI (zcA Γ) 30 16 z0), (q31, aI (zcA Γ) 31 16 z0), (q32, aI (zcA Γ) 32 16 z0), (q33, aI (zcA Γ) 33 16 z0), (q34, aI (zcA Γ) 34 16 (zuph 16)), (q35, aI (zcA Γ) 35 16 z0)] 314 [some (.ref h0)] []
  refine zU_aloadn hY dX5_init_314 rfl ?_
  refine zU_bipush hY dX5_init_315 (by decide) ?_
  refine zU_newa hY hR (atype := .int) (ty := .int) zw_ac_int rfl 36 (by decide) rfl (N := 16) (a0 := (16, .inl z0)) (fun _ => rfl) (by decide) (by decide) (by decide) (by omega) (by omega) dX5_init_317 (fun q36 => ?_)
  refine zU_putF hY hI zw_lay5 tyX5 tyX5_ok nmX5 (ci := 5) rfl 0 rfl 16 (by decide) zw_fX5_54 rfl rfl rfl rfl (Nat.le_of_ble_eq_true rfl) dX5_init_319 ?_
  show zU Γ _ _ [(h0, .inr (5, [.int 0, .ref q21, .ref q22, .ref q23, .ref q24, .int 0, .ref q26, .ref q27, .ref q28, .ref q29, .ref q30, .ref q31, .ref q32, .ref q33, .ref q34, .ref q35, .ref q36, .null, .null, .null, .null, .null, .null, .null, .null, .null, .null, .null, .int 0, .null, .int 0, .null, .null, .null, .int 0, .null, .null, .int 0, .long 0, .int 0])), (q21, aI (zcA Γ) 21 12 z0), (q22, aI (zcA Γ) 22 12 z0), (q23, aI (zcA Γ) 23 12 (zups 12)), (q24, aI (zcA Γ) 24 12 (zups 12)), (q26, aI (zcA Γ) 26 16 z0), (q27, aI (zcA Γ) 27 16 z0), (q28, aI (zcA Γ) 28 16 z0), (q29, aI (zcA Γ) 29 16 z0), (q30, aI (zcA Γ) 30 16 z0), (q31, aI (zcA Γ) 31 16 z0), (q32, aI (zcA Γ) 32 16 z0), (q33, aI (zcA Γ) 33 16 z0), (q34, aI (zcA Γ) 34 16 (zuph 16)), (q35, aI (zcA Γ) 35 16 z0), (q36, aI (zcA Γ) 36 16 z0)] 322 [some (.ref h0)] []
  refine zU_aloadn hY dX5_init_322 rfl ?_
  refine zU_bipush hY dX5_init_323 (by decide) ?_
  refine zU_newa hY hR (atype := .int) (ty := .int) zw_ac_int rfl 37 (by decide) rfl (N := 16) (a0 := (16, .inl z0)) (fun _ => rfl) (by decide) (by decide) (by decide) (by omega) (by omega) dX5_init_325 (fun q37 => ?_)
  refine zU_putF hY hI zw_lay5 tyX5 tyX5_ok nmX5 (ci := 5) rfl 0 rfl 17 (by decide) zw_fX5_57 rfl rfl rfl rfl (Nat.le_of_ble_eq_true rfl) dX5_init_327 ?_
  show zU Γ _ _ [(h0, .inr (5, [.int 0, .ref q21, .ref q22, .ref q23, .ref q24, .int 0, .ref q26, .ref q27, .ref q28, .ref q29, .ref q30, .ref q31, .ref q32, .ref q33, .ref q34, .ref q35, .ref q36, .ref q37, .null, .null, .null, .null, .null, .null, .null, .null, .null, .null, .int 0, .null, .int 0, .null, .null, .null, .int 0, .null, .null, .int 0, .long 0, .int 0])), (q21, aI (zcA Γ) 21 12 z0), (q22, aI (zcA Γ) 22 12 z0), (q23, aI (zcA Γ) 23 12 (zups 12)), (q24, aI (zcA Γ) 24 12 (zups 12)), (q26, aI (zcA Γ) 26 16 z0), (q27, aI (zcA Γ) 27 16 z0), (q28, aI (zcA Γ) 28 16 z0), (q29, aI (zcA Γ) 29 16 z0), (q30, aI (zcA Γ) 30 16 z0), (q31, aI (zcA Γ) 31 16 z0), (q32, aI (zcA Γ) 32 16 z0), (q33, aI (zcA Γ) 33 16 z0), (q34, aI (zcA Γ) 34 16 (zuph 16)), (q35, aI (zcA Γ) 35 16 z0), (q36, aI (zcA Γ) 36 16 z0), (q37, aI (zcA Γ) 37 16 z0)] 330 [some (.ref h0)] []
  refine zU_aloadn hY dX5_init_330 rfl ?_
  refine zU_bipush hY dX5_init_331 (by decide) ?_
  refine zU_newa hY hR (atype := .int) (ty := .int) zw_ac_int rfl 38 (by decide) rfl (N := 16) (a0 := (16, .inl z0)) (fun _ => rfl) (by decide) (by decide) (by decide) (by omega) (by omega) dX5_init_333 (fun q38 => ?_)
  refine zU_putF hY hI zw_lay5 tyX5 tyX5_ok nmX5 (ci := 5) rfl 0 rfl 18 (by decide) zw_fX5_60 rfl rfl rfl rfl (Nat.le_of_ble_eq_true rfl) dX5_init_335 ?_
  show zU Γ _ _ [(h0, .inr (5, [.int 0, .ref q21, .ref q22, .ref q23, .ref q24, .int 0, .ref q26, .ref q27, .ref q28, .ref q29, .ref q30, .ref q31, .ref q32, .ref q33, .ref q34, .ref q35, .ref q36, .ref q37, .ref q38, .null, .null, .null, .null, .null, .null, .null, .null, .null, .int 0, .null, .int 0, .null, .null, .null, .int 0, .null, .null, .int 0, .long 0, .int 0])), (q21, aI (zcA Γ) 21 12 z0), (q22, aI (zcA Γ) 22 12 z0), (q23, aI (zcA Γ) 23 12 (zups 12)), (q24, aI (zcA Γ) 24 12 (zups 12)), (q26, aI (zcA Γ) 26 16 z0), (q27, aI (zcA Γ) 27 16 z0), (q28, aI (zcA Γ) 28 16 z0), (q29, aI (zcA Γ) 29 16 z0), (q30, aI (zcA Γ) 30 16 z0), (q31, aI (zcA Γ) 31 16 z0), (q32, aI (zcA Γ) 32 16 z0), (q33, aI (zcA Γ) 33 16 z0), (q34, aI (zcA Γ) 34 16 (zuph 16)), (q35, aI (zcA Γ) 35 16 z0), (q36, aI (zcA Γ) 36 16 z0), (q37, aI (zcA Γ) 37 16 z0), (q38, aI (zcA Γ) 38 16 z0)] 338 [some (.ref h0)] []
  refine zU_aloadn hY dX5_init_338 rfl ?_
  refine zU_bipush hY dX5_init_339 (by decide) ?_
  refine zU_newa hY hR (atype := .int) (ty := .int) zw_ac_int rfl 39 (by decide) rfl (N := 16) (a0 := (16, .inl z0)) (fun _ => rfl) (by decide) (by decide) (by decide) (by omega) (by omega) dX5_init_341 (fun q39 => ?_)
  refine zU_putF hY hI zw_lay5 tyX5 tyX5_ok nmX5 (ci := 5) rfl 0 rfl 19 (by decide) zw_fX5_63 rfl rfl rfl rfl (Nat.le_of_ble_eq_true rfl) dX5_init_343 ?_
  show zU Γ _ _ [(h0, .inr (5, [.int 0, .ref q21, .ref q22, .ref q23, .ref q24, .int 0, .ref q26, .ref q27, .ref q28, .ref q29, .ref q30, .ref q31, .ref q32, .ref q33, .ref q34, .ref q35, .ref q36, .ref q37, .ref q38, .ref q39, .null, .null, .null, .null, .null, .null, .null, .null, .int 0, .null, .int 0, .null, .null, .null, .int 0, .null, .null, .int 0, .long 0, .int 0])), (q21, aI (zcA Γ) 21 12 z0), (q22, aI (zcA Γ) 22 12 z0), (q23, aI (zcA Γ) 23 12 (zups 12)), (q24, aI (zcA Γ) 24 12 (zups 12)), (q26, aI (zcA Γ) 26 16 z0), (q27, aI (zcA Γ) 27 16 z0), (q28, aI (zcA Γ) 28 16 z0), (q29, aI (zcA Γ) 29 16 z0), (q30, aI (zcA Γ) 30 16 z0), (q31, aI (zcA Γ) 31 16 z0), (q32, aI (zcA Γ) 32 16 z0), (q33, aI (zcA Γ) 33 16 z0), (q34, aI (zcA Γ) 34 16 (zuph 16)), (q35, aI (zcA Γ) 35 16 z0), (q36, aI (zcA Γ) 36 16 z0), (q37, aI (zcA Γ) 37 16 z0), (q38, aI (zcA Γ) 38 16 z0), (q39, aI (zcA Γ) 39 16 z0)] 346 [some (.ref h0)] []
  refine zU_aloadn hY dX5_init_346 rfl ?_
  refine zU_bipush hY dX5_init_347 (by decide) ?_
  refine zU_newa hY hR (atype := .int) (ty := .int) zw_ac_int rfl 40 (by decide) rfl (N := 16) (a0 := (16, .inl z0)) (fun _ => rfl) (by decide) (by decide) (by decide) (by omega) (by omega) dX5_init_349 (fun q40 => ?_)
  refine zU_putF hY hI zw_lay5 tyX5 tyX5_ok nmX5 (ci := 5) rfl 0 rfl 20 (by decide) zw_fX5_66 rfl rfl rfl rfl (Nat.le_of_ble_eq_true rfl) dX5_init_351 ?_
  show zU Γ _ _ [(h0, .inr (5, [.int 0, .ref q21, .ref q22, .ref q23, .ref q24, .int 0, .ref q26, .ref q27, .ref q28, .ref q29, .ref q30, .ref q31, .ref q32, .ref q33, .ref q34, .ref q35, .ref q36, .ref q37, .ref q38, .ref q39, .ref q40, .null, .null, .null, .null, .null, .null, .null, .int 0, .null, .int 0, .null, .null, .null, .int 0, .null, .null, .int 0, .long 0, .int 0])), (q21, aI (zcA Γ) 21 12 z0), (q22, aI (zcA Γ) 22 12 z0), (q23, aI (zcA Γ) 23 12 (zups 12)), (q24, aI (zcA Γ) 24 12 (zups 12)), (q26, aI (zcA Γ) 26 16 z0), (q27, aI (zcA Γ) 27 16 z0), (q28, aI (zcA Γ) 28 16 z0), (q29, aI (zcA Γ) 29 16 z0), (q30, aI (zcA Γ) 30 16 z0), (q31, aI (zcA Γ) 31 16 z0), (q32, aI (zcA Γ) 32 16 z0), (q33, aI (zcA Γ) 33 16 z0), (q34, aI (zcA Γ) 34 16 (zuph 16)), (q35, aI (zcA Γ) 35 16 z0), (q36, aI (zcA Γ) 36 16 z0), (q37, aI (zcA Γ) 37 16 z0), (q38, aI (zcA Γ) 38 16 z0), (q39, aI (zcA Γ) 39 16 z0), (q40, aI (zcA Γ) 40 16 z0)] 354 [some (.ref h0)] []
  refine zU_aloadn hY dX5_init_354 rfl ?_
  refine zU_bipush hY dX5_init_355 (by decide) ?_
  refine zU_newa hY hR (atype := .char) (ty := .char) zw_ac_char rfl 41 (by decide) rfl (N := 16) (a0 := (16, .inl z0)) (fun _ => rfl) (by decide) (by decide) (by decide) (by omega) (by omega) dX5_init_357 (fun q41 => ?_)
  refine zU_putF hY hI zw_lay5 tyX5 tyX5_ok nmX5 (ci := 5) rfl 0 rfl 21 (by decide) zw_fX5_69 rfl rfl rfl rfl (Nat.le_of_ble_eq_true rfl) dX5_init_359 ?_
  show zU Γ _ _ [(h0, .inr (5, [.int 0, .ref q21, .ref q22, .ref q23, .ref q24, .int 0, .ref q26, .ref q27, .ref q28, .ref q29, .ref q30, .ref q31, .ref q32, .ref q33, .ref q34, .ref q35, .ref q36, .ref q37, .ref q38, .ref q39, .ref q40, .ref q41, .null, .null, .null, .null, .null, .null, .int 0, .null, .int 0, .null, .null, .null, .int 0, .null, .null, .int 0, .long 0, .int 0])), (q21, aI (zcA Γ) 21 12 z0), (q22, aI (zcA Γ) 22 12 z0), (q23, aI (zcA Γ) 23 12 (zups 12)), (q24, aI (zcA Γ) 24 12 (zups 12)), (q26, aI (zcA Γ) 26 16 z0), (q27, aI (zcA Γ) 27 16 z0), (q28, aI (zcA Γ) 28 16 z0), (q29, aI (zcA Γ) 29 16 z0), (q30, aI (zcA Γ) 30 16 z0), (q31, aI (zcA Γ) 31 16 z0), (q32, aI (zcA Γ) 32 16 z0), (q33, aI (zcA Γ) 33 16 z0), (q34, aI (zcA Γ) 34 16 (zuph 16)), (q35, aI (zcA Γ) 35 16 z0), (q36, aI (zcA Γ) 36 16 z0), (q37, aI (zcA Γ) 37 16 z0), (q38, aI (zcA Γ) 38 16 z0), (q39, aI (zcA Γ) 39 16 z0), (q40, aI (zcA Γ) 40 16 z0), (q41, aI (zcA Γ) 41 16 z0)] 362 [some (.ref h0)] []
  refine zU_aloadn hY dX5_init_362 rfl ?_
  refine zU_bipush hY dX5_init_363 (by decide) ?_
  refine zU_newa hY hR (atype := .char) (ty := .char) zw_ac_char rfl 42 (by decide) rfl (N := 16) (a0 := (16, .inl z0)) (fun _ => rfl) (by decide) (by decide) (by decide) (by omega) (by omega) dX5_init_365 (fun q42 => ?_)
  refine zU_putF hY hI zw_lay5 tyX5 tyX5_ok nmX5 (ci := 5) rfl 0 rfl 22 (by decide) zw_fX5_72 rfl rfl rfl rfl (Nat.le_of_ble_eq_true rfl) dX5_init_367 ?_
  show zU Γ _ _ [(h0, .inr (5, [.int 0, .ref q21, .ref q22, .ref q23, .ref q24, .int 0, .ref q26, .ref q27, .ref q28, .ref q29, .ref q30, .ref q31, .ref q32, .ref q33, .ref q34, .ref q35, .ref q36, .ref q37, .ref q38, .ref q39, .ref q40, .ref q41, .ref q42, .null, .null, .null, .null, .null, .int 0, .null, .int 0, .null, .null, .null, .int 0, .null, .null, .int 0, .long 0, .int 0])), (q21, aI (zcA Γ) 21 12 z0), (q22, aI (zcA Γ) 22 12 z0), (q23, aI (zcA Γ) 23 12 (zups 12)), (q24, aI (zcA Γ) 24 12 (zups 12)), (q26, aI (zcA Γ) 26 16 z0), (q27, aI (zcA Γ) 27 16 z0), (q28, aI (zcA Γ) 28 16 z0), (q29, aI (zcA Γ) 29 16 z0), (q30, aI (zcA Γ) 30 16 z0), (q31, aI (zcA Γ) 31 16 z0), (q32, aI (zcA Γ) 32 16 z0), (q33, aI (zcA Γ) 33 16 z0), (q34, aI (zcA Γ) 34 16 (zuph 16)), (q35, aI (zcA Γ) 35 16 z0), (q36, aI (zcA Γ) 36 16 z0), (q37, aI (zcA Γ) 37 16 z0), (q38, aI (zcA Γ) 38 16 z0), (q39, aI (zcA Γ) 39 16 z0), (q40, aI (zcA Γ) 40 16 z0), (q41, aI (zcA Γ) 41 16 z0), (q42, aI (zcA Γ) 42 16 z0)] 370 [some (.ref h0)] []
  refine zU_aloadn hY dX5_init_370 rfl ?_
  refine zU_bipush hY dX5_init_371 (by decide) ?_
  refine zU_newa hY hR (atype := .int) (ty := .int) zw_ac_int rfl 43 (by decide) rfl (N := 16) (a0 := (16, .inl z0)) (fun _ => rfl) (by decide) (by decide) (by decide) (by omega) (by omega) dX5_init_373 (fun q43 => ?_)
  refine zU_putF hY hI zw_lay5 tyX5 tyX5_ok nmX5 (ci := 5) rfl 0 rfl 23 (by decide) zw_fX5_75 rfl rfl rfl rfl (Nat.le_of_ble_eq_true rfl) dX5_init_375 ?_
  show zU Γ _ _ [(h0, .inr (5, [.int 0, .ref q21, .ref q22, .ref q23, .ref q24, .int 0, .ref q26, .ref q27, .ref q28, .ref q29, .ref q30, .ref q31, .ref q32, .ref q33, .ref q34, .ref q35, .ref q36, .ref q37, .ref q38, .ref q39, .ref q40, .ref q41, .ref q42, .ref q43, .null, .null, .null, .null, .int 0, .null, .int 0, .null, .null, .null, .int 0, .null, .null, .int 0, .long 0, .int 0])), (q21, aI (zcA Γ) 21 12 z0), (q22, aI (zcA Γ) 22 12 z0), (q23, aI (zcA Γ) 23 12 (zups 12)), (q24, aI (zcA Γ) 24 12 (zups 12)), (q26, aI (zcA Γ) 26 16 z0), (q27, aI (zcA Γ) 27 16 z0), (q28, aI (zcA Γ) 28 16 z0), (q29, aI (zcA Γ) 29 16 z0), (q30, aI (zcA Γ) 30 16 z0), (q31, aI (zcA Γ) 31 16 z0), (q32, aI (zcA Γ) 32 16 z0), (q33, aI (zcA Γ) 33 16 z0), (q34, aI (zcA Γ) 34 16 (zuph 16)), (q35, aI (zcA Γ) 35 16 z0), (q36, aI (zcA Γ) 36 16 z0), (q37, aI (zcA Γ) 37 16 z0), (q38, aI (zcA Γ) 38 16 z0), (q39, aI (zcA Γ) 39 16 z0), (q40, aI (zcA Γ) 40 16 z0), (q41, aI (zcA Γ) 41 16 z0), (q42, aI (zcA Γ) 42 16 z0), (q43, aI (zcA Γ) 43 16 z0)] 378 [some (.ref h0)] []
  refine zU_aloadn hY dX5_init_378 rfl ?_
  refine zU_bipush hY dX5_init_379 (by decide) ?_
  refine zU_newa hY hR (atype := .int) (ty := .int) zw_ac_int rfl 44 (by decide) rfl (N := 64) (a0 := (64, .inl z0)) (fun _ => rfl) (by decide) (by decide) (by decide) (by omega) (by omega) dX5_init_381 (fun q44 => ?_)
  refine zU_putF hY hI zw_lay5 tyX5 tyX5_ok nmX5 (ci := 5) rfl 0 rfl 24 (by decide) zw_fX5_78 rfl rfl rfl rfl (Nat.le_of_ble_eq_true rfl) dX5_init_383 ?_
  show zU Γ _ _ [(h0, .inr (5, [.int 0, .ref q21, .ref q22, .ref q23, .ref q24, .int 0, .ref q26, .ref q27, .ref q28, .ref q29, .ref q30, .ref q31, .ref q32, .ref q33, .ref q34, .ref q35, .ref q36, .ref q37, .ref q38, .ref q39, .ref q40, .ref q41, .ref q42, .ref q43, .ref q44, .null, .null, .null, .int 0, .null, .int 0, .null, .null, .null, .int 0, .null, .null, .int 0, .long 0, .int 0])), (q21, aI (zcA Γ) 21 12 z0), (q22, aI (zcA Γ) 22 12 z0), (q23, aI (zcA Γ) 23 12 (zups 12)), (q24, aI (zcA Γ) 24 12 (zups 12)), (q26, aI (zcA Γ) 26 16 z0), (q27, aI (zcA Γ) 27 16 z0), (q28, aI (zcA Γ) 28 16 z0), (q29, aI (zcA Γ) 29 16 z0), (q30, aI (zcA Γ) 30 16 z0), (q31, aI (zcA Γ) 31 16 z0), (q32, aI (zcA Γ) 32 16 z0), (q33, aI (zcA Γ) 33 16 z0), (q34, aI (zcA Γ) 34 16 (zuph 16)), (q35, aI (zcA Γ) 35 16 z0), (q36, aI (zcA Γ) 36 16 z0), (q37, aI (zcA Γ) 37 16 z0), (q38, aI (zcA Γ) 38 16 z0), (q39, aI (zcA Γ) 39 16 z0), (q40, aI (zcA Γ) 40 16 z0), (q41, aI (zcA Γ) 41 16 z0), (q42, aI (zcA Γ) 42 16 z0), (q43, aI (zcA Γ) 43 16 z0), (q44, aI (zcA Γ) 44 64 z0)] 386 [some (.ref h0)] []
  refine zU_aloadn hY dX5_init_386 rfl ?_
  refine zU_bipush hY dX5_init_387 (by decide) ?_
  refine zU_newa hY hR (atype := .int) (ty := .int) zw_ac_int rfl 45 (by decide) rfl (N := 64) (a0 := (64, .inl z0)) (fun _ => rfl) (by decide) (by decide) (by decide) (by omega) (by omega) dX5_init_389 (fun q45 => ?_)
  refine zU_putF hY hI zw_lay5 tyX5 tyX5_ok nmX5 (ci := 5) rfl 0 rfl 25 (by decide) zw_fX5_81 rfl rfl rfl rfl (Nat.le_of_ble_eq_true rfl) dX5_init_391 ?_
  show zU Γ _ _ [(h0, .inr (5, [.int 0, .ref q21, .ref q22, .ref q23, .ref q24, .int 0, .ref q26, .ref q27, .ref q28, .ref q29, .ref q30, .ref q31, .ref q32, .ref q33, .ref q34, .ref q35, .ref q36, .ref q37, .ref q38, .ref q39, .ref q40, .ref q41, .ref q42, .ref q43, .ref q44, .ref q45, .null, .null, .int 0, .null, .int 0, .null, .null, .null, .int 0, .null, .null, .int 0, .long 0, .int 0])), (q21, aI (zcA Γ) 21 12 z0), (q22, aI (zcA Γ) 22 12 z0), (q23, aI (zcA Γ) 23 12 (zups 12)), (q24, aI (zcA Γ) 24 12 (zups 12)), (q26, aI (zcA Γ) 26 16 z0), (q27, aI (zcA Γ) 27 16 z0), (q28, aI (zcA Γ) 28 16 z0), (q29, aI (zcA Γ) 29 16 z0), (q30, aI (zcA Γ) 30 16 z0), (q31, aI (zcA Γ) 31 16 z0), (q32, aI (zcA Γ) 32 16 z0), (q33, aI (zcA Γ) 33 16 z0), (q34, aI (zcA Γ) 34 16 (zuph 16)), (q35, aI (zcA Γ) 35 16 z0), (q36, aI (zcA Γ) 36 16 z0), (q37, aI (zcA Γ) 37 16 z0), (q38, aI (zcA Γ) 38 16 z0), (q39, aI (zcA Γ) 39 16 z0), (q40, aI (zcA Γ) 40 16 z0), (q41, aI (zcA Γ) 41 16 z0), (q42, aI (zcA Γ) 42 16 z0), (q43, aI (zcA Γ) 43 16 z0), (q44, aI (zcA Γ) 44 64 z0), (q45, aI (zcA Γ) 45 64 z0)] 394 [some (.ref h0)] []
  refine zU_aloadn hY dX5_init_394 rfl ?_
  refine zU_bipush hY dX5_init_395 (by decide) ?_
  refine zU_newa hY hR (atype := .int) (ty := .int) zw_ac_int rfl 46 (by decide) rfl (N := 64) (a0 := (64, .inl z0)) (fun _ => rfl) (by decide) (by decide) (by decide) (by omega) (by omega) dX5_init_397 (fun q46 => ?_)
  refine zU_putF hY hI zw_lay5 tyX5 tyX5_ok nmX5 (ci := 5) rfl 0 rfl 26 (by decide) zw_fX5_84 rfl rfl rfl rfl (Nat.le_of_ble_eq_true rfl) dX5_init_399 ?_
  show zU Γ _ _ [(h0, .inr (5, [.int 0, .ref q21, .ref q22, .ref q23, .ref q24, .int 0, .ref q26, .ref q27, .ref q28, .ref q29, .ref q30, .ref q31, .ref q32, .ref q33, .ref q34, .ref q35, .ref q36, .ref q37, .ref q38, .ref q39, .ref q40, .ref q41, .ref q42, .ref q43, .ref q44, .ref q45, .ref q46, .null, .int 0, .null, .int 0, .null, .null, .null, .int 0, .null, .null, .int 0, .long 0, .int 0])), (q21, aI (zcA Γ) 21 12 z0), (q22, aI (zcA Γ) 22 12 z0), (q23, aI (zcA Γ) 23 12 (zups 12)), (q24, aI (zcA Γ) 24 12 (zups 12)), (q26, aI (zcA Γ) 26 16 z0), (q27, aI (zcA Γ) 27 16 z0), (q28, aI (zcA Γ) 28 16 z0), (q29, aI (zcA Γ) 29 16 z0), (q30, aI (zcA Γ) 30 16 z0), (q31, aI (zcA Γ) 31 16 z0), (q32, aI (zcA Γ) 32 16 z0), (q33, aI (zcA Γ) 33 16 z0), (q34, aI (zcA Γ) 34 16 (zuph 16)), (q35, aI (zcA Γ) 35 16 z0), (q36, aI (zcA Γ) 36 16 z0), (q37, aI (zcA Γ) 37 16 z0), (q38, aI (zcA Γ) 38 16 z0), (q39, aI (zcA Γ) 39 16 z0), (q40, aI (zcA Γ) 40 16 z0), (q41, aI (zcA Γ) 41 16 z0), (q42, aI (zcA Γ) 42 16 z0), (q43, aI (zcA Γ) 43 16 z0), (q44, aI (zcA Γ) 44 64 z0), (q45, aI (zcA Γ) 45 64 z0), (q46, aI (zcA Γ) 46 64 z0)] 402 [some (.ref h0)] []
  refine zU_aloadn hY dX5_init_402 rfl ?_
  refine zU_bipush hY dX5_init_403 (by decide) ?_
  refine zU_newa hY hR (atype := .int) (ty := .int) zw_ac_int rfl 47 (by decide) rfl (N := 64) (a0 := (64, .inl z0)) (fun _ => rfl) (by decide) (by decide) (by decide) (by omega) (by omega) dX5_init_405 (fun q47 => ?_)
  refine zU_putF hY hI zw_lay5 tyX5 tyX5_ok nmX5 (ci := 5) rfl 0 rfl 27 (by decide) zw_fX5_87 rfl rfl rfl rfl (Nat.le_of_ble_eq_true rfl) dX5_init_407 ?_
  show zU Γ _ _ [(h0, .inr (5, [.int 0, .ref q21, .ref q22, .ref q23, .ref q24, .int 0, .ref q26, .ref q27, .ref q28, .ref q29, .ref q30, .ref q31, .ref q32, .ref q33, .ref q34, .ref q35, .ref q36, .ref q37, .ref q38, .ref q39, .ref q40, .ref q41, .ref q42, .ref q43, .ref q44, .ref q45, .ref q46, .ref q47, .int 0, .null, .int 0, .null, .null, .null, .int 0, .null, .null, .int 0, .long 0, .int 0])), (q21, aI (zcA Γ) 21 12 z0), (q22, aI (zcA Γ) 22 12 z0), (q23, aI (zcA Γ) 23 12 (zups 12)), (q24, aI (zcA Γ) 24 12 (zups 12)), (q26, aI (zcA Γ) 26 16 z0), (q27, aI (zcA Γ) 27 16 z0), (q28, aI (zcA Γ) 28 16 z0), (q29, aI (zcA Γ) 29 16 z0), (q30, aI (zcA Γ) 30 16 z0), (q31, aI (zcA Γ) 31 16 z0), (q32, aI (zcA Γ) 32 16 z0), (q33, aI (zcA Γ) 33 16 z0), (q34, aI (zcA Γ) 34 16 (zuph 16)), (q35, aI (zcA Γ) 35 16 z0), (q36, aI (zcA Γ) 36 16 z0), (q37, aI (zcA Γ) 37 16 z0), (q38, aI (zcA Γ) 38 16 z0), (q39, aI (zcA Γ) 39 16 z0), (q40, aI (zcA Γ) 40 16 z0), (q41, aI (zcA Γ) 41 16 z0), (q42, aI (zcA Γ) 42 16 z0), (q43, aI (zcA Γ) 43 16 z0), (q44, aI (zcA Γ) 44 64 z0), (q45, aI (zcA Γ) 45 64 z0), (q46, aI (zcA Γ) 46 64 z0), (q47, aI (zcA Γ) 47 64 z0)] 410 [some (.ref h0)] []
  refine zU_aloadn hY dX5_init_410 rfl ?_
  refine zU_iconst hY dX5_init_411 ?_
  refine zU_newa hY hR (atype := .int) (ty := .int) zw_ac_int rfl 49 (by decide) rfl (N := 3) (a0 := (3, .inl z0)) (fun _ => rfl) (by decide) (by decide) (by decide) (by omega) (by omega) dX5_init_412 (fun q49 => ?_)
  refine zU_putF hY hI zw_lay5 tyX5 tyX5_ok nmX5 (ci := 5) rfl 0 rfl 29 (by decide) zw_fX5_90 rfl rfl rfl rfl (Nat.le_of_ble_eq_true rfl) dX5_init_414 ?_
  show zU Γ _ _ [(h0, .inr (5, [.int 0, .ref q21, .ref q22, .ref q23, .ref q24, .int 0, .ref q26, .ref q27, .ref q28, .ref q29, .ref q30, .ref q31, .ref q32, .ref q33, .ref q34, .ref q35, .ref q36, .ref q37, .ref q38, .ref q39, .ref q40, .ref q41, .ref q42, .ref q43, .ref q44, .ref q45, .ref q46, .ref q47, .int 0, .ref q49, .int 0, .null, .null, .null, .int 0, .null, .null, .int 0, .long 0, .int 0])), (q21, aI (zcA Γ) 21 12 z0), (q22, aI (zcA Γ) 22 12 z0), (q23, aI (zcA Γ) 23 12 (zups 12)), (q24, aI (zcA Γ) 24 12 (zups 12)), (q26, aI (zcA Γ) 26 16 z0), (q27, aI (zcA Γ) 27 16 z0), (q28, aI (zcA Γ) 28 16 z0), (q29, aI (zcA Γ) 29 16 z0), (q30, aI (zcA Γ) 30 16 z0), (q31, aI (zcA Γ) 31 16 z0), (q32, aI (zcA Γ) 32 16 z0), (q33, aI (zcA Γ) 33 16 z0), (q34, aI (zcA Γ) 34 16 (zuph 16)), (q35, aI (zcA Γ) 35 16 z0), (q36, aI (zcA Γ) 36 16 z0), (q37, aI (zcA Γ) 37 16 z0), (q38, aI (zcA Γ) 38 16 z0), (q39, aI (zcA Γ) 39 16 z0), (q40, aI (zcA Γ) 40 16 z0), (q41, aI (zcA Γ) 41 16 z0), (q42, aI (zcA Γ) 42 16 z0), (q43, aI (zcA Γ) 43 16 z0), (q44, aI (zcA Γ) 44 64 z0), (q45, aI (zcA Γ) 45 64 z0), (q46, aI (zcA Γ) 46 64 z0), (q47, aI (zcA Γ) 47 64 z0), (q49, aI (zcA Γ) 49 3 z0)] 417 [some (.ref h0)] []
  refine zU_aloadn hY dX5_init_417 rfl ?_
  refine zU_bipush hY dX5_init_418 (by decide) ?_
  refine zU_newa hY hR (atype := .int) (ty := .int) zw_ac_int rfl 51 (by decide) rfl (N := 60) (a0 := (60, .inl z0)) (fun _ => rfl) (by decide) (by decide) (by decide) (by omega) (by omega) dX5_init_420 (fun q51 => ?_)
  refine zU_putF hY hI zw_lay5 tyX5 tyX5_ok nmX5 (ci := 5) rfl 0 rfl 31 (by decide) zw_fX5_93 rfl rfl rfl rfl (Nat.le_of_ble_eq_true rfl) dX5_init_422 ?_
  show zU Γ _ _ [(h0, .inr (5, [.int 0, .ref q21, .ref q22, .ref q23, .ref q24, .int 0, .ref q26, .ref q27, .ref q28, .ref q29, .ref q30, .ref q31, .ref q32, .ref q33, .ref q34, .ref q35, .ref q36, .ref q37, .ref q38, .ref q39, .ref q40, .ref q41, .ref q42, .ref q43, .ref q44, .ref q45, .ref q46, .ref q47, .int 0, .ref q49, .int 0, .ref q51, .null, .null, .int 0, .null, .null, .int 0, .long 0, .int 0])), (q21, aI (zcA Γ) 21 12 z0), (q22, aI (zcA Γ) 22 12 z0), (q23, aI (zcA Γ) 23 12 (zups 12)), (q24, aI (zcA Γ) 24 12 (zups 12)), (q26, aI (zcA Γ) 26 16 z0), (q27, aI (zcA Γ) 27 16 z0), (q28, aI (zcA Γ) 28 16 z0), (q29, aI (zcA Γ) 29 16 z0), (q30, aI (zcA Γ) 30 16 z0), (q31, aI (zcA Γ) 31 16 z0), (q32, aI (zcA Γ) 32 16 z0), (q33, aI (zcA Γ) 33 16 z0), (q34, aI (zcA Γ) 34 16 (zuph 16)), (q35, aI (zcA Γ) 35 16 z0), (q36, aI (zcA Γ) 36 16 z0), (q37, aI (zcA Γ) 37 16 z0), (q38, aI (zcA Γ) 38 16 z0), (q39, aI (zcA Γ) 39 16 z0), (q40, aI (zcA Γ) 40 16 z0), (q41, aI (zcA Γ) 41 16 z0), (q42, aI (zcA Γ) 42 16 z0), (q43, aI (zcA Γ) 43 16 z0), (q44, aI (zcA Γ) 44 64 z0), (q45, aI (zcA Γ) 45 64 z0), (q46, aI (zcA Γ) 46 64 z0), (q47, aI (zcA Γ) 47 64 z0), (q49, aI (zcA Γ) 49 3 z0), (q51, aI (zcA Γ) 51 60 z0)] 425 [some (.ref h0)] []
  refine zU_aloadn hY dX5_init_425 rfl ?_
  refine zU_bipush hY dX5_init_426 (by decide) ?_
  refine zU_newa hY hR (atype := .int) (ty := .int) zw_ac_int rfl 52 (by decide) rfl (N := 60) (a0 := (60, .inl z0)) (fun _ => rfl) (by decide) (by decide) (by decide) (by omega) (by omega) dX5_init_428 (fun q52 => ?_)
  refine zU_putF hY hI zw_lay5 tyX5 tyX5_ok nmX5 (ci := 5) rfl 0 rfl 32 (by decide) zw_fX5_96 rfl rfl rfl rfl (Nat.le_of_ble_eq_true rfl) dX5_init_430 ?_
  show zU Γ _ _ [(h0, .inr (5, [.int 0, .ref q21, .ref q22, .ref q23, .ref q24, .int 0, .ref q26, .ref q27, .ref q28, .ref q29, .ref q30, .ref q31, .ref q32, .ref q33, .ref q34, .ref q35, .ref q36, .ref q37, .ref q38, .ref q39, .ref q40, .ref q41, .ref q42, .ref q43, .ref q44, .ref q45, .ref q46, .ref q47, .int 0, .ref q49, .int 0, .ref q51, .ref q52, .null, .int 0, .null, .null, .int 0, .long 0, .int 0])), (q21, aI (zcA Γ) 21 12 z0), (q22, aI (zcA Γ) 22 12 z0), (q23, aI (zcA Γ) 23 12 (zups 12)), (q24, aI (zcA Γ) 24 12 (zups 12)), (q26, aI (zcA Γ) 26 16 z0), (q27, aI (zcA Γ) 27 16 z0), (q28, aI (zcA Γ) 28 16 z0), (q29, aI (zcA Γ) 29 16 z0), (q30, aI (zcA Γ) 30 16 z0), (q31, aI (zcA Γ) 31 16 z0), (q32, aI (zcA Γ) 32 16 z0), (q33, aI (zcA Γ) 33 16 z0), (q34, aI (zcA Γ) 34 16 (zuph 16)), (q35, aI (zcA Γ) 35 16 z0), (q36, aI (zcA Γ) 36 16 z0), (q37, aI (zcA Γ) 37 16 z0), (q38, aI (zcA Γ) 38 16 z0), (q39, aI (zcA Γ) 39 16 z0), (q40, aI (zcA Γ) 40 16 z0), (q41, aI (zcA Γ) 41 16 z0), (q42, aI (zcA Γ) 42 16 z0), (q43, aI (zcA Γ) 43 16 z0), (q44, aI (zcA Γ) 44 64 z0), (q45, aI (zcA Γ) 45 64 z0), (q46, aI (zcA Γ) 46 64 z0), (q47, aI (zcA Γ) 47 64 z0), (q49, aI (zcA Γ) 49 3 z0), (q51, aI (zcA Γ) 51 60 z0), (q52, aI (zcA Γ) 52 60 z0)] 433 [some (.ref h0)] []
  refine zU_aloadn hY dX5_init_433 rfl ?_
  refine zU_bipush hY dX5_init_434 (by decide) ?_
  refine zU_newa hY hR (atype := .int) (ty := .int) zw_ac_int rfl 53 (by decide) rfl (N := 60) (a0 := (60, .inl z0)) (fun _ => rfl) (by decide) (by decide) (by decide) (by omega) (by omega) dX5_init_436 (fun q53 => ?_)
  refine zU_putF hY hI zw_lay5 tyX5 tyX5_ok nmX5 (ci := 5) rfl 0 rfl 33 (by decide) zw_fX5_99 rfl rfl rfl rfl (Nat.le_of_ble_eq_true rfl) dX5_init_438 ?_
  show zU Γ _ _ [(h0, .inr (5, [.int 0, .ref q21, .ref q22, .ref q23, .ref q24, .int 0, .ref q26, .ref q27, .ref q28, .ref q29, .ref q30, .ref q31, .ref q32, .ref q33, .ref q34, .ref q35, .ref q36, .ref q37, .ref q38, .ref q39, .ref q40, .ref q41, .ref q42, .ref q43, .ref q44, .ref q45, .ref q46, .ref q47, .int 0, .ref q49, .int 0, .ref q51, .ref q52, .ref q53, .int 0, .null, .null, .int 0, .long 0, .int 0])), (q21, aI (zcA Γ) 21 12 z0), (q22, aI (zcA Γ) 22 12 z0), (q23, aI (zcA Γ) 23 12 (zups 12)), (q24, aI (zcA Γ) 24 12 (zups 12)), (q26, aI (zcA Γ) 26 16 z0), (q27, aI (zcA Γ) 27 16 z0), (q28, aI (zcA Γ) 28 16 z0), (q29, aI (zcA Γ) 29 16 z0), (q30, aI (zcA Γ) 30 16 z0), (q31, aI (zcA Γ) 31 16 z0), (q32, aI (zcA Γ) 32 16 z0), (q33, aI (zcA Γ) 33 16 z0), (q34, aI (zcA Γ) 34 16 (zuph 16)), (q35, aI (zcA Γ) 35 16 z0), (q36, aI (zcA Γ) 36 16 z0), (q37, aI (zcA Γ) 37 16 z0), (q38, aI (zcA Γ) 38 16 z0), (q39, aI (zcA Γ) 39 16 z0), (q40, aI (zcA Γ) 40 16 z0), (q41, aI (zcA Γ) 41 16 z0), (q42, aI (zcA Γ) 42 16 z0), (q43, aI (zcA Γ) 43 16 z0), (q44, aI (zcA Γ) 44 64 z0), (q45, aI (zcA Γ) 45 64 z0), (q46, aI (zcA Γ) 46 64 z0), (q47, aI (zcA Γ) 47 64 z0), (q49, aI (zcA Γ) 49 3 z0), (q51, aI (zcA Γ) 51 60 z0), (q52, aI (zcA Γ) 52 60 z0), (q53, aI (zcA Γ) 53 60 z0)] 441 [some (.ref h0)] []
  refine zU_aloadn hY dX5_init_441 rfl ?_
  refine zU_bipush hY dX5_init_442 (by decide) ?_
  refine zU_newa hY hR (atype := .int) (ty := .int) zw_ac_int rfl 55 (by decide) rfl (N := 20) (a0 := (20, .inl z0)) (fun _ => rfl) (by decide) (by decide) (by decide) (by omega) (by omega) dX5_init_444 (fun q55 => ?_)
  refine zU_putF hY hI zw_lay5 tyX5 tyX5_ok nmX5 (ci := 5) rfl 0 rfl 35 (by decide) zw_fX5_102 rfl rfl rfl rfl (Nat.le_of_ble_eq_true rfl) dX5_init_446 ?_
  show zU Γ _ _ [(h0, .inr (5, [.int 0, .ref q21, .ref q22, .ref q23, .ref q24, .int 0, .ref q26, .ref q27, .ref q28, .ref q29, .ref q30, .ref q31, .ref q32, .ref q33, .ref q34, .ref q35, .ref q36, .ref q37, .ref q38, .ref q39, .ref q40, .ref q41, .ref q42, .ref q43, .ref q44, .ref q45, .ref q46, .ref q47, .int 0, .ref q49, .int 0, .ref q51, .ref q52, .ref q53, .int 0, .ref q55, .null, .int 0, .long 0, .int 0])), (q21, aI (zcA Γ) 21 12 z0), (q22, aI (zcA Γ) 22 12 z0), (q23, aI (zcA Γ) 23 12 (zups 12)), (q24, aI (zcA Γ) 24 12 (zups 12)), (q26, aI (zcA Γ) 26 16 z0), (q27, aI (zcA Γ) 27 16 z0), (q28, aI (zcA Γ) 28 16 z0), (q29, aI (zcA Γ) 29 16 z0), (q30, aI (zcA Γ) 30 16 z0), (q31, aI (zcA Γ) 31 16 z0), (q32, aI (zcA Γ) 32 16 z0), (q33, aI (zcA Γ) 33 16 z0), (q34, aI (zcA Γ) 34 16 (zuph 16)), (q35, aI (zcA Γ) 35 16 z0), (q36, aI (zcA Γ) 36 16 z0), (q37, aI (zcA Γ) 37 16 z0), (q38, aI (zcA Γ) 38 16 z0), (q39, aI (zcA Γ) 39 16 z0), (q40, aI (zcA Γ) 40 16 z0), (q41, aI (zcA Γ) 41 16 z0), (q42, aI (zcA Γ) 42 16 z0), (q43, aI (zcA Γ) 43 16 z0), (q44, aI (zcA Γ) 44 64 z0), (q45, aI (zcA Γ) 45 64 z0), (q46, aI (zcA Γ) 46 64 z0), (q47, aI (zcA Γ) 47 64 z0), (q49, aI (zcA Γ) 49 3 z0), (q51, aI (zcA Γ) 51 60 z0), (q52, aI (zcA Γ) 52 60 z0), (q53, aI (zcA Γ) 53 60 z0), (q55, aI (zcA Γ) 55 20 z0)] 449 [some (.ref h0)] []
  refine zU_aloadn hY dX5_init_449 rfl ?_
  refine zU_bipush hY dX5_init_450 (by decide) ?_
  refine zU_newa hY hR (atype := .int) (ty := .int) zw_ac_int rfl 56 (by decide) rfl (N := 20) (a0 := (20, .inl z0)) (fun _ => rfl) (by decide) (by decide) (by decide) (by omega) (by omega) dX5_init_452 (fun q56 => ?_)
  refine zU_putF hY hI zw_lay5 tyX5 tyX5_ok nmX5 (ci := 5) rfl 0 rfl 36 (by decide) zw_fX5_105 rfl rfl rfl rfl (Nat.le_of_ble_eq_true rfl) dX5_init_454 ?_
  show zU Γ _ _ [(h0, .inr (5, [.int 0, .ref q21, .ref q22, .ref q23, .ref q24, .int 0, .ref q26, .ref q27, .ref q28, .ref q29, .ref q30, .ref q31, .ref q32, .ref q33, .ref q34, .ref q35, .ref q36, .ref q37, .ref q38, .ref q39, .ref q40, .ref q41, .ref q42, .ref q43, .ref q44, .ref q45, .ref q46, .ref q47, .int 0, .ref q49, .int 0, .ref q51, .ref q52, .ref q53, .int 0, .ref q55, .ref q56, .int 0, .long 0, .int 0])), (q21, aI (zcA Γ) 21 12 z0), (q22, aI (zcA Γ) 22 12 z0), (q23, aI (zcA Γ) 23 12 (zups 12)), (q24, aI (zcA Γ) 24 12 (zups 12)), (q26, aI (zcA Γ) 26 16 z0), (q27, aI (zcA Γ) 27 16 z0), (q28, aI (zcA Γ) 28 16 z0), (q29, aI (zcA Γ) 29 16 z0), (q30, aI (zcA Γ) 30 16 z0), (q31, aI (zcA Γ) 31 16 z0), (q32, aI (zcA Γ) 32 16 z0), (q33, aI (zcA Γ) 33 16 z0), (q34, aI (zcA Γ) 34 16 (zuph 16)), (q35, aI (zcA Γ) 35 16 z0), (q36, aI (zcA Γ) 36 16 z0), (q37, aI (zcA Γ) 37 16 z0), (q38, aI (zcA Γ) 38 16 z0), (q39, aI (zcA Γ) 39 16 z0), (q40, aI (zcA Γ) 40 16 z0), (q41, aI (zcA Γ) 41 16 z0), (q42, aI (zcA Γ) 42 16 z0), (q43, aI (zcA Γ) 43 16 z0), (q44, aI (zcA Γ) 44 64 z0), (q45, aI (zcA Γ) 45 64 z0), (q46, aI (zcA Γ) 46 64 z0), (q47, aI (zcA Γ) 47 64 z0), (q49, aI (zcA Γ) 49 3 z0), (q51, aI (zcA Γ) 51 60 z0), (q52, aI (zcA Γ) 52 60 z0), (q53, aI (zcA Γ) 53 60 z0), (q55, aI (zcA Γ) 55 20 z0), (q56, aI (zcA Γ) 56 20 z0)] 457 [some (.ref h0)] []
  exact zU_vret hY hM (by decide) (by decide) dX5_init_457 ⟨fun k => [h0, q21, q22, q23, q24, 0, q26, q27, q28, q29, q30, q31, q32, q33, q34, q35, q36, q37, q38, q39, q40, q41, q42, q43, q44, q45, q46, q47, 0, q49, 0, q51, q52, q53, 0, q55, q56].getD (k - 20) 0, rfl, rfl⟩
