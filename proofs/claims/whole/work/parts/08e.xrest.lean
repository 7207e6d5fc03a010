set_option maxRecDepth 100000 in
set_option maxHeartbeats 4000000 in
theorem c_X4_work {ad : Nat → Int → Nat} {x y : zSt}  : zC yX4_work cX4_work 1 (some .long) 0 0 0 [.ref (ad 0 0)] ad x y (fun v x1 y1 => v = some (.long (Int64.ofInt (x 0 0 13))) ∧ x1 = x ∧ y1 = y) (zF) := by
  refine zC_ofV (by decide) (by intro v hv; simp only [List.mem_cons, List.not_mem_nil, or_false] at hv; subst hv; rfl) (Nat.le_of_ble_eq_true rfl) (fun Γ hX hN hM hT => ?_)
  show zV Γ ad 0 0 x y 0 [some (.ref (ad 0 0))] []
  refine zV_aloadn hX dX4_work_0 rfl ?_
  refine GF_X4_232 hX  dX4_work_1 ?_
  exact zV_lret hX hM (by omega) (by omega) dX4_work_4 (⟨rfl, rfl, rfl⟩)
set_option maxRecDepth 100000 in
set_option maxHeartbeats 4000000 in
theorem lp_X4_load {ad : Nat → Int → Nat} {x y : zSt} {Γ : zG} {post : Option Value → zSt → zSt → Prop} {px : String → zSt → zSt → Prop} (hI : xI x) (hp : xSn x (x 0 0 10).toNat ≠ 0 → post (some (.float (zFq (xLn x (x 0 0 10).toNat) (xSn x (x 0 0 10).toNat)))) x y) (hq : xSn x (x 0 0 10).toNat = 0 → px "java/lang/ArithmeticException" x y) (hX : zX Γ ad RX4 cX4_load 4) (hN : zN Γ 6 1 6) (hM : zM Γ ad 1 6 (some .float) (post) (px)) (hT : zNT Γ) : ∀ (f n : Nat) (i s t : Int), i = n → i ≤ x 0 0 10 → (x 0 0 10).toNat - n < f → s = xLn x n → t = xSn x n → zV Γ ad 0 0 x y 6 [some (.ref (ad 0 0)), some (zI s), some (zI t), some (zI i)] [] := by
  intro f
  induction f with
  | zero => intro n i s t h1 h2 h3; omega
  | succ f ih =>
    intro n i s t h1 h2 h3 h4 h5
    subst h1
    have hu : ((n + 1 : Nat) : Int) = (n : Int) + 1 := by omega
    have i2 := hI.2.1
    have sb := xSn_b hI n (by omega)
    have qb : (n : Int) ≤ 2 → _ := fun g => hI.2.2.2.2.2.2.2.2.1 n (by omega) g
    refine zV_iloadn hX dX4_load_6 rfl ?_
    refine zV_aloadn hX dX4_load_7 rfl ?_
    refine GF_X4_198 hX  dX4_load_8 (fun r8 => ?_)
    refine zV_icmp_ge (tgt := 44) hX dX4_load_11 (by decide) (by omega) (by omega) (fun b11 => ?_) (fun b11 => ?_)
    · obtain rfl : n = (x 0 0 10).toNat := by omega
      subst h4
      subst h5
      refine zV_iloadn hX dX4_load_44 rfl ?_
      refine zV_if_ne (tgt := 58) hX dX4_load_45 (by decide) (by omega) (fun b45 => ?_) (fun b45 => ?_)
      · refine zV_iloadn hX dX4_load_58 rfl ?_
        refine zV_i2f hX dX4_load_59 ?_
        refine zV_iloadn hX dX4_load_60 rfl ?_
        refine zV_i2f hX dX4_load_61 ?_
        refine zV_fdiv hX (by omega) (by omega) dX4_load_62 ?_
        exact zV_fret hX hM (by omega) (by omega) dX4_load_63 (hp (by omega))
      · exact zV_throw hX rfl hN (by omega) (by omega) (by omega) Bundle.six_0 Bundle.six_1 Bundle.six_2 Bundle.six_5 zat_ArithmeticException zw_cX4_239 zw_in_java_lang_ArithmeticException "there are no kernels" (by decide) (by decide) dX4_load_48 dX4_load_51 dX4_load_52 dX4_load_54 dX4_load_57 (zVX_out hX hT hM (by omega) (by omega) (hq (by omega)))
    · refine zV_iloadn hX dX4_load_14 rfl ?_
      refine zV_aloadn hX dX4_load_15 rfl ?_
      refine GF_X4_30 hX  dX4_load_16 ?_
      refine zV_iloadn hX dX4_load_19 rfl ?_
      refine AL_6 hX  ⟨by omega, by omega⟩ dX4_load_20 ?_
      refine GF_X4_236 hX ⟨by omega, by omega⟩ dX4_load_21 (fun r21 => ?_)
      refine zV_iadd hX dX4_load_24 ?_
      refine zV_istoren1 hX dX4_load_25 ?_
      refine zV_iloadn hX dX4_load_26 rfl ?_
      refine zV_aloadn hX dX4_load_27 rfl ?_
      refine GF_X4_30 hX  dX4_load_28 ?_
      refine zV_iloadn hX dX4_load_31 rfl ?_
      refine AL_6 hX  ⟨by omega, by omega⟩ dX4_load_32 ?_
      refine GF_X4_203 hX ⟨by omega, by omega⟩ dX4_load_33 (fun r33 => ?_)
      refine zV_iadd hX dX4_load_36 ?_
      refine zV_istoren2 hX dX4_load_37 ?_
      refine zV_iinc3 hX dX4_load_38 ?_
      refine zV_goto (tgt := 6) hX dX4_load_41 (by decide) ?_
      exact ih (n + 1) _ _ _ hu.symm (by omega) (by omega) (by rw [h4]; rfl) (by rw [h5]; rfl)
set_option maxRecDepth 100000 in
set_option maxHeartbeats 4000000 in
theorem c_X4_load {ad : Nat → Int → Nat} {x y : zSt} (hI : xI x) : zC yX4_load cX4_load 4 (some .float) 6 1 6 [.ref (ad 0 0)] ad x y (fun v x1 y1 => xSn x (x 0 0 10).toNat ≠ 0 ∧ v = some (.float (zFq (xLn x (x 0 0 10).toNat) (xSn x (x 0 0 10).toNat))) ∧ x1 = x ∧ y1 = y) (zpX (fun E => (E = "java/lang/ArithmeticException" ∧ xSn x (x 0 0 10).toNat = 0)) x y) := by
  refine zC_ofV (by decide) (by intro v hv; simp only [List.mem_cons, List.not_mem_nil, or_false] at hv; subst hv; rfl) (Nat.le_of_ble_eq_true rfl) (fun Γ hX hN hM hT => ?_)
  show zV Γ ad 0 0 x y 0 [some (.ref (ad 0 0)), none, none, none] []
  have i2 := hI.2.1
  refine zV_iconst hX dX4_load_0 ?_
  refine zV_istoren1 hX dX4_load_1 ?_
  refine zV_iconst hX dX4_load_2 ?_
  refine zV_istoren2 hX dX4_load_3 ?_
  refine zV_iconst hX dX4_load_4 ?_
  refine zV_istoren3 hX dX4_load_5 ?_
  exact lp_X4_load hI (fun g => ⟨g, rfl, rfl, rfl⟩) (fun g => ⟨⟨rfl, g⟩, rfl, rfl⟩) hX hN hM hT ((x 0 0 10).toNat + 1) 0 0 0 0 rfl (by omega) (by omega) rfl rfl
set_option maxRecDepth 100000 in
set_option maxHeartbeats 4000000 in
theorem lp_X4_meanValue {ad : Nat → Int → Nat} {x y : zSt} {Γ : zG} {post : Option Value → zSt → zSt → Prop} {px : String → zSt → zSt → Prop} (hI : xI x) (hp : xVn x 12 ≠ 0 → post (some (.double (zDq (xVs x 12) (xVn x 12)))) x y) (hq : xVn x 12 = 0 → px "java/lang/ArithmeticException" x y) (hX : zX Γ ad RX4 cX4_meanValue 4) (hN : zN Γ 6 1 6) (hM : zM Γ ad 1 6 (some .double) (post) (px)) (hT : zNT Γ) : ∀ (f n : Nat) (i s t : Int), i = n → i ≤ 12 → 12 - n < f → s = xVs x n → t = xVn x n → zV Γ ad 0 0 x y 6 [some (.ref (ad 0 0)), some (zI s), some (zI t), some (zI i)] [] := by
  intro f
  induction f with
  | zero => intro n i s t h1 h2 h3; omega
  | succ f ih =>
    intro n i s t h1 h2 h3 h4 h5
    subst h1
    have hu : ((n + 1 : Nat) : Int) = (n : Int) + 1 := by omega
    have vb := xVs_b hI n (by omega)
    have w : (n : Int) ≤ 11 → _ := fun g => hI.2.2.2.2.1 n (by omega) g
    refine zV_iloadn hX dX4_meanValue_6 rfl ?_
    refine zV_bipush hX dX4_meanValue_7 (by decide) ?_
    refine zV_icmp_ge (tgt := 40) hX dX4_meanValue_9 (by decide) (by omega) (by omega) (fun b9 => ?_) (fun b9 => ?_)
    · obtain rfl : n = 12 := by omega
      subst h4
      subst h5
      refine zV_iloadn hX dX4_meanValue_40 rfl ?_
      refine zV_if_ne (tgt := 54) hX dX4_meanValue_41 (by decide) (by omega) (fun b41 => ?_) (fun b41 => ?_)
      · refine zV_iloadn hX dX4_meanValue_54 rfl ?_
        refine zV_i2d hX dX4_meanValue_55 ?_
        refine zV_iloadn hX dX4_meanValue_56 rfl ?_
        refine zV_i2d hX dX4_meanValue_57 ?_
        refine zV_ddiv hX (by omega) (by omega) dX4_meanValue_58 ?_
        exact zV_dret hX hM (by omega) (by omega) dX4_meanValue_59 (hp (by omega))
      · exact zV_throw hX rfl hN (by omega) (by omega) (by omega) Bundle.six_0 Bundle.six_1 Bundle.six_2 Bundle.six_5 zat_ArithmeticException zw_cX4_239 zw_in_java_lang_ArithmeticException "no variable has a value" (by decide) (by decide) dX4_meanValue_44 dX4_meanValue_47 dX4_meanValue_48 dX4_meanValue_50 dX4_meanValue_53 (zVX_out hX hT hM (by omega) (by omega) (hq (by omega)))
    · refine zV_aloadn hX dX4_meanValue_12 rfl ?_
      refine GF_X4_9 hX  dX4_meanValue_13 ?_
      refine zV_iloadn hX dX4_meanValue_16 rfl ?_
      refine AL_1 hX  ⟨by omega, by omega⟩ dX4_meanValue_17 (fun r17 => ?_)
      refine zV_iconst hX dX4_meanValue_18 ?_
      refine zV_icmp_eq (tgt := 34) hX dX4_meanValue_19 (by decide) (by omega) (by omega) (fun b19 => ?_) (fun b19 => ?_)
      · refine zV_iinc3 hX dX4_meanValue_34 ?_
        refine zV_goto (tgt := 6) hX dX4_meanValue_37 (by decide) ?_
        exact ih (n + 1) _ _ _ hu.symm (by omega) (by omega) (by rw [h4]; simp only [xVs]; first | rw [if_pos (by omega)] | rw [if_neg (by omega)]) (by rw [h5]; simp only [xVn]; first | rw [if_pos (by omega)] | rw [if_neg (by omega)])
      · refine zV_iloadn hX dX4_meanValue_22 rfl ?_
        refine zV_aloadn hX dX4_meanValue_23 rfl ?_
        refine GF_X4_9 hX  dX4_meanValue_24 ?_
        refine zV_iloadn hX dX4_meanValue_27 rfl ?_
        refine AL_1 hX  ⟨by omega, by omega⟩ dX4_meanValue_28 (fun r28 => ?_)
        refine zV_iadd hX dX4_meanValue_29 ?_
        refine zV_istoren1 hX dX4_meanValue_30 ?_
        refine zV_iinc2 hX dX4_meanValue_31 ?_
        refine zV_iinc3 hX dX4_meanValue_34 ?_
        refine zV_goto (tgt := 6) hX dX4_meanValue_37 (by decide) ?_
        exact ih (n + 1) _ _ _ hu.symm (by omega) (by omega) (by rw [h4]; simp only [xVs]; first | rw [if_pos (by omega)] | rw [if_neg (by omega)]) (by rw [h5]; simp only [xVn]; first | rw [if_pos (by omega)] | rw [if_neg (by omega)])
set_option maxRecDepth 100000 in
set_option maxHeartbeats 4000000 in
theorem c_X4_meanValue {ad : Nat → Int → Nat} {x y : zSt} (hI : xI x) : zC yX4_meanValue cX4_meanValue 4 (some .double) 6 1 6 [.ref (ad 0 0)] ad x y (fun v x1 y1 => xVn x 12 ≠ 0 ∧ v = some (.double (zDq (xVs x 12) (xVn x 12))) ∧ x1 = x ∧ y1 = y) (zpX (fun E => (E = "java/lang/ArithmeticException" ∧ xVn x 12 = 0)) x y) := by
  refine zC_ofV (by decide) (by intro v hv; simp only [List.mem_cons, List.not_mem_nil, or_false] at hv; subst hv; rfl) (Nat.le_of_ble_eq_true rfl) (fun Γ hX hN hM hT => ?_)
  show zV Γ ad 0 0 x y 0 [some (.ref (ad 0 0)), none, none, none] []
  refine zV_iconst hX dX4_meanValue_0 ?_
  refine zV_istoren1 hX dX4_meanValue_1 ?_
  refine zV_iconst hX dX4_meanValue_2 ?_
  refine zV_istoren2 hX dX4_meanValue_3 ?_
  refine zV_iconst hX dX4_meanValue_4 ?_
  refine zV_istoren3 hX dX4_meanValue_5 ?_
  exact lp_X4_meanValue hI (fun g => ⟨g, rfl, rfl, rfl⟩) (fun g => ⟨⟨rfl, g⟩, rfl, rfl⟩) hX hN hM hT 13 0 0 0 0 rfl (by omega) (by omega) rfl rfl
set_option maxRecDepth 100000 in
set_option maxHeartbeats 4000000 in
theorem lp_X4_freshCellsAreRight {ad : Nat → Int → Nat} {x y : zSt} {Γ : zG} {post : Option Value → zSt → zSt → Prop} {px : String → zSt → zSt → Prop} (hI : xI x) (hp : post (some (zI 1)) x y) (hS : xSndF x) (hX : zX Γ ad RX4 cX4_freshCellsAreRight 4) (hN : zN Γ 5 0 0) (hM : zM Γ ad 0 0 (some .boolean) (post) (px)) (hT : zNT Γ) : ∀ (f n : Nat) (i : Int) (o : Option Value), i = n → i ≤ x 0 0 9 → (x 0 0 9).toNat - n < f → zV Γ ad 0 0 x y 11 [some (.ref (ad 0 0)), some (zI (xFr x (x 0 0 9).toNat)), some (zI i), o] [] := by
  intro f
  induction f with
  | zero => intro n i o h1 h2 h3; omega
  | succ f ih =>
    intro n i o h1 h2 h3 
    subst h1
    have hu : ((n + 1 : Nat) : Int) = (n : Int) + 1 := by omega
    have i1 := hI.1
    have w : (n : Int) < x 0 0 9 → _ := fun g => hI.2.2.2.2.2.1 n (by omega) (by omega)
    have v : (n : Int) < x 0 0 9 → _ := fun g => hI.2.2.2.2.1 (x 9 n 4) (by omega) (by omega)
    refine zV_iloadn hX dX4_freshCellsAreRight_11 rfl ?_
    refine zV_aloadn hX dX4_freshCellsAreRight_12 rfl ?_
    refine GF_X4_91 hX  dX4_freshCellsAreRight_13 (fun r13 => ?_)
    refine zV_icmp_ge (tgt := 70) hX dX4_freshCellsAreRight_16 (by decide) (by omega) (by omega) (fun b16 => ?_) (fun b16 => ?_)
    · refine zV_iconst hX dX4_freshCellsAreRight_70 ?_
      exact zV_iret hX hM (by omega) (by omega) (zn_bool (by omega)) dX4_freshCellsAreRight_71 (hp)
    · refine zV_aloadn hX dX4_freshCellsAreRight_19 rfl ?_
      refine GF_X4_24 hX  dX4_freshCellsAreRight_20 ?_
      refine zV_iloadn hX dX4_freshCellsAreRight_23 rfl ?_
      refine AL_5 hX  ⟨by omega, by omega⟩ dX4_freshCellsAreRight_24 ?_
      refine GF_X4_109 hX ⟨by omega, by omega⟩ dX4_freshCellsAreRight_25 (fun r25 => ?_)
      refine zV_istoren3 hX dX4_freshCellsAreRight_28 ?_
      refine zV_iloadn hX dX4_freshCellsAreRight_29 rfl ?_
      refine zV_iloadn hX dX4_freshCellsAreRight_30 rfl ?_
      refine zV_cSS (n := 2) hX rfl hN (c_X4_hasBit (by omega) ) zw_co_yX4_hasBit zw_mX4_189 zw_in_RX4 zw_st_yX4_hasBit ⟨by decide, by decide, by decide +kernel⟩ rfl (by omega) (by decide) (by omega) (by omega) rfl (Nat.le_of_ble_eq_true rfl) dX4_freshCellsAreRight_31 ?_ 
      refine zV_ifeq_b (tgt := 64) hX dX4_freshCellsAreRight_34 (by decide) (fun b34 => ?_) (fun b34 => ?_)
      · refine zV_iinc2 hX dX4_freshCellsAreRight_64 ?_
        refine zV_goto (tgt := 11) hX dX4_freshCellsAreRight_67 (by decide) ?_
        exact ih (n + 1) _ _ hu.symm (by omega) (by omega)
      · refine zV_aloadn hX dX4_freshCellsAreRight_37 rfl ?_
        refine GF_X4_9 hX  dX4_freshCellsAreRight_38 ?_
        refine zV_iloadn hX dX4_freshCellsAreRight_41 rfl ?_
        refine AL_1 hX  ⟨by omega, by omega⟩ dX4_freshCellsAreRight_42 (fun r42 => ?_)
        refine zV_iconst hX dX4_freshCellsAreRight_43 ?_
        refine zV_icmp_eq (tgt := 62) hX dX4_freshCellsAreRight_44 (by decide) (by omega) (by omega) (fun b44 => ?_) (fun b44 => ?_)
        · exact absurd b44 (hS n (by omega) (by omega) b34).1 --done
        · refine zV_aloadn hX dX4_freshCellsAreRight_47 rfl ?_
          refine GF_X4_9 hX  dX4_freshCellsAreRight_48 ?_
          refine zV_iloadn hX dX4_freshCellsAreRight_51 rfl ?_
          refine AL_1 hX  ⟨by omega, by omega⟩ dX4_freshCellsAreRight_52 (fun r52 => ?_)
          refine zV_aloadn hX dX4_freshCellsAreRight_53 rfl ?_
          refine GF_X4_19 hX  dX4_freshCellsAreRight_54 ?_
          refine zV_iloadn hX dX4_freshCellsAreRight_57 rfl ?_
          refine AL_4 hX  ⟨by omega, by omega⟩ dX4_freshCellsAreRight_58 (fun r58 => ?_)
          refine zV_icmp_eq (tgt := 64) hX dX4_freshCellsAreRight_59 (by decide) (by omega) (by omega) (fun b59 => ?_) (fun b59 => ?_)
          · refine zV_iinc2 hX dX4_freshCellsAreRight_64 ?_
            refine zV_goto (tgt := 11) hX dX4_freshCellsAreRight_67 (by decide) ?_
            exact ih (n + 1) _ _ hu.symm (by omega) (by omega)
          · exact absurd (hS n (by omega) (by omega) b34).2 b59 --done
set_option maxRecDepth 100000 in
set_option maxHeartbeats 4000000 in
theorem c_X4_freshCellsAreRight {ad : Nat → Int → Nat} {x y : zSt} (hI : xI x) (hS : xSndF (xCs x)) : zC yX4_freshCellsAreRight cX4_freshCellsAreRight 4 (some .boolean) 5 0 0 [.ref (ad 0 0)] ad x y (zpS 1 (xCs x) y) (zF) := by
  refine zC_ofV (by decide) (by intro v hv; simp only [List.mem_cons, List.not_mem_nil, or_false] at hv; subst hv; rfl) (Nat.le_of_ble_eq_true rfl) (fun Γ hX hN hM hT => ?_)
  show zV Γ ad 0 0 x y 0 [some (.ref (ad 0 0)), none, none, none] []
  refine zV_aloadn hX dX4_freshCellsAreRight_0 rfl ?_
  refine zV_cVV (n := 0) hX rfl hN 0 rfl rfl ⟨by decide, by decide⟩ (c_X4_computeAnew hI) zw_co_yX4_computeAnew zw_mX4_158 zw_in_RX4 zw_im_yX4_computeAnew zw_se_yX4_computeAnew ⟨by decide, by decide, by decide +kernel⟩ rfl (by omega) (by decide) (by omega) (by omega) rfl (Nat.le_of_ble_eq_true rfl) dX4_freshCellsAreRight_1 ?_ 
  have hJ : xI (xCs x) := xI_c (fun k hk i j => xCs_r hk) hI
  have j1 := hJ.1
  refine zV_aloadn hX dX4_freshCellsAreRight_4 rfl ?_
  refine zV_cVS (n := 0) hX rfl hN 0 rfl rfl ⟨by decide, by decide⟩ (c_X4_freshCells hJ) zw_co_yX4_freshCells zw_mX4_163 zw_in_RX4 zw_im_yX4_freshCells zw_se_yX4_freshCells ⟨by decide, by decide, by decide +kernel⟩ rfl (by omega) (by decide) (by omega) (by omega) rfl (Nat.le_of_ble_eq_true rfl) dX4_freshCellsAreRight_5 ?_ 
  refine zV_istoren1 hX dX4_freshCellsAreRight_8 ?_
  refine zV_iconst hX dX4_freshCellsAreRight_9 ?_
  refine zV_istoren2 hX dX4_freshCellsAreRight_10 ?_
  exact lp_X4_freshCellsAreRight hJ ⟨rfl, rfl, rfl⟩ hS hX hN hM hT (((xCs x) 0 0 9).toNat + 1) 0 0 _ rfl (by omega) (by omega)
set_option maxRecDepth 100000 in
set_option maxHeartbeats 4000000 in
theorem lp_X4_kernelsAreRight {ad : Nat → Int → Nat} {x y : zSt} {Γ : zG} {post : Option Value → zSt → zSt → Prop} {px : String → zSt → zSt → Prop} (hI : xI x) (hp : post (some (zI 1)) x y) (hS : xSndK x) (hX : zX Γ ad RX4 cX4_kernelsAreRight 2) (hN : zN Γ 1 0 0) (hM : zM Γ ad 0 0 (some .boolean) (post) (px)) (hT : zNT Γ) : ∀ (f n : Nat) (i : Int), i = n → i ≤ x 0 0 10 → (x 0 0 10).toNat - n < f → zV Γ ad 0 0 x y 2 [some (.ref (ad 0 0)), some (zI i)] [] := by
  intro f
  induction f with
  | zero => intro n i h1 h2 h3; omega
  | succ f ih =>
    intro n i h1 h2 h3 
    subst h1
    have hu : ((n + 1 : Nat) : Int) = (n : Int) + 1 := by omega
    have i2 := hI.2.1
    have qb : (n : Int) ≤ 2 → _ := fun g => hI.2.2.2.2.2.2.2.2.1 n (by omega) g
    refine zV_iloadn hX dX4_kernelsAreRight_2 rfl ?_
    refine zV_aloadn hX dX4_kernelsAreRight_3 rfl ?_
    refine GF_X4_198 hX  dX4_kernelsAreRight_4 (fun r4 => ?_)
    refine zV_icmp_ge (tgt := 43) hX dX4_kernelsAreRight_7 (by decide) (by omega) (by omega) (fun b7 => ?_) (fun b7 => ?_)
    · refine zV_iconst hX dX4_kernelsAreRight_43 ?_
      exact zV_iret hX hM (by omega) (by omega) (zn_bool (by omega)) dX4_kernelsAreRight_44 (hp)
    · refine zV_aloadn hX dX4_kernelsAreRight_10 rfl ?_
      refine GF_X4_30 hX  dX4_kernelsAreRight_11 ?_
      refine zV_iloadn hX dX4_kernelsAreRight_14 rfl ?_
      refine AL_6 hX  ⟨by omega, by omega⟩ dX4_kernelsAreRight_15 ?_
      refine GF_X4_236 hX ⟨by omega, by omega⟩ dX4_kernelsAreRight_16 (fun r16 => ?_)
      refine zV_iconst hX dX4_kernelsAreRight_19 ?_
      refine zV_aloadn hX dX4_kernelsAreRight_20 rfl ?_
      refine GF_X4_30 hX  dX4_kernelsAreRight_21 ?_
      refine zV_iloadn hX dX4_kernelsAreRight_24 rfl ?_
      refine AL_6 hX  ⟨by omega, by omega⟩ dX4_kernelsAreRight_25 ?_
      refine GF_X4_203 hX ⟨by omega, by omega⟩ dX4_kernelsAreRight_26 (fun r26 => ?_)
      refine zV_cSS (n := 3) hX rfl hN (c_X4_isWithin (by have := qb (by omega); omega) (by omega) (by have := qb (by omega); omega)) zw_co_yX4_isWithin zw_mX4_46 zw_in_RX4 zw_st_yX4_isWithin ⟨by decide, by decide, by decide +kernel⟩ rfl (by omega) (by decide) (by omega) (by omega) rfl (Nat.le_of_ble_eq_true rfl) dX4_kernelsAreRight_29 ?_ 
      refine zV_ifne_b (tgt := 37) hX dX4_kernelsAreRight_32 (by decide) (fun b32 => ?_) (fun b32 => ?_)
      · refine zV_iinc1 hX dX4_kernelsAreRight_37 ?_
        refine zV_goto (tgt := 2) hX dX4_kernelsAreRight_40 (by decide) ?_
        exact ih (n + 1) _ hu.symm (by omega) (by omega)
      · exact absurd (hS n (by omega) (by omega)) b32 --done
set_option maxRecDepth 100000 in
set_option maxHeartbeats 4000000 in
theorem c_X4_kernelsAreRight {ad : Nat → Int → Nat} {x y : zSt} (hI : xI x) (hS : xSndK x) : zC yX4_kernelsAreRight cX4_kernelsAreRight 2 (some .boolean) 1 0 0 [.ref (ad 0 0)] ad x y (zpS 1 x y) (zF) := by
  refine zC_ofV (by decide) (by intro v hv; simp only [List.mem_cons, List.not_mem_nil, or_false] at hv; subst hv; rfl) (Nat.le_of_ble_eq_true rfl) (fun Γ hX hN hM hT => ?_)
  show zV Γ ad 0 0 x y 0 [some (.ref (ad 0 0)), none] []
  have i2 := hI.2.1
  refine zV_iconst hX dX4_kernelsAreRight_0 ?_
  refine zV_istoren1 hX dX4_kernelsAreRight_1 ?_
  exact lp_X4_kernelsAreRight hI ⟨rfl, rfl, rfl⟩ hS hX hN hM hT ((x 0 0 10).toNat + 1) 0 0 rfl (by omega) (by omega)
set_option maxRecDepth 100000 in
set_option maxHeartbeats 4000000 in
theorem lp_X4_failuresAreRight {ad : Nat → Int → Nat} {x y : zSt} {Γ : zG} {post : Option Value → zSt → zSt → Prop} {px : String → zSt → zSt → Prop} (hI : xI x) (hp : post (some (zI 1)) x y) (hS : xSndC x) (hR : ∀ c : Int, 0 ≤ c → c < x 0 0 9 → x 9 c 9 = 2 → 0 ≤ x 10 c 1 ∧ x 10 c 1 ≤ 10) (hX : zX Γ ad RX4 cX4_failuresAreRight 3) (hN : zN Γ 1 0 0) (hM : zM Γ ad 0 0 (some .boolean) (post) (px)) (hT : zNT Γ) : ∀ (f n : Nat) (i : Int) (o : Option Value), i = n → i ≤ x 0 0 9 → (x 0 0 9).toNat - n < f → zV Γ ad 0 0 x y 2 [some (.ref (ad 0 0)), some (zI i), o] [] := by
  intro f
  induction f with
  | zero => intro n i o h1 h2 h3; omega
  | succ f ih =>
    intro n i o h1 h2 h3 
    subst h1
    have hu : ((n + 1 : Nat) : Int) = (n : Int) + 1 := by omega
    have i1 := hI.1
    have w7 : (n : Int) < x 0 0 9 → _ := fun g => hI.2.2.2.2.2.2.1 n (by omega) (by omega)
    refine zV_iloadn hX dX4_failuresAreRight_2 rfl ?_
    refine zV_aloadn hX dX4_failuresAreRight_3 rfl ?_
    refine GF_X4_91 hX  dX4_failuresAreRight_4 (fun r4 => ?_)
    refine zV_icmp_ge (tgt := 52) hX dX4_failuresAreRight_7 (by decide) (by omega) (by omega) (fun b7 => ?_) (fun b7 => ?_)
    · refine zV_iconst hX dX4_failuresAreRight_52 ?_
      exact zV_iret hX hM (by omega) (by omega) (zn_bool (by omega)) dX4_failuresAreRight_53 (hp)
    · refine zV_aloadn hX dX4_failuresAreRight_10 rfl ?_
      refine GF_X4_24 hX  dX4_failuresAreRight_11 ?_
      refine zV_iloadn hX dX4_failuresAreRight_14 rfl ?_
      refine AL_5 hX  ⟨by omega, by omega⟩ dX4_failuresAreRight_15 ?_
      refine zV_astoren2 hX dX4_failuresAreRight_16 ?_
      refine zV_aloadn hX dX4_failuresAreRight_17 rfl ?_
      refine GF_X4_152 hX ⟨by omega, by omega⟩ dX4_failuresAreRight_18 (fun r18 => ?_)
      refine zV_iconst hX dX4_failuresAreRight_21 ?_
      refine zV_icmp_ne (tgt := 46) hX dX4_failuresAreRight_22 (by decide) (by omega) (by omega) (fun b22 => ?_) (fun b22 => ?_)
      · refine zV_iinc1 hX dX4_failuresAreRight_46 ?_
        refine zV_goto (tgt := 2) hX dX4_failuresAreRight_49 (by decide) ?_
        exact ih (n + 1) _ _ hu.symm (by omega) (by omega)
      · refine zV_aloadn hX dX4_failuresAreRight_25 rfl ?_
        refine GF_X4_274 hX ⟨by omega, by omega⟩ dX4_failuresAreRight_26 ?_
        refine GF_X4_186 hX ⟨by omega, by omega⟩ dX4_failuresAreRight_29 (fun r29 => ?_)
        refine zV_iloadn hX dX4_failuresAreRight_32 rfl ?_
        refine zV_aloadn hX dX4_failuresAreRight_33 rfl ?_
        refine GF_X4_274 hX ⟨by omega, by omega⟩ dX4_failuresAreRight_34 ?_
        refine GF_X4_180 hX ⟨by omega, by omega⟩ dX4_failuresAreRight_37 (fun r37 => ?_)
        refine zV_isub hX dX4_failuresAreRight_40 ?_
        refine zV_icmp_le (tgt := 46) hX dX4_failuresAreRight_41 (by decide) (by have := w7 (by omega); omega) (by have := hR n (by omega) (by omega) (by omega); omega) (fun b41 => ?_) (fun b41 => ?_)
        · refine zV_iinc1 hX dX4_failuresAreRight_46 ?_
          refine zV_goto (tgt := 2) hX dX4_failuresAreRight_49 (by decide) ?_
          exact ih (n + 1) _ _ hu.symm (by omega) (by omega)
        · exact absurd (hS n (by omega) (by omega) (by omega)) (by omega) --done
set_option maxRecDepth 100000 in
set_option maxHeartbeats 4000000 in
theorem c_X4_failuresAreRight {ad : Nat → Int → Nat} {x y : zSt} (hI : xI x) (hS : xSndC x) (hR : ∀ c : Int, 0 ≤ c → c < x 0 0 9 → x 9 c 9 = 2 → 0 ≤ x 10 c 1 ∧ x 10 c 1 ≤ 10) : zC yX4_failuresAreRight cX4_failuresAreRight 3 (some .boolean) 1 0 0 [.ref (ad 0 0)] ad x y (zpS 1 x y) (zF) := by
  refine zC_ofV (by decide) (by intro v hv; simp only [List.mem_cons, List.not_mem_nil, or_false] at hv; subst hv; rfl) (Nat.le_of_ble_eq_true rfl) (fun Γ hX hN hM hT => ?_)
  show zV Γ ad 0 0 x y 0 [some (.ref (ad 0 0)), none, none] []
  have i1 := hI.1
  refine zV_iconst hX dX4_failuresAreRight_0 ?_
  refine zV_istoren1 hX dX4_failuresAreRight_1 ?_
  exact lp_X4_failuresAreRight hI ⟨rfl, rfl, rfl⟩ hS hR hX hN hM hT ((x 0 0 9).toNat + 1) 0 0 _ rfl (by omega) (by omega)
set_option maxRecDepth 100000 in
set_option maxHeartbeats 4000000 in
theorem c_X4_isSound {ad : Nat → Int → Nat} {x y : zSt} (hI : xI x) (h1 : xSndF (xCs x)) (h2 : xSndK (xCs x)) (h3 : xSndC (xCs x)) (hR : ∀ c : Int, 0 ≤ c → c < (xCs x) 0 0 9 → (xCs x) 9 c 9 = 2 → 0 ≤ (xCs x) 10 c 1 ∧ (xCs x) 10 c 1 ≤ 10) : zC yX4_isSound cX4_isSound 1 (some .boolean) 6 0 0 [.ref (ad 0 0)] ad x y (zpS 1 (xCs x) y) (zF) := by
  refine zC_ofV (by decide) (by intro v hv; simp only [List.mem_cons, List.not_mem_nil, or_false] at hv; subst hv; rfl) (Nat.le_of_ble_eq_true rfl) (fun Γ hX hN hM hT => ?_)
  show zV Γ ad 0 0 x y 0 [some (.ref (ad 0 0))] []
  refine zV_aloadn hX dX4_isSound_0 rfl ?_
  refine zV_cVS (n := 0) hX rfl hN 0 rfl rfl ⟨by decide, by decide⟩ (c_X4_freshCellsAreRight hI h1) zw_co_yX4_freshCellsAreRight zw_mX4_254 zw_in_RX4 zw_im_yX4_freshCellsAreRight zw_se_yX4_freshCellsAreRight ⟨by decide, by decide, by decide +kernel⟩ rfl (by omega) (by decide) (by omega) (by omega) rfl (Nat.le_of_ble_eq_true rfl) dX4_isSound_1 ?_ 
  have hJ : xI (xCs x) := xI_c (fun k hk i j => xCs_r hk) hI
  refine zV_if_eq (tgt := 25) hX dX4_isSound_4 (by decide) (by omega) (fun b4 => ?_) (fun b4 => ?_)
  · exact absurd b4 (by decide) --done
  · refine zV_aloadn hX dX4_isSound_7 rfl ?_
    refine zV_cVS (n := 0) hX rfl hN 0 rfl rfl ⟨by decide, by decide⟩ (c_X4_kernelsAreRight hJ h2) zw_co_yX4_kernelsAreRight zw_mX4_258 zw_in_RX4 zw_im_yX4_kernelsAreRight zw_se_yX4_kernelsAreRight ⟨by decide, by decide, by decide +kernel⟩ rfl (by omega) (by decide) (by omega) (by omega) rfl (Nat.le_of_ble_eq_true rfl) dX4_isSound_8 ?_ 
    refine zV_if_eq (tgt := 25) hX dX4_isSound_11 (by decide) (by omega) (fun b11 => ?_) (fun b11 => ?_)
    · exact absurd b11 (by decide) --done
    · refine zV_aloadn hX dX4_isSound_14 rfl ?_
      refine zV_cVS (n := 0) hX rfl hN 0 rfl rfl ⟨by decide, by decide⟩ (c_X4_failuresAreRight hJ h3 hR) zw_co_yX4_failuresAreRight zw_mX4_261 zw_in_RX4 zw_im_yX4_failuresAreRight zw_se_yX4_failuresAreRight ⟨by decide, by decide, by decide +kernel⟩ rfl (by omega) (by decide) (by omega) (by omega) rfl (Nat.le_of_ble_eq_true rfl) dX4_isSound_15 ?_ 
      refine zV_if_eq (tgt := 25) hX dX4_isSound_18 (by decide) (by omega) (fun b18 => ?_) (fun b18 => ?_)
      · exact absurd b18 (by decide) --done
      · refine zV_iconst hX dX4_isSound_21 ?_
        refine zV_goto (tgt := 26) hX dX4_isSound_22 (by decide) ?_
        exact zV_iret hX hM (by omega) (by omega) (zn_bool (by omega)) dX4_isSound_26 (⟨rfl, rfl, rfl⟩)
