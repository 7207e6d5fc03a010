set_option maxRecDepth 100000 in
set_option maxHeartbeats 4000000 in
theorem c_X4_lineageThrough {ad : Nat → Int → Nat} {x y : zSt} {v : Int} (hv : 0 ≤ v ∧ v ≤ 11) (hw : -1 ≤ x 3 0 v ∧ x 3 0 v ≤ 10) : zC yX4_lineageThrough cX4_lineageThrough 3 (some .int) 2 0 0 [.ref (ad 0 0), zI v] ad x y (zpS (xLin x v) x y) (zF) := by
  refine zC_ofV (by decide) (by intro v hv; simp only [List.mem_cons, List.not_mem_nil, or_false] at hv; rcases hv with rfl | rfl <;> rfl) (Nat.le_of_ble_eq_true rfl) (fun Γ hX hN hM hT => ?_)
  show zV Γ ad 0 0 x y 0 [some (.ref (ad 0 0)), some (zI v), none] []
  refine zV_aloadn hX dX4_lineageThrough_0 rfl ?_
  refine GF_X4_16 hX  dX4_lineageThrough_1 ?_
  refine zV_iloadn hX dX4_lineageThrough_4 rfl ?_
  refine AL_3 hX  ⟨by omega, by omega⟩ dX4_lineageThrough_5 (fun r5 => ?_)
  refine zV_istoren2 hX dX4_lineageThrough_6 ?_
  refine zV_iloadn hX dX4_lineageThrough_7 rfl ?_
  refine zV_cSS (n := 1) hX rfl hN (c_X4_bit (by omega) ) zw_co_yX4_bit zw_mX4_144 zw_in_RX4 zw_st_yX4_bit ⟨by decide, by decide, by decide +kernel⟩ rfl (by omega) (by decide) (by omega) (by omega) rfl (Nat.le_of_ble_eq_true rfl) dX4_lineageThrough_8 ?_ 
  refine zV_iloadn hX dX4_lineageThrough_11 rfl ?_
  refine zV_iconst hX dX4_lineageThrough_12 ?_
  refine zV_icmp_ne (tgt := 20) hX dX4_lineageThrough_13 (by decide) (by omega) (by omega) (fun b13 => ?_) (fun b13 => ?_)
  · refine zV_aloadn hX dX4_lineageThrough_20 rfl ?_
    refine GF_X4_24 hX  dX4_lineageThrough_21 ?_
    refine zV_iloadn hX dX4_lineageThrough_24 rfl ?_
    refine AL_5 hX  ⟨by omega, by omega⟩ dX4_lineageThrough_25 ?_
    refine GF_X4_122 hX ⟨by omega, by omega⟩ dX4_lineageThrough_26 (fun r26 => ?_)
    refine zV_ior hX dX4_lineageThrough_29 ?_
    exact zV_iret hX hM (by omega) (by omega) rfl dX4_lineageThrough_30 (zpS_i (by unfold xLin; first | rw [if_pos (by omega)] | rw [if_neg (by omega)]))
  · refine zV_iconst hX dX4_lineageThrough_16 ?_
    refine zV_goto (tgt := 29) hX dX4_lineageThrough_17 (by decide) ?_
    refine zV_ior hX dX4_lineageThrough_29 ?_
    exact zV_iret hX hM (by omega) (by omega) rfl dX4_lineageThrough_30 (zpS_i (by unfold xLin; first | rw [if_pos (by omega)] | rw [if_neg (by omega)]))
set_option maxRecDepth 100000 in
set_option maxHeartbeats 4000000 in
theorem c_X4_isAsThen {ad : Nat → Int → Nat} {x y : zSt} {v w S : Int} (hv : 0 ≤ v ∧ v ≤ 11) (hw : zR w) (hI : xI x) : zC yX4_isAsThen cX4_isAsThen 5 (some .boolean) 2 0 0 [.ref (ad 0 0), zI v, zI w, zI S] ad x y (zpS (zb (xAst x v w S)) x y) (zF) := by
  refine zC_ofV (by decide) (by intro v hv; simp only [List.mem_cons, List.not_mem_nil, or_false] at hv; rcases hv with rfl | rfl | rfl | rfl <;> rfl) (Nat.le_of_ble_eq_true rfl) (fun Γ hX hN hM hT => ?_)
  show zV Γ ad 0 0 x y 0 [some (.ref (ad 0 0)), some (zI v), some (zI w), some (zI S), none] []
  obtain ⟨i1, i2, i3, i4, i5, i6, i7, i8, i9, i10, i11⟩ := hI
  have w1 := i5 v hv.1 hv.2
  refine zV_aloadn hX dX4_isAsThen_0 rfl ?_
  refine GF_X4_16 hX  dX4_isAsThen_1 ?_
  refine zV_iloadn hX dX4_isAsThen_4 rfl ?_
  refine AL_3 hX  ⟨by omega, by omega⟩ dX4_isAsThen_5 (fun r5 => ?_)
  refine zV_istore4 hX dX4_isAsThen_6 ?_
  refine zV_aloadn hX dX4_isAsThen_8 rfl ?_
  refine GF_X4_9 hX  dX4_isAsThen_9 ?_
  refine zV_iloadn hX dX4_isAsThen_12 rfl ?_
  refine AL_1 hX  ⟨by omega, by omega⟩ dX4_isAsThen_13 (fun r13 => ?_)
  refine zV_iloadn hX dX4_isAsThen_14 rfl ?_
  refine zV_icmp_ne (tgt := 37) hX dX4_isAsThen_15 (by decide) (by omega) (by omega) (fun b15 => ?_) (fun b15 => ?_)
  · refine zV_iconst hX dX4_isAsThen_37 ?_
    exact zV_iret hX hM (by omega) (by omega) (zn_bool (by omega)) dX4_isAsThen_38 (zpS_i (by first | exact (zb_t ⟨by omega, by first | exact Or.inl (by omega) | exact Or.inr b30⟩).symm | exact (zb_f (fun q => by first | omega | exact (q.2.elim (fun h => by omega) (fun h => b30 h)))).symm))
  · refine zV_iload hX dX4_isAsThen_18 rfl ?_
    refine zV_iconst hX dX4_isAsThen_20 ?_
    refine zV_icmp_eq (tgt := 33) hX dX4_isAsThen_21 (by decide) (by omega) (by omega) (fun b21 => ?_) (fun b21 => ?_)
    · refine zV_iconst hX dX4_isAsThen_33 ?_
      refine zV_goto (tgt := 38) hX dX4_isAsThen_34 (by decide) ?_
      exact zV_iret hX hM (by omega) (by omega) (zn_bool (by omega)) dX4_isAsThen_38 (zpS_i (by first | exact (zb_t ⟨by omega, by first | exact Or.inl (by omega) | exact Or.inr b30⟩).symm | exact (zb_f (fun q => by first | omega | exact (q.2.elim (fun h => by omega) (fun h => b30 h)))).symm))
    · refine zV_iloadn hX dX4_isAsThen_24 rfl ?_
      refine zV_iload hX dX4_isAsThen_25 rfl ?_
      refine zV_cSS (n := 2) hX rfl hN (c_X4_hasBit (by omega) ) zw_co_yX4_hasBit zw_mX4_189 zw_in_RX4 zw_st_yX4_hasBit ⟨by decide, by decide, by decide +kernel⟩ rfl (by omega) (by decide) (by omega) (by omega) rfl (Nat.le_of_ble_eq_true rfl) dX4_isAsThen_27 ?_ 
      refine zV_ifeq_b (tgt := 37) hX dX4_isAsThen_30 (by decide) (fun b30 => ?_) (fun b30 => ?_)
      · refine zV_iconst hX dX4_isAsThen_37 ?_
        exact zV_iret hX hM (by omega) (by omega) (zn_bool (by omega)) dX4_isAsThen_38 (zpS_i (by first | exact (zb_t ⟨by omega, by first | exact Or.inl (by omega) | exact Or.inr b30⟩).symm | exact (zb_f (fun q => by first | omega | exact (q.2.elim (fun h => by omega) (fun h => b30 h)))).symm))
      · refine zV_iconst hX dX4_isAsThen_33 ?_
        refine zV_goto (tgt := 38) hX dX4_isAsThen_34 (by decide) ?_
        exact zV_iret hX hM (by omega) (by omega) (zn_bool (by omega)) dX4_isAsThen_38 (zpS_i (by first | exact (zb_t ⟨by omega, by first | exact Or.inl (by omega) | exact Or.inr b30⟩).symm | exact (zb_f (fun q => by first | omega | exact (q.2.elim (fun h => by omega) (fun h => b30 h)))).symm))
set_option maxRecDepth 100000 in
set_option maxHeartbeats 4000000 in
theorem c_X4_isUpToDate {ad : Nat → Int → Nat} {x y : zSt} {c S : Int} (hc : 0 ≤ c ∧ c < x 0 0 9) (hI : xI x) : zC yX4_isUpToDate cX4_isUpToDate 3 (some .boolean) 3 0 0 [.ref (ad 0 0), .ref (ad 9 c), zI S] ad x y (zpS (zb (xUp x c S)) x y) (zF) := by
  refine zC_ofV (by decide) (by intro v hv; simp only [List.mem_cons, List.not_mem_nil, or_false] at hv; rcases hv with rfl | rfl | rfl <;> rfl) (Nat.le_of_ble_eq_true rfl) (fun Γ hX hN hM hT => ?_)
  show zV Γ ad 0 0 x y 0 [some (.ref (ad 0 0)), some (.ref (ad 9 c)), some (zI S)] []
  obtain ⟨i1, i2, i3, i4, i5, i6, i7, i8, i9, i10, i11⟩ := id hI
  have w1 := i6 c hc.1 hc.2
  refine zV_aloadn hX dX4_isUpToDate_0 rfl ?_
  refine GF_X4_152 hX ⟨by omega, by omega⟩ dX4_isUpToDate_1 (fun r1 => ?_)
  refine zV_iconst hX dX4_isUpToDate_4 ?_
  refine zV_icmp_ne (tgt := 63) hX dX4_isUpToDate_5 (by decide) (by omega) (by omega) (fun b5 => ?_) (fun b5 => ?_)
  · refine zV_iconst hX dX4_isUpToDate_63 ?_
    exact zV_iret hX hM (by omega) (by omega) (zn_bool (by omega)) dX4_isUpToDate_64 (zpS_i (by first | exact (zb_t ⟨by omega, by omega, by assumption, by first | exact Or.inl (by omega) | exact Or.inr (by assumption)⟩).symm | exact (zb_f (fun q => by first | exact b5 q.1 | exact b16 q.2.1 | exact b32 q.2.2.1 | exact (q.2.2.2.elim b40 b56))).symm))
  · refine zV_aloadn hX dX4_isUpToDate_8 rfl ?_
    refine GF_X4_106 hX ⟨by omega, by omega⟩ dX4_isUpToDate_9 (fun r9 => ?_)
    refine zV_aloadn hX dX4_isUpToDate_12 rfl ?_
    refine GF_X4_278 hX ⟨by omega, by omega⟩ dX4_isUpToDate_13 (fun r13 => ?_)
    refine zV_icmp_ne (tgt := 63) hX dX4_isUpToDate_16 (by decide) (by omega) (by omega) (fun b16 => ?_) (fun b16 => ?_)
    · refine zV_iconst hX dX4_isUpToDate_63 ?_
      exact zV_iret hX hM (by omega) (by omega) (zn_bool (by omega)) dX4_isUpToDate_64 (zpS_i (by first | exact (zb_t ⟨by omega, by omega, by assumption, by first | exact Or.inl (by omega) | exact Or.inr (by assumption)⟩).symm | exact (zb_f (fun q => by first | exact b5 q.1 | exact b16 q.2.1 | exact b32 q.2.2.1 | exact (q.2.2.2.elim b40 b56))).symm))
    · refine zV_aloadn hX dX4_isUpToDate_19 rfl ?_
      refine zV_aloadn hX dX4_isUpToDate_20 rfl ?_
      refine GF_X4_100 hX ⟨by omega, by omega⟩ dX4_isUpToDate_21 (fun r21 => ?_)
      refine zV_aloadn hX dX4_isUpToDate_24 rfl ?_
      refine GF_X4_281 hX ⟨by omega, by omega⟩ dX4_isUpToDate_25 (fun r25 => ?_)
      refine zV_iloadn hX dX4_isUpToDate_28 rfl ?_
      refine zV_cVS (n := 3) hX rfl hN 0 rfl rfl ⟨by decide, by decide⟩ (c_X4_isAsThen (by omega) (by omega) hI) zw_co_yX4_isAsThen zw_mX4_284 zw_in_RX4 zw_im_yX4_isAsThen zw_se_yX4_isAsThen ⟨by decide, by decide, by decide +kernel⟩ rfl (by omega) (by decide) (by omega) (by omega) rfl (Nat.le_of_ble_eq_true rfl) dX4_isUpToDate_29 ?_ 
      refine zV_ifeq_b (tgt := 63) hX dX4_isUpToDate_32 (by decide) (fun b32 => ?_) (fun b32 => ?_)
      · refine zV_iconst hX dX4_isUpToDate_63 ?_
        exact zV_iret hX hM (by omega) (by omega) (zn_bool (by omega)) dX4_isUpToDate_64 (zpS_i (by first | exact (zb_t ⟨by omega, by omega, by assumption, by first | exact Or.inl (by omega) | exact Or.inr (by assumption)⟩).symm | exact (zb_f (fun q => by first | exact b5 q.1 | exact b16 q.2.1 | exact b32 q.2.2.1 | exact (q.2.2.2.elim b40 b56))).symm))
      · refine zV_aloadn hX dX4_isUpToDate_35 rfl ?_
        refine GF_X4_103 hX ⟨by omega, by omega⟩ dX4_isUpToDate_36 (fun r36 => ?_)
        refine zV_iconst hX dX4_isUpToDate_39 ?_
        refine zV_icmp_eq (tgt := 59) hX dX4_isUpToDate_40 (by decide) (by omega) (by omega) (fun b40 => ?_) (fun b40 => ?_)
        · refine zV_iconst hX dX4_isUpToDate_59 ?_
          refine zV_goto (tgt := 64) hX dX4_isUpToDate_60 (by decide) ?_
          exact zV_iret hX hM (by omega) (by omega) (zn_bool (by omega)) dX4_isUpToDate_64 (zpS_i (by first | exact (zb_t ⟨by omega, by omega, by assumption, by first | exact Or.inl (by omega) | exact Or.inr (by assumption)⟩).symm | exact (zb_f (fun q => by first | exact b5 q.1 | exact b16 q.2.1 | exact b32 q.2.2.1 | exact (q.2.2.2.elim b40 b56))).symm))
        · refine zV_aloadn hX dX4_isUpToDate_43 rfl ?_
          refine zV_aloadn hX dX4_isUpToDate_44 rfl ?_
          refine GF_X4_103 hX ⟨by omega, by omega⟩ dX4_isUpToDate_45 (fun r45 => ?_)
          refine zV_aloadn hX dX4_isUpToDate_48 rfl ?_
          refine GF_X4_287 hX ⟨by omega, by omega⟩ dX4_isUpToDate_49 (fun r49 => ?_)
          refine zV_iloadn hX dX4_isUpToDate_52 rfl ?_
          refine zV_cVS (n := 3) hX rfl hN 0 rfl rfl ⟨by decide, by decide⟩ (c_X4_isAsThen (by omega) (by omega) hI) zw_co_yX4_isAsThen zw_mX4_284 zw_in_RX4 zw_im_yX4_isAsThen zw_se_yX4_isAsThen ⟨by decide, by decide, by decide +kernel⟩ rfl (by omega) (by decide) (by omega) (by omega) rfl (Nat.le_of_ble_eq_true rfl) dX4_isUpToDate_53 ?_ 
          refine zV_ifeq_b (tgt := 63) hX dX4_isUpToDate_56 (by decide) (fun b56 => ?_) (fun b56 => ?_)
          · refine zV_iconst hX dX4_isUpToDate_63 ?_
            exact zV_iret hX hM (by omega) (by omega) (zn_bool (by omega)) dX4_isUpToDate_64 (zpS_i (by first | exact (zb_t ⟨by omega, by omega, by assumption, by first | exact Or.inl (by omega) | exact Or.inr (by assumption)⟩).symm | exact (zb_f (fun q => by first | exact b5 q.1 | exact b16 q.2.1 | exact b32 q.2.2.1 | exact (q.2.2.2.elim b40 b56))).symm))
          · refine zV_iconst hX dX4_isUpToDate_59 ?_
            refine zV_goto (tgt := 64) hX dX4_isUpToDate_60 (by decide) ?_
            exact zV_iret hX hM (by omega) (by omega) (zn_bool (by omega)) dX4_isUpToDate_64 (zpS_i (by first | exact (zb_t ⟨by omega, by omega, by assumption, by first | exact Or.inl (by omega) | exact Or.inr (by assumption)⟩).symm | exact (zb_f (fun q => by first | exact b5 q.1 | exact b16 q.2.1 | exact b32 q.2.2.1 | exact (q.2.2.2.elim b40 b56))).symm))
set_option maxRecDepth 100000 in
set_option maxHeartbeats 4000000 in
theorem lp_X4_freshCells {ad : Nat → Int → Nat} {x y : zSt} {Γ : zG} (hX : zX Γ ad RX4 cX4_freshCells 3) (hN : zN Γ 4 0 0) (hM : zM Γ ad 0 0 (some .int) (zpS (xFr x (x 0 0 9).toNat) x y) zF) (hT : zNT Γ) (hI : xI x) : ∀ (k n : Nat) (i S : Int), i = n → i ≤ x 0 0 9 → (x 0 0 9).toNat - n < k → S = xFr x n → zV Γ ad 0 0 x y 4 [some (.ref (ad 0 0)), some (zI S), some (zI i)] [] := by
  intro k
  induction k with
  | zero => intro n i S h1 h2 h3 h4; omega
  | succ k ih =>
    intro n i S h1 h2 h3 h4
    obtain ⟨i1, i2, i3, i4, i5, i6, i7, i8, i9, i10, i11⟩ := id hI
    refine zV_iloadn hX dX4_freshCells_4 rfl ?_
    refine zV_aloadn hX dX4_freshCells_5 rfl ?_
    refine GF_X4_91 hX  dX4_freshCells_6 (fun r6 => ?_)
    refine zV_icmp_ge (tgt := 39) hX dX4_freshCells_9 (by decide) (by omega) (by omega) (fun b9 => ?_) (fun b9 => ?_)
    · refine zV_iloadn hX dX4_freshCells_39 rfl ?_
      exact zV_iret hX hM (by omega) (by omega) rfl dX4_freshCells_40 (zpS_i (by rw [h4]; congr 1; omega))
    · refine zV_aloadn hX dX4_freshCells_12 rfl ?_
      refine zV_aloadn hX dX4_freshCells_13 rfl ?_
      refine GF_X4_24 hX  dX4_freshCells_14 ?_
      refine zV_iloadn hX dX4_freshCells_17 rfl ?_
      refine AL_5 hX  ⟨by omega, by omega⟩ dX4_freshCells_18 ?_
      refine zV_iloadn hX dX4_freshCells_19 rfl ?_
      refine zV_cVS (n := 2) hX rfl hN 0 rfl rfl ⟨by decide, by decide⟩ (c_X4_isUpToDate ⟨by omega, by omega⟩ hI) zw_co_yX4_isUpToDate zw_mX4_140 zw_in_RX4 zw_im_yX4_isUpToDate zw_se_yX4_isUpToDate ⟨by decide, by decide, by decide +kernel⟩ rfl (by omega) (by decide) (by omega) (by omega) rfl (Nat.le_of_ble_eq_true rfl) dX4_freshCells_20 ?_ 
      refine zV_ifeq_b (tgt := 33) hX dX4_freshCells_23 (by decide) (fun b23 => ?_) (fun b23 => ?_)
      · refine zV_iinc2 hX dX4_freshCells_33 ?_
        refine zV_goto (tgt := 4) hX dX4_freshCells_36 (by decide) ?_
        exact ih (n + 1) (i + 1) _ (by omega) (by omega) (by omega) (by rw [h4, h1] at *; simp only [xFr]; first | rw [if_pos (by assumption)] | rw [if_neg (by assumption)])
      · refine zV_iloadn hX dX4_freshCells_26 rfl ?_
        refine zV_iloadn hX dX4_freshCells_27 rfl ?_
        refine zV_cSS (n := 1) hX rfl hN (c_X4_bit (by omega) ) zw_co_yX4_bit zw_mX4_144 zw_in_RX4 zw_st_yX4_bit ⟨by decide, by decide, by decide +kernel⟩ rfl (by omega) (by decide) (by omega) (by omega) rfl (Nat.le_of_ble_eq_true rfl) dX4_freshCells_28 ?_ 
        refine zV_ior hX dX4_freshCells_31 ?_
        refine zV_istoren1 hX dX4_freshCells_32 ?_
        refine zV_iinc2 hX dX4_freshCells_33 ?_
        refine zV_goto (tgt := 4) hX dX4_freshCells_36 (by decide) ?_
        exact ih (n + 1) (i + 1) _ (by omega) (by omega) (by omega) (by rw [h4, h1] at *; simp only [xFr]; first | rw [if_pos (by assumption)] | rw [if_neg (by assumption)])
set_option maxRecDepth 100000 in
set_option maxHeartbeats 4000000 in
theorem c_X4_freshCells {ad : Nat → Int → Nat} {x y : zSt} (hI : xI x) : zC yX4_freshCells cX4_freshCells 3 (some .int) 4 0 0 [.ref (ad 0 0)] ad x y (zpS (xFr x (x 0 0 9).toNat) x y) (zF) := by
  refine zC_ofV (by decide) (by intro v hv; simp only [List.mem_cons, List.not_mem_nil, or_false] at hv; subst hv; rfl) (Nat.le_of_ble_eq_true rfl) (fun Γ hX hN hM hT => ?_)
  show zV Γ ad 0 0 x y 0 [some (.ref (ad 0 0)), none, none] []
  refine zV_iconst hX dX4_freshCells_0 ?_
  refine zV_istoren1 hX dX4_freshCells_1 ?_
  refine zV_iconst hX dX4_freshCells_2 ?_
  refine zV_istoren2 hX dX4_freshCells_3 ?_
  exact lp_X4_freshCells hX hN hM hT hI ((x 0 0 9).toNat + 1) 0 0 0 rfl hI.1.1 (by omega) rfl
set_option maxRecDepth 100000 in
set_option maxHeartbeats 4000000 in
theorem c_X4_isFresh {ad : Nat → Int → Nat} {x y : zSt} {c : Int} (hc : zR c) (hI : xI x) : zC yX4_isFresh cX4_isFresh 2 (some .boolean) 5 0 0 [.ref (ad 0 0), zI c] ad x y (zpS (zb (zand (xFr x (x 0 0 9).toNat) (zshl 1 c) ≠ 0)) x y) (zF) := by
  refine zC_ofV (by decide) (by intro v hv; simp only [List.mem_cons, List.not_mem_nil, or_false] at hv; rcases hv with rfl | rfl <;> rfl) (Nat.le_of_ble_eq_true rfl) (fun Γ hX hN hM hT => ?_)
  show zV Γ ad 0 0 x y 0 [some (.ref (ad 0 0)), some (zI c)] []
  refine zV_aloadn hX dX4_isFresh_0 rfl ?_
  refine zV_cVS (n := 0) hX rfl hN 0 rfl rfl ⟨by decide, by decide⟩ (c_X4_freshCells hI) zw_co_yX4_freshCells zw_mX4_163 zw_in_RX4 zw_im_yX4_freshCells zw_se_yX4_freshCells ⟨by decide, by decide, by decide +kernel⟩ rfl (by omega) (by decide) (by omega) (by omega) rfl (Nat.le_of_ble_eq_true rfl) dX4_isFresh_1 ?_ 
  refine zV_iloadn hX dX4_isFresh_4 rfl ?_
  refine zV_cSS (n := 2) hX rfl hN (c_X4_hasBit hc) zw_co_yX4_hasBit zw_mX4_189 zw_in_RX4 zw_st_yX4_hasBit ⟨by decide, by decide, by decide +kernel⟩ rfl (by omega) (by decide) (by omega) (by omega) rfl (Nat.le_of_ble_eq_true rfl) dX4_isFresh_5 ?_ 
  exact zV_iret hX hM (by omega) (by omega) zn_b dX4_isFresh_8 (zpS_i (by first | rfl | exact (zb_t (by omega)).symm | exact (zb_f (by omega)).symm))
set_option maxRecDepth 100000 in
set_option maxHeartbeats 4000000 in
theorem c_X4_firstMissing_v {ad : Nat → Int → Nat} {x y : zSt} {c : Int} (hc : 0 ≤ c ∧ c < x 0 0 9) (hI : xI x) : zC yX4_firstMissing cX4_firstMissing 2 (some .int) 0 0 0 [.ref (ad 9 c), .ref (ad 1 0)] ad x y (zpS (xFm x 1 c) x y) (zF) := by
  refine zC_ofV (by decide) (by intro v hv; simp only [List.mem_cons, List.not_mem_nil, or_false] at hv; rcases hv with rfl | rfl <;> rfl) (Nat.le_of_ble_eq_true rfl) (fun Γ hX hN hM hT => ?_)
  show zV Γ ad 0 0 x y 0 [some (.ref (ad 9 c)), some (.ref (ad 1 0))] []
  obtain ⟨i1, i2, i3, i4, i5, i6, i7, i8, i9, i10, i11⟩ := hI
  have w1 := i6 c hc.1 hc.2
  refine zV_aloadn hX dX4_firstMissing_0 rfl ?_
  refine zV_aloadn hX dX4_firstMissing_1 rfl ?_
  refine GF_X4_100 hX ⟨by omega, by omega⟩ dX4_firstMissing_2 (fun r2 => ?_)
  refine AL_1 hX  ⟨by omega, by omega⟩ dX4_firstMissing_5 (fun r5 => ?_)
  refine zV_iconst hX dX4_firstMissing_6 ?_
  refine zV_icmp_ne (tgt := 15) hX dX4_firstMissing_7 (by decide) (by omega) (by omega) (fun b7 => ?_) (fun b7 => ?_)
  · refine zV_aloadn hX dX4_firstMissing_15 rfl ?_
    refine GF_X4_103 hX ⟨by omega, by omega⟩ dX4_firstMissing_16 (fun r16 => ?_)
    refine zV_iconst hX dX4_firstMissing_19 ?_
    refine zV_icmp_eq (tgt := 38) hX dX4_firstMissing_20 (by decide) (by omega) (by omega) (fun b20 => ?_) (fun b20 => ?_)
    · refine zV_iconst hX dX4_firstMissing_38 ?_
      exact zV_iret hX hM (by omega) (by omega) rfl dX4_firstMissing_39 (zpS_i (by unfold xFm; first | rw [if_pos (by omega)] | rw [if_neg (by omega), if_pos (by omega)] | rw [if_neg (by omega), if_neg (by omega)]))
    · refine zV_aloadn hX dX4_firstMissing_23 rfl ?_
      refine zV_aloadn hX dX4_firstMissing_24 rfl ?_
      refine GF_X4_103 hX ⟨by omega, by omega⟩ dX4_firstMissing_25 (fun r25 => ?_)
      refine AL_1 hX  ⟨by omega, by omega⟩ dX4_firstMissing_28 (fun r28 => ?_)
      refine zV_iconst hX dX4_firstMissing_29 ?_
      refine zV_icmp_ne (tgt := 38) hX dX4_firstMissing_30 (by decide) (by omega) (by omega) (fun b30 => ?_) (fun b30 => ?_)
      · refine zV_iconst hX dX4_firstMissing_38 ?_
        exact zV_iret hX hM (by omega) (by omega) rfl dX4_firstMissing_39 (zpS_i (by unfold xFm; first | rw [if_pos (by omega)] | rw [if_neg (by omega), if_pos (by omega)] | rw [if_neg (by omega), if_neg (by omega)]))
      · refine zV_aloadn hX dX4_firstMissing_33 rfl ?_
        refine GF_X4_103 hX ⟨by omega, by omega⟩ dX4_firstMissing_34 (fun r34 => ?_)
        exact zV_iret hX hM (by omega) (by omega) rfl dX4_firstMissing_37 (zpS_i (by unfold xFm; first | rw [if_pos (by omega)] | rw [if_neg (by omega), if_pos (by omega)] | rw [if_neg (by omega), if_neg (by omega)]))
  · refine zV_aloadn hX dX4_firstMissing_10 rfl ?_
    refine GF_X4_100 hX ⟨by omega, by omega⟩ dX4_firstMissing_11 (fun r11 => ?_)
    exact zV_iret hX hM (by omega) (by omega) rfl dX4_firstMissing_14 (zpS_i (by unfold xFm; first | rw [if_pos (by omega)] | rw [if_neg (by omega), if_pos (by omega)] | rw [if_neg (by omega), if_neg (by omega)]))
set_option maxRecDepth 100000 in
set_option maxHeartbeats 4000000 in
theorem c_X4_valueIfAny_v {ad : Nat → Int → Nat} {x y : zSt} {v : Int} (hv : -1 ≤ v ∧ v ≤ 11) : zC yX4_valueIfAny cX4_valueIfAny 2 (some .int) 0 0 0 [zI v, .ref (ad 1 0)] ad x y (zpS (xVa x 1 v) x y) (zF) := by
  refine zC_ofV (by decide) (by intro v hv; simp only [List.mem_cons, List.not_mem_nil, or_false] at hv; rcases hv with rfl | rfl <;> rfl) (Nat.le_of_ble_eq_true rfl) (fun Γ hX hN hM hT => ?_)
  show zV Γ ad 0 0 x y 0 [some (zI v), some (.ref (ad 1 0))] []
  refine zV_iloadn hX dX4_valueIfAny_0 rfl ?_
  refine zV_iconst hX dX4_valueIfAny_1 ?_
  refine zV_icmp_ne (tgt := 9) hX dX4_valueIfAny_2 (by decide) (by omega) (by omega) (fun b2 => ?_) (fun b2 => ?_)
  · refine zV_aloadn hX dX4_valueIfAny_9 rfl ?_
    refine zV_iloadn hX dX4_valueIfAny_10 rfl ?_
    refine AL_1 hX  ⟨by omega, by omega⟩ dX4_valueIfAny_11 (fun r11 => ?_)
    exact zV_iret hX hM (by omega) (by omega) rfl dX4_valueIfAny_12 (zpS_i (by unfold xVa; first | rw [if_pos (by omega)] | rw [if_neg (by omega)]))
  · refine zV_iconst hX dX4_valueIfAny_5 ?_
    refine zV_goto (tgt := 12) hX dX4_valueIfAny_6 (by decide) ?_
    exact zV_iret hX hM (by omega) (by omega) rfl dX4_valueIfAny_12 (zpS_i (by unfold xVa; first | rw [if_pos (by omega)] | rw [if_neg (by omega)]))
set_option maxRecDepth 100000 in
set_option maxHeartbeats 4000000 in
theorem c_X4_firstMissing_a {ad : Nat → Int → Nat} {x y : zSt} {c : Int} (hc : 0 ≤ c ∧ c < x 0 0 9) (hI : xI x) : zC yX4_firstMissing cX4_firstMissing 2 (some .int) 0 0 0 [.ref (ad 9 c), .ref (ad 4 0)] ad x y (zpS (xFm x 4 c) x y) (zF) := by
  refine zC_ofV (by decide) (by intro v hv; simp only [List.mem_cons, List.not_mem_nil, or_false] at hv; rcases hv with rfl | rfl <;> rfl) (Nat.le_of_ble_eq_true rfl) (fun Γ hX hN hM hT => ?_)
  show zV Γ ad 0 0 x y 0 [some (.ref (ad 9 c)), some (.ref (ad 4 0))] []
  obtain ⟨i1, i2, i3, i4, i5, i6, i7, i8, i9, i10, i11⟩ := hI
  have w1 := i6 c hc.1 hc.2
  refine zV_aloadn hX dX4_firstMissing_0 rfl ?_
  refine zV_aloadn hX dX4_firstMissing_1 rfl ?_
  refine GF_X4_100 hX ⟨by omega, by omega⟩ dX4_firstMissing_2 (fun r2 => ?_)
  refine AL_4 hX  ⟨by omega, by omega⟩ dX4_firstMissing_5 (fun r5 => ?_)
  refine zV_iconst hX dX4_firstMissing_6 ?_
  refine zV_icmp_ne (tgt := 15) hX dX4_firstMissing_7 (by decide) (by omega) (by omega) (fun b7 => ?_) (fun b7 => ?_)
  · refine zV_aloadn hX dX4_firstMissing_15 rfl ?_
    refine GF_X4_103 hX ⟨by omega, by omega⟩ dX4_firstMissing_16 (fun r16 => ?_)
    refine zV_iconst hX dX4_firstMissing_19 ?_
    refine zV_icmp_eq (tgt := 38) hX dX4_firstMissing_20 (by decide) (by omega) (by omega) (fun b20 => ?_) (fun b20 => ?_)
    · refine zV_iconst hX dX4_firstMissing_38 ?_
      exact zV_iret hX hM (by omega) (by omega) rfl dX4_firstMissing_39 (zpS_i (by unfold xFm; first | rw [if_pos (by omega)] | rw [if_neg (by omega), if_pos (by omega)] | rw [if_neg (by omega), if_neg (by omega)]))
    · refine zV_aloadn hX dX4_firstMissing_23 rfl ?_
      refine zV_aloadn hX dX4_firstMissing_24 rfl ?_
      refine GF_X4_103 hX ⟨by omega, by omega⟩ dX4_firstMissing_25 (fun r25 => ?_)
      refine AL_4 hX  ⟨by omega, by omega⟩ dX4_firstMissing_28 (fun r28 => ?_)
      refine zV_iconst hX dX4_firstMissing_29 ?_
      refine zV_icmp_ne (tgt := 38) hX dX4_firstMissing_30 (by decide) (by omega) (by omega) (fun b30 => ?_) (fun b30 => ?_)
      · refine zV_iconst hX dX4_firstMissing_38 ?_
        exact zV_iret hX hM (by omega) (by omega) rfl dX4_firstMissing_39 (zpS_i (by unfold xFm; first | rw [if_pos (by omega)] | rw [if_neg (by omega), if_pos (by omega)] | rw [if_neg (by omega), if_neg (by omega)]))
      · refine zV_aloadn hX dX4_firstMissing_33 rfl ?_
        refine GF_X4_103 hX ⟨by omega, by omega⟩ dX4_firstMissing_34 (fun r34 => ?_)
        exact zV_iret hX hM (by omega) (by omega) rfl dX4_firstMissing_37 (zpS_i (by unfold xFm; first | rw [if_pos (by omega)] | rw [if_neg (by omega), if_pos (by omega)] | rw [if_neg (by omega), if_neg (by omega)]))
  · refine zV_aloadn hX dX4_firstMissing_10 rfl ?_
    refine GF_X4_100 hX ⟨by omega, by omega⟩ dX4_firstMissing_11 (fun r11 => ?_)
    exact zV_iret hX hM (by omega) (by omega) rfl dX4_firstMissing_14 (zpS_i (by unfold xFm; first | rw [if_pos (by omega)] | rw [if_neg (by omega), if_pos (by omega)] | rw [if_neg (by omega), if_neg (by omega)]))
set_option maxRecDepth 100000 in
set_option maxHeartbeats 4000000 in
theorem c_X4_valueIfAny_a {ad : Nat → Int → Nat} {x y : zSt} {v : Int} (hv : -1 ≤ v ∧ v ≤ 11) : zC yX4_valueIfAny cX4_valueIfAny 2 (some .int) 0 0 0 [zI v, .ref (ad 4 0)] ad x y (zpS (xVa x 4 v) x y) (zF) := by
  refine zC_ofV (by decide) (by intro v hv; simp only [List.mem_cons, List.not_mem_nil, or_false] at hv; rcases hv with rfl | rfl <;> rfl) (Nat.le_of_ble_eq_true rfl) (fun Γ hX hN hM hT => ?_)
  show zV Γ ad 0 0 x y 0 [some (zI v), some (.ref (ad 4 0))] []
  refine zV_iloadn hX dX4_valueIfAny_0 rfl ?_
  refine zV_iconst hX dX4_valueIfAny_1 ?_
  refine zV_icmp_ne (tgt := 9) hX dX4_valueIfAny_2 (by decide) (by omega) (by omega) (fun b2 => ?_) (fun b2 => ?_)
  · refine zV_aloadn hX dX4_valueIfAny_9 rfl ?_
    refine zV_iloadn hX dX4_valueIfAny_10 rfl ?_
    refine AL_4 hX  ⟨by omega, by omega⟩ dX4_valueIfAny_11 (fun r11 => ?_)
    exact zV_iret hX hM (by omega) (by omega) rfl dX4_valueIfAny_12 (zpS_i (by unfold xVa; first | rw [if_pos (by omega)] | rw [if_neg (by omega)]))
  · refine zV_iconst hX dX4_valueIfAny_5 ?_
    refine zV_goto (tgt := 12) hX dX4_valueIfAny_6 (by decide) ?_
    exact zV_iret hX hM (by omega) (by omega) rfl dX4_valueIfAny_12 (zpS_i (by unfold xVa; first | rw [if_pos (by omega)] | rw [if_neg (by omega)]))
