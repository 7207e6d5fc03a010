/-! THE LAW, the cases without a helper, and those of doubles. -/
theorem mFr_cg {t u : zSt} (h : ∀ k : Nat, k ≠ 20 → u k = t k) : ∀ (n : Nat) (c : Int), mFr u n c = mFr t n c := by
  intro n
  induction n with
  | zero => intro c; rfl
  | succ n ih =>
    intro c
    have f : mFr u (n + 1) c = true ↔ mFr t (n + 1) c = true := by
      rw [mFr_s, mFr_s, ih, ih]
      unfold mFst mSec
      rw [h 23 (by decide), h 24 (by decide), h 27 (by decide), h 28 (by decide), h 29 (by decide), h 34 (by decide), h 35 (by decide), h 36 (by decide), h 37 (by decide)]
    exact Bool.eq_iff_iff.mpr f
theorem mCod_f {y : zSt} {p : Int} {k : Nat} (h : k ≠ 20) : mCod y p k = y k := by
  funext i j
  exact mCod_k h
theorem mNf_cod {y : zSt} {p : Int} : ∀ n : Nat, mNf (mCod y p) n = mNf y n := by
  intro n
  induction n with
  | zero => rfl
  | succ n ih => simp only [mNf, ih, mFr_cg (t := y) (u := mCod y p) (fun k h => mCod_f h)]
theorem mVs_cod {y : zSt} {p : Int} : ∀ n : Nat, mVs (mCod y p) n = mVs y n ∧ mVn (mCod y p) n = mVn y n := by
  intro n
  induction n with
  | zero => exact ⟨rfl, rfl⟩
  | succ n ih => simp only [mVs, mVn, ih.1, ih.2, mCod_f (k := 23) (by decide), and_self]
theorem mSn_p {t : zSt} (h : ∀ k : Int, 0 ≤ k → k < t 20 0 28 → 1 ≤ t 49 0 k) : ∀ n : Nat, (n : Int) ≤ t 20 0 28 → (n : Int) ≤ mSn t n := by
  intro n
  induction n with
  | zero => intro _; simp [mSn]
  | succ n ih =>
    intro g
    have h1 := ih (by omega)
    have h2 := h n (by omega) (by omega)
    simp only [mSn]
    omega
theorem jw_sn {x W : zSt} {q : Int} (H : JV x (mCod W 0) q) : (W 20 0 28 ≠ 0 → mSn (mCod W 0) (W 20 0 28).toNat ≠ 0) ∧ xSn x (x 0 0 10).toNat = mSn (mCod W 0) (W 20 0 28).toNat ∧ xLn x (x 0 0 10).toNat = mSn (mCod W 0) (W 20 0 28).toNat - mLn (mCod W 0) (W 20 0 28).toNat := by
  have C := jw_c H
  have n28 := (jw_I H).1.2.1
  have e28 : (mCod W 0) 20 0 28 = W 20 0 28 := mCod_j (by decide)
  have hO := H.2.1.2.2.2.2.2.2.2.2.1
  have s := mSn_p hO (W 20 0 28).toNat (by omega)
  have j := j_sn H.1 (W 20 0 28).toNat (by omega)
  rw [C.2.2.1]
  exact ⟨fun h => by omega, j⟩
section ZC
variable {Γ : zG} {ad : Nat → Int → Nat} {cs ss MC MS bs N : Nat} {xs : Nat → Int32} {x y : zSt} {i q : Int} {l6 l7 l8 : Option Value}
theorem kp_same (H : JV x (mCod y 0) q) : JV x (mCod (mCod y 0) 0) q := by
  rw [mCod_cod]
  exact H
set_option maxRecDepth 100000 in
set_option maxHeartbeats 4000000 in
theorem k_cellCount (hX : zX Γ ad RL cL_law 9) (hN : zN Γ 60 MC MS) (hc : cs + 3 ≤ MC) (hs : ss + 18 ≤ MS) (H : JV x (mCod y 0) q) (hq : q + 561 < 1000000) (kk : zGoOn Γ ad (cs + 3) (ss + 18) bs i q) : zV Γ ad cs ss x y 602 [some (.ref bs), some (.ref (ad 0 0)), some (.ref (ad 20 0)), some (.ref (ad 60 0)), some (.ref (ad 61 0)), some (zI i), l6, l7, l8] [] := by
  have C := jw_c H
  have n0 := (jw_I H).1
  have z : zR (y 20 0 5) := ⟨by omega, by omega⟩
  refine zV_aloadn hX dL_law_602 rfl ?_
  refine zV_cVS (n := 0) hX rfl hN 0 rfl rfl ⟨by decide, by decide⟩ c_X4_cellCount zw_co_yX4_cellCount zw_mL_143 zw_in_RX4 zw_im_yX4_cellCount zw_se_yX4_cellCount ⟨by decide, by decide, by decide +kernel⟩ rfl (by omega) (by decide) (by omega) (by omega) rfl (Nat.le_of_ble_eq_true rfl) dL_law_603 ?_
  refine zV_aloadn hX dL_law_606 rfl ?_
  refine zV_cVS (n := 0) hX rfl hN 20 rfl rfl ⟨by decide, by decide⟩ c_X5_cellCount zw_co_yX5_cellCount zw_mL_146 zw_in_RX5 zw_im_yX5_cellCount zw_se_yX5_cellCount ⟨by decide, by decide, by decide +kernel⟩ rfl (by omega) (by decide) (by omega) (by omega) rfl (Nat.le_of_ble_eq_true rfl) dL_law_607 ?_
  rw [C.2.1]
  refine zV_icmp_eq (tgt := 2026) hX dL_law_610 (by decide) z z (fun _ => ?_) (fun h => absurd rfl h)
  exact zV_wide (by omega) (by omega) (kk _ _ _ _ _ _ (kp_same H) (by omega))
set_option maxRecDepth 100000 in
set_option maxHeartbeats 4000000 in
theorem k_tick (hX : zX Γ ad RL cL_law 9) (hN : zN Γ 60 MC MS) (hc : cs + 3 ≤ MC) (hs : ss + 18 ≤ MS) (H : JV x (mCod y 0) q) (hq : q + 561 < 1000000) (kk : zGoOn Γ ad (cs + 3) (ss + 18) bs i q) : zV Γ ad cs ss x y 1680 [some (.ref bs), some (.ref (ad 0 0)), some (.ref (ad 20 0)), some (.ref (ad 60 0)), some (.ref (ad 61 0)), some (zI i), l6, l7, l8] [] := by
  have C := jw_c H
  have n0 := (jw_I H).1
  have z : zR (y 20 0 37) := ⟨by omega, by omega⟩
  refine zV_aloadn hX dL_law_1680 rfl ?_
  refine zV_cVS (n := 0) hX rfl hN 0 rfl rfl ⟨by decide, by decide⟩ c_X4_tick zw_co_yX4_tick zw_mL_209 zw_in_RX4 zw_im_yX4_tick zw_se_yX4_tick ⟨by decide, by decide, by decide +kernel⟩ rfl (by omega) (by decide) (by omega) (by omega) rfl (Nat.le_of_ble_eq_true rfl) dL_law_1681 ?_
  refine zV_aloadn hX dL_law_1684 rfl ?_
  refine zV_cVS (n := 0) hX rfl hN 20 rfl rfl ⟨by decide, by decide⟩ c_X5_tick zw_co_yX5_tick zw_mL_212 zw_in_RX5 zw_im_yX5_tick zw_se_yX5_tick ⟨by decide, by decide, by decide +kernel⟩ rfl (by omega) (by decide) (by omega) (by omega) rfl (Nat.le_of_ble_eq_true rfl) dL_law_1685 ?_
  rw [C.2.2.2.2.1]
  refine zV_icmp_eq (tgt := 2026) hX dL_law_1688 (by decide) z z (fun _ => ?_) (fun h => absurd rfl h)
  exact zV_wide (by omega) (by omega) (kk _ _ _ _ _ _ (kp_same H) (by omega))
set_option maxRecDepth 100000 in
set_option maxHeartbeats 4000000 in
theorem k_fresh (hX : zX Γ ad RL cL_law 9) (hN : zN Γ 60 MC MS) (hc : cs + 3 ≤ MC) (hs : ss + 18 ≤ MS) (H : JV x (mCod y 0) q) (hq : q + 561 < 1000000) (kk : zGoOn Γ ad (cs + 3) (ss + 18) bs i q) : zV Γ ad cs ss x y 908 [some (.ref bs), some (.ref (ad 0 0)), some (.ref (ad 20 0)), some (.ref (ad 60 0)), some (.ref (ad 61 0)), some (zI i), l6, l7, l8] [] := by
  have hI : xI x := JV_xI H (by omega)
  have C := jw_c H
  have n0 := (jw_I H).1
  have e5 : (mCod y 0) 20 0 5 = y 20 0 5 := mCod_j (by decide)
  have f := j_pop H.1 H.2.1
  rw [e5, mNf_cod] at f
  have fb := mNf_b (y := y) (y 20 0 5).toNat
  have z : zR (mNf y (y 20 0 5).toNat) := ⟨by omega, by omega⟩
  refine zV_aloadn hX dL_law_908 rfl ?_
  refine zV_cVS (n := 0) hX rfl hN 0 rfl rfl ⟨by decide, by decide⟩ (c_X4_fresh hI) zw_co_yX4_fresh zw_mL_166 zw_in_RX4 zw_im_yX4_fresh zw_se_yX4_fresh ⟨by decide, by decide, by decide +kernel⟩ rfl (by omega) (by decide) (by omega) (by omega) rfl (Nat.le_of_ble_eq_true rfl) dL_law_909 ?_
  refine zV_aloadn hX dL_law_912 rfl ?_
  refine zV_cVS (n := 0) hX rfl hN 20 rfl rfl ⟨by decide, by decide⟩ (c_X5_fresh (jw_I H)) zw_co_yX5_fresh zw_mL_169 zw_in_RX5 zw_im_yX5_fresh zw_se_yX5_fresh ⟨by decide, by decide, by decide +kernel⟩ rfl (by omega) (by decide) (by omega) (by omega) rfl (Nat.le_of_ble_eq_true rfl) dL_law_913 ?_
  rw [C.2.1, f]
  refine zV_icmp_eq (tgt := 2026) hX dL_law_916 (by decide) z z (fun _ => ?_) (fun h => absurd rfl h)
  exact zV_wide (by omega) (by omega) (kk _ _ _ _ _ _ (kp_same H) (by omega))
set_option maxRecDepth 100000 in
set_option maxHeartbeats 4000000 in
theorem k_runAll (hX : zX Γ ad RL cL_law 9) (hN : zN Γ 60 MC MS) (hc : cs + 3 ≤ MC) (hs : ss + 18 ≤ MS) (H : JV x (mCod y 0) q) (hq : q + 561 < 1000000) (kk : zGoOn Γ ad (cs + 3) (ss + 18) bs i q) : zV Γ ad cs ss x y 783 [some (.ref bs), some (.ref (ad 0 0)), some (.ref (ad 20 0)), some (.ref (ad 60 0)), some (.ref (ad 61 0)), some (zI i), l6, l7, l8] [] := by
  have C := jw_c H
  have n0 := (jw_I H).1
  have e5 : (mCod y 0) 20 0 5 = y 20 0 5 := mCod_j (by decide)
  obtain ⟨Z, f⟩ := JV_all H (by omega)
  have ok := JV_okr H (by omega)
  have okx := JV_okw H (by omega)
  rw [e5] at Z f
  have fb := mNf_b (y := mRa (mCod y 0) (y 20 0 5).toNat) (y 20 0 5).toNat
  have z : zR (mNf (mRa (mCod y 0) (y 20 0 5).toNat) (y 20 0 5).toNat) := ⟨by omega, by omega⟩
  have h0 := Z.2.1.2.2.2.2.2.2.2.2.2.2.2
  refine zV_aloadn hX dL_law_783 rfl ?_
  refine zV_cVS (n := 0) hX rfl hN 0 rfl rfl ⟨by decide, by decide⟩ (c_X4_runAll (by omega) okx) zw_co_yX4_runAll zw_mL_156 zw_in_RX4 zw_im_yX4_runAll zw_se_yX4_runAll ⟨by decide, by decide, by decide +kernel⟩ rfl (by omega) (by decide) (by omega) (by omega) rfl (Nat.le_of_ble_eq_true rfl) dL_law_784 ?_
  refine zV_aloadn hX dL_law_787 rfl ?_
  refine zV_cVS (n := 0) hX rfl hN 20 rfl rfl ⟨by decide, by decide⟩ (c_X5_runAll (jw_I H) ok) zw_co_yX5_runAll zw_mL_159 zw_in_RX5 zw_im_yX5_runAll zw_se_yX5_runAll ⟨by decide, by decide, by decide +kernel⟩ rfl (by omega) (by decide) (by omega) (by omega) rfl (Nat.le_of_ble_eq_true rfl) dL_law_788 ?_
  rw [f]
  refine zV_icmp_eq (tgt := 2026) hX dL_law_791 (by decide) z z (fun _ => ?_) (fun h => absurd rfl h)
  exact zV_wide (by omega) (by omega) (kk _ _ _ _ _ _ (by rw [mCod_id h0]; exact Z) (by omega))
set_option maxRecDepth 100000 in
set_option maxHeartbeats 4000000 in
theorem k_isSound (hX : zX Γ ad RL cL_law 9) (hN : zN Γ 60 MC MS) (hc : cs + 3 ≤ MC) (hs : ss + 18 ≤ MS) (H : JV x (mCod y 0) q) (hq : q + 561 < 1000000) (kk : zGoOn Γ ad (cs + 3) (ss + 18) bs i q) : zV Γ ad cs ss x y 2013 [some (.ref bs), some (.ref (ad 0 0)), some (.ref (ad 20 0)), some (.ref (ad 60 0)), some (.ref (ad 61 0)), some (zI i), l6, l7, l8] [] := by
  have hI : xI x := JV_xI H (by omega)
  obtain ⟨s1, s2, s3, s4⟩ := JV_snx H
  have sm := JV_snd H
  refine zV_aloadn hX dL_law_2013 rfl ?_
  refine zV_cVS (n := 0) hX rfl hN 0 rfl rfl ⟨by decide, by decide⟩ (c_X4_isSound hI s1 s2 s3 s4) zw_co_yX4_isSound zw_mL_234 zw_in_RX4 zw_im_yX4_isSound zw_se_yX4_isSound ⟨by decide, by decide, by decide +kernel⟩ rfl (by omega) (by decide) (by omega) (by omega) rfl (Nat.le_of_ble_eq_true rfl) dL_law_2014 ?_
  refine zV_aloadn hX dL_law_2017 rfl ?_
  refine zV_cVS (n := 0) hX rfl hN 20 rfl rfl ⟨by decide, by decide⟩ (c_X5_isSound (jw_I H) sm) zw_co_yX5_isSound zw_mL_238 zw_in_RX5 zw_im_yX5_isSound zw_se_yX5_isSound ⟨by decide, by decide, by decide +kernel⟩ rfl (by omega) (by decide) (by omega) (by omega) rfl (Nat.le_of_ble_eq_true rfl) dL_law_2018 ?_
  refine zV_icmp_eq (tgt := 2026) hX dL_law_2021 (by decide) (by decide) (by decide) (fun _ => ?_) (fun h => absurd rfl h)
  exact zV_wide (by omega) (by omega) (kk _ _ _ _ _ _ (kp_same (JV_xcs H)) (by omega))
set_option maxRecDepth 100000 in
set_option maxHeartbeats 4000000 in
theorem k_work (hX : zX Γ ad RL cL_law 9) (hN : zN Γ 60 MC MS) (hc : cs + 3 ≤ MC) (hs : ss + 18 ≤ MS) (H : JV x (mCod y 0) q) (hq : q + 561 < 1000000) (kk : zGoOn Γ ad (cs + 3) (ss + 18) bs i q) : zV Γ ad cs ss x y 1693 [some (.ref bs), some (.ref (ad 0 0)), some (.ref (ad 20 0)), some (.ref (ad 60 0)), some (.ref (ad 61 0)), some (zI i), l6, l7, l8] [] := by
  have C := jw_c H
  refine zV_aloadn hX dL_law_1693 rfl ?_
  refine zV_callV (n := 0) hX rfl hN 0 rfl rfl ⟨by decide, by decide⟩ c_X4_work zw_co_yX4_work zw_mL_213 zw_in_RX4 zw_im_yX4_work zw_se_yX4_work ⟨by decide, by decide, by decide +kernel⟩ rfl (by omega) (by decide) (by omega) (by omega) rfl (Nat.le_of_ble_eq_true rfl) dL_law_1694 (fun v1 x1 y1 p1 => ?_) (fun _ _ _ h => h.elim)
  obtain ⟨rfl, rfl, rfl⟩ := p1
  refine zV_aloadn hX dL_law_1697 rfl ?_
  refine zV_callV (n := 0) hX rfl hN 20 rfl rfl ⟨by decide, by decide⟩ c_X5_work zw_co_yX5_work zw_mL_217 zw_in_RX5 zw_im_yX5_work zw_se_yX5_work ⟨by decide, by decide, by decide +kernel⟩ rfl (by omega) (by decide) (by omega) (by omega) rfl (Nat.le_of_ble_eq_true rfl) dL_law_1698 (fun v2 x2 y2 p2 => ?_) (fun _ _ _ h => h.elim)
  obtain ⟨rfl, rfl, rfl⟩ := p2
  rw [C.2.2.2.2.2]
  refine zV_lcmpE hX dL_law_1701 ?_
  refine zV_if_eq (tgt := 2026) hX dL_law_1702 (by decide) zR_0 (fun _ => ?_) (fun h => absurd rfl h)
  exact zV_wide (by omega) (by omega) (kk _ _ _ _ _ _ (kp_same H) (by omega))
end ZC
