set_option maxRecDepth 100000 in
set_option maxHeartbeats 4000000 in
theorem lp_X4_pass3 {ad : Nat → Int → Nat} {w y : zSt} {Γ : zG} {mc ms : Nat} {c t s i : Int} (h9 : w 0 0 9 = c) (hc : 0 ≤ c ∧ c ≤ 11) (hW : xOkW xDue w) (hs : 0 ≤ s ∧ s ≤ 1000) (hi : 0 ≤ i ∧ i ≤ 50) (hX : zX Γ ad RX4 cX4_pass 5) (hN : zN Γ 8 mc ms) (hk : ∀ o : Option Value, zV Γ ad 0 0 (xWk xDue w c.toNat).1 y 46 [some (.ref (ad 0 0)), some (zI t), some (zI (s + (xWk xDue w c.toNat).2.2)), some (zI (i + 1)), o] []) (o : Option Value) : zV Γ ad 0 0 w y 93 [some (.ref (ad 0 0)), some (zI t), some (zI s), some (zI i), o] [] := by
  have wb := xWk_b (D := xDue) (x := w) c.toNat (by omega)
  skip
  refine zV_iloadn hX dX4_pass_93 rfl ?_
  refine zV_aloadn hX dX4_pass_94 rfl ?_
  refine zV_cVS (n := 0) hX rfl hN 0 rfl rfl ⟨by decide, by decide⟩ (c_X4_runWhatIsDue (by omega) hW) zw_co_yX4_runWhatIsDue zw_mX4_229 zw_in_RX4 zw_im_yX4_runWhatIsDue zw_se_yX4_runWhatIsDue ⟨by decide, by decide, by decide +kernel⟩ rfl (by omega) (by decide) (by omega) (by omega) rfl (Nat.le_of_ble_eq_true rfl) dX4_pass_95 ?_ 
  rw [h9]
  refine zV_iadd hX dX4_pass_98 ?_
  refine zV_istoren2 hX dX4_pass_99 ?_
  refine zV_iinc3 hX dX4_pass_100 ?_
  refine zV_goto (tgt := 46) hX dX4_pass_103 (by decide) ?_
  first | exact hk _ | exact lp_X4_pass (t := t) ⟨⟨by omega, by omega⟩, rfl, rfl, rfl⟩ (by omega) i1 (hS (by omega) (by omega)) hX hN hM hT (t.toNat + 1) 0 0 0 _ rfl (by omega) (by omega) rfl (by omega)
set_option maxRecDepth 100000 in
set_option maxHeartbeats 4000000 in
theorem lp_X4_pass2 {ad : Nat → Int → Nat} {w y : zSt} {Γ : zG} {mc ms : Nat} {tt t s i : Int} (htt : 0 ≤ tt ∧ tt ≤ 5000) (h12 : w 0 0 12 = tt) (hK : 0 ≤ w 0 0 10 ∧ w 0 0 10 ≤ 3) (hG : ∀ n : Nat, (n : Int) ≤ w 0 0 10 → xI (xGv w tt n)) (hX : zX Γ ad RX4 cX4_pass 5) (hN : zN Γ 8 mc ms) (kk : zV Γ ad 0 0 (xGv w tt (w 0 0 10).toNat) y 93 [some (.ref (ad 0 0)), some (zI t), some (zI s), some (zI i), some (zI (w 0 0 10))] []) : ∀ (f n : Nat) (j : Int), j = n → j ≤ w 0 0 10 → (w 0 0 10).toNat - n < f → zV Γ ad 0 0 (xGv w tt n) y 64 [some (.ref (ad 0 0)), some (zI t), some (zI s), some (zI i), some (zI j)] [] := by
  intro f
  induction f with
  | zero => intro n j h1 h2 h3; omega
  | succ f ih =>
    intro n j h1 h2 h3
    subst h1
    have hu : ((n + 1 : Nat) : Int) = (n : Int) + 1 := by omega
    have e12 := xGv_r (x := w) (t := tt) (k := 0) (by decide) (by decide) (i := 0) (j := 12) n
    have e10 := xGv_r (x := w) (t := tt) (k := 0) (by decide) (by decide) (i := 0) (j := 10) n
    have hI := hG n h2
    refine zV_iload hX dX4_pass_64 rfl ?_
    refine zV_aloadn hX dX4_pass_66 rfl ?_
    refine GF_X4_198 hX  dX4_pass_67 (fun r67 => ?_)
    refine zV_icmp_ge (tgt := 93) hX dX4_pass_70 (by decide) (by omega) (by omega) (fun b70 => ?_) (fun b70 => ?_)
    · obtain rfl : n = (w 0 0 10).toNat := by omega
      rw [show (((w 0 0 10).toNat : Nat) : Int) = w 0 0 10 by omega]
      exact kk
    · refine zV_aloadn hX dX4_pass_73 rfl ?_
      refine GF_X4_30 hX  dX4_pass_74 ?_
      refine zV_iload hX dX4_pass_77 rfl ?_
      refine AL_6 hX  ⟨by omega, by omega⟩ dX4_pass_79 ?_
      refine zV_aloadn hX dX4_pass_80 rfl ?_
      refine GF_X4_221 hX  dX4_pass_81 (fun r81 => ?_)
      refine zV_cVV (n := 1) hX rfl hN 16 rfl rfl ⟨by omega, by omega⟩ (c_X2_giveBack ⟨by omega, by omega⟩ (by omega) hI) zw_co_yX2_giveBack zw_mX4_226 zw_in_RX2 zw_im_yX2_giveBack zw_se_yX2_giveBack ⟨by decide, by decide, by decide +kernel⟩ rfl (by omega) (by decide) (by omega) (by omega) rfl (Nat.le_of_ble_eq_true rfl) dX4_pass_84 ?_ 
      rw [e12, h12]
      refine zV_iinc4 hX dX4_pass_87 ?_
      refine zV_goto (tgt := 64) hX dX4_pass_90 (by decide) ?_
      exact ih (n + 1) _ hu.symm (by omega) (by omega)
set_option maxRecDepth 100000 in
set_option maxHeartbeats 4000000 in
theorem lp_X4_pass {ad : Nat → Int → Nat} {x y : zSt} {Γ : zG} {post : Option Value → zSt → zSt → Prop} {px : String → zSt → zSt → Prop} {t : Int} (hp : post (some (zI (xPn x t.toNat))) (xPs x t.toNat) y) (ht : 1 ≤ t ∧ t ≤ 50) (hn : 0 ≤ x 0 0 9 ∧ x 0 0 9 ≤ 11) (hS0 : xOkP x t) (hX : zX Γ ad RX4 cX4_pass 5) (hN : zN Γ 8 1 6) (hM : zM Γ ad 1 6 (some .int) (post) (px)) (hT : zNT Γ) : ∀ (f n : Nat) (i s : Int) (o : Option Value), i = n → i ≤ t → (t).toNat - n < f → s = xPn x n → 0 ≤ s ∧ s ≤ 11 * n → zV Γ ad 0 0 (xPs x n) y 46 [some (.ref (ad 0 0)), some (zI t), some (zI s), some (zI i), o] [] := by
  intro f
  induction f with
  | zero => intro n i s o h1 h2 h3; omega
  | succ f ih =>
    intro n i s o h1 h2 h3 h4 h5
    subst h1
    have hu : ((n + 1 : Nat) : Int) = (n : Int) + 1 := by omega
    refine zV_iloadn hX dX4_pass_46 rfl ?_
    refine zV_iloadn hX dX4_pass_47 rfl ?_
    refine zV_icmp_ge (tgt := 106) hX dX4_pass_48 (by decide) (by omega) (by omega) (fun b48 => ?_) (fun b48 => ?_)
    · obtain rfl : n = t.toNat := by omega
      subst h4
      refine zV_iloadn hX dX4_pass_106 rfl ?_
      exact zV_iret hX hM (by omega) (by omega) rfl dX4_pass_107 (hp)
    · have hT0 := hS0 n (by omega)
      obtain ⟨hT1, hT2⟩ := hT0
      obtain ⟨hI, h37, hG, hW⟩ := hT1
      obtain ⟨u, hue⟩ : ∃ u, u = xPs x n := ⟨_, rfl⟩
      refine zV_aloadn hX dX4_pass_51 rfl ?_
      refine zV_dup hX dX4_pass_52 rfl ?_
      refine GF_X4_221 hX  dX4_pass_53 (fun r53 => ?_)
      refine zV_iconst hX dX4_pass_56 ?_
      refine zV_iadd hX dX4_pass_57 ?_
      refine PF_X4_221 hX  (by have := hI.2.2.2.1; omega) dX4_pass_58 ?_
      refine zV_iconst hX dX4_pass_61 ?_
      refine zV_istore4 hX dX4_pass_62 ?_
      rw [← hue] at hI h37 hG hW hT2
      rw [← hue]
      have i2 := hI.2.1
      have i4 := hI.2.2.2.1
      have e10 : (zup u 0 0 12 (u 0 0 12 + 1)) 0 0 10 = u 0 0 10 := by simp only [zup_d, Int.reduceEq, and_false, if_false]
      have e9 : xTk u 0 0 9 = x 0 0 9 := by rw [xTk_r (by decide) (by decide) (by decide)]; exact hT2
      refine lp_X4_pass2 (w := zup u 0 0 12 (u 0 0 12 + 1)) (tt := u 0 0 12 + 1) (by omega) (by simp only [zup_d, and_self, if_true]) (by rw [e10]; exact i2) (by rw [e10]; exact hG) hX hN ?_ ((u 0 0 10).toNat + 1) 0 0 rfl (by rw [e10]; omega) (by rw [e10]; omega)
      rw [e10]
      refine lp_X4_pass3 (w := xTk u) (c := x 0 0 9) e9 hn hW (by omega) (by omega) hX hN (fun oo => ?_) _
      have q := ih (n + 1) _ (s + (xWk xDue (xTk u) (x 0 0 9).toNat).2.2) oo hu.symm (by omega) (by omega) (by rw [h4, hue]; rfl) (by have wb := xWk_b (D := xDue) (x := xTk u) (x 0 0 9).toNat (by omega); omega)
      rw [hue] at q ⊢
      exact q
set_option maxRecDepth 100000 in
set_option maxHeartbeats 4000000 in
theorem c_X4_pass {ad : Nat → Int → Nat} {x y : zSt} {t : Int} (ht : zR t) (hI : xI x) (hS : (1 ≤ t ∧ t ≤ 50) → ¬ 5000 < x 0 0 12 + t → xOkP x t) : zC yX4_pass cX4_pass 5 (some .int) 8 1 6 [.ref (ad 0 0), zI t] ad x y (zpSG ((1 ≤ t ∧ t ≤ 50) ∧ ¬ 5000 < x 0 0 12 + t) (xPn x t.toNat) (xPs x t.toNat) y) (zpX (fun E => (E = "java/lang/IllegalArgumentException" ∧ ¬ (1 ≤ t ∧ t ≤ 50)) ∨ (E = "java/lang/IllegalStateException" ∧ (1 ≤ t ∧ t ≤ 50) ∧ 5000 < x 0 0 12 + t)) x y) := by
  refine zC_ofV (by decide) (by intro v hv; simp only [List.mem_cons, List.not_mem_nil, or_false] at hv; rcases hv with rfl | rfl <;> rfl) (Nat.le_of_ble_eq_true rfl) (fun Γ hX hN hM hT => ?_)
  show zV Γ ad 0 0 x y 0 [some (.ref (ad 0 0)), some (zI t), none, none, none] []
  have i1 := hI.1
  have i4 := hI.2.2.2.1
  refine zV_iloadn hX dX4_pass_0 rfl ?_
  refine zV_iconst hX dX4_pass_1 ?_
  refine zV_bipush hX dX4_pass_2 (by decide) ?_
  refine zV_cSS (n := 3) hX rfl hN (c_X4_isWithin (by omega) (by omega) (by omega) ) zw_co_yX4_isWithin zw_mX4_46 zw_in_RX4 zw_st_yX4_isWithin ⟨by decide, by decide, by decide +kernel⟩ rfl (by omega) (by decide) (by omega) (by omega) rfl (Nat.le_of_ble_eq_true rfl) dX4_pass_4 ?_ 
  refine zV_ifne_b (tgt := 20) hX dX4_pass_7 (by decide) (fun b7 => ?_) (fun b7 => ?_)
  · refine zV_aloadn hX dX4_pass_20 rfl ?_
    refine GF_X4_221 hX  dX4_pass_21 (fun r21 => ?_)
    refine zV_iloadn hX dX4_pass_24 rfl ?_
    refine zV_iadd hX dX4_pass_25 ?_
    refine zV_sipush hX dX4_pass_26 (by decide) ?_
    refine zV_icmp_le (tgt := 42) hX dX4_pass_29 (by decide) (by omega) (by omega) (fun b29 => ?_) (fun b29 => ?_)
    · refine zV_iconst hX dX4_pass_42 ?_
      refine zV_istoren2 hX dX4_pass_43 ?_
      refine zV_iconst hX dX4_pass_44 ?_
      refine zV_istoren3 hX dX4_pass_45 ?_
      first | exact hk _ | exact lp_X4_pass (t := t) ⟨⟨by omega, by omega⟩, rfl, rfl, rfl⟩ (by omega) i1 (hS (by omega) (by omega)) hX hN hM hT (t.toNat + 1) 0 0 0 _ rfl (by omega) (by omega) rfl (by omega)
    · exact zV_throw hX rfl hN (by omega) (by omega) (by omega) Bundle.six_0 Bundle.six_1 Bundle.six_2 Bundle.six_5 zat_IllegalStateException zw_cX4_60 zw_in_java_lang_IllegalStateException "the tick would be greater than 5000" (by decide) (by decide) dX4_pass_32 dX4_pass_35 dX4_pass_36 dX4_pass_38 dX4_pass_41 (zVX_out hX hT hM (by omega) (by omega) (⟨Or.inr (⟨rfl, by first | omega | assumption⟩), rfl, rfl⟩))
  · exact zV_throw hX rfl hN (by omega) (by omega) (by omega) Bundle.six_0 Bundle.six_1 Bundle.six_2 Bundle.six_5 zat_IllegalArgumentException zw_cX4_50 zw_in_java_lang_IllegalArgumentException "the number of ticks is out of range" (by decide) (by decide) dX4_pass_10 dX4_pass_13 dX4_pass_14 dX4_pass_16 dX4_pass_19 (zVX_out hX hT hM (by omega) (by omega) (⟨Or.inl ⟨rfl, by first | omega | assumption⟩, rfl, rfl⟩))
