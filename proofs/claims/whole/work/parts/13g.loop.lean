/-! THE LAW'S LOOP. -/
set_option maxRecDepth 100000 in
set_option maxHeartbeats 4000000 in
theorem law_loop {Γ : zG} {ad : Nat → Int → Nat} {MC MS bs N : Nat} {xs : Nat → Int32} (hX : zX Γ ad RL cL_law 9) (hN : zN Γ 60 MC MS) (hG : zNG Γ) (hS : zScr Γ bs N xs) (hNn : N ≤ 4096)
    (kend : ∀ (x y : zSt) (cs ss : Nat) (L : List (Option Value)), cs ≤ MC → ss ≤ MS → zV Γ ad cs ss x y 2032 L []) :
    ∀ (f : Nat) (i q : Int) (cs ss : Nat) (x y : zSt) (l6 l7 l8 : Option Value), 0 ≤ i → i ≤ 5000 → (N : Int) - i < 8 * f → cs + 3 * f ≤ MC → ss + 18 * f ≤ MS → q + 561 * f < 999000 → JV x (mCod y 0) q → zV Γ ad cs ss x y 28 [some (.ref bs), some (.ref (ad 0 0)), some (.ref (ad 20 0)), some (.ref (ad 60 0)), some (.ref (ad 61 0)), some (zI i), l6, l7, l8] [] := by
  intro f
  induction f with
  | zero =>
    intro i q cs ss x y l6 l7 l8 h1 h2 h3 h4 h5 h6 H
    have z1 : zR i := ⟨by omega, by omega⟩
    have z2 : zR ((N : Int) - 8) := ⟨by omega, by omega⟩
    refine zV_iload hX dL_law_28 rfl ?_
    refine zV_aloadn hX dL_law_30 rfl ?_
    refine zV_slen hX hS hNn dL_law_31 ?_
    refine zV_bipush hX dL_law_32 (by decide) ?_
    refine zV_isub hX dL_law_34 ?_
    exact zV_icmp_gt (tgt := 2032) hX dL_law_35 (by decide) z1 z2 (fun _ => kend _ _ _ _ _ (by omega) (by omega)) (fun h => by exfalso; omega)
  | succ f ih =>
    intro i q cs ss x y l6 l7 l8 h1 h2 h3 h4 h5 h6 H
    have z1 : zR i := ⟨by omega, by omega⟩
    have z2 : zR ((N : Int) - 8) := ⟨by omega, by omega⟩
    refine zV_iload hX dL_law_28 rfl ?_
    refine zV_aloadn hX dL_law_30 rfl ?_
    refine zV_slen hX hS hNn dL_law_31 ?_
    refine zV_bipush hX dL_law_32 (by decide) ?_
    refine zV_isub hX dL_law_34 ?_
    refine zV_icmp_gt (tgt := 2032) hX dL_law_35 (by decide) z1 z2 (fun _ => kend _ _ _ _ _ (by omega) (by omega)) (fun h => ?_)
    have hi : 0 ≤ i ∧ i + 7 < (N : Int) := by omega
    have hc : cs + 3 ≤ MC := by omega
    have hs : ss + 18 ≤ MS := by omega
    have hq : q + 561 < 1000000 := by omega
    refine zV_aloadn hX dL_law_38 rfl ?_
    refine zV_iload hX dL_law_39 rfl ?_
    refine zV_sld hX hS hNn ⟨by omega, by omega⟩ dL_law_41 ?_
    refine zV_bipush hX dL_law_42 (by decide) ?_
    refine zV_iand hX dL_law_44 ?_
    have zz : zR (zand (zSx xs i) 63) := zR_of _
    have kk : zGoOn Γ ad (cs + 3) (ss + 18) bs i q := fun x' y' q' u v w H' hq' => by
      refine zV_iinc5 hX dL_law_2026 ?_
      refine zV_goto (tgt := 28) hX dL_law_2029 (by decide) ?_
      exact ih (i + 8) q' (cs + 3) (ss + 18) x' y' u v w (by omega) (by omega) (by omega) (by omega) (by omega) (by omega) H'
    generalize zand (zSx xs i) 63 = z at zz
    by_cases hz : 0 ≤ z ∧ z ≤ 33
    · have hz2 : z = 0 ∨ z = 1 ∨ z = 2 ∨ z = 3 ∨ z = 4 ∨ z = 5 ∨ z = 6 ∨ z = 7 ∨ z = 8 ∨ z = 9 ∨ z = 10 ∨ z = 11 ∨ z = 12 ∨ z = 13 ∨ z = 14 ∨ z = 15 ∨ z = 16 ∨ z = 17 ∨ z = 18 ∨ z = 19 ∨ z = 20 ∨ z = 21 ∨ z = 22 ∨ z = 23 ∨ z = 24 ∨ z = 25 ∨ z = 26 ∨ z = 27 ∨ z = 28 ∨ z = 29 ∨ z = 30 ∨ z = 31 ∨ z = 32 ∨ z = 33 := by omega
      rcases hz2 with rfl | rfl | rfl | rfl | rfl | rfl | rfl | rfl | rfl | rfl | rfl | rfl | rfl | rfl | rfl | rfl | rfl | rfl | rfl | rfl | rfl | rfl | rfl | rfl | rfl | rfl | rfl | rfl | rfl | rfl | rfl | rfl | rfl | rfl
      · exact zV_tabIn (tgt := 196) hX dL_law_45 zz (by decide) (by decide) rfl (by decide) (k_addData hX hN hG hS hi hNn hc hs H hq kk)
      · exact zV_tabIn (tgt := 276) hX dL_law_45 zz (by decide) (by decide) rfl (by decide) (k_setData hX hN hG hS hi hNn hc hs H hq kk)
      · exact zV_tabIn (tgt := 344) hX dL_law_45 zz (by decide) (by decide) rfl (by decide) (k_loseData hX hN hG hS hi hNn hc hs H hq kk)
      · exact zV_tabIn (tgt := 400) hX dL_law_45 zz (by decide) (by decide) rfl (by decide) (k_addCell hX hN hG hS hi hNn hc hs H hq kk)
      · exact zV_tabIn (tgt := 534) hX dL_law_45 zz (by decide) (by decide) rfl (by decide) (k_setConstant hX hN hG hS hi hNn hc hs H hq kk)
      · exact zV_tabIn (tgt := 602) hX dL_law_45 zz (by decide) (by decide) rfl (by decide) (k_cellCount hX hN hc hs H hq kk)
      · exact zV_tabIn (tgt := 615) hX dL_law_45 zz (by decide) (by decide) rfl (by decide) (k_value hX hN hG hS hi hNn hc hs H hq kk)
      · exact zV_tabIn (tgt := 671) hX dL_law_45 zz (by decide) (by decide) rfl (by decide) (k_writer hX hN hG hS hi hNn hc hs H hq kk)
      · exact zV_tabIn (tgt := 727) hX dL_law_45 zz (by decide) (by decide) rfl (by decide) (k_run hX hN hG hS hi hNn hc hs H hq kk)
      · exact zV_tabIn (tgt := 783) hX dL_law_45 zz (by decide) (by decide) rfl (by decide) (k_runAll hX hN hc hs H hq kk)
      · exact zV_tabIn (tgt := 796) hX dL_law_45 zz (by decide) (by decide) rfl (by decide) (k_state hX hN hG hS hi hNn hc hs H hq kk)
      · exact zV_tabIn (tgt := 852) hX dL_law_45 zz (by decide) (by decide) rfl (by decide) (k_resultAnew hX hN hG hS hi hNn hc hs H hq kk)
      · exact zV_tabIn (tgt := 908) hX dL_law_45 zz (by decide) (by decide) rfl (by decide) (k_fresh hX hN hc hs H hq kk)
      · exact zV_tabIn (tgt := 921) hX dL_law_45 zz (by decide) (by decide) rfl (by decide) (k_runs hX hN hG hS hi hNn hc hs H hq kk)
      · exact zV_tabIn (tgt := 977) hX dL_law_45 zz (by decide) (by decide) rfl (by decide) (k_found hX hN hG hS hi hNn hc hs H hq kk)
      · exact zV_tabIn (tgt := 1033) hX dL_law_45 zz (by decide) (by decide) rfl (by decide) (k_failure hX hN hG hS hi hNn hc hs H hq kk)
      · exact zV_tabIn (tgt := 1089) hX dL_law_45 zz (by decide) (by decide) rfl (by decide) (k_root hX hN hG hS hi hNn hc hs H hq kk)
      · exact zV_tabIn (tgt := 1145) hX dL_law_45 zz (by decide) (by decide) rfl (by decide) (k_rootFailure hX hN hG hS hi hNn hc hs H hq kk)
      · exact zV_tabIn (tgt := 1201) hX dL_law_45 zz (by decide) (by decide) rfl (by decide) (k_causes hX hN hG hS hi hNn hc hs H hq kk)
      · exact zV_tabIn (tgt := 1257) hX dL_law_45 zz (by decide) (by decide) rfl (by decide) (k_depends hX hN hG hS hi hNn hc hs H hq kk)
      · exact zV_tabIn (tgt := 1332) hX dL_law_45 zz (by decide) (by decide) rfl (by decide) (k_owners hX hN hG hS hi hNn hc hs H hq kk)
      · exact zV_tabIn (tgt := 1388) hX dL_law_45 zz (by decide) (by decide) rfl (by decide) (k_dependents hX hN hG hS hi hNn hc hs H hq kk)
      · exact zV_tabIn (tgt := 1444) hX dL_law_45 zz (by decide) (by decide) rfl (by decide) (k_addKernel hX hN hG hS hi hNn hc hs H hq kk)
      · exact zV_tabIn (tgt := 1500) hX dL_law_45 zz (by decide) (by decide) rfl (by decide) (k_free hX hN hG hS hi hNn hc hs H hq kk)
      · exact zV_tabIn (tgt := 1556) hX dL_law_45 zz (by decide) (by decide) rfl (by decide) (k_schedule hX hN hG hS hi hNn hc hs H hq kk)
      · exact zV_tabIn (tgt := 1624) hX dL_law_45 zz (by decide) (by decide) rfl (by decide) (k_pass hX hN hG hS hi hNn hc hs H hq kk)
      · exact zV_tabIn (tgt := 1680) hX dL_law_45 zz (by decide) (by decide) rfl (by decide) (k_tick hX hN hc hs H hq kk)
      · exact zV_tabIn (tgt := 1693) hX dL_law_45 zz (by decide) (by decide) rfl (by decide) (k_work hX hN hc hs H hq kk)
      · exact zV_tabIn (tgt := 1707) hX dL_law_45 zz (by decide) (by decide) rfl (by decide) (k_load hX hN hG hc hs H hq kk)
      · exact zV_tabIn (tgt := 1773) hX dL_law_45 zz (by decide) (by decide) rfl (by decide) (k_meanValue hX hN hG hc hs H hq kk)
      · exact zV_tabIn (tgt := 1838) hX dL_law_45 zz (by decide) (by decide) rfl (by decide) (k_publish hX hN hG hS hi hNn hc hs H hq kk)
      · exact zV_tabIn (tgt := 1894) hX dL_law_45 zz (by decide) (by decide) rfl (by decide) (k_held hX hN hG hS hi hNn hc hs H hq kk)
      · exact zV_tabIn (tgt := 1950) hX dL_law_45 zz (by decide) (by decide) rfl (by decide) (k_isCurrent hX hN hG hS hi hNn hc hs H hq kk)
      · exact zV_tabIn (tgt := 2013) hX dL_law_45 zz (by decide) (by decide) rfl (by decide) (k_isSound hX hN hc hs H hq kk)
    · exact zV_tabOut (tgt := 2026) hX dL_law_45 zz (by omega) (by decide) (zV_wide (by omega) (by omega) (kk x y q l6 l7 l8 H (by omega)))
