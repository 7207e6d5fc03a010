/-! THE LAW, case by case. -/
set_option maxRecDepth 100000 in
set_option maxHeartbeats 4000000 in
theorem k_resultAnew {Γ : zG} {ad : Nat → Int → Nat} {cs ss MC MS bs N : Nat} {xs : Nat → Int32} {x y : zSt} {i q : Int} {l6 l7 l8 : Option Value} (hX : zX Γ ad RL cL_law 9) (hN : zN Γ 60 MC MS) (hG : zNG Γ) (hS : zScr Γ bs N xs) (hi : 0 ≤ i ∧ i + 7 < N) (hNn : N ≤ 4096) (hc : cs + 3 ≤ MC) (hs : ss + 18 ≤ MS) (H : JV x (mCod y 0) q) (hq : q + 561 < 1000000) (kk : zGoOn Γ ad (cs + 3) (ss + 18) bs i q) : zV Γ ad cs ss x y 852 [some (.ref bs), some (.ref (ad 0 0)), some (.ref (ad 20 0)), some (.ref (ad 60 0)), some (.ref (ad 61 0)), some (zI i), l6, l7, l8] [] := by
  have hI : xI x := JV_xI H (by omega)
  have C := jw_c H
  have n0 := (jw_I H).1
  obtain ⟨u, eu, zu⟩ : ∃ v : Int, v = zSx xs (i + 1) ∧ zR v := ⟨_, rfl, zR_of _⟩
  have q0 : 0 ≤ q := JV_q H
  refine zV_aloadn hX dL_law_852 rfl ?_
  refine zV_arg hX hS hNn hi ⟨by decide, by decide⟩ eu rfl rfl dL_law_853 dL_law_854 dL_law_856 dL_law_857 dL_law_858 ?_
  refine zV_aloadn hX dL_law_859 rfl ?_
  refine zV_callSH (n := 3) hX rfl hN hG (h_resultAnew (P := (fun (k : Int) (x1 : zSt) => (k = 1 ∧ ¬ (0 ≤ u ∧ u ≤ x 0 0 9 - 1) ∧ x1 = x) ∨ (k = 2 ∧ ((0 ≤ u ∧ u ≤ x 0 0 9 - 1) ∧ xCs x 4 0 (x 9 u 4) = -1) ∧ x1 = xCs x))) (c_X4_resultAnew zu hI) (fun E x1 y1 p => p.imp (fun h => ⟨h.1, Or.inl ⟨rfl, h.2.1, h.2.2.1⟩, h.2.2.2⟩) (fun h => ⟨h.1, Or.inr ⟨rfl, h.2.1, h.2.2.1⟩, h.2.2.2⟩))) zw_cw_yL_resultAnew zw_mL_163 zw_in_RL zw_st_yL_resultAnew ⟨by decide, by decide, by decide +kernel⟩ rfl (by omega) (by decide) (by omega) (by omega) rfl (Nat.le_of_ble_eq_true rfl) dL_law_860 (fun v1 x1 y1 p1 => ?_)
  obtain ⟨k, rfl, kb, H1, ag⟩ := m_gen (q' := q + 561) H p1 (by omega) (fun W HW g vv y2 hm => ⟨(s_resultAnew HW g hm).1, zGo_le (s_resultAnew HW g hm).2 (by omega) (by omega)⟩) (fun W HW k x1 pk vv y2 hm => f_resultAnew HW pk hm)
  refine zV_istore6 hX dL_law_863 ?_
  refine zV_aloadn hX dL_law_865 rfl ?_
  refine zV_arg hX hS hNn hi ⟨by decide, by decide⟩ eu rfl rfl dL_law_866 dL_law_867 dL_law_869 dL_law_870 dL_law_871 ?_
  refine zV_callV (n := 1) hX rfl hN 20 rfl rfl ⟨by decide, by decide⟩ (c_X5_resultAnew zu (jw_I H1)) zw_co_yX5_resultAnew zw_mL_165 zw_in_RX5 zw_im_yX5_resultAnew zw_se_yX5_resultAnew ⟨by decide, by decide, by decide +kernel⟩ rfl (by omega) (by decide) (by omega) (by omega) rfl (Nat.le_of_ble_eq_true rfl) dL_law_872 (fun vv x2 y2 p2 => ?_) (fun _ _ _ h => h.elim)
  obtain ⟨rfl, p2⟩ := p2
  obtain ⟨bv, rfl, E⟩ := ag _ _ p2
  refine zV_istore7 hX dL_law_875 ?_
  refine law_tail (T := 877) hX hN (by omega) (by omega) (by omega) dL_law_877 dL_law_878 dL_law_881 dL_law_883 dL_law_888 dL_law_890 dL_law_893 dL_law_894 dL_law_895 dL_law_896 dL_law_898 dL_law_899 dL_law_900 dL_law_905 (by decide) kb E ?_
  exact zV_wide (by omega) (by omega) (kk _ _ _ _ _ _ E.2.2 (by omega))
set_option maxRecDepth 100000 in
set_option maxHeartbeats 4000000 in
theorem k_runs {Γ : zG} {ad : Nat → Int → Nat} {cs ss MC MS bs N : Nat} {xs : Nat → Int32} {x y : zSt} {i q : Int} {l6 l7 l8 : Option Value} (hX : zX Γ ad RL cL_law 9) (hN : zN Γ 60 MC MS) (hG : zNG Γ) (hS : zScr Γ bs N xs) (hi : 0 ≤ i ∧ i + 7 < N) (hNn : N ≤ 4096) (hc : cs + 3 ≤ MC) (hs : ss + 18 ≤ MS) (H : JV x (mCod y 0) q) (hq : q + 561 < 1000000) (kk : zGoOn Γ ad (cs + 3) (ss + 18) bs i q) : zV Γ ad cs ss x y 921 [some (.ref bs), some (.ref (ad 0 0)), some (.ref (ad 20 0)), some (.ref (ad 60 0)), some (.ref (ad 61 0)), some (zI i), l6, l7, l8] [] := by
  have hI : xI x := JV_xI H (by omega)
  have C := jw_c H
  have n0 := (jw_I H).1
  obtain ⟨u, eu, zu⟩ : ∃ v : Int, v = zSx xs (i + 1) ∧ zR v := ⟨_, rfl, zR_of _⟩
  have q0 : 0 ≤ q := JV_q H
  refine zV_aloadn hX dL_law_921 rfl ?_
  refine zV_arg hX hS hNn hi ⟨by decide, by decide⟩ eu rfl rfl dL_law_922 dL_law_923 dL_law_925 dL_law_926 dL_law_927 ?_
  refine zV_aloadn hX dL_law_928 rfl ?_
  refine zV_callSH (n := 3) hX rfl hN hG (h_runs (P := (fun (k : Int) (x1 : zSt) => x1 = x ∧ ((k = 1 ∧ ¬ (0 ≤ u ∧ u ≤ x 0 0 9 - 1))))) (c_X4_runs zu hI) (fun E x1 y1 p => ⟨p.1.1, ⟨p.2.1, rfl, p.1.2⟩, p.2.2⟩)) zw_cw_yL_runs zw_mL_170 zw_in_RL zw_st_yL_runs ⟨by decide, by decide, by decide +kernel⟩ rfl (by omega) (by decide) (by omega) (by omega) rfl (Nat.le_of_ble_eq_true rfl) dL_law_929 (fun v1 x1 y1 p1 => ?_)
  obtain ⟨k, rfl, kb, H1, ag⟩ := m_gen (q' := q + 561) H p1 (by omega) (fun W HW g vv y2 hm => ⟨(s_runs HW g hm).1, zGo_le (s_runs HW g hm).2 (by omega) (by omega)⟩) (fun W HW k x1 pk vv y2 hm => by
    obtain ⟨rfl, pk⟩ := pk
    exact f_runs HW pk hm)
  refine zV_istore6 hX dL_law_932 ?_
  refine zV_aloadn hX dL_law_934 rfl ?_
  refine zV_arg hX hS hNn hi ⟨by decide, by decide⟩ eu rfl rfl dL_law_935 dL_law_936 dL_law_938 dL_law_939 dL_law_940 ?_
  refine zV_callV (n := 1) hX rfl hN 20 rfl rfl ⟨by decide, by decide⟩ (c_X5_runs zu (jw_I H1)) zw_co_yX5_runs zw_mL_172 zw_in_RX5 zw_im_yX5_runs zw_se_yX5_runs ⟨by decide, by decide, by decide +kernel⟩ rfl (by omega) (by decide) (by omega) (by omega) rfl (Nat.le_of_ble_eq_true rfl) dL_law_941 (fun vv x2 y2 p2 => ?_) (fun _ _ _ h => h.elim)
  obtain ⟨rfl, p2⟩ := p2
  obtain ⟨bv, rfl, E⟩ := ag _ _ p2
  refine zV_istore7 hX dL_law_944 ?_
  refine law_tail (T := 946) hX hN (by omega) (by omega) (by omega) dL_law_946 dL_law_947 dL_law_950 dL_law_952 dL_law_957 dL_law_959 dL_law_962 dL_law_963 dL_law_964 dL_law_965 dL_law_967 dL_law_968 dL_law_969 dL_law_974 (by decide) kb E ?_
  exact zV_wide (by omega) (by omega) (kk _ _ _ _ _ _ E.2.2 (by omega))
set_option maxRecDepth 100000 in
set_option maxHeartbeats 4000000 in
theorem k_found {Γ : zG} {ad : Nat → Int → Nat} {cs ss MC MS bs N : Nat} {xs : Nat → Int32} {x y : zSt} {i q : Int} {l6 l7 l8 : Option Value} (hX : zX Γ ad RL cL_law 9) (hN : zN Γ 60 MC MS) (hG : zNG Γ) (hS : zScr Γ bs N xs) (hi : 0 ≤ i ∧ i + 7 < N) (hNn : N ≤ 4096) (hc : cs + 3 ≤ MC) (hs : ss + 18 ≤ MS) (H : JV x (mCod y 0) q) (hq : q + 561 < 1000000) (kk : zGoOn Γ ad (cs + 3) (ss + 18) bs i q) : zV Γ ad cs ss x y 977 [some (.ref bs), some (.ref (ad 0 0)), some (.ref (ad 20 0)), some (.ref (ad 60 0)), some (.ref (ad 61 0)), some (zI i), l6, l7, l8] [] := by
  have hI : xI x := JV_xI H (by omega)
  have C := jw_c H
  have n0 := (jw_I H).1
  obtain ⟨u, eu, zu⟩ : ∃ v : Int, v = zSx xs (i + 1) ∧ zR v := ⟨_, rfl, zR_of _⟩
  have q0 : 0 ≤ q := JV_q H
  refine zV_aloadn hX dL_law_977 rfl ?_
  refine zV_arg hX hS hNn hi ⟨by decide, by decide⟩ eu rfl rfl dL_law_978 dL_law_979 dL_law_981 dL_law_982 dL_law_983 ?_
  refine zV_aloadn hX dL_law_984 rfl ?_
  refine zV_callSH (n := 3) hX rfl hN hG (h_found (P := (fun (k : Int) (x1 : zSt) => x1 = x ∧ ((k = 1 ∧ ¬ (0 ≤ u ∧ u ≤ x 0 0 9 - 1))))) (c_X4_found zu hI) (fun E x1 y1 p => ⟨p.1.1, ⟨p.2.1, rfl, p.1.2⟩, p.2.2⟩)) zw_cw_yL_found zw_mL_173 zw_in_RL zw_st_yL_found ⟨by decide, by decide, by decide +kernel⟩ rfl (by omega) (by decide) (by omega) (by omega) rfl (Nat.le_of_ble_eq_true rfl) dL_law_985 (fun v1 x1 y1 p1 => ?_)
  obtain ⟨k, rfl, kb, H1, ag⟩ := m_gen (q' := q + 561) H p1 (by omega) (fun W HW g vv y2 hm => ⟨(s_found HW g hm).1, zGo_le (s_found HW g hm).2 (by omega) (by omega)⟩) (fun W HW k x1 pk vv y2 hm => by
    obtain ⟨rfl, pk⟩ := pk
    exact f_found HW pk hm)
  refine zV_istore6 hX dL_law_988 ?_
  refine zV_aloadn hX dL_law_990 rfl ?_
  refine zV_arg hX hS hNn hi ⟨by decide, by decide⟩ eu rfl rfl dL_law_991 dL_law_992 dL_law_994 dL_law_995 dL_law_996 ?_
  refine zV_callV (n := 1) hX rfl hN 20 rfl rfl ⟨by decide, by decide⟩ (c_X5_found zu (jw_I H1)) zw_co_yX5_found zw_mL_175 zw_in_RX5 zw_im_yX5_found zw_se_yX5_found ⟨by decide, by decide, by decide +kernel⟩ rfl (by omega) (by decide) (by omega) (by omega) rfl (Nat.le_of_ble_eq_true rfl) dL_law_997 (fun vv x2 y2 p2 => ?_) (fun _ _ _ h => h.elim)
  obtain ⟨rfl, p2⟩ := p2
  obtain ⟨bv, rfl, E⟩ := ag _ _ p2
  refine zV_istore7 hX dL_law_1000 ?_
  refine law_tail (T := 1002) hX hN (by omega) (by omega) (by omega) dL_law_1002 dL_law_1003 dL_law_1006 dL_law_1008 dL_law_1013 dL_law_1015 dL_law_1018 dL_law_1019 dL_law_1020 dL_law_1021 dL_law_1023 dL_law_1024 dL_law_1025 dL_law_1030 (by decide) kb E ?_
  exact zV_wide (by omega) (by omega) (kk _ _ _ _ _ _ E.2.2 (by omega))
set_option maxRecDepth 100000 in
set_option maxHeartbeats 4000000 in
theorem k_failure {Γ : zG} {ad : Nat → Int → Nat} {cs ss MC MS bs N : Nat} {xs : Nat → Int32} {x y : zSt} {i q : Int} {l6 l7 l8 : Option Value} (hX : zX Γ ad RL cL_law 9) (hN : zN Γ 60 MC MS) (hG : zNG Γ) (hS : zScr Γ bs N xs) (hi : 0 ≤ i ∧ i + 7 < N) (hNn : N ≤ 4096) (hc : cs + 3 ≤ MC) (hs : ss + 18 ≤ MS) (H : JV x (mCod y 0) q) (hq : q + 561 < 1000000) (kk : zGoOn Γ ad (cs + 3) (ss + 18) bs i q) : zV Γ ad cs ss x y 1033 [some (.ref bs), some (.ref (ad 0 0)), some (.ref (ad 20 0)), some (.ref (ad 60 0)), some (.ref (ad 61 0)), some (zI i), l6, l7, l8] [] := by
  have hI : xI x := JV_xI H (by omega)
  have C := jw_c H
  have n0 := (jw_I H).1
  obtain ⟨u, eu, zu⟩ : ∃ v : Int, v = zSx xs (i + 1) ∧ zR v := ⟨_, rfl, zR_of _⟩
  have q0 : 0 ≤ q := JV_q H
  refine zV_aloadn hX dL_law_1033 rfl ?_
  refine zV_arg hX hS hNn hi ⟨by decide, by decide⟩ eu rfl rfl dL_law_1034 dL_law_1035 dL_law_1037 dL_law_1038 dL_law_1039 ?_
  refine zV_aloadn hX dL_law_1040 rfl ?_
  refine zV_callSH (n := 3) hX rfl hN hG (h_failure (P := (fun (k : Int) (x1 : zSt) => x1 = x ∧ ((k = 1 ∧ ¬ (0 ≤ u ∧ u ≤ x 0 0 9 - 1)) ∨ (k = 2 ∧ (0 ≤ u ∧ u ≤ x 0 0 9 - 1) ∧ ¬ x 9 u 9 = 2)))) (c_X4_failure zu hI) (fun E x1 y1 p => p.1.imp (fun h => ⟨h.1, ⟨p.2.1, Or.inl ⟨rfl, h.2⟩⟩, p.2.2⟩) (fun h => ⟨h.1, ⟨p.2.1, Or.inr ⟨rfl, h.2⟩⟩, p.2.2⟩))) zw_cw_yL_failure zw_mL_176 zw_in_RL zw_st_yL_failure ⟨by decide, by decide, by decide +kernel⟩ rfl (by omega) (by decide) (by omega) (by omega) rfl (Nat.le_of_ble_eq_true rfl) dL_law_1041 (fun v1 x1 y1 p1 => ?_)
  obtain ⟨k, rfl, kb, H1, ag⟩ := m_gen (q' := q + 561) H p1 (by omega) (fun W HW g vv y2 hm => ⟨(s_failure HW g hm).1, zGo_le (s_failure HW g hm).2 (by omega) (by omega)⟩) (fun W HW k x1 pk vv y2 hm => by
    obtain ⟨rfl, pk⟩ := pk
    exact f_failure HW pk hm)
  refine zV_istore6 hX dL_law_1044 ?_
  refine zV_aloadn hX dL_law_1046 rfl ?_
  refine zV_arg hX hS hNn hi ⟨by decide, by decide⟩ eu rfl rfl dL_law_1047 dL_law_1048 dL_law_1050 dL_law_1051 dL_law_1052 ?_
  refine zV_callV (n := 1) hX rfl hN 20 rfl rfl ⟨by decide, by decide⟩ (c_X5_failure zu (jw_I H1)) zw_co_yX5_failure zw_mL_178 zw_in_RX5 zw_im_yX5_failure zw_se_yX5_failure ⟨by decide, by decide, by decide +kernel⟩ rfl (by omega) (by decide) (by omega) (by omega) rfl (Nat.le_of_ble_eq_true rfl) dL_law_1053 (fun vv x2 y2 p2 => ?_) (fun _ _ _ h => h.elim)
  obtain ⟨rfl, p2⟩ := p2
  obtain ⟨bv, rfl, E⟩ := ag _ _ p2
  refine zV_istore7 hX dL_law_1056 ?_
  refine law_tail (T := 1058) hX hN (by omega) (by omega) (by omega) dL_law_1058 dL_law_1059 dL_law_1062 dL_law_1064 dL_law_1069 dL_law_1071 dL_law_1074 dL_law_1075 dL_law_1076 dL_law_1077 dL_law_1079 dL_law_1080 dL_law_1081 dL_law_1086 (by decide) kb E ?_
  exact zV_wide (by omega) (by omega) (kk _ _ _ _ _ _ E.2.2 (by omega))
set_option maxRecDepth 100000 in
set_option maxHeartbeats 4000000 in
theorem k_root {Γ : zG} {ad : Nat → Int → Nat} {cs ss MC MS bs N : Nat} {xs : Nat → Int32} {x y : zSt} {i q : Int} {l6 l7 l8 : Option Value} (hX : zX Γ ad RL cL_law 9) (hN : zN Γ 60 MC MS) (hG : zNG Γ) (hS : zScr Γ bs N xs) (hi : 0 ≤ i ∧ i + 7 < N) (hNn : N ≤ 4096) (hc : cs + 3 ≤ MC) (hs : ss + 18 ≤ MS) (H : JV x (mCod y 0) q) (hq : q + 561 < 1000000) (kk : zGoOn Γ ad (cs + 3) (ss + 18) bs i q) : zV Γ ad cs ss x y 1089 [some (.ref bs), some (.ref (ad 0 0)), some (.ref (ad 20 0)), some (.ref (ad 60 0)), some (.ref (ad 61 0)), some (zI i), l6, l7, l8] [] := by
  have hI : xI x := JV_xI H (by omega)
  have C := jw_c H
  have n0 := (jw_I H).1
  obtain ⟨u, eu, zu⟩ : ∃ v : Int, v = zSx xs (i + 1) ∧ zR v := ⟨_, rfl, zR_of _⟩
  have q0 : 0 ≤ q := JV_q H
  refine zV_aloadn hX dL_law_1089 rfl ?_
  refine zV_arg hX hS hNn hi ⟨by decide, by decide⟩ eu rfl rfl dL_law_1090 dL_law_1091 dL_law_1093 dL_law_1094 dL_law_1095 ?_
  refine zV_aloadn hX dL_law_1096 rfl ?_
  refine zV_callSH (n := 3) hX rfl hN hG (h_root (P := (fun (k : Int) (x1 : zSt) => x1 = x ∧ ((k = 1 ∧ ¬ (0 ≤ u ∧ u ≤ x 0 0 9 - 1)) ∨ (k = 2 ∧ (0 ≤ u ∧ u ≤ x 0 0 9 - 1) ∧ ¬ x 9 u 9 = 2)))) (c_X4_root zu hI) (fun E x1 y1 p => p.1.imp (fun h => ⟨h.1, ⟨p.2.1, Or.inl ⟨rfl, h.2⟩⟩, p.2.2⟩) (fun h => ⟨h.1, ⟨p.2.1, Or.inr ⟨rfl, h.2⟩⟩, p.2.2⟩))) zw_cw_yL_root zw_mL_179 zw_in_RL zw_st_yL_root ⟨by decide, by decide, by decide +kernel⟩ rfl (by omega) (by decide) (by omega) (by omega) rfl (Nat.le_of_ble_eq_true rfl) dL_law_1097 (fun v1 x1 y1 p1 => ?_)
  obtain ⟨k, rfl, kb, H1, ag⟩ := m_gen (q' := q + 561) H p1 (by omega) (fun W HW g vv y2 hm => ⟨(s_root HW g hm).1, zGo_le (s_root HW g hm).2 (by omega) (by omega)⟩) (fun W HW k x1 pk vv y2 hm => by
    obtain ⟨rfl, pk⟩ := pk
    exact f_root HW pk hm)
  refine zV_istore6 hX dL_law_1100 ?_
  refine zV_aloadn hX dL_law_1102 rfl ?_
  refine zV_arg hX hS hNn hi ⟨by decide, by decide⟩ eu rfl rfl dL_law_1103 dL_law_1104 dL_law_1106 dL_law_1107 dL_law_1108 ?_
  refine zV_callV (n := 1) hX rfl hN 20 rfl rfl ⟨by decide, by decide⟩ (c_X5_root zu (jw_I H1)) zw_co_yX5_root zw_mL_181 zw_in_RX5 zw_im_yX5_root zw_se_yX5_root ⟨by decide, by decide, by decide +kernel⟩ rfl (by omega) (by decide) (by omega) (by omega) rfl (Nat.le_of_ble_eq_true rfl) dL_law_1109 (fun vv x2 y2 p2 => ?_) (fun _ _ _ h => h.elim)
  obtain ⟨rfl, p2⟩ := p2
  obtain ⟨bv, rfl, E⟩ := ag _ _ p2
  refine zV_istore7 hX dL_law_1112 ?_
  refine law_tail (T := 1114) hX hN (by omega) (by omega) (by omega) dL_law_1114 dL_law_1115 dL_law_1118 dL_law_1120 dL_law_1125 dL_law_1127 dL_law_1130 dL_law_1131 dL_law_1132 dL_law_1133 dL_law_1135 dL_law_1136 dL_law_1137 dL_law_1142 (by decide) kb E ?_
  exact zV_wide (by omega) (by omega) (kk _ _ _ _ _ _ E.2.2 (by omega))
set_option maxRecDepth 100000 in
set_option maxHeartbeats 4000000 in
theorem k_rootFailure {Γ : zG} {ad : Nat → Int → Nat} {cs ss MC MS bs N : Nat} {xs : Nat → Int32} {x y : zSt} {i q : Int} {l6 l7 l8 : Option Value} (hX : zX Γ ad RL cL_law 9) (hN : zN Γ 60 MC MS) (hG : zNG Γ) (hS : zScr Γ bs N xs) (hi : 0 ≤ i ∧ i + 7 < N) (hNn : N ≤ 4096) (hc : cs + 3 ≤ MC) (hs : ss + 18 ≤ MS) (H : JV x (mCod y 0) q) (hq : q + 561 < 1000000) (kk : zGoOn Γ ad (cs + 3) (ss + 18) bs i q) : zV Γ ad cs ss x y 1145 [some (.ref bs), some (.ref (ad 0 0)), some (.ref (ad 20 0)), some (.ref (ad 60 0)), some (.ref (ad 61 0)), some (zI i), l6, l7, l8] [] := by
  have hI : xI x := JV_xI H (by omega)
  have C := jw_c H
  have n0 := (jw_I H).1
  obtain ⟨u, eu, zu⟩ : ∃ v : Int, v = zSx xs (i + 1) ∧ zR v := ⟨_, rfl, zR_of _⟩
  have q0 : 0 ≤ q := JV_q H
  refine zV_aloadn hX dL_law_1145 rfl ?_
  refine zV_arg hX hS hNn hi ⟨by decide, by decide⟩ eu rfl rfl dL_law_1146 dL_law_1147 dL_law_1149 dL_law_1150 dL_law_1151 ?_
  refine zV_aloadn hX dL_law_1152 rfl ?_
  refine zV_callSH (n := 3) hX rfl hN hG (h_rootFailure (P := (fun (k : Int) (x1 : zSt) => x1 = x ∧ ((k = 1 ∧ ¬ (0 ≤ u ∧ u ≤ x 0 0 9 - 1)) ∨ (k = 2 ∧ (0 ≤ u ∧ u ≤ x 0 0 9 - 1) ∧ ¬ x 9 u 9 = 2)))) (c_X4_rootFailure zu hI) (fun E x1 y1 p => p.1.imp (fun h => ⟨h.1, ⟨p.2.1, Or.inl ⟨rfl, h.2⟩⟩, p.2.2⟩) (fun h => ⟨h.1, ⟨p.2.1, Or.inr ⟨rfl, h.2⟩⟩, p.2.2⟩))) zw_cw_yL_rootFailure zw_mL_182 zw_in_RL zw_st_yL_rootFailure ⟨by decide, by decide, by decide +kernel⟩ rfl (by omega) (by decide) (by omega) (by omega) rfl (Nat.le_of_ble_eq_true rfl) dL_law_1153 (fun v1 x1 y1 p1 => ?_)
  obtain ⟨k, rfl, kb, H1, ag⟩ := m_gen (q' := q + 561) H p1 (by omega) (fun W HW g vv y2 hm => ⟨(s_rootFailure HW g hm).1, zGo_le (s_rootFailure HW g hm).2 (by omega) (by omega)⟩) (fun W HW k x1 pk vv y2 hm => by
    obtain ⟨rfl, pk⟩ := pk
    exact f_rootFailure HW pk hm)
  refine zV_istore6 hX dL_law_1156 ?_
  refine zV_aloadn hX dL_law_1158 rfl ?_
  refine zV_arg hX hS hNn hi ⟨by decide, by decide⟩ eu rfl rfl dL_law_1159 dL_law_1160 dL_law_1162 dL_law_1163 dL_law_1164 ?_
  refine zV_callV (n := 1) hX rfl hN 20 rfl rfl ⟨by decide, by decide⟩ (c_X5_rootFailure zu (jw_I H1)) zw_co_yX5_rootFailure zw_mL_184 zw_in_RX5 zw_im_yX5_rootFailure zw_se_yX5_rootFailure ⟨by decide, by decide, by decide +kernel⟩ rfl (by omega) (by decide) (by omega) (by omega) rfl (Nat.le_of_ble_eq_true rfl) dL_law_1165 (fun vv x2 y2 p2 => ?_) (fun _ _ _ h => h.elim)
  obtain ⟨rfl, p2⟩ := p2
  obtain ⟨bv, rfl, E⟩ := ag _ _ p2
  refine zV_istore7 hX dL_law_1168 ?_
  refine law_tail (T := 1170) hX hN (by omega) (by omega) (by omega) dL_law_1170 dL_law_1171 dL_law_1174 dL_law_1176 dL_law_1181 dL_law_1183 dL_law_1186 dL_law_1187 dL_law_1188 dL_law_1189 dL_law_1191 dL_law_1192 dL_law_1193 dL_law_1198 (by decide) kb E ?_
  exact zV_wide (by omega) (by omega) (kk _ _ _ _ _ _ E.2.2 (by omega))
set_option maxRecDepth 100000 in
set_option maxHeartbeats 4000000 in
theorem k_causes {Γ : zG} {ad : Nat → Int → Nat} {cs ss MC MS bs N : Nat} {xs : Nat → Int32} {x y : zSt} {i q : Int} {l6 l7 l8 : Option Value} (hX : zX Γ ad RL cL_law 9) (hN : zN Γ 60 MC MS) (hG : zNG Γ) (hS : zScr Γ bs N xs) (hi : 0 ≤ i ∧ i + 7 < N) (hNn : N ≤ 4096) (hc : cs + 3 ≤ MC) (hs : ss + 18 ≤ MS) (H : JV x (mCod y 0) q) (hq : q + 561 < 1000000) (kk : zGoOn Γ ad (cs + 3) (ss + 18) bs i q) : zV Γ ad cs ss x y 1201 [some (.ref bs), some (.ref (ad 0 0)), some (.ref (ad 20 0)), some (.ref (ad 60 0)), some (.ref (ad 61 0)), some (zI i), l6, l7, l8] [] := by
  have hI : xI x := JV_xI H (by omega)
  have C := jw_c H
  have n0 := (jw_I H).1
  obtain ⟨u, eu, zu⟩ : ∃ v : Int, v = zSx xs (i + 1) ∧ zR v := ⟨_, rfl, zR_of _⟩
  have q0 : 0 ≤ q := JV_q H
  refine zV_aloadn hX dL_law_1201 rfl ?_
  refine zV_arg hX hS hNn hi ⟨by decide, by decide⟩ eu rfl rfl dL_law_1202 dL_law_1203 dL_law_1205 dL_law_1206 dL_law_1207 ?_
  refine zV_aloadn hX dL_law_1208 rfl ?_
  refine zV_callSH (n := 3) hX rfl hN hG (h_causes (P := (fun (k : Int) (x1 : zSt) => x1 = x ∧ ((k = 1 ∧ ¬ (0 ≤ u ∧ u ≤ x 0 0 9 - 1)) ∨ (k = 2 ∧ (0 ≤ u ∧ u ≤ x 0 0 9 - 1) ∧ ¬ x 9 u 9 = 2)))) (c_X4_causes zu hI) (fun E x1 y1 p => p.1.imp (fun h => ⟨h.1, ⟨p.2.1, Or.inl ⟨rfl, h.2⟩⟩, p.2.2⟩) (fun h => ⟨h.1, ⟨p.2.1, Or.inr ⟨rfl, h.2⟩⟩, p.2.2⟩))) zw_cw_yL_causes zw_mL_185 zw_in_RL zw_st_yL_causes ⟨by decide, by decide, by decide +kernel⟩ rfl (by omega) (by decide) (by omega) (by omega) rfl (Nat.le_of_ble_eq_true rfl) dL_law_1209 (fun v1 x1 y1 p1 => ?_)
  obtain ⟨k, rfl, kb, H1, ag⟩ := m_gen (q' := q + 561) H p1 (by omega) (fun W HW g vv y2 hm => ⟨(s_causes HW g hm).1, zGo_le (s_causes HW g hm).2 (by omega) (by omega)⟩) (fun W HW k x1 pk vv y2 hm => by
    obtain ⟨rfl, pk⟩ := pk
    exact f_causes HW pk hm)
  refine zV_istore6 hX dL_law_1212 ?_
  refine zV_aloadn hX dL_law_1214 rfl ?_
  refine zV_arg hX hS hNn hi ⟨by decide, by decide⟩ eu rfl rfl dL_law_1215 dL_law_1216 dL_law_1218 dL_law_1219 dL_law_1220 ?_
  refine zV_callV (n := 1) hX rfl hN 20 rfl rfl ⟨by decide, by decide⟩ (c_X5_causes zu (jw_I H1)) zw_co_yX5_causes zw_mL_187 zw_in_RX5 zw_im_yX5_causes zw_se_yX5_causes ⟨by decide, by decide, by decide +kernel⟩ rfl (by omega) (by decide) (by omega) (by omega) rfl (Nat.le_of_ble_eq_true rfl) dL_law_1221 (fun vv x2 y2 p2 => ?_) (fun _ _ _ h => h.elim)
  obtain ⟨rfl, p2⟩ := p2
  obtain ⟨bv, rfl, E⟩ := ag _ _ p2
  refine zV_istore7 hX dL_law_1224 ?_
  refine law_tail (T := 1226) hX hN (by omega) (by omega) (by omega) dL_law_1226 dL_law_1227 dL_law_1230 dL_law_1232 dL_law_1237 dL_law_1239 dL_law_1242 dL_law_1243 dL_law_1244 dL_law_1245 dL_law_1247 dL_law_1248 dL_law_1249 dL_law_1254 (by decide) kb E ?_
  exact zV_wide (by omega) (by omega) (kk _ _ _ _ _ _ E.2.2 (by omega))
set_option maxRecDepth 100000 in
set_option maxHeartbeats 4000000 in
theorem k_depends {Γ : zG} {ad : Nat → Int → Nat} {cs ss MC MS bs N : Nat} {xs : Nat → Int32} {x y : zSt} {i q : Int} {l6 l7 l8 : Option Value} (hX : zX Γ ad RL cL_law 9) (hN : zN Γ 60 MC MS) (hG : zNG Γ) (hS : zScr Γ bs N xs) (hi : 0 ≤ i ∧ i + 7 < N) (hNn : N ≤ 4096) (hc : cs + 3 ≤ MC) (hs : ss + 18 ≤ MS) (H : JV x (mCod y 0) q) (hq : q + 561 < 1000000) (kk : zGoOn Γ ad (cs + 3) (ss + 18) bs i q) : zV Γ ad cs ss x y 1257 [some (.ref bs), some (.ref (ad 0 0)), some (.ref (ad 20 0)), some (.ref (ad 60 0)), some (.ref (ad 61 0)), some (zI i), l6, l7, l8] [] := by
  have hI : xI x := JV_xI H (by omega)
  have C := jw_c H
  have n0 := (jw_I H).1
  obtain ⟨u, eu, zu⟩ : ∃ v : Int, v = zSx xs (i + 1) ∧ zR v := ⟨_, rfl, zR_of _⟩
  obtain ⟨v, ev, zv⟩ : ∃ v : Int, v = zSx xs (i + 2) ∧ zR v := ⟨_, rfl, zR_of _⟩
  have q0 : 0 ≤ q := JV_q H
  refine zV_aloadn hX dL_law_1257 rfl ?_
  refine zV_arg hX hS hNn hi ⟨by decide, by decide⟩ eu rfl rfl dL_law_1258 dL_law_1259 dL_law_1261 dL_law_1262 dL_law_1263 ?_
  refine zV_arg hX hS hNn hi ⟨by decide, by decide⟩ ev rfl rfl dL_law_1264 dL_law_1265 dL_law_1267 dL_law_1268 dL_law_1269 ?_
  refine zV_aloadn hX dL_law_1270 rfl ?_
  refine zV_callSH (n := 4) hX rfl hN hG (h_depends (P := (fun (k : Int) (x1 : zSt) => x1 = x ∧ ((k = 1 ∧ ¬ (0 ≤ u ∧ u ≤ x 0 0 9 - 1)) ∨ (k = 2 ∧ (0 ≤ u ∧ u ≤ x 0 0 9 - 1) ∧ ¬ (0 ≤ v ∧ v ≤ 11))))) (c_X4_depends zu zv hI) (fun E x1 y1 p => p.1.imp (fun h => ⟨h.1, ⟨p.2.1, Or.inl ⟨rfl, h.2⟩⟩, p.2.2⟩) (fun h => ⟨h.1, ⟨p.2.1, Or.inr ⟨rfl, h.2⟩⟩, p.2.2⟩)) zb_01) zw_cw_yL_depends zw_mL_188 zw_in_RL zw_st_yL_depends ⟨by decide, by decide, by decide +kernel⟩ rfl (by omega) (by decide) (by omega) (by omega) rfl (Nat.le_of_ble_eq_true rfl) dL_law_1271 (fun v1 x1 y1 p1 => ?_)
  obtain ⟨k, rfl, kb, H1, ag⟩ := m_gen (q' := q + 561) H p1 (by omega) (fun W HW g vv y2 hm => ⟨(s_depends HW g hm).1, zGo_le (s_depends HW g hm).2 (by omega) (by omega)⟩) (fun W HW k x1 pk vv y2 hm => by
    obtain ⟨rfl, pk⟩ := pk
    exact f_depends HW pk hm)
  refine zV_istore6 hX dL_law_1274 ?_
  refine zV_aloadn hX dL_law_1276 rfl ?_
  refine zV_arg hX hS hNn hi ⟨by decide, by decide⟩ eu rfl rfl dL_law_1277 dL_law_1278 dL_law_1280 dL_law_1281 dL_law_1282 ?_
  refine zV_arg hX hS hNn hi ⟨by decide, by decide⟩ ev rfl rfl dL_law_1283 dL_law_1284 dL_law_1286 dL_law_1287 dL_law_1288 ?_
  refine zV_callV (n := 2) hX rfl hN 20 rfl rfl ⟨by decide, by decide⟩ (c_X5_depends zu zv (jw_I H1)) zw_co_yX5_depends zw_mL_190 zw_in_RX5 zw_im_yX5_depends zw_se_yX5_depends ⟨by decide, by decide, by decide +kernel⟩ rfl (by omega) (by decide) (by omega) (by omega) rfl (Nat.le_of_ble_eq_true rfl) dL_law_1289 (fun vv x2 y2 p2 => ?_) (fun _ _ _ h => h.elim)
  obtain ⟨rfl, p2⟩ := p2
  obtain ⟨bv, rfl, E⟩ := ag _ _ p2
  refine zV_istore7 hX dL_law_1292 ?_
  have hb : zI bv = zI 0 ∨ zI bv = zI 1 := by
    rcases p2 with ⟨-, e, -⟩ | ⟨-, e, -⟩ | ⟨-, e, -⟩ | ⟨-, e, -⟩ <;> first | exact Or.inl (Option.some.inj e) | exact Or.inr (Option.some.inj e)
  obtain ⟨b2, hb2, hz⟩ : ∃ b2 : Int, (b2 = 0 ∨ b2 = 1) ∧ zI bv = zI b2 := hb.elim (fun h => ⟨0, Or.inl rfl, h⟩) (fun h => ⟨1, Or.inr rfl, h⟩)
  rw [hz]
  refine law_tailb (T := 1294) hX hN (by omega) (by omega) (by omega) dL_law_1294 dL_law_1295 dL_law_1298 dL_law_1300 dL_law_1305 dL_law_1307 dL_law_1310 dL_law_1311 dL_law_1312 dL_law_1313 dL_law_1315 dL_law_1318 dL_law_1319 dL_law_1322 dL_law_1323 dL_law_1324 dL_law_1329 (by decide) kb hb2 (zEnd_b E hz) ?_
  exact zV_wide (by omega) (by omega) (kk _ _ _ _ _ _ E.2.2 (by omega))
set_option maxRecDepth 100000 in
set_option maxHeartbeats 4000000 in
theorem k_owners {Γ : zG} {ad : Nat → Int → Nat} {cs ss MC MS bs N : Nat} {xs : Nat → Int32} {x y : zSt} {i q : Int} {l6 l7 l8 : Option Value} (hX : zX Γ ad RL cL_law 9) (hN : zN Γ 60 MC MS) (hG : zNG Γ) (hS : zScr Γ bs N xs) (hi : 0 ≤ i ∧ i + 7 < N) (hNn : N ≤ 4096) (hc : cs + 3 ≤ MC) (hs : ss + 18 ≤ MS) (H : JV x (mCod y 0) q) (hq : q + 561 < 1000000) (kk : zGoOn Γ ad (cs + 3) (ss + 18) bs i q) : zV Γ ad cs ss x y 1332 [some (.ref bs), some (.ref (ad 0 0)), some (.ref (ad 20 0)), some (.ref (ad 60 0)), some (.ref (ad 61 0)), some (zI i), l6, l7, l8] [] := by
  have hI : xI x := JV_xI H (by omega)
  have C := jw_c H
  have n0 := (jw_I H).1
  obtain ⟨u, eu, zu⟩ : ∃ v : Int, v = zSx xs (i + 1) ∧ zR v := ⟨_, rfl, zR_of _⟩
  have q0 : 0 ≤ q := JV_q H
  refine zV_aloadn hX dL_law_1332 rfl ?_
  refine zV_arg hX hS hNn hi ⟨by decide, by decide⟩ eu rfl rfl dL_law_1333 dL_law_1334 dL_law_1336 dL_law_1337 dL_law_1338 ?_
  refine zV_aloadn hX dL_law_1339 rfl ?_
  refine zV_callSH (n := 3) hX rfl hN hG (h_owners (P := (fun (k : Int) (x1 : zSt) => x1 = x ∧ ((k = 1 ∧ ¬ (0 ≤ u ∧ u ≤ x 0 0 9 - 1))))) (c_X4_owners zu hI) (fun E x1 y1 p => ⟨p.1.1, ⟨p.2.1, rfl, p.1.2⟩, p.2.2⟩)) zw_cw_yL_owners zw_mL_191 zw_in_RL zw_st_yL_owners ⟨by decide, by decide, by decide +kernel⟩ rfl (by omega) (by decide) (by omega) (by omega) rfl (Nat.le_of_ble_eq_true rfl) dL_law_1340 (fun v1 x1 y1 p1 => ?_)
  obtain ⟨k, rfl, kb, H1, ag⟩ := m_gen (q' := q + 561) H p1 (by omega) (fun W HW g vv y2 hm => ⟨(s_owners HW g hm).1, zGo_le (s_owners HW g hm).2 (by omega) (by omega)⟩) (fun W HW k x1 pk vv y2 hm => by
    obtain ⟨rfl, pk⟩ := pk
    exact f_owners HW pk hm)
  refine zV_istore6 hX dL_law_1343 ?_
  refine zV_aloadn hX dL_law_1345 rfl ?_
  refine zV_arg hX hS hNn hi ⟨by decide, by decide⟩ eu rfl rfl dL_law_1346 dL_law_1347 dL_law_1349 dL_law_1350 dL_law_1351 ?_
  refine zV_callV (n := 1) hX rfl hN 20 rfl rfl ⟨by decide, by decide⟩ (c_X5_owners zu (jw_I H1)) zw_co_yX5_owners zw_mL_193 zw_in_RX5 zw_im_yX5_owners zw_se_yX5_owners ⟨by decide, by decide, by decide +kernel⟩ rfl (by omega) (by decide) (by omega) (by omega) rfl (Nat.le_of_ble_eq_true rfl) dL_law_1352 (fun vv x2 y2 p2 => ?_) (fun _ _ _ h => h.elim)
  obtain ⟨rfl, p2⟩ := p2
  obtain ⟨bv, rfl, E⟩ := ag _ _ p2
  refine zV_istore7 hX dL_law_1355 ?_
  refine law_tail (T := 1357) hX hN (by omega) (by omega) (by omega) dL_law_1357 dL_law_1358 dL_law_1361 dL_law_1363 dL_law_1368 dL_law_1370 dL_law_1373 dL_law_1374 dL_law_1375 dL_law_1376 dL_law_1378 dL_law_1379 dL_law_1380 dL_law_1385 (by decide) kb E ?_
  exact zV_wide (by omega) (by omega) (kk _ _ _ _ _ _ E.2.2 (by omega))
