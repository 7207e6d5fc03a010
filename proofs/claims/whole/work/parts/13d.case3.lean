/-! THE LAW, case by case. -/
set_option maxRecDepth 100000 in
set_option maxHeartbeats 4000000 in
theorem k_dependents {Γ : zG} {ad : Nat → Int → Nat} {cs ss MC MS bs N : Nat} {xs : Nat → Int32} {x y : zSt} {i q : Int} {l6 l7 l8 : Option Value} (hX : zX Γ ad RL cL_law 9) (hN : zN Γ 60 MC MS) (hG : zNG Γ) (hS : zScr Γ bs N xs) (hi : 0 ≤ i ∧ i + 7 < N) (hNn : N ≤ 4096) (hc : cs + 3 ≤ MC) (hs : ss + 18 ≤ MS) (H : JV x (mCod y 0) q) (hq : q + 561 < 1000000) (kk : zGoOn Γ ad (cs + 3) (ss + 18) bs i q) : zV Γ ad cs ss x y 1388 [some (.ref bs), some (.ref (ad 0 0)), some (.ref (ad 20 0)), some (.ref (ad 60 0)), some (.ref (ad 61 0)), some (zI i), l6, l7, l8] [] := by
  have hI : xI x := JV_xI H (by omega)
  have C := jw_c H
  have n0 := (jw_I H).1
  obtain ⟨v, ev, zv⟩ : ∃ v : Int, v = zSx xs (i + 1) ∧ zR v := ⟨_, rfl, zR_of _⟩
  have q0 : 0 ≤ q := JV_q H
  refine zV_aloadn hX dL_law_1388 rfl ?_
  refine zV_arg hX hS hNn hi ⟨by decide, by decide⟩ ev rfl rfl dL_law_1389 dL_law_1390 dL_law_1392 dL_law_1393 dL_law_1394 ?_
  refine zV_aloadn hX dL_law_1395 rfl ?_
  refine zV_callSH (n := 3) hX rfl hN hG (h_dependents (P := (fun (k : Int) (x1 : zSt) => x1 = x ∧ ((k = 1 ∧ ¬ (0 ≤ v ∧ v ≤ 11))))) (c_X4_dependents zv hI) (fun E x1 y1 p => ⟨p.1.1, ⟨p.2.1, rfl, p.1.2⟩, p.2.2⟩)) zw_cw_yL_dependents zw_mL_194 zw_in_RL zw_st_yL_dependents ⟨by decide, by decide, by decide +kernel⟩ rfl (by omega) (by decide) (by omega) (by omega) rfl (Nat.le_of_ble_eq_true rfl) dL_law_1396 (fun v1 x1 y1 p1 => ?_)
  obtain ⟨k, rfl, kb, H1, ag⟩ := m_gen (q' := q + 561) H p1 (by omega) (fun W HW g vv y2 hm => ⟨(s_dependents HW g hm).1, zGo_le (s_dependents HW g hm).2 (by omega) (by omega)⟩) (fun W HW k x1 pk vv y2 hm => by
    obtain ⟨rfl, pk⟩ := pk
    exact f_dependents HW pk hm)
  refine zV_istore6 hX dL_law_1399 ?_
  refine zV_aloadn hX dL_law_1401 rfl ?_
  refine zV_arg hX hS hNn hi ⟨by decide, by decide⟩ ev rfl rfl dL_law_1402 dL_law_1403 dL_law_1405 dL_law_1406 dL_law_1407 ?_
  refine zV_callV (n := 1) hX rfl hN 20 rfl rfl ⟨by decide, by decide⟩ (c_X5_dependents zv (jw_I H1)) zw_co_yX5_dependents zw_mL_196 zw_in_RX5 zw_im_yX5_dependents zw_se_yX5_dependents ⟨by decide, by decide, by decide +kernel⟩ rfl (by omega) (by decide) (by omega) (by omega) rfl (Nat.le_of_ble_eq_true rfl) dL_law_1408 (fun vv x2 y2 p2 => ?_) (fun _ _ _ h => h.elim)
  obtain ⟨rfl, p2⟩ := p2
  obtain ⟨bv, rfl, E⟩ := ag _ _ p2
  refine zV_istore7 hX dL_law_1411 ?_
  refine law_tail (T := 1413) hX hN (by omega) (by omega) (by omega) dL_law_1413 dL_law_1414 dL_law_1417 dL_law_1419 dL_law_1424 dL_law_1426 dL_law_1429 dL_law_1430 dL_law_1431 dL_law_1432 dL_law_1434 dL_law_1435 dL_law_1436 dL_law_1441 (by decide) kb E ?_
  exact zV_wide (by omega) (by omega) (kk _ _ _ _ _ _ E.2.2 (by omega))
set_option maxRecDepth 100000 in
set_option maxHeartbeats 4000000 in
theorem k_addKernel {Γ : zG} {ad : Nat → Int → Nat} {cs ss MC MS bs N : Nat} {xs : Nat → Int32} {x y : zSt} {i q : Int} {l6 l7 l8 : Option Value} (hX : zX Γ ad RL cL_law 9) (hN : zN Γ 60 MC MS) (hG : zNG Γ) (hS : zScr Γ bs N xs) (hi : 0 ≤ i ∧ i + 7 < N) (hNn : N ≤ 4096) (hc : cs + 3 ≤ MC) (hs : ss + 18 ≤ MS) (H : JV x (mCod y 0) q) (hq : q + 561 < 1000000) (kk : zGoOn Γ ad (cs + 3) (ss + 18) bs i q) : zV Γ ad cs ss x y 1444 [some (.ref bs), some (.ref (ad 0 0)), some (.ref (ad 20 0)), some (.ref (ad 60 0)), some (.ref (ad 61 0)), some (zI i), l6, l7, l8] [] := by
  have hI : xI x := JV_xI H (by omega)
  have C := jw_c H
  have n0 := (jw_I H).1
  obtain ⟨r, er, zr⟩ : ∃ v : Int, v = zSx xs (i + 1) ∧ zR v := ⟨_, rfl, zR_of _⟩
  have q0 : 0 ≤ q := JV_q H
  refine zV_aloadn hX dL_law_1444 rfl ?_
  refine zV_arg hX hS hNn hi ⟨by decide, by decide⟩ er rfl rfl dL_law_1445 dL_law_1446 dL_law_1448 dL_law_1449 dL_law_1450 ?_
  refine zV_aloadn hX dL_law_1451 rfl ?_
  refine zV_callSH (n := 3) hX rfl hN hG (h_addKernel (P := (fun (k : Int) (x1 : zSt) => x1 = x ∧ ((k = 1 ∧ ¬ (1 ≤ r ∧ r ≤ 20)) ∨ (k = 2 ∧ (1 ≤ r ∧ r ≤ 20) ∧ ¬ x 0 0 10 < 3)))) (c_X4_addKernel zr hI) (fun E x1 y1 p => p.1.imp (fun h => ⟨h.1, ⟨p.2.1, Or.inl ⟨rfl, h.2⟩⟩, p.2.2⟩) (fun h => ⟨h.1, ⟨p.2.1, Or.inr ⟨rfl, h.2⟩⟩, p.2.2⟩))) zw_cw_yL_addKernel zw_mL_197 zw_in_RL zw_st_yL_addKernel ⟨by decide, by decide, by decide +kernel⟩ rfl (by omega) (by decide) (by omega) (by omega) rfl (Nat.le_of_ble_eq_true rfl) dL_law_1452 (fun v1 x1 y1 p1 => ?_)
  obtain ⟨k, rfl, kb, H1, ag⟩ := m_gen (q' := q + 561) H p1 (by omega) (fun W HW g vv y2 hm => ⟨(s_addKernel HW g hm).1, zGo_le (s_addKernel HW g hm).2 (by omega) (by omega)⟩) (fun W HW k x1 pk vv y2 hm => by
    obtain ⟨rfl, pk⟩ := pk
    exact f_addKernel HW pk hm)
  refine zV_istore6 hX dL_law_1455 ?_
  refine zV_aloadn hX dL_law_1457 rfl ?_
  refine zV_arg hX hS hNn hi ⟨by decide, by decide⟩ er rfl rfl dL_law_1458 dL_law_1459 dL_law_1461 dL_law_1462 dL_law_1463 ?_
  refine zV_callV (n := 1) hX rfl hN 20 rfl rfl ⟨by decide, by decide⟩ (c_X5_addKernel zr (jw_I H1)) zw_co_yX5_addKernel zw_mL_199 zw_in_RX5 zw_im_yX5_addKernel zw_se_yX5_addKernel ⟨by decide, by decide, by decide +kernel⟩ rfl (by omega) (by decide) (by omega) (by omega) rfl (Nat.le_of_ble_eq_true rfl) dL_law_1464 (fun vv x2 y2 p2 => ?_) (fun _ _ _ h => h.elim)
  obtain ⟨rfl, p2⟩ := p2
  obtain ⟨bv, rfl, E⟩ := ag _ _ p2
  refine zV_istore7 hX dL_law_1467 ?_
  refine law_tail (T := 1469) hX hN (by omega) (by omega) (by omega) dL_law_1469 dL_law_1470 dL_law_1473 dL_law_1475 dL_law_1480 dL_law_1482 dL_law_1485 dL_law_1486 dL_law_1487 dL_law_1488 dL_law_1490 dL_law_1491 dL_law_1492 dL_law_1497 (by decide) kb E ?_
  exact zV_wide (by omega) (by omega) (kk _ _ _ _ _ _ E.2.2 (by omega))
set_option maxRecDepth 100000 in
set_option maxHeartbeats 4000000 in
theorem k_free {Γ : zG} {ad : Nat → Int → Nat} {cs ss MC MS bs N : Nat} {xs : Nat → Int32} {x y : zSt} {i q : Int} {l6 l7 l8 : Option Value} (hX : zX Γ ad RL cL_law 9) (hN : zN Γ 60 MC MS) (hG : zNG Γ) (hS : zScr Γ bs N xs) (hi : 0 ≤ i ∧ i + 7 < N) (hNn : N ≤ 4096) (hc : cs + 3 ≤ MC) (hs : ss + 18 ≤ MS) (H : JV x (mCod y 0) q) (hq : q + 561 < 1000000) (kk : zGoOn Γ ad (cs + 3) (ss + 18) bs i q) : zV Γ ad cs ss x y 1500 [some (.ref bs), some (.ref (ad 0 0)), some (.ref (ad 20 0)), some (.ref (ad 60 0)), some (.ref (ad 61 0)), some (zI i), l6, l7, l8] [] := by
  have hI : xI x := JV_xI H (by omega)
  have C := jw_c H
  have n0 := (jw_I H).1
  obtain ⟨u, eu, zu⟩ : ∃ v : Int, v = zSx xs (i + 1) ∧ zR v := ⟨_, rfl, zR_of _⟩
  have q0 : 0 ≤ q := JV_q H
  refine zV_aloadn hX dL_law_1500 rfl ?_
  refine zV_arg hX hS hNn hi ⟨by decide, by decide⟩ eu rfl rfl dL_law_1501 dL_law_1502 dL_law_1504 dL_law_1505 dL_law_1506 ?_
  refine zV_aloadn hX dL_law_1507 rfl ?_
  refine zV_callSH (n := 3) hX rfl hN hG (h_free (P := (fun (k : Int) (x1 : zSt) => x1 = x ∧ ((k = 1 ∧ ¬ (0 ≤ u ∧ u ≤ x 0 0 10 - 1))))) (c_X4_free zu hI) (fun E x1 y1 p => ⟨p.1.1, ⟨p.2.1, rfl, p.1.2⟩, p.2.2⟩)) zw_cw_yL_free zw_mL_200 zw_in_RL zw_st_yL_free ⟨by decide, by decide, by decide +kernel⟩ rfl (by omega) (by decide) (by omega) (by omega) rfl (Nat.le_of_ble_eq_true rfl) dL_law_1508 (fun v1 x1 y1 p1 => ?_)
  obtain ⟨k, rfl, kb, H1, ag⟩ := m_gen (q' := q + 561) H p1 (by omega) (fun W HW g vv y2 hm => ⟨(s_free HW g hm).1, zGo_le (s_free HW g hm).2 (by omega) (by omega)⟩) (fun W HW k x1 pk vv y2 hm => by
    obtain ⟨rfl, pk⟩ := pk
    exact f_free HW pk hm)
  refine zV_istore6 hX dL_law_1511 ?_
  refine zV_aloadn hX dL_law_1513 rfl ?_
  refine zV_arg hX hS hNn hi ⟨by decide, by decide⟩ eu rfl rfl dL_law_1514 dL_law_1515 dL_law_1517 dL_law_1518 dL_law_1519 ?_
  refine zV_callV (n := 1) hX rfl hN 20 rfl rfl ⟨by decide, by decide⟩ (c_X5_free zu (jw_I H1)) zw_co_yX5_free zw_mL_202 zw_in_RX5 zw_im_yX5_free zw_se_yX5_free ⟨by decide, by decide, by decide +kernel⟩ rfl (by omega) (by decide) (by omega) (by omega) rfl (Nat.le_of_ble_eq_true rfl) dL_law_1520 (fun vv x2 y2 p2 => ?_) (fun _ _ _ h => h.elim)
  obtain ⟨rfl, p2⟩ := p2
  obtain ⟨bv, rfl, E⟩ := ag _ _ p2
  refine zV_istore7 hX dL_law_1523 ?_
  refine law_tail (T := 1525) hX hN (by omega) (by omega) (by omega) dL_law_1525 dL_law_1526 dL_law_1529 dL_law_1531 dL_law_1536 dL_law_1538 dL_law_1541 dL_law_1542 dL_law_1543 dL_law_1544 dL_law_1546 dL_law_1547 dL_law_1548 dL_law_1553 (by decide) kb E ?_
  exact zV_wide (by omega) (by omega) (kk _ _ _ _ _ _ E.2.2 (by omega))
set_option maxRecDepth 100000 in
set_option maxHeartbeats 4000000 in
theorem k_schedule {Γ : zG} {ad : Nat → Int → Nat} {cs ss MC MS bs N : Nat} {xs : Nat → Int32} {x y : zSt} {i q : Int} {l6 l7 l8 : Option Value} (hX : zX Γ ad RL cL_law 9) (hN : zN Γ 60 MC MS) (hG : zNG Γ) (hS : zScr Γ bs N xs) (hi : 0 ≤ i ∧ i + 7 < N) (hNn : N ≤ 4096) (hc : cs + 3 ≤ MC) (hs : ss + 18 ≤ MS) (H : JV x (mCod y 0) q) (hq : q + 561 < 1000000) (kk : zGoOn Γ ad (cs + 3) (ss + 18) bs i q) : zV Γ ad cs ss x y 1556 [some (.ref bs), some (.ref (ad 0 0)), some (.ref (ad 20 0)), some (.ref (ad 60 0)), some (.ref (ad 61 0)), some (zI i), l6, l7, l8] [] := by
  have hI : xI x := JV_xI H (by omega)
  have C := jw_c H
  have n0 := (jw_I H).1
  obtain ⟨u, eu, zu⟩ : ∃ v : Int, v = zSx xs (i + 1) ∧ zR v := ⟨_, rfl, zR_of _⟩
  obtain ⟨w, ew, zw⟩ : ∃ v : Int, v = zSx xs (i + 2) ∧ zR v := ⟨_, rfl, zR_of _⟩
  have q0 : 0 ≤ q := JV_q H
  refine zV_aloadn hX dL_law_1556 rfl ?_
  refine zV_arg hX hS hNn hi ⟨by decide, by decide⟩ eu rfl rfl dL_law_1557 dL_law_1558 dL_law_1560 dL_law_1561 dL_law_1562 ?_
  refine zV_arg hX hS hNn hi ⟨by decide, by decide⟩ ew rfl rfl dL_law_1563 dL_law_1564 dL_law_1566 dL_law_1567 dL_law_1568 ?_
  refine zV_aloadn hX dL_law_1569 rfl ?_
  refine zV_callSH (n := 4) hX rfl hN hG (h_schedule (P := (fun (k : Int) (x1 : zSt) => x1 = x ∧ ((k = 1 ∧ ¬ (0 ≤ u ∧ u ≤ x 0 0 9 - 1)) ∨ (k = 2 ∧ (0 ≤ u ∧ u ≤ x 0 0 9 - 1) ∧ ¬ (0 ≤ w ∧ w ≤ 50))))) (c_X4_schedule zu zw hI) (fun E x1 y1 p => p.1.imp (fun h => ⟨h.1, ⟨p.2.1, Or.inl ⟨rfl, h.2⟩⟩, p.2.2⟩) (fun h => ⟨h.1, ⟨p.2.1, Or.inr ⟨rfl, h.2⟩⟩, p.2.2⟩))) zw_cw_yL_schedule zw_mL_203 zw_in_RL zw_st_yL_schedule ⟨by decide, by decide, by decide +kernel⟩ rfl (by omega) (by decide) (by omega) (by omega) rfl (Nat.le_of_ble_eq_true rfl) dL_law_1570 (fun v1 x1 y1 p1 => ?_)
  obtain ⟨k, rfl, kb, H1, ag⟩ := m_gen (q' := q + 561) H p1 (by omega) (fun W HW g vv y2 hm => ⟨(s_schedule HW g hm).1, zGo_le (s_schedule HW g hm).2 (by omega) (by omega)⟩) (fun W HW k x1 pk vv y2 hm => by
    obtain ⟨rfl, pk⟩ := pk
    exact f_schedule HW pk hm)
  refine zV_istore6 hX dL_law_1573 ?_
  refine zV_aloadn hX dL_law_1575 rfl ?_
  refine zV_arg hX hS hNn hi ⟨by decide, by decide⟩ eu rfl rfl dL_law_1576 dL_law_1577 dL_law_1579 dL_law_1580 dL_law_1581 ?_
  refine zV_arg hX hS hNn hi ⟨by decide, by decide⟩ ew rfl rfl dL_law_1582 dL_law_1583 dL_law_1585 dL_law_1586 dL_law_1587 ?_
  refine zV_callV (n := 2) hX rfl hN 20 rfl rfl ⟨by decide, by decide⟩ (c_X5_schedule zu zw (jw_I H1)) zw_co_yX5_schedule zw_mL_205 zw_in_RX5 zw_im_yX5_schedule zw_se_yX5_schedule ⟨by decide, by decide, by decide +kernel⟩ rfl (by omega) (by decide) (by omega) (by omega) rfl (Nat.le_of_ble_eq_true rfl) dL_law_1588 (fun vv x2 y2 p2 => ?_) (fun _ _ _ h => h.elim)
  obtain ⟨rfl, p2⟩ := p2
  obtain ⟨bv, rfl, E⟩ := ag _ _ p2
  refine zV_istore7 hX dL_law_1591 ?_
  refine law_tail (T := 1593) hX hN (by omega) (by omega) (by omega) dL_law_1593 dL_law_1594 dL_law_1597 dL_law_1599 dL_law_1604 dL_law_1606 dL_law_1609 dL_law_1610 dL_law_1611 dL_law_1612 dL_law_1614 dL_law_1615 dL_law_1616 dL_law_1621 (by decide) kb E ?_
  exact zV_wide (by omega) (by omega) (kk _ _ _ _ _ _ E.2.2 (by omega))
set_option maxRecDepth 100000 in
set_option maxHeartbeats 4000000 in
theorem k_pass {Γ : zG} {ad : Nat → Int → Nat} {cs ss MC MS bs N : Nat} {xs : Nat → Int32} {x y : zSt} {i q : Int} {l6 l7 l8 : Option Value} (hX : zX Γ ad RL cL_law 9) (hN : zN Γ 60 MC MS) (hG : zNG Γ) (hS : zScr Γ bs N xs) (hi : 0 ≤ i ∧ i + 7 < N) (hNn : N ≤ 4096) (hc : cs + 3 ≤ MC) (hs : ss + 18 ≤ MS) (H : JV x (mCod y 0) q) (hq : q + 561 < 1000000) (kk : zGoOn Γ ad (cs + 3) (ss + 18) bs i q) : zV Γ ad cs ss x y 1624 [some (.ref bs), some (.ref (ad 0 0)), some (.ref (ad 20 0)), some (.ref (ad 60 0)), some (.ref (ad 61 0)), some (zI i), l6, l7, l8] [] := by
  have hI : xI x := JV_xI H (by omega)
  have C := jw_c H
  have n0 := (jw_I H).1
  obtain ⟨s, es, zs⟩ : ∃ v : Int, v = zSx xs (i + 1) ∧ zR v := ⟨_, rfl, zR_of _⟩
  have q0 : 0 ≤ q := JV_q H
  refine zV_aloadn hX dL_law_1624 rfl ?_
  refine zV_arg hX hS hNn hi ⟨by decide, by decide⟩ es rfl rfl dL_law_1625 dL_law_1626 dL_law_1628 dL_law_1629 dL_law_1630 ?_
  refine zV_aloadn hX dL_law_1631 rfl ?_
  refine zV_callSH (n := 3) hX rfl hN hG (h_pass (P := (fun (k : Int) (x1 : zSt) => x1 = x ∧ ((k = 1 ∧ ¬ (1 ≤ s ∧ s ≤ 50)) ∨ (k = 2 ∧ (1 ≤ s ∧ s ≤ 50) ∧ 5000 < x 0 0 12 + s)))) (c_X4_pass zs hI (fun h1 h2 => kp_pass H hq h1 h2)) (fun E x1 y1 p => p.1.imp (fun h => ⟨h.1, ⟨p.2.1, Or.inl ⟨rfl, h.2⟩⟩, p.2.2⟩) (fun h => ⟨h.1, ⟨p.2.1, Or.inr ⟨rfl, h.2⟩⟩, p.2.2⟩))) zw_cw_yL_pass zw_mL_206 zw_in_RL zw_st_yL_pass ⟨by decide, by decide, by decide +kernel⟩ rfl (by omega) (by decide) (by omega) (by omega) rfl (Nat.le_of_ble_eq_true rfl) dL_law_1632 (fun v1 x1 y1 p1 => ?_)
  obtain ⟨k, rfl, kb, H1, ag⟩ := m_gen (q' := q + 561) H p1 (by omega) (fun W HW g vv y2 hm => ⟨(s_pass HW ⟨g, by omega⟩ hm).1, zGo_le (s_pass HW ⟨g, by omega⟩ hm).2 (by omega) (by omega)⟩) (fun W HW k x1 pk vv y2 hm => by
    obtain ⟨rfl, pk⟩ := pk
    exact f_pass HW pk hm)
  refine zV_istore6 hX dL_law_1635 ?_
  refine zV_aloadn hX dL_law_1637 rfl ?_
  refine zV_arg hX hS hNn hi ⟨by decide, by decide⟩ es rfl rfl dL_law_1638 dL_law_1639 dL_law_1641 dL_law_1642 dL_law_1643 ?_
  refine zV_callV (n := 1) hX rfl hN 20 rfl rfl ⟨by decide, by decide⟩ (c_X5_pass zs (jw_I H1) (fun h1 h2 => kp_pass2 H1 hq h1 h2)) zw_co_yX5_pass zw_mL_208 zw_in_RX5 zw_im_yX5_pass zw_se_yX5_pass ⟨by decide, by decide, by decide +kernel⟩ rfl (by omega) (by decide) (by omega) (by omega) rfl (Nat.le_of_ble_eq_true rfl) dL_law_1644 (fun vv x2 y2 p2 => ?_) (fun _ _ _ h => h.elim)
  obtain ⟨rfl, p2⟩ := p2
  obtain ⟨bv, rfl, E⟩ := ag _ _ p2
  refine zV_istore7 hX dL_law_1647 ?_
  refine law_tail (T := 1649) hX hN (by omega) (by omega) (by omega) dL_law_1649 dL_law_1650 dL_law_1653 dL_law_1655 dL_law_1660 dL_law_1662 dL_law_1665 dL_law_1666 dL_law_1667 dL_law_1668 dL_law_1670 dL_law_1671 dL_law_1672 dL_law_1677 (by decide) kb E ?_
  exact zV_wide (by omega) (by omega) (kk _ _ _ _ _ _ E.2.2 (by omega))
set_option maxRecDepth 100000 in
set_option maxHeartbeats 4000000 in
theorem k_publish {Γ : zG} {ad : Nat → Int → Nat} {cs ss MC MS bs N : Nat} {xs : Nat → Int32} {x y : zSt} {i q : Int} {l6 l7 l8 : Option Value} (hX : zX Γ ad RL cL_law 9) (hN : zN Γ 60 MC MS) (hG : zNG Γ) (hS : zScr Γ bs N xs) (hi : 0 ≤ i ∧ i + 7 < N) (hNn : N ≤ 4096) (hc : cs + 3 ≤ MC) (hs : ss + 18 ≤ MS) (H : JV x (mCod y 0) q) (hq : q + 561 < 1000000) (kk : zGoOn Γ ad (cs + 3) (ss + 18) bs i q) : zV Γ ad cs ss x y 1838 [some (.ref bs), some (.ref (ad 0 0)), some (.ref (ad 20 0)), some (.ref (ad 60 0)), some (.ref (ad 61 0)), some (zI i), l6, l7, l8] [] := by
  have hI : xI x := JV_xI H (by omega)
  have C := jw_c H
  have n0 := (jw_I H).1
  obtain ⟨u, eu, zu⟩ : ∃ v : Int, v = zSx xs (i + 1) ∧ zR v := ⟨_, rfl, zR_of _⟩
  have q0 : 0 ≤ q := JV_q H
  refine zV_aloadn hX dL_law_1838 rfl ?_
  refine zV_arg hX hS hNn hi ⟨by decide, by decide⟩ eu rfl rfl dL_law_1839 dL_law_1840 dL_law_1842 dL_law_1843 dL_law_1844 ?_
  refine zV_aloadn hX dL_law_1845 rfl ?_
  refine zV_callSH (n := 3) hX rfl hN hG (h_publish (P := (fun (k : Int) (x1 : zSt) => x1 = x ∧ ((k = 1 ∧ ¬ (0 ≤ u ∧ u ≤ x 0 0 9 - 1)) ∨ (k = 2 ∧ (0 ≤ u ∧ u ≤ x 0 0 9 - 1) ∧ ¬ (zand (xFr x (x 0 0 9).toNat) (zshl 1 u) ≠ 0 ∧ x 0 0 11 < 20))))) (c_X4_publish zu hI) (fun E x1 y1 p => p.1.imp (fun h => ⟨h.1, ⟨p.2.1, Or.inl ⟨rfl, h.2⟩⟩, p.2.2⟩) (fun h => ⟨h.1, ⟨p.2.1, Or.inr ⟨rfl, h.2⟩⟩, p.2.2⟩))) zw_cw_yL_publish zw_mL_225 zw_in_RL zw_st_yL_publish ⟨by decide, by decide, by decide +kernel⟩ rfl (by omega) (by decide) (by omega) (by omega) rfl (Nat.le_of_ble_eq_true rfl) dL_law_1846 (fun v1 x1 y1 p1 => ?_)
  obtain ⟨k, rfl, kb, H1, ag⟩ := m_gen (q' := q + 561) H p1 (by omega) (fun W HW g vv y2 hm => ⟨(s_publish HW g hm).1, zGo_le (s_publish HW g hm).2 (by omega) (by omega)⟩) (fun W HW k x1 pk vv y2 hm => by
    obtain ⟨rfl, pk⟩ := pk
    exact f_publish HW pk hm)
  refine zV_istore6 hX dL_law_1849 ?_
  refine zV_aloadn hX dL_law_1851 rfl ?_
  refine zV_arg hX hS hNn hi ⟨by decide, by decide⟩ eu rfl rfl dL_law_1852 dL_law_1853 dL_law_1855 dL_law_1856 dL_law_1857 ?_
  refine zV_callV (n := 1) hX rfl hN 20 rfl rfl ⟨by decide, by decide⟩ (c_X5_publish zu (jw_I H1)) zw_co_yX5_publish zw_mL_227 zw_in_RX5 zw_im_yX5_publish zw_se_yX5_publish ⟨by decide, by decide, by decide +kernel⟩ rfl (by omega) (by decide) (by omega) (by omega) rfl (Nat.le_of_ble_eq_true rfl) dL_law_1858 (fun vv x2 y2 p2 => ?_) (fun _ _ _ h => h.elim)
  obtain ⟨rfl, p2⟩ := p2
  obtain ⟨bv, rfl, E⟩ := ag _ _ p2
  refine zV_istore7 hX dL_law_1861 ?_
  refine law_tail (T := 1863) hX hN (by omega) (by omega) (by omega) dL_law_1863 dL_law_1864 dL_law_1867 dL_law_1869 dL_law_1874 dL_law_1876 dL_law_1879 dL_law_1880 dL_law_1881 dL_law_1882 dL_law_1884 dL_law_1885 dL_law_1886 dL_law_1891 (by decide) kb E ?_
  exact zV_wide (by omega) (by omega) (kk _ _ _ _ _ _ E.2.2 (by omega))
set_option maxRecDepth 100000 in
set_option maxHeartbeats 4000000 in
theorem k_held {Γ : zG} {ad : Nat → Int → Nat} {cs ss MC MS bs N : Nat} {xs : Nat → Int32} {x y : zSt} {i q : Int} {l6 l7 l8 : Option Value} (hX : zX Γ ad RL cL_law 9) (hN : zN Γ 60 MC MS) (hG : zNG Γ) (hS : zScr Γ bs N xs) (hi : 0 ≤ i ∧ i + 7 < N) (hNn : N ≤ 4096) (hc : cs + 3 ≤ MC) (hs : ss + 18 ≤ MS) (H : JV x (mCod y 0) q) (hq : q + 561 < 1000000) (kk : zGoOn Γ ad (cs + 3) (ss + 18) bs i q) : zV Γ ad cs ss x y 1894 [some (.ref bs), some (.ref (ad 0 0)), some (.ref (ad 20 0)), some (.ref (ad 60 0)), some (.ref (ad 61 0)), some (zI i), l6, l7, l8] [] := by
  have hI : xI x := JV_xI H (by omega)
  have C := jw_c H
  have n0 := (jw_I H).1
  obtain ⟨u, eu, zu⟩ : ∃ v : Int, v = zSx xs (i + 1) ∧ zR v := ⟨_, rfl, zR_of _⟩
  have q0 : 0 ≤ q := JV_q H
  refine zV_aloadn hX dL_law_1894 rfl ?_
  refine zV_arg hX hS hNn hi ⟨by decide, by decide⟩ eu rfl rfl dL_law_1895 dL_law_1896 dL_law_1898 dL_law_1899 dL_law_1900 ?_
  refine zV_aloadn hX dL_law_1901 rfl ?_
  refine zV_callSH (n := 3) hX rfl hN hG (h_held (P := (fun (k : Int) (x1 : zSt) => x1 = x ∧ ((k = 1 ∧ ¬ (0 ≤ u ∧ u ≤ x 0 0 11 - 1))))) (c_X4_held zu hI) (fun E x1 y1 p => ⟨p.1.1, ⟨p.2.1, rfl, p.1.2⟩, p.2.2⟩)) zw_cw_yL_held zw_mL_228 zw_in_RL zw_st_yL_held ⟨by decide, by decide, by decide +kernel⟩ rfl (by omega) (by decide) (by omega) (by omega) rfl (Nat.le_of_ble_eq_true rfl) dL_law_1902 (fun v1 x1 y1 p1 => ?_)
  obtain ⟨k, rfl, kb, H1, ag⟩ := m_gen (q' := q + 561) H p1 (by omega) (fun W HW g vv y2 hm => ⟨(s_held HW g hm).1, zGo_le (s_held HW g hm).2 (by omega) (by omega)⟩) (fun W HW k x1 pk vv y2 hm => by
    obtain ⟨rfl, pk⟩ := pk
    exact f_held HW pk hm)
  refine zV_istore6 hX dL_law_1905 ?_
  refine zV_aloadn hX dL_law_1907 rfl ?_
  refine zV_arg hX hS hNn hi ⟨by decide, by decide⟩ eu rfl rfl dL_law_1908 dL_law_1909 dL_law_1911 dL_law_1912 dL_law_1913 ?_
  refine zV_callV (n := 1) hX rfl hN 20 rfl rfl ⟨by decide, by decide⟩ (c_X5_held zu (jw_I H1)) zw_co_yX5_held zw_mL_230 zw_in_RX5 zw_im_yX5_held zw_se_yX5_held ⟨by decide, by decide, by decide +kernel⟩ rfl (by omega) (by decide) (by omega) (by omega) rfl (Nat.le_of_ble_eq_true rfl) dL_law_1914 (fun vv x2 y2 p2 => ?_) (fun _ _ _ h => h.elim)
  obtain ⟨rfl, p2⟩ := p2
  obtain ⟨bv, rfl, E⟩ := ag _ _ p2
  refine zV_istore7 hX dL_law_1917 ?_
  refine law_tail (T := 1919) hX hN (by omega) (by omega) (by omega) dL_law_1919 dL_law_1920 dL_law_1923 dL_law_1925 dL_law_1930 dL_law_1932 dL_law_1935 dL_law_1936 dL_law_1937 dL_law_1938 dL_law_1940 dL_law_1941 dL_law_1942 dL_law_1947 (by decide) kb E ?_
  exact zV_wide (by omega) (by omega) (kk _ _ _ _ _ _ E.2.2 (by omega))
set_option maxRecDepth 100000 in
set_option maxHeartbeats 4000000 in
theorem k_isCurrent {Γ : zG} {ad : Nat → Int → Nat} {cs ss MC MS bs N : Nat} {xs : Nat → Int32} {x y : zSt} {i q : Int} {l6 l7 l8 : Option Value} (hX : zX Γ ad RL cL_law 9) (hN : zN Γ 60 MC MS) (hG : zNG Γ) (hS : zScr Γ bs N xs) (hi : 0 ≤ i ∧ i + 7 < N) (hNn : N ≤ 4096) (hc : cs + 3 ≤ MC) (hs : ss + 18 ≤ MS) (H : JV x (mCod y 0) q) (hq : q + 561 < 1000000) (kk : zGoOn Γ ad (cs + 3) (ss + 18) bs i q) : zV Γ ad cs ss x y 1950 [some (.ref bs), some (.ref (ad 0 0)), some (.ref (ad 20 0)), some (.ref (ad 60 0)), some (.ref (ad 61 0)), some (zI i), l6, l7, l8] [] := by
  have hI : xI x := JV_xI H (by omega)
  have C := jw_c H
  have n0 := (jw_I H).1
  obtain ⟨u, eu, zu⟩ : ∃ v : Int, v = zSx xs (i + 1) ∧ zR v := ⟨_, rfl, zR_of _⟩
  have q0 : 0 ≤ q := JV_q H
  refine zV_aloadn hX dL_law_1950 rfl ?_
  refine zV_arg hX hS hNn hi ⟨by decide, by decide⟩ eu rfl rfl dL_law_1951 dL_law_1952 dL_law_1954 dL_law_1955 dL_law_1956 ?_
  refine zV_aloadn hX dL_law_1957 rfl ?_
  refine zV_callSH (n := 3) hX rfl hN hG (h_isCurrent (P := (fun (k : Int) (x1 : zSt) => x1 = x ∧ (k = 1 ∧ ¬ (0 ≤ u ∧ u ≤ x 0 0 11 - 1)))) (c_X4_isCurrent zu (kp_vc H) hI) (fun E x1 y1 p => ⟨p.1.1, ⟨p.2.1, rfl, p.1.2⟩, p.2.2⟩) zb_01) zw_cw_yL_isCurrent zw_mL_231 zw_in_RL zw_st_yL_isCurrent ⟨by decide, by decide, by decide +kernel⟩ rfl (by omega) (by decide) (by omega) (by omega) rfl (Nat.le_of_ble_eq_true rfl) dL_law_1958 (fun v1 x1 y1 p1 => ?_)
  obtain ⟨k, rfl, kb, H1, ag⟩ := m_gen (q' := q + 561) H p1 (by omega) (fun W HW g vv y2 hm => ⟨(s_isCurrent HW g hm).1, zGo_le (s_isCurrent HW g hm).2 (by omega) (by omega)⟩) (fun W HW k x1 pk vv y2 hm => by
    obtain ⟨rfl, pk⟩ := pk
    exact f_isCurrent HW pk hm)
  refine zV_istore6 hX dL_law_1961 ?_
  refine zV_aloadn hX dL_law_1963 rfl ?_
  refine zV_arg hX hS hNn hi ⟨by decide, by decide⟩ eu rfl rfl dL_law_1964 dL_law_1965 dL_law_1967 dL_law_1968 dL_law_1969 ?_
  refine zV_callV (n := 1) hX rfl hN 20 rfl rfl ⟨by decide, by decide⟩ (c_X5_isCurrent zu (jw_I H1)) zw_co_yX5_isCurrent zw_mL_233 zw_in_RX5 zw_im_yX5_isCurrent zw_se_yX5_isCurrent ⟨by decide, by decide, by decide +kernel⟩ rfl (by omega) (by decide) (by omega) (by omega) rfl (Nat.le_of_ble_eq_true rfl) dL_law_1970 (fun vv x2 y2 p2 => ?_) (fun _ _ _ h => h.elim)
  obtain ⟨rfl, p2⟩ := p2
  obtain ⟨bv, rfl, E⟩ := ag _ _ p2
  refine zV_istore7 hX dL_law_1973 ?_
  have hb : zI bv = zI 0 ∨ zI bv = zI 1 := by
    rcases p2 with ⟨-, e, -⟩ | ⟨-, e, -⟩ | ⟨-, e, -⟩ <;> first | exact Or.inl (Option.some.inj e) | exact Or.inr (Option.some.inj e)
  obtain ⟨b2, hb2, hz⟩ : ∃ b2 : Int, (b2 = 0 ∨ b2 = 1) ∧ zI bv = zI b2 := hb.elim (fun h => ⟨0, Or.inl rfl, h⟩) (fun h => ⟨1, Or.inr rfl, h⟩)
  rw [hz]
  refine law_tailb (T := 1975) hX hN (by omega) (by omega) (by omega) dL_law_1975 dL_law_1976 dL_law_1979 dL_law_1981 dL_law_1986 dL_law_1988 dL_law_1991 dL_law_1992 dL_law_1993 dL_law_1994 dL_law_1996 dL_law_1999 dL_law_2000 dL_law_2003 dL_law_2004 dL_law_2005 dL_law_2010 (by decide) kb hb2 (zEnd_b E hz) ?_
  exact zV_wide (by omega) (by omega) (kk _ _ _ _ _ _ E.2.2 (by omega))
