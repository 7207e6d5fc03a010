/-! THE LAW, case by case. -/
/-- how the loop goes on behind a case -/
def zGoOn (Γ : zG) (ad : Nat → Int → Nat) (cs ss bs : Nat) (i q : Int) : Prop := ∀ (x' y' : zSt) (q' : Int) (u v w : Option Value), JV x' (mCod y' 0) q' → q' ≤ q + 561 → zV Γ ad cs ss x' y' 2026 [some (.ref bs), some (.ref (ad 0 0)), some (.ref (ad 20 0)), some (.ref (ad 60 0)), some (.ref (ad 61 0)), some (zI i), u, v, w] []
theorem zGo_le {X y2 W : zSt} {q q' k : Int} (h : zGo X y2 W q k) (h1 : q ≤ q') (h2 : q' ≤ 1000000) : zGo X y2 W q' k := ⟨h.1, h.2.1, h.2.2.1, JV_le h.2.2.2 h1 h2⟩
theorem JV_q {x t : zSt} {q : Int} (H : JV x t q) : 0 ≤ q := by
  have h := (H.2.1.2.2.2.1 0 (by decide) (by decide)).2.1
  omega
theorem zR_16 {a : Int} (h : 0 ≤ a ∧ a ≤ 65535) : zR a := ⟨by omega, by omega⟩
theorem kp_room2 {x W : zSt} {q k a b r w n s : Int} (H : JV x (mCod W 0) q) (ok : xCellOk k a b r w n s) (th : mThere W a ∧ (b = -1 ∨ mThere W b) ∧ ¬ mThere W w) : W 20 0 5 ≤ 10 := by
  have h := (JV_c10 H ok.2.1 ok.2.2.2.2.1 (by rw [mCod_k (k := 21) (by decide), mCod_k (k := 24) (by decide)]; exact th.1) (by rw [mCod_k (k := 21) (by decide), mCod_k (k := 24) (by decide)]; exact th.2.2)).1
  rw [mCod_j (by decide)] at h
  exact h
theorem kp_room {x W : zSt} {q k a b r w n s : Int} (H : JV x (mCod W 0) q) (ok : xCellOk k a b r w n s) (can : xCanAdd x a b w) : x 0 0 9 < 11 := by
  have d1 := jw_def H ok.2.1
  have d3 := jw_def H ok.2.2.2.2.1
  have h := (JV_c10 H ok.2.1 ok.2.2.2.2.1 (by rw [mCod_k (k := 21) (by decide), mCod_k (k := 24) (by decide)]; exact d1.mp can.1) (by rw [mCod_k (k := 21) (by decide), mCod_k (k := 24) (by decide)]; exact fun p => can.2.2 (d3.mpr p))).1
  rw [mCod_j (by decide)] at h
  have C := jw_c H
  omega
theorem kp_run {x W : zSt} {q u : Int} (H : JV x (mCod W 0) q) (h : 0 ≤ u ∧ u ≤ W 20 0 5 - 1) (hk : 0 ≤ mKer (mCod W 0) u) : W 20 0 30 ≤ 59 := by
  have e5 : (mCod W 0) 20 0 5 = W 20 0 5 := mCod_j (by decide)
  have h2 := (v_room (c := u) H.2.1 ⟨by omega, by omega⟩ hk).2.2
  rw [mCod_j (by decide)] at h2
  exact h2
theorem kp_pass {x W : zSt} {q s : Int} (H : JV x (mCod W 0) q) (hq : q + 561 < 1000000) (h1 : 1 ≤ s ∧ s ≤ 50) (h2 : ¬ 5000 < x 0 0 12 + s) : xOkP x s := by
  have e := H.1.1.2.2.2.2.1
  exact (JV_okp (T := s) H (by omega) (by omega) (by omega)).2
theorem kp_pass2 {x W : zSt} {q s : Int} (H : JV x (mCod W 0) q) (hq : q + 561 < 1000000) (h1 : 1 ≤ s ∧ s ≤ 50) (h2 : ¬ 5000 < W 20 0 37 + s) : mOkP (mCod W 0) s := by
  have e : (mCod W 0) 20 0 37 = W 20 0 37 := mCod_j (by decide)
  exact (JV_okp (T := s) H (by omega) (by omega) (by omega)).1
theorem kp_vc {x W : zSt} {q : Int} (H : JV x (mCod W 0) q) : ∀ i : Int, 0 ≤ i → i < x 0 0 11 → 0 ≤ x 7 0 i ∧ x 7 0 i < x 0 0 9 := by
  intro i h1 h2
  have C := jw_c H
  have a := jw_w H (i := i) (by omega)
  omega
theorem zEnd_b {x2 y2 : zSt} {q k b c : Int} (E : zEnd x2 y2 q k b) (h : zI b = zI c) : zEnd x2 y2 q k c := by
  have e : Int32.ofInt b = Int32.ofInt c := by
    unfold zI at h
    exact Value.int.inj h
  refine ⟨E.1, fun h0 => ?_, E.2.2⟩
  rw [E.2.1 h0, e]
theorem law_tailb {Γ : zG} {ad : Nat → Int → Nat} {cs ss MC MS d : Nat} {x y : zSt} {T : Nat} (hX : zX Γ ad RL cL_law 9) (hN : zN Γ d MC MS) (hd : 1 ≤ d) (hc : cs ≤ MC) (hs : ss ≤ MS)
    (t0 : decode cL_law T = .ok (.aload_n 2, 1)) (t1 : decode cL_law (T + 1) = .ok (.invokevirtual 124, 3)) (t4 : decode cL_law (T + 4) = .ok (.iload 6, 2)) (t6 : decode cL_law (T + 6) = .ok (.if_icmp .eq 5, 3)) (t11 : decode cL_law (T + 11) = .ok (.iload 6, 2)) (t13 : decode cL_law (T + 13) = .ok (.ifCond .ne 22, 3)) (t16 : decode cL_law (T + 16) = .ok (.aload_n 3, 1)) (t17 : decode cL_law (T + 17) = .ok (.iconst 0, 1)) (t18 : decode cL_law (T + 18) = .ok (.laload, 1)) (t19 : decode cL_law (T + 19) = .ok (.iload 7, 2)) (t21 : decode cL_law (T + 21) = .ok (.ifCond .eq 7, 3)) (t24 : decode cL_law (T + 24) = .ok (.lconst 1, 1)) (t25 : decode cL_law (T + 25) = .ok (.goto 4, 3)) (t28 : decode cL_law (T + 28) = .ok (.lconst 0, 1)) (t29 : decode cL_law (T + 29) = .ok (.lcmp, 1)) (t30 : decode cL_law (T + 30) = .ok (.ifCond .eq 5, 3)) {off : Int} (t35 : decode cL_law (T + 35) = .ok (.goto off, 3)) (hoff : ((T + 35 : Nat) : Int) + off = ((2026 : Nat) : Int))
    {k bv q : Int} (kb : 0 ≤ k ∧ k ≤ 3) (hb : bv = 0 ∨ bv = 1) (E : zEnd x y q k bv) {a0 a4 a5 a8 : Option Value}
    (kk : zV Γ ad cs ss x y 2026 [a0, some (.ref (ad 0 0)), some (.ref (ad 20 0)), some (.ref (ad 60 0)), a4, a5, some (zI k), some (zI bv), a8] []) : zV Γ ad cs ss x y T [a0, some (.ref (ad 0 0)), some (.ref (ad 20 0)), some (.ref (ad 60 0)), a4, a5, some (zI k), some (zI bv), a8] [] := by
  obtain ⟨e1, e2, -⟩ := E
  have go : zV Γ ad cs ss x y (T + 35) [a0, some (.ref (ad 0 0)), some (.ref (ad 20 0)), some (.ref (ad 60 0)), a4, a5, some (zI k), some (zI bv), a8] [] := zV_goto (tgt := 2026) hX t35 hoff kk
  have zk : zR k := ⟨by omega, by omega⟩
  have zb : zR bv := ⟨by omega, by omega⟩
  refine zV_aloadn hX t0 rfl ?_
  refine zV_cVS (n := 0) hX rfl hN 20 rfl rfl ⟨by decide, by decide⟩ c_X5_thrown zw_co_yX5_thrown zw_mL_124 zw_in_RX5 zw_im_yX5_thrown zw_se_yX5_thrown ⟨by decide, by decide, by decide +kernel⟩ rfl (by omega) (by decide) (by omega) (by omega) rfl (Nat.le_of_ble_eq_true rfl) t1 ?_
  rw [e1]
  refine zV_iload hX t4 rfl ?_
  refine zV_icmp_eq (tgt := T + 11) hX t6 (by omega) zk zk (fun _ => ?_) (fun h => absurd rfl h)
  refine zV_iload hX t11 rfl ?_
  refine zV_if_ne (tgt := T + 35) hX t13 (by omega) zk (fun _ => go) (fun h0 => ?_)
  refine zV_aloadn hX t16 rfl ?_
  refine zV_iconst hX t17 ?_
  refine zV_lald hX 60 rfl (i := 0) (j := 0) ⟨by decide, by decide⟩ ⟨by decide, by decide⟩ (by decide) t18 (fun _ => ?_)
  rw [show zm x y 60 0 0 = y 60 0 0 from congrFun (congrFun (zm_y (by decide)) 0) 0, e2 h0]
  refine zV_iload hX t19 rfl ?_
  refine zV_if_eq (tgt := T + 28) hX t21 (by omega) zb (fun b0 => ?_) (fun b0 => ?_)
  · have e : (Int32.ofInt bv).toInt = 0 := by rw [b0]; decide
    rw [e]
    refine zV_lconst (z := 0) hX t28 (by decide) ?_
    refine zV_lcmpE hX t29 ?_
    exact zV_if_eq (tgt := T + 35) hX t30 (by omega) zR_0 (fun _ => go) (fun h => absurd rfl h)
  · have e : (Int32.ofInt bv).toInt = 1 := by rw [hb.resolve_left b0]; decide
    rw [e]
    refine zV_lconst (z := 1) hX t24 (by decide) ?_
    refine zV_goto (tgt := T + 29) hX t25 (by omega) ?_
    refine zV_lcmpE hX t29 ?_
    exact zV_if_eq (tgt := T + 35) hX t30 (by omega) zR_0 (fun _ => go) (fun h => absurd rfl h)
set_option maxRecDepth 100000 in
set_option maxHeartbeats 4000000 in
theorem k_addData {Γ : zG} {ad : Nat → Int → Nat} {cs ss MC MS bs N : Nat} {xs : Nat → Int32} {x y : zSt} {i q : Int} {l6 l7 l8 : Option Value} (hX : zX Γ ad RL cL_law 9) (hN : zN Γ 60 MC MS) (hG : zNG Γ) (hS : zScr Γ bs N xs) (hi : 0 ≤ i ∧ i + 7 < N) (hNn : N ≤ 4096) (hc : cs + 3 ≤ MC) (hs : ss + 18 ≤ MS) (H : JV x (mCod y 0) q) (hq : q + 561 < 1000000) (kk : zGoOn Γ ad (cs + 3) (ss + 18) bs i q) : zV Γ ad cs ss x y 196 [some (.ref bs), some (.ref (ad 0 0)), some (.ref (ad 20 0)), some (.ref (ad 60 0)), some (.ref (ad 61 0)), some (zI i), l6, l7, l8] [] := by
  have hI : xI x := JV_xI H (by omega)
  have C := jw_c H
  have n0 := (jw_I H).1
  obtain ⟨v, ev, zv⟩ : ∃ v : Int, v = zSx xs (i + 1) ∧ zR v := ⟨_, rfl, zR_of _⟩
  obtain ⟨o, eo, zo⟩ : ∃ v : Int, v = zSx xs (i + 2) ∧ zR v := ⟨_, rfl, zR_of _⟩
  obtain ⟨w, ew, zw⟩ : ∃ v : Int, v = zSx xs (i + 3) ∧ zR v := ⟨_, rfl, zR_of _⟩
  have q0 : 0 ≤ q := JV_q H
  refine zV_aloadn hX dL_law_196 rfl ?_
  refine zV_arg hX hS hNn hi ⟨by decide, by decide⟩ ev rfl rfl dL_law_197 dL_law_198 dL_law_200 dL_law_201 dL_law_202 ?_
  refine zV_arg hX hS hNn hi ⟨by decide, by decide⟩ eo rfl rfl dL_law_203 dL_law_204 dL_law_206 dL_law_207 dL_law_208 ?_
  refine zV_arg hX hS hNn hi ⟨by decide, by decide⟩ ew rfl rfl dL_law_209 dL_law_210 dL_law_212 dL_law_213 dL_law_214 ?_
  refine zV_aloadn hX dL_law_215 rfl ?_
  refine zV_callSH (n := 5) hX rfl hN hG (h_addData (P := (fun (k : Int) (x1 : zSt) => x1 = x ∧ ((k = 1 ∧ ¬ ((0 ≤ v ∧ v ≤ 11) ∧ (0 ≤ o ∧ o ≤ 3) ∧ (0 ≤ w ∧ w ≤ 999))) ∨ (k = 2 ∧ ((0 ≤ v ∧ v ≤ 11) ∧ (0 ≤ o ∧ o ≤ 3) ∧ (0 ≤ w ∧ w ≤ 999)) ∧ (x 2 0 v ≠ -1 ∨ x 3 0 v ≠ -1))))) (c_X4_addData zv zo zw (by omega)) (fun E x1 y1 p => p.1.imp (fun h => ⟨h.1, ⟨p.2.1, Or.inl ⟨rfl, h.2⟩⟩, p.2.2⟩) (fun h => ⟨h.1, ⟨p.2.1, Or.inr ⟨rfl, h.2⟩⟩, p.2.2⟩))) zw_cw_yL_addData zw_mL_118 zw_in_RL zw_st_yL_addData ⟨by decide, by decide, by decide +kernel⟩ rfl (by omega) (by decide) (by omega) (by omega) rfl (Nat.le_of_ble_eq_true rfl) dL_law_216 (fun v1 x1 y1 p1 => ?_)
  obtain ⟨k, rfl, kb, H1, ag⟩ := m_gen (q' := q + 561) H p1 (by omega) (fun W HW g vv y2 hm => ⟨(s_addData HW g hm).1, zGo_le (s_addData HW g hm).2 (by omega) (by omega)⟩) (fun W HW k x1 pk vv y2 hm => by
    obtain ⟨rfl, pk⟩ := pk
    exact f_addData HW pk hm)
  refine zV_istore6 hX dL_law_219 ?_
  refine zV_aloadn hX dL_law_221 rfl ?_
  refine zV_arg hX hS hNn hi ⟨by decide, by decide⟩ ev rfl rfl dL_law_222 dL_law_223 dL_law_225 dL_law_226 dL_law_227 ?_
  refine zV_arg hX hS hNn hi ⟨by decide, by decide⟩ eo rfl rfl dL_law_228 dL_law_229 dL_law_231 dL_law_232 dL_law_233 ?_
  refine zV_arg hX hS hNn hi ⟨by decide, by decide⟩ ew rfl rfl dL_law_234 dL_law_235 dL_law_237 dL_law_238 dL_law_239 ?_
  refine zV_callV (n := 3) hX rfl hN 20 rfl rfl ⟨by decide, by decide⟩ (c_X5_addData zv zo zw (jw_I H1)) zw_co_yX5_addData zw_mL_123 zw_in_RX5 zw_im_yX5_addData zw_se_yX5_addData ⟨by decide, by decide, by decide +kernel⟩ rfl (by omega) (by decide) (by omega) (by omega) rfl (Nat.le_of_ble_eq_true rfl) dL_law_240 (fun vv x2 y2 p2 => ?_) (fun _ _ _ h => h.elim)
  obtain ⟨rfl, p2⟩ := p2
  obtain ⟨bv, rfl, E⟩ := ag _ _ p2
  refine zV_istore7 hX dL_law_243 ?_
  refine law_tail (T := 245) hX hN (by omega) (by omega) (by omega) dL_law_245 dL_law_246 dL_law_249 dL_law_251 dL_law_256 dL_law_258 dL_law_261 dL_law_262 dL_law_263 dL_law_264 dL_law_266 dL_law_267 dL_law_268 dL_law_273 (by decide) kb E ?_
  exact zV_wide (by omega) (by omega) (kk _ _ _ _ _ _ E.2.2 (by omega))
set_option maxRecDepth 100000 in
set_option maxHeartbeats 4000000 in
theorem k_setData {Γ : zG} {ad : Nat → Int → Nat} {cs ss MC MS bs N : Nat} {xs : Nat → Int32} {x y : zSt} {i q : Int} {l6 l7 l8 : Option Value} (hX : zX Γ ad RL cL_law 9) (hN : zN Γ 60 MC MS) (hG : zNG Γ) (hS : zScr Γ bs N xs) (hi : 0 ≤ i ∧ i + 7 < N) (hNn : N ≤ 4096) (hc : cs + 3 ≤ MC) (hs : ss + 18 ≤ MS) (H : JV x (mCod y 0) q) (hq : q + 561 < 1000000) (kk : zGoOn Γ ad (cs + 3) (ss + 18) bs i q) : zV Γ ad cs ss x y 276 [some (.ref bs), some (.ref (ad 0 0)), some (.ref (ad 20 0)), some (.ref (ad 60 0)), some (.ref (ad 61 0)), some (zI i), l6, l7, l8] [] := by
  have hI : xI x := JV_xI H (by omega)
  have C := jw_c H
  have n0 := (jw_I H).1
  obtain ⟨v, ev, zv⟩ : ∃ v : Int, v = zSx xs (i + 1) ∧ zR v := ⟨_, rfl, zR_of _⟩
  obtain ⟨w, ew, zw⟩ : ∃ v : Int, v = zSx xs (i + 2) ∧ zR v := ⟨_, rfl, zR_of _⟩
  have q0 : 0 ≤ q := JV_q H
  refine zV_aloadn hX dL_law_276 rfl ?_
  refine zV_arg hX hS hNn hi ⟨by decide, by decide⟩ ev rfl rfl dL_law_277 dL_law_278 dL_law_280 dL_law_281 dL_law_282 ?_
  refine zV_arg hX hS hNn hi ⟨by decide, by decide⟩ ew rfl rfl dL_law_283 dL_law_284 dL_law_286 dL_law_287 dL_law_288 ?_
  refine zV_aloadn hX dL_law_289 rfl ?_
  refine zV_callSH (n := 4) hX rfl hN hG (h_setData (P := (fun (k : Int) (x1 : zSt) => x1 = x ∧ ((k = 1 ∧ ¬ ((0 ≤ v ∧ v ≤ 11) ∧ (0 ≤ w ∧ w ≤ 999))) ∨ (k = 2 ∧ ((0 ≤ v ∧ v ≤ 11) ∧ (0 ≤ w ∧ w ≤ 999)) ∧ ¬ x 2 0 v ≠ -1)))) (c_X4_setData zv zw) (fun E x1 y1 p => p.1.imp (fun h => ⟨h.1, ⟨p.2.1, Or.inl ⟨rfl, h.2⟩⟩, p.2.2⟩) (fun h => ⟨h.1, ⟨p.2.1, Or.inr ⟨rfl, h.2⟩⟩, p.2.2⟩))) zw_cw_yL_setData zw_mL_128 zw_in_RL zw_st_yL_setData ⟨by decide, by decide, by decide +kernel⟩ rfl (by omega) (by decide) (by omega) (by omega) rfl (Nat.le_of_ble_eq_true rfl) dL_law_290 (fun v1 x1 y1 p1 => ?_)
  obtain ⟨k, rfl, kb, H1, ag⟩ := m_gen (q' := q + 561) H p1 (by omega) (fun W HW g vv y2 hm => ⟨(s_setData HW g hm).1, zGo_le (s_setData HW g hm).2 (by omega) (by omega)⟩) (fun W HW k x1 pk vv y2 hm => by
    obtain ⟨rfl, pk⟩ := pk
    exact f_setData HW pk hm)
  refine zV_istore6 hX dL_law_293 ?_
  refine zV_aloadn hX dL_law_295 rfl ?_
  refine zV_arg hX hS hNn hi ⟨by decide, by decide⟩ ev rfl rfl dL_law_296 dL_law_297 dL_law_299 dL_law_300 dL_law_301 ?_
  refine zV_arg hX hS hNn hi ⟨by decide, by decide⟩ ew rfl rfl dL_law_302 dL_law_303 dL_law_305 dL_law_306 dL_law_307 ?_
  refine zV_callV (n := 2) hX rfl hN 20 rfl rfl ⟨by decide, by decide⟩ (c_X5_setData zv zw) zw_co_yX5_setData zw_mL_131 zw_in_RX5 zw_im_yX5_setData zw_se_yX5_setData ⟨by decide, by decide, by decide +kernel⟩ rfl (by omega) (by decide) (by omega) (by omega) rfl (Nat.le_of_ble_eq_true rfl) dL_law_308 (fun vv x2 y2 p2 => ?_) (fun _ _ _ h => h.elim)
  obtain ⟨rfl, p2⟩ := p2
  obtain ⟨bv, rfl, E⟩ := ag _ _ p2
  refine zV_istore7 hX dL_law_311 ?_
  refine law_tail (T := 313) hX hN (by omega) (by omega) (by omega) dL_law_313 dL_law_314 dL_law_317 dL_law_319 dL_law_324 dL_law_326 dL_law_329 dL_law_330 dL_law_331 dL_law_332 dL_law_334 dL_law_335 dL_law_336 dL_law_341 (by decide) kb E ?_
  exact zV_wide (by omega) (by omega) (kk _ _ _ _ _ _ E.2.2 (by omega))
set_option maxRecDepth 100000 in
set_option maxHeartbeats 4000000 in
theorem k_loseData {Γ : zG} {ad : Nat → Int → Nat} {cs ss MC MS bs N : Nat} {xs : Nat → Int32} {x y : zSt} {i q : Int} {l6 l7 l8 : Option Value} (hX : zX Γ ad RL cL_law 9) (hN : zN Γ 60 MC MS) (hG : zNG Γ) (hS : zScr Γ bs N xs) (hi : 0 ≤ i ∧ i + 7 < N) (hNn : N ≤ 4096) (hc : cs + 3 ≤ MC) (hs : ss + 18 ≤ MS) (H : JV x (mCod y 0) q) (hq : q + 561 < 1000000) (kk : zGoOn Γ ad (cs + 3) (ss + 18) bs i q) : zV Γ ad cs ss x y 344 [some (.ref bs), some (.ref (ad 0 0)), some (.ref (ad 20 0)), some (.ref (ad 60 0)), some (.ref (ad 61 0)), some (zI i), l6, l7, l8] [] := by
  have hI : xI x := JV_xI H (by omega)
  have C := jw_c H
  have n0 := (jw_I H).1
  obtain ⟨v, ev, zv⟩ : ∃ v : Int, v = zSx xs (i + 1) ∧ zR v := ⟨_, rfl, zR_of _⟩
  have q0 : 0 ≤ q := JV_q H
  refine zV_aloadn hX dL_law_344 rfl ?_
  refine zV_arg hX hS hNn hi ⟨by decide, by decide⟩ ev rfl rfl dL_law_345 dL_law_346 dL_law_348 dL_law_349 dL_law_350 ?_
  refine zV_aloadn hX dL_law_351 rfl ?_
  refine zV_callSH (n := 3) hX rfl hN hG (h_loseData (P := (fun (k : Int) (x1 : zSt) => x1 = x ∧ ((k = 1 ∧ ¬ (0 ≤ v ∧ v ≤ 11)) ∨ (k = 2 ∧ (0 ≤ v ∧ v ≤ 11) ∧ ¬ x 2 0 v ≠ -1) ∨ (k = 3 ∧ (0 ≤ v ∧ v ≤ 11) ∧ x 2 0 v ≠ -1 ∧ x 1 0 v = -1)))) (c_X4_loseData zv) (fun E x1 y1 p => p.1.imp (fun h => ⟨h.1, ⟨p.2.1, Or.inl ⟨rfl, h.2⟩⟩, p.2.2⟩) (fun h => h.imp (fun h => ⟨h.1, ⟨p.2.1, Or.inr (Or.inl ⟨rfl, h.2⟩)⟩, p.2.2⟩) (fun h => ⟨h.1, ⟨p.2.1, Or.inr (Or.inr ⟨rfl, h.2⟩)⟩, p.2.2⟩)))) zw_cw_yL_loseData zw_mL_132 zw_in_RL zw_st_yL_loseData ⟨by decide, by decide, by decide +kernel⟩ rfl (by omega) (by decide) (by omega) (by omega) rfl (Nat.le_of_ble_eq_true rfl) dL_law_352 (fun v1 x1 y1 p1 => ?_)
  obtain ⟨k, rfl, kb, H1, ag⟩ := m_gen (q' := q + 561) H p1 (by omega) (fun W HW g vv y2 hm => ⟨(s_loseData HW g hm).1, zGo_le (s_loseData HW g hm).2 (by omega) (by omega)⟩) (fun W HW k x1 pk vv y2 hm => by
    obtain ⟨rfl, pk⟩ := pk
    exact f_loseData HW pk hm)
  refine zV_istore6 hX dL_law_355 ?_
  refine zV_aloadn hX dL_law_357 rfl ?_
  refine zV_arg hX hS hNn hi ⟨by decide, by decide⟩ ev rfl rfl dL_law_358 dL_law_359 dL_law_361 dL_law_362 dL_law_363 ?_
  refine zV_callV (n := 1) hX rfl hN 20 rfl rfl ⟨by decide, by decide⟩ (c_X5_loseData zv) zw_co_yX5_loseData zw_mL_135 zw_in_RX5 zw_im_yX5_loseData zw_se_yX5_loseData ⟨by decide, by decide, by decide +kernel⟩ rfl (by omega) (by decide) (by omega) (by omega) rfl (Nat.le_of_ble_eq_true rfl) dL_law_364 (fun vv x2 y2 p2 => ?_) (fun _ _ _ h => h.elim)
  obtain ⟨rfl, p2⟩ := p2
  obtain ⟨bv, rfl, E⟩ := ag _ _ p2
  refine zV_istore7 hX dL_law_367 ?_
  refine law_tail (T := 369) hX hN (by omega) (by omega) (by omega) dL_law_369 dL_law_370 dL_law_373 dL_law_375 dL_law_380 dL_law_382 dL_law_385 dL_law_386 dL_law_387 dL_law_388 dL_law_390 dL_law_391 dL_law_392 dL_law_397 (by decide) kb E ?_
  exact zV_wide (by omega) (by omega) (kk _ _ _ _ _ _ E.2.2 (by omega))
set_option maxRecDepth 100000 in
set_option maxHeartbeats 4000000 in
theorem k_addCell {Γ : zG} {ad : Nat → Int → Nat} {cs ss MC MS bs N : Nat} {xs : Nat → Int32} {x y : zSt} {i q : Int} {l6 l7 l8 : Option Value} (hX : zX Γ ad RL cL_law 9) (hN : zN Γ 60 MC MS) (hG : zNG Γ) (hS : zScr Γ bs N xs) (hi : 0 ≤ i ∧ i + 7 < N) (hNn : N ≤ 4096) (hc : cs + 3 ≤ MC) (hs : ss + 18 ≤ MS) (H : JV x (mCod y 0) q) (hq : q + 561 < 1000000) (kk : zGoOn Γ ad (cs + 3) (ss + 18) bs i q) : zV Γ ad cs ss x y 400 [some (.ref bs), some (.ref (ad 0 0)), some (.ref (ad 20 0)), some (.ref (ad 60 0)), some (.ref (ad 61 0)), some (zI i), l6, l7, l8] [] := by
  have hI : xI x := JV_xI H (by omega)
  have C := jw_c H
  have n0 := (jw_I H).1
  obtain ⟨kr, ek⟩ : ∃ v : Int, v = zSx xs (i + 1) := ⟨_, rfl⟩
  obtain ⟨a, ea, za⟩ : ∃ v : Int, v = zSx xs (i + 2) ∧ zR v := ⟨_, rfl, zR_of _⟩
  obtain ⟨b, eb, zb_⟩ : ∃ v : Int, v = zSx xs (i + 3) ∧ zR v := ⟨_, rfl, zR_of _⟩
  obtain ⟨r, er, zr⟩ : ∃ v : Int, v = zSx xs (i + 4) ∧ zR v := ⟨_, rfl, zR_of _⟩
  obtain ⟨w, ew, zw⟩ : ∃ v : Int, v = zSx xs (i + 5) ∧ zR v := ⟨_, rfl, zR_of _⟩
  obtain ⟨n, en, zn⟩ : ∃ v : Int, v = zSx xs (i + 6) ∧ zR v := ⟨_, rfl, zR_of _⟩
  obtain ⟨s, es, zs⟩ : ∃ v : Int, v = zSx xs (i + 7) ∧ zR v := ⟨_, rfl, zR_of _⟩
  obtain ⟨k0, ek0⟩ : ∃ v : Int, v = zC16 kr := ⟨_, rfl⟩
  have q0 : 0 ≤ q := JV_q H
  refine zV_aloadn hX dL_law_400 rfl ?_
  refine zV_arg hX hS hNn hi ⟨by decide, by decide⟩ ek rfl rfl dL_law_401 dL_law_402 dL_law_404 dL_law_405 dL_law_406 ?_
  refine zV_i2c hX dL_law_407 ?_
  rw [← ek0]
  refine zV_arg hX hS hNn hi ⟨by decide, by decide⟩ ea rfl rfl dL_law_408 dL_law_409 dL_law_411 dL_law_412 dL_law_413 ?_
  refine zV_arg hX hS hNn hi ⟨by decide, by decide⟩ eb rfl rfl dL_law_414 dL_law_415 dL_law_417 dL_law_418 dL_law_419 ?_
  refine zV_arg hX hS hNn hi ⟨by decide, by decide⟩ er rfl rfl dL_law_420 dL_law_421 dL_law_423 dL_law_424 dL_law_425 ?_
  refine zV_arg hX hS hNn hi ⟨by decide, by decide⟩ ew rfl rfl dL_law_426 dL_law_427 dL_law_429 dL_law_430 dL_law_431 ?_
  refine zV_argb hX hS hNn hi ⟨by decide, by decide⟩ (by decide) en rfl rfl dL_law_432 dL_law_433 dL_law_435 dL_law_437 dL_law_438 ?_
  refine zV_argb hX hS hNn hi ⟨by decide, by decide⟩ (by decide) es rfl rfl dL_law_439 dL_law_440 dL_law_442 dL_law_444 dL_law_445 ?_
  refine zV_aloadn hX dL_law_446 rfl ?_
  refine zV_callSH (n := 9) hX rfl hN hG (h_addCell (P := (fun (k : Int) (x1 : zSt) => x1 = x ∧ ((k = 1 ∧ ¬ xCellOk k0 a b r w n s) ∨ (k = 2 ∧ xCellOk k0 a b r w n s ∧ ¬ xCanAdd x a b w)))) (c_X4_addCell (by rw [ek0]; exact zC16_b) za zb_ zr zw zn zs (fun ok can => kp_room H ok can) hI) (fun E x1 y1 p => p.1.imp (fun h => ⟨h.1, ⟨p.2.1, Or.inl ⟨rfl, h.2⟩⟩, p.2.2⟩) (fun h => ⟨h.1, ⟨p.2.1, Or.inr ⟨rfl, h.2⟩⟩, p.2.2⟩))) zw_cw_yL_addCell zw_mL_136 zw_in_RL zw_st_yL_addCell ⟨by decide, by decide, by decide +kernel⟩ rfl (by omega) (by decide) (by omega) (by omega) rfl (Nat.le_of_ble_eq_true rfl) dL_law_447 (fun v1 x1 y1 p1 => ?_)
  obtain ⟨k, rfl, kb, H1, ag⟩ := m_gen (q' := q + 561) H p1 (by omega) (fun W HW g vv y2 hm => ⟨(s_addCell HW ⟨g, by omega⟩ hm).1, zGo_le (s_addCell HW ⟨g, by omega⟩ hm).2 (by omega) (by omega)⟩) (fun W HW k x1 pk vv y2 hm => by
    obtain ⟨rfl, pk⟩ := pk
    exact f_addCell HW pk hm)
  refine zV_istore6 hX dL_law_450 ?_
  refine zV_aloadn hX dL_law_452 rfl ?_
  refine zV_arg hX hS hNn hi ⟨by decide, by decide⟩ ek rfl rfl dL_law_453 dL_law_454 dL_law_456 dL_law_457 dL_law_458 ?_
  refine zV_i2c hX dL_law_459 ?_
  rw [← ek0]
  refine zV_arg hX hS hNn hi ⟨by decide, by decide⟩ ea rfl rfl dL_law_460 dL_law_461 dL_law_463 dL_law_464 dL_law_465 ?_
  refine zV_arg hX hS hNn hi ⟨by decide, by decide⟩ eb rfl rfl dL_law_466 dL_law_467 dL_law_469 dL_law_470 dL_law_471 ?_
  refine zV_arg hX hS hNn hi ⟨by decide, by decide⟩ er rfl rfl dL_law_472 dL_law_473 dL_law_475 dL_law_476 dL_law_477 ?_
  refine zV_arg hX hS hNn hi ⟨by decide, by decide⟩ ew rfl rfl dL_law_478 dL_law_479 dL_law_481 dL_law_482 dL_law_483 ?_
  refine zV_argb hX hS hNn hi ⟨by decide, by decide⟩ (by decide) en rfl rfl dL_law_484 dL_law_485 dL_law_487 dL_law_489 dL_law_490 ?_
  refine zV_argb hX hS hNn hi ⟨by decide, by decide⟩ (by decide) es rfl rfl dL_law_491 dL_law_492 dL_law_494 dL_law_496 dL_law_497 ?_
  refine zV_callV (n := 7) hX rfl hN 20 rfl rfl ⟨by decide, by decide⟩ (c_X5_addCell (by rw [ek0]; exact zR_16 zC16_b) za zb_ zr zw zn zs (fun ok th => kp_room2 H1 ok th) (jw_I H1)) zw_co_yX5_addCell zw_mL_139 zw_in_RX5 zw_im_yX5_addCell zw_se_yX5_addCell ⟨by decide, by decide, by decide +kernel⟩ rfl (by omega) (by decide) (by omega) (by omega) rfl (Nat.le_of_ble_eq_true rfl) dL_law_498 (fun vv x2 y2 p2 => ?_) (fun _ _ _ h => h.elim)
  obtain ⟨rfl, p2⟩ := p2
  obtain ⟨bv, rfl, E⟩ := ag _ _ p2
  refine zV_istore7 hX dL_law_501 ?_
  refine law_tail (T := 503) hX hN (by omega) (by omega) (by omega) dL_law_503 dL_law_504 dL_law_507 dL_law_509 dL_law_514 dL_law_516 dL_law_519 dL_law_520 dL_law_521 dL_law_522 dL_law_524 dL_law_525 dL_law_526 dL_law_531 (by decide) kb E ?_
  exact zV_wide (by omega) (by omega) (kk _ _ _ _ _ _ E.2.2 (by omega))
set_option maxRecDepth 100000 in
set_option maxHeartbeats 4000000 in
theorem k_setConstant {Γ : zG} {ad : Nat → Int → Nat} {cs ss MC MS bs N : Nat} {xs : Nat → Int32} {x y : zSt} {i q : Int} {l6 l7 l8 : Option Value} (hX : zX Γ ad RL cL_law 9) (hN : zN Γ 60 MC MS) (hG : zNG Γ) (hS : zScr Γ bs N xs) (hi : 0 ≤ i ∧ i + 7 < N) (hNn : N ≤ 4096) (hc : cs + 3 ≤ MC) (hs : ss + 18 ≤ MS) (H : JV x (mCod y 0) q) (hq : q + 561 < 1000000) (kk : zGoOn Γ ad (cs + 3) (ss + 18) bs i q) : zV Γ ad cs ss x y 534 [some (.ref bs), some (.ref (ad 0 0)), some (.ref (ad 20 0)), some (.ref (ad 60 0)), some (.ref (ad 61 0)), some (zI i), l6, l7, l8] [] := by
  have hI : xI x := JV_xI H (by omega)
  have C := jw_c H
  have n0 := (jw_I H).1
  obtain ⟨u, eu, zu⟩ : ∃ v : Int, v = zSx xs (i + 1) ∧ zR v := ⟨_, rfl, zR_of _⟩
  obtain ⟨w, ew, zw⟩ : ∃ v : Int, v = zSx xs (i + 2) ∧ zR v := ⟨_, rfl, zR_of _⟩
  have q0 : 0 ≤ q := JV_q H
  refine zV_aloadn hX dL_law_534 rfl ?_
  refine zV_arg hX hS hNn hi ⟨by decide, by decide⟩ eu rfl rfl dL_law_535 dL_law_536 dL_law_538 dL_law_539 dL_law_540 ?_
  refine zV_arg hX hS hNn hi ⟨by decide, by decide⟩ ew rfl rfl dL_law_541 dL_law_542 dL_law_544 dL_law_545 dL_law_546 ?_
  refine zV_aloadn hX dL_law_547 rfl ?_
  refine zV_callSH (n := 4) hX rfl hN hG (h_setConstant (P := (fun (k : Int) (x1 : zSt) => x1 = x ∧ ((k = 1 ∧ ¬ (0 ≤ u ∧ u ≤ x 0 0 9 - 1)) ∨ (k = 2 ∧ (0 ≤ u ∧ u ≤ x 0 0 9 - 1) ∧ ¬ (0 ≤ w ∧ w ≤ 99))))) (c_X4_setConstant zu zw hI) (fun E x1 y1 p => p.1.imp (fun h => ⟨h.1, ⟨p.2.1, Or.inl ⟨rfl, h.2⟩⟩, p.2.2⟩) (fun h => ⟨h.1, ⟨p.2.1, Or.inr ⟨rfl, h.2⟩⟩, p.2.2⟩))) zw_cw_yL_setConstant zw_mL_140 zw_in_RL zw_st_yL_setConstant ⟨by decide, by decide, by decide +kernel⟩ rfl (by omega) (by decide) (by omega) (by omega) rfl (Nat.le_of_ble_eq_true rfl) dL_law_548 (fun v1 x1 y1 p1 => ?_)
  obtain ⟨k, rfl, kb, H1, ag⟩ := m_gen (q' := q + 561) H p1 (by omega) (fun W HW g vv y2 hm => ⟨(s_setConstant HW g hm).1, zGo_le (s_setConstant HW g hm).2 (by omega) (by omega)⟩) (fun W HW k x1 pk vv y2 hm => by
    obtain ⟨rfl, pk⟩ := pk
    exact f_setConstant HW pk hm)
  refine zV_istore6 hX dL_law_551 ?_
  refine zV_aloadn hX dL_law_553 rfl ?_
  refine zV_arg hX hS hNn hi ⟨by decide, by decide⟩ eu rfl rfl dL_law_554 dL_law_555 dL_law_557 dL_law_558 dL_law_559 ?_
  refine zV_arg hX hS hNn hi ⟨by decide, by decide⟩ ew rfl rfl dL_law_560 dL_law_561 dL_law_563 dL_law_564 dL_law_565 ?_
  refine zV_callV (n := 2) hX rfl hN 20 rfl rfl ⟨by decide, by decide⟩ (c_X5_setConstant zu zw (jw_I H1)) zw_co_yX5_setConstant zw_mL_142 zw_in_RX5 zw_im_yX5_setConstant zw_se_yX5_setConstant ⟨by decide, by decide, by decide +kernel⟩ rfl (by omega) (by decide) (by omega) (by omega) rfl (Nat.le_of_ble_eq_true rfl) dL_law_566 (fun vv x2 y2 p2 => ?_) (fun _ _ _ h => h.elim)
  obtain ⟨rfl, p2⟩ := p2
  obtain ⟨bv, rfl, E⟩ := ag _ _ p2
  refine zV_istore7 hX dL_law_569 ?_
  refine law_tail (T := 571) hX hN (by omega) (by omega) (by omega) dL_law_571 dL_law_572 dL_law_575 dL_law_577 dL_law_582 dL_law_584 dL_law_587 dL_law_588 dL_law_589 dL_law_590 dL_law_592 dL_law_593 dL_law_594 dL_law_599 (by decide) kb E ?_
  exact zV_wide (by omega) (by omega) (kk _ _ _ _ _ _ E.2.2 (by omega))
set_option maxRecDepth 100000 in
set_option maxHeartbeats 4000000 in
theorem k_value {Γ : zG} {ad : Nat → Int → Nat} {cs ss MC MS bs N : Nat} {xs : Nat → Int32} {x y : zSt} {i q : Int} {l6 l7 l8 : Option Value} (hX : zX Γ ad RL cL_law 9) (hN : zN Γ 60 MC MS) (hG : zNG Γ) (hS : zScr Γ bs N xs) (hi : 0 ≤ i ∧ i + 7 < N) (hNn : N ≤ 4096) (hc : cs + 3 ≤ MC) (hs : ss + 18 ≤ MS) (H : JV x (mCod y 0) q) (hq : q + 561 < 1000000) (kk : zGoOn Γ ad (cs + 3) (ss + 18) bs i q) : zV Γ ad cs ss x y 615 [some (.ref bs), some (.ref (ad 0 0)), some (.ref (ad 20 0)), some (.ref (ad 60 0)), some (.ref (ad 61 0)), some (zI i), l6, l7, l8] [] := by
  have hI : xI x := JV_xI H (by omega)
  have C := jw_c H
  have n0 := (jw_I H).1
  obtain ⟨v, ev, zv⟩ : ∃ v : Int, v = zSx xs (i + 1) ∧ zR v := ⟨_, rfl, zR_of _⟩
  have q0 : 0 ≤ q := JV_q H
  refine zV_aloadn hX dL_law_615 rfl ?_
  refine zV_arg hX hS hNn hi ⟨by decide, by decide⟩ ev rfl rfl dL_law_616 dL_law_617 dL_law_619 dL_law_620 dL_law_621 ?_
  refine zV_aloadn hX dL_law_622 rfl ?_
  refine zV_callSH (n := 3) hX rfl hN hG (h_value (P := (fun (k : Int) (x1 : zSt) => x1 = x ∧ ((k = 1 ∧ ¬ (0 ≤ v ∧ v ≤ 11)) ∨ (k = 2 ∧ (0 ≤ v ∧ v ≤ 11) ∧ x 1 0 v = -1)))) (c_X4_value zv) (fun E x1 y1 p => p.1.imp (fun h => ⟨h.1, ⟨p.2.1, Or.inl ⟨rfl, h.2⟩⟩, p.2.2⟩) (fun h => ⟨h.1, ⟨p.2.1, Or.inr ⟨rfl, h.2⟩⟩, p.2.2⟩))) zw_cw_yL_value zw_mL_147 zw_in_RL zw_st_yL_value ⟨by decide, by decide, by decide +kernel⟩ rfl (by omega) (by decide) (by omega) (by omega) rfl (Nat.le_of_ble_eq_true rfl) dL_law_623 (fun v1 x1 y1 p1 => ?_)
  obtain ⟨k, rfl, kb, H1, ag⟩ := m_gen (q' := q + 561) H p1 (by omega) (fun W HW g vv y2 hm => ⟨(s_value HW g hm).1, zGo_le (s_value HW g hm).2 (by omega) (by omega)⟩) (fun W HW k x1 pk vv y2 hm => by
    obtain ⟨rfl, pk⟩ := pk
    exact f_value HW pk hm)
  refine zV_istore6 hX dL_law_626 ?_
  refine zV_aloadn hX dL_law_628 rfl ?_
  refine zV_arg hX hS hNn hi ⟨by decide, by decide⟩ ev rfl rfl dL_law_629 dL_law_630 dL_law_632 dL_law_633 dL_law_634 ?_
  refine zV_callV (n := 1) hX rfl hN 20 rfl rfl ⟨by decide, by decide⟩ (c_X5_value zv) zw_co_yX5_value zw_mL_149 zw_in_RX5 zw_im_yX5_value zw_se_yX5_value ⟨by decide, by decide, by decide +kernel⟩ rfl (by omega) (by decide) (by omega) (by omega) rfl (Nat.le_of_ble_eq_true rfl) dL_law_635 (fun vv x2 y2 p2 => ?_) (fun _ _ _ h => h.elim)
  obtain ⟨rfl, p2⟩ := p2
  obtain ⟨bv, rfl, E⟩ := ag _ _ p2
  refine zV_istore7 hX dL_law_638 ?_
  refine law_tail (T := 640) hX hN (by omega) (by omega) (by omega) dL_law_640 dL_law_641 dL_law_644 dL_law_646 dL_law_651 dL_law_653 dL_law_656 dL_law_657 dL_law_658 dL_law_659 dL_law_661 dL_law_662 dL_law_663 dL_law_668 (by decide) kb E ?_
  exact zV_wide (by omega) (by omega) (kk _ _ _ _ _ _ E.2.2 (by omega))
set_option maxRecDepth 100000 in
set_option maxHeartbeats 4000000 in
theorem k_writer {Γ : zG} {ad : Nat → Int → Nat} {cs ss MC MS bs N : Nat} {xs : Nat → Int32} {x y : zSt} {i q : Int} {l6 l7 l8 : Option Value} (hX : zX Γ ad RL cL_law 9) (hN : zN Γ 60 MC MS) (hG : zNG Γ) (hS : zScr Γ bs N xs) (hi : 0 ≤ i ∧ i + 7 < N) (hNn : N ≤ 4096) (hc : cs + 3 ≤ MC) (hs : ss + 18 ≤ MS) (H : JV x (mCod y 0) q) (hq : q + 561 < 1000000) (kk : zGoOn Γ ad (cs + 3) (ss + 18) bs i q) : zV Γ ad cs ss x y 671 [some (.ref bs), some (.ref (ad 0 0)), some (.ref (ad 20 0)), some (.ref (ad 60 0)), some (.ref (ad 61 0)), some (zI i), l6, l7, l8] [] := by
  have hI : xI x := JV_xI H (by omega)
  have C := jw_c H
  have n0 := (jw_I H).1
  obtain ⟨v, ev, zv⟩ : ∃ v : Int, v = zSx xs (i + 1) ∧ zR v := ⟨_, rfl, zR_of _⟩
  have q0 : 0 ≤ q := JV_q H
  refine zV_aloadn hX dL_law_671 rfl ?_
  refine zV_arg hX hS hNn hi ⟨by decide, by decide⟩ ev rfl rfl dL_law_672 dL_law_673 dL_law_675 dL_law_676 dL_law_677 ?_
  refine zV_aloadn hX dL_law_678 rfl ?_
  refine zV_callSH (n := 3) hX rfl hN hG (h_writer (P := (fun (k : Int) (x1 : zSt) => x1 = x ∧ ((k = 1 ∧ ¬ (0 ≤ v ∧ v ≤ 11)) ∨ (k = 2 ∧ (0 ≤ v ∧ v ≤ 11) ∧ x 3 0 v = -1)))) (c_X4_writer zv) (fun E x1 y1 p => p.1.imp (fun h => ⟨h.1, ⟨p.2.1, Or.inl ⟨rfl, h.2⟩⟩, p.2.2⟩) (fun h => ⟨h.1, ⟨p.2.1, Or.inr ⟨rfl, h.2⟩⟩, p.2.2⟩))) zw_cw_yL_writer zw_mL_150 zw_in_RL zw_st_yL_writer ⟨by decide, by decide, by decide +kernel⟩ rfl (by omega) (by decide) (by omega) (by omega) rfl (Nat.le_of_ble_eq_true rfl) dL_law_679 (fun v1 x1 y1 p1 => ?_)
  obtain ⟨k, rfl, kb, H1, ag⟩ := m_gen (q' := q + 561) H p1 (by omega) (fun W HW g vv y2 hm => ⟨(s_writer HW g hm).1, zGo_le (s_writer HW g hm).2 (by omega) (by omega)⟩) (fun W HW k x1 pk vv y2 hm => by
    obtain ⟨rfl, pk⟩ := pk
    exact f_writer HW pk hm)
  refine zV_istore6 hX dL_law_682 ?_
  refine zV_aloadn hX dL_law_684 rfl ?_
  refine zV_arg hX hS hNn hi ⟨by decide, by decide⟩ ev rfl rfl dL_law_685 dL_law_686 dL_law_688 dL_law_689 dL_law_690 ?_
  refine zV_callV (n := 1) hX rfl hN 20 rfl rfl ⟨by decide, by decide⟩ (c_X5_writer zv) zw_co_yX5_writer zw_mL_152 zw_in_RX5 zw_im_yX5_writer zw_se_yX5_writer ⟨by decide, by decide, by decide +kernel⟩ rfl (by omega) (by decide) (by omega) (by omega) rfl (Nat.le_of_ble_eq_true rfl) dL_law_691 (fun vv x2 y2 p2 => ?_) (fun _ _ _ h => h.elim)
  obtain ⟨rfl, p2⟩ := p2
  obtain ⟨bv, rfl, E⟩ := ag _ _ p2
  refine zV_istore7 hX dL_law_694 ?_
  refine law_tail (T := 696) hX hN (by omega) (by omega) (by omega) dL_law_696 dL_law_697 dL_law_700 dL_law_702 dL_law_707 dL_law_709 dL_law_712 dL_law_713 dL_law_714 dL_law_715 dL_law_717 dL_law_718 dL_law_719 dL_law_724 (by decide) kb E ?_
  exact zV_wide (by omega) (by omega) (kk _ _ _ _ _ _ E.2.2 (by omega))
set_option maxRecDepth 100000 in
set_option maxHeartbeats 4000000 in
theorem k_run {Γ : zG} {ad : Nat → Int → Nat} {cs ss MC MS bs N : Nat} {xs : Nat → Int32} {x y : zSt} {i q : Int} {l6 l7 l8 : Option Value} (hX : zX Γ ad RL cL_law 9) (hN : zN Γ 60 MC MS) (hG : zNG Γ) (hS : zScr Γ bs N xs) (hi : 0 ≤ i ∧ i + 7 < N) (hNn : N ≤ 4096) (hc : cs + 3 ≤ MC) (hs : ss + 18 ≤ MS) (H : JV x (mCod y 0) q) (hq : q + 561 < 1000000) (kk : zGoOn Γ ad (cs + 3) (ss + 18) bs i q) : zV Γ ad cs ss x y 727 [some (.ref bs), some (.ref (ad 0 0)), some (.ref (ad 20 0)), some (.ref (ad 60 0)), some (.ref (ad 61 0)), some (zI i), l6, l7, l8] [] := by
  have hI : xI x := JV_xI H (by omega)
  have C := jw_c H
  have n0 := (jw_I H).1
  obtain ⟨u, eu, zu⟩ : ∃ v : Int, v = zSx xs (i + 1) ∧ zR v := ⟨_, rfl, zR_of _⟩
  have q0 : 0 ≤ q := JV_q H
  refine zV_aloadn hX dL_law_727 rfl ?_
  refine zV_arg hX hS hNn hi ⟨by decide, by decide⟩ eu rfl rfl dL_law_728 dL_law_729 dL_law_731 dL_law_732 dL_law_733 ?_
  refine zV_aloadn hX dL_law_734 rfl ?_
  refine zV_callSH (n := 3) hX rfl hN hG (h_run (P := (fun (k : Int) (x1 : zSt) => x1 = x ∧ ((k = 1 ∧ ¬ (0 ≤ u ∧ u ≤ x 0 0 9 - 1))))) (c_X4_run zu hI (JV_wr H)) (fun E x1 y1 p => ⟨p.1.1, ⟨p.2.1, rfl, p.1.2⟩, p.2.2⟩)) zw_cw_yL_run zw_mL_153 zw_in_RL zw_st_yL_run ⟨by decide, by decide, by decide +kernel⟩ rfl (by omega) (by decide) (by omega) (by omega) rfl (Nat.le_of_ble_eq_true rfl) dL_law_735 (fun v1 x1 y1 p1 => ?_)
  obtain ⟨k, rfl, kb, H1, ag⟩ := m_gen (q' := q + 561) H p1 (by omega) (fun W HW g vv y2 hm => ⟨(s_run HW ⟨g, by omega⟩ hm).1, zGo_le (s_run HW ⟨g, by omega⟩ hm).2 (by omega) (by omega)⟩) (fun W HW k x1 pk vv y2 hm => by
    obtain ⟨rfl, pk⟩ := pk
    exact f_run HW pk hm)
  refine zV_istore6 hX dL_law_738 ?_
  refine zV_aloadn hX dL_law_740 rfl ?_
  refine zV_arg hX hS hNn hi ⟨by decide, by decide⟩ eu rfl rfl dL_law_741 dL_law_742 dL_law_744 dL_law_745 dL_law_746 ?_
  refine zV_callV (n := 1) hX rfl hN 20 rfl rfl ⟨by decide, by decide⟩ (c_X5_run zu (jw_I H1) (fun h1 h2 => kp_run H1 h1 h2)) zw_co_yX5_run zw_mL_155 zw_in_RX5 zw_im_yX5_run zw_se_yX5_run ⟨by decide, by decide, by decide +kernel⟩ rfl (by omega) (by decide) (by omega) (by omega) rfl (Nat.le_of_ble_eq_true rfl) dL_law_747 (fun vv x2 y2 p2 => ?_) (fun _ _ _ h => h.elim)
  obtain ⟨rfl, p2⟩ := p2
  obtain ⟨bv, rfl, E⟩ := ag _ _ p2
  refine zV_istore7 hX dL_law_750 ?_
  refine law_tail (T := 752) hX hN (by omega) (by omega) (by omega) dL_law_752 dL_law_753 dL_law_756 dL_law_758 dL_law_763 dL_law_765 dL_law_768 dL_law_769 dL_law_770 dL_law_771 dL_law_773 dL_law_774 dL_law_775 dL_law_780 (by decide) kb E ?_
  exact zV_wide (by omega) (by omega) (kk _ _ _ _ _ _ E.2.2 (by omega))
set_option maxRecDepth 100000 in
set_option maxHeartbeats 4000000 in
theorem k_state {Γ : zG} {ad : Nat → Int → Nat} {cs ss MC MS bs N : Nat} {xs : Nat → Int32} {x y : zSt} {i q : Int} {l6 l7 l8 : Option Value} (hX : zX Γ ad RL cL_law 9) (hN : zN Γ 60 MC MS) (hG : zNG Γ) (hS : zScr Γ bs N xs) (hi : 0 ≤ i ∧ i + 7 < N) (hNn : N ≤ 4096) (hc : cs + 3 ≤ MC) (hs : ss + 18 ≤ MS) (H : JV x (mCod y 0) q) (hq : q + 561 < 1000000) (kk : zGoOn Γ ad (cs + 3) (ss + 18) bs i q) : zV Γ ad cs ss x y 796 [some (.ref bs), some (.ref (ad 0 0)), some (.ref (ad 20 0)), some (.ref (ad 60 0)), some (.ref (ad 61 0)), some (zI i), l6, l7, l8] [] := by
  have hI : xI x := JV_xI H (by omega)
  have C := jw_c H
  have n0 := (jw_I H).1
  obtain ⟨u, eu, zu⟩ : ∃ v : Int, v = zSx xs (i + 1) ∧ zR v := ⟨_, rfl, zR_of _⟩
  have q0 : 0 ≤ q := JV_q H
  refine zV_aloadn hX dL_law_796 rfl ?_
  refine zV_arg hX hS hNn hi ⟨by decide, by decide⟩ eu rfl rfl dL_law_797 dL_law_798 dL_law_800 dL_law_801 dL_law_802 ?_
  refine zV_aloadn hX dL_law_803 rfl ?_
  refine zV_callSH (n := 3) hX rfl hN hG (h_state (P := (fun (k : Int) (x1 : zSt) => x1 = x ∧ ((k = 1 ∧ ¬ (0 ≤ u ∧ u ≤ x 0 0 9 - 1))))) (c_X4_state zu hI) (fun E x1 y1 p => ⟨p.1.1, ⟨p.2.1, rfl, p.1.2⟩, p.2.2⟩)) zw_cw_yL_state zw_mL_160 zw_in_RL zw_st_yL_state ⟨by decide, by decide, by decide +kernel⟩ rfl (by omega) (by decide) (by omega) (by omega) rfl (Nat.le_of_ble_eq_true rfl) dL_law_804 (fun v1 x1 y1 p1 => ?_)
  obtain ⟨k, rfl, kb, H1, ag⟩ := m_gen (q' := q + 561) H p1 (by omega) (fun W HW g vv y2 hm => ⟨(s_state HW g hm).1, zGo_le (s_state HW g hm).2 (by omega) (by omega)⟩) (fun W HW k x1 pk vv y2 hm => by
    obtain ⟨rfl, pk⟩ := pk
    exact f_state HW pk hm)
  refine zV_istore6 hX dL_law_807 ?_
  refine zV_aloadn hX dL_law_809 rfl ?_
  refine zV_arg hX hS hNn hi ⟨by decide, by decide⟩ eu rfl rfl dL_law_810 dL_law_811 dL_law_813 dL_law_814 dL_law_815 ?_
  refine zV_callV (n := 1) hX rfl hN 20 rfl rfl ⟨by decide, by decide⟩ (c_X5_state zu (jw_I H1)) zw_co_yX5_state zw_mL_162 zw_in_RX5 zw_im_yX5_state zw_se_yX5_state ⟨by decide, by decide, by decide +kernel⟩ rfl (by omega) (by decide) (by omega) (by omega) rfl (Nat.le_of_ble_eq_true rfl) dL_law_816 (fun vv x2 y2 p2 => ?_) (fun _ _ _ h => h.elim)
  obtain ⟨rfl, p2⟩ := p2
  obtain ⟨bv, rfl, E⟩ := ag _ _ p2
  refine zV_istore7 hX dL_law_819 ?_
  refine law_tail (T := 821) hX hN (by omega) (by omega) (by omega) dL_law_821 dL_law_822 dL_law_825 dL_law_827 dL_law_832 dL_law_834 dL_law_837 dL_law_838 dL_law_839 dL_law_840 dL_law_842 dL_law_843 dL_law_844 dL_law_849 (by decide) kb E ?_
  exact zV_wide (by omega) (by omega) (kk _ _ _ _ _ _ E.2.2 (by omega))
