/-! THE LAW'S START: its first instructions, then the loop. -/
def zGm (p : Program) (l : Launch) (e : Env) (s : State) (m : MethodId) (b : Nat) (below : List Frame) (meth : Method) (c : Code) (D : va_G) (cA : Nat → ClassId) : zG :=
  (p, l, e, room_1, s, m, #[Value.ref b], below, meth, c, D, cA, fun q => s.heap.size ≤ q, lw_Z below #[Value.ref b] s)
set_option maxRecDepth 100000 in
set_option maxHeartbeats 4000000 in
theorem lw_begin {Γ : zG} {b MC MS : Nat} (hY : zY Γ RL cL_law 9) (hR : zR4 Γ 60 MC MS) (hMC : 2000 ≤ MC) (hMS : 20000 ≤ MS)
    (kk : ∀ (a0 : Nat → Nat) (B K : Nat → Nat → Nat) (r : Nat → Nat) (q60 q61 : Nat) (f1 f2 f3 : Nat → Int32) (g5 g6 : Nat → Option Nat), (∀ j, j < 12 → f1 j = Int32.ofInt (-1) ∧ f2 j = Int32.ofInt (-1) ∧ f3 j = Int32.ofInt (-1)) → (∀ n, n < 11 → g5 n = some (B n 9)) → (∀ n, n < 3 → g6 n = some (K n 16)) →
      zU Γ 200 2000 (zwls (zcA Γ) a0 B K r q60 q61 f1 f2 f3 g5 g6) 28 [some (.ref b), some (.ref (a0 0)), some (.ref (r 20)), some (.ref q60), some (.ref q61), some (zI 0), none, none, none] []) :
    zU Γ 0 0 [] 0 [some (.ref b), none, none, none, none, none, none, none, none] [] := by
  refine zU_new hY hR zw_lay4 tyX4 tyX4_ok zw_cL_8 zw_is_X4 zw_in_RX4 (ci := 4) rfl (fs := [.null, .null, .null, .null, .null, .null, .null, .null, .int 0, .int 0, .int 0, .int 0, .int 0, .long 0]) (by intro j hj; have hj2 : j = 0 ∨ j = 1 ∨ j = 2 ∨ j = 3 ∨ j = 4 ∨ j = 5 ∨ j = 6 ∨ j = 7 ∨ j = 8 ∨ j = 9 ∨ j = 10 ∨ j = 11 ∨ j = 12 ∨ j = 13 := (by omega); rcases hj2 with rfl | rfl | rfl | rfl | rfl | rfl | rfl | rfl | rfl | rfl | rfl | rfl | rfl | rfl <;> rfl) (by omega) (by omega) dL_law_0 (fun h0 => ?_)
  refine zU_dup hY dL_law_3 rfl ?_
  refine zU_callI hY rfl hR c_X4_init zw_co_yX4_init zw_in_RX4 zw_im_yX4_init zw_mL_114 rfl ⟨by decide, by decide, by decide +kernel⟩ (by decide) (by decide) (by omega) (by omega) (w0 := []) (Nat.le_of_ble_eq_true rfl) dL_law_4 (fun w1 e1 => ?_)
  obtain ⟨r1, r2, r3, r4, r5, r6, r7, r8, f1, f2, f3, g5, g6, B, K, hf, hB, hK, rfl⟩ := e1
  refine zU_astoren hY (i := 1) (Nat.le_of_ble_eq_true rfl) dL_law_7 rfl ?_
  refine zU_new hY hR zw_lay5 tyX5 tyX5_ok zw_cL_115 zw_is_X5 zw_in_RX5 (ci := 5) rfl (fs := [.int 0, .null, .null, .null, .null, .int 0, .null, .null, .null, .null, .null, .null, .null, .null, .null, .null, .null, .null, .null, .null, .null, .null, .null, .null, .null, .null, .null, .null, .int 0, .null, .int 0, .null, .null, .null, .int 0, .null, .null, .int 0, .long 0, .int 0]) (by intro j hj; have hj2 : j = 0 ∨ j = 1 ∨ j = 2 ∨ j = 3 ∨ j = 4 ∨ j = 5 ∨ j = 6 ∨ j = 7 ∨ j = 8 ∨ j = 9 ∨ j = 10 ∨ j = 11 ∨ j = 12 ∨ j = 13 ∨ j = 14 ∨ j = 15 ∨ j = 16 ∨ j = 17 ∨ j = 18 ∨ j = 19 ∨ j = 20 ∨ j = 21 ∨ j = 22 ∨ j = 23 ∨ j = 24 ∨ j = 25 ∨ j = 26 ∨ j = 27 ∨ j = 28 ∨ j = 29 ∨ j = 30 ∨ j = 31 ∨ j = 32 ∨ j = 33 ∨ j = 34 ∨ j = 35 ∨ j = 36 ∨ j = 37 ∨ j = 38 ∨ j = 39 := (by omega); rcases hj2 with rfl | rfl | rfl | rfl | rfl | rfl | rfl | rfl | rfl | rfl | rfl | rfl | rfl | rfl | rfl | rfl | rfl | rfl | rfl | rfl | rfl | rfl | rfl | rfl | rfl | rfl | rfl | rfl | rfl | rfl | rfl | rfl | rfl | rfl | rfl | rfl | rfl | rfl | rfl | rfl <;> rfl) (by omega) (by omega) dL_law_8 (fun h5 => ?_)
  refine zU_dup hY dL_law_11 rfl ?_
  refine zU_callI hY rfl hR c_X5_init zw_co_yX5_init zw_in_RX5 zw_im_yX5_init zw_mL_117 rfl ⟨by decide, by decide, by decide +kernel⟩ (by decide) (by decide) (by omega) (by omega) (Nat.le_of_ble_eq_true rfl) dL_law_12 (fun w2 e2 => ?_)
  obtain ⟨r, hr, rfl⟩ := e2
  refine zU_astoren hY (i := 2) (Nat.le_of_ble_eq_true rfl) dL_law_15 rfl ?_
  refine zU_iconst hY dL_law_16 ?_
  refine zU_newa hY hR (atype := .long) (ty := .long) zw_ac_long rfl 60 (by decide) rfl (N := 1) (a0 := (1, .inr (.inl (fun _ => 0)))) (fun _ => rfl) (by decide) (by decide) (by decide) (by omega) (by omega) dL_law_17 (fun q60 => ?_)
  refine zU_astoren hY (i := 3) (Nat.le_of_ble_eq_true rfl) dL_law_19 rfl ?_
  refine zU_iconst hY dL_law_20 ?_
  refine zU_newa hY hR (atype := .double) (ty := .double) zw_ac_double rfl 61 (by decide) rfl (N := 1) (a0 := (1, .inr (.inr (.inr (.inl (fun _ => 0)))))) (fun _ => rfl) (by decide) (by decide) (by decide) (by omega) (by omega) dL_law_21 (fun q61 => ?_)
  refine zU_astore hY (i := 4) (Nat.le_of_ble_eq_true rfl) dL_law_23 ?_
  refine zU_iconst hY dL_law_25 ?_
  refine zU_istore hY (i := 5) (Nat.le_of_ble_eq_true rfl) dL_law_26 ?_
  subst hr
  exact zU_wide (by omega) (by omega) (kk (fun k => [h0, r1, r2, r3, r4, r5, r6, r7, r8].getD k 0) B K r q60 q61 f1 f2 f3 g5 g6 hf hB hK)
theorem lw_over {p : Program} {l : Launch} {e : Env} {s : State} {m : MethodId} {b : Nat} {below : List Frame} {meth : Method} {c : Code} {D : va_G} {cA : Nat → ClassId} (hx : p.tables.exec = Jvm.exec) (hb : c.code = code) (hr : meth.sig.returnType = ret) (hlocks : meth.locks = false) {ad : Nat → Int → Nat} (x y : zSt) (cs ss : Nat) (L : List (Option Value)) (h1 : cs ≤ 616698) (h2 : ss ≤ 7170235) : zV (zGm p l e s m b below meth c D cA) ad cs ss x y 2032 L [] := by
  intro H locs ls hW hS hL
  refine lv_iconst hx hb dL_law_2032 rfl ?_
  refine W.widen h1 h2 (va_forget (fun q hq => hS.2.2 q hq) ?_)
  exact lw_ret (d0 := s.drawn) (Drawn.sameBut.refl s.drawn lw_cs) hx hb hr hlocks dL_law_2033
