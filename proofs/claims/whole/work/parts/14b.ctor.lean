/-! THE CONSTRUCTORS, walked. -/
abbrev eFl : va_E := .inr (1, [.int 0, .int 0, .int 0, .int 0])
abbrev eMm : va_E := .inr (3, [.null, .null, .null, .null, .int 0, .int 0])
abbrev eKn : va_E := .inr (2, [.int 0, .int 0, .null])
abbrev eCl : va_E := .inr (0, [.int 0, .int 0, .int 0, .int 0, .int 0, .int 0, .int 0, .int 0, .int 0, .int 0, .int 0, .int 0, .int 0, .int 0, .int 0, .null, .null])
abbrev eX : va_E := .inr (4, [.null, .null, .null, .null, .null, .null, .null, .null, .int 0, .int 0, .int 0, .int 0, .int 0, .long 0])
abbrev aI (cA : Nat → ClassId) (k n : Nat) (f : Nat → Int32) : va_E := .inl (cA k, n, .inl f)
abbrev aQ (cA : Nat → ClassId) (k n : Nat) (f : Nat → Option Nat) : va_E := .inl (cA k, n, .inr (.inr (.inr (.inr f))))
abbrev z0 : Nat → Int32 := fun _ => 0
def zblk (cA : Nat → ClassId) (b : Nat → Nat) : va_W := [(b 9, .inr (0, [.int 0, .int 0, .int 0, .int 0, .int 0, .int 0, .int 0, .int 0, .int 0, .int 0, .int 0, .int 0, .int 0, .int 0, .int 0, .ref (b 10), .ref (b 11)])), (b 10, eFl), (b 11, .inr (3, [.ref (b 12), .ref (b 13), .ref (b 14), .ref (b 15), .int 0, .int 0])), (b 12, aI cA 12 4 z0), (b 13, aI cA 13 4 z0), (b 14, aI cA 14 4 z0), (b 15, aI cA 15 4 z0)]
def zkbl (cA : Nat → ClassId) (b : Nat → Nat) : va_W := [(b 16, .inr (2, [.int 0, .int 0, .ref (b 17)])), (b 17, aI cA 17 10 z0)]
set_option maxRecDepth 100000 in
set_option maxHeartbeats 4000000 in
theorem c_X1_init : zKC yX1_init cX1_init 1 1 0 0 eFl (fun h0 _ w1 => w1 = [(h0, eFl)]) := by
  refine zKC_of (by decide) rfl (by decide) (fun Γ h0 hY hI hR hM => ?_)
  show zU Γ 0 0 [(h0, eFl)] 0 [some (.ref h0)] []
  refine zU_aloadn hY dX1_init_0 rfl ?_
  refine zU_objinit hY rfl hR (by decide) zw_oi_X1 (by decide) dX1_init_1 ?_
  exact zU_vret hY hM (by omega) (by omega) dX1_init_4 (rfl)
set_option maxRecDepth 100000 in
set_option maxHeartbeats 4000000 in
theorem c_X3_init : zKC yX3_init cX3_init 1 1 4 16 eMm (fun h0 cA w1 => ∃ q1 q2 q3 q4 : Nat, w1 = [(h0, .inr (3, [.ref q1, .ref q2, .ref q3, .ref q4, .int 0, .int 0])), (q1, aI cA 12 4 z0), (q2, aI cA 13 4 z0), (q3, aI cA 14 4 z0), (q4, aI cA 15 4 z0)]) := by
  refine zKC_of (by decide) rfl (by decide) (fun Γ h0 hY hI hR hM => ?_)
  show zU Γ 0 0 [(h0, eMm)] 0 [some (.ref h0)] []
  refine zU_aloadn hY dX3_init_0 rfl ?_
  refine zU_objinit hY rfl hR (by decide) zw_oi_X3 (by decide) dX3_init_1 ?_
  refine zU_aloadn hY dX3_init_4 rfl ?_
  refine zU_iconst hY dX3_init_5 ?_
  refine zU_newa hY hR (atype := .int) (ty := .int) zw_ac_int rfl 12 (by decide) rfl (N := 4) (a0 := (4, .inl z0)) (fun _ => rfl) (by decide) (by decide) (by decide) (by omega) (by omega) dX3_init_6 (fun q1 => ?_)
  refine zU_putF hY hI zw_lay3 tyX3 tyX3_ok nmX3 (ci := 3) rfl 0 rfl 0 (by decide) zw_fX3_11 rfl rfl rfl rfl (Nat.le_of_ble_eq_true rfl) dX3_init_8 ?_
  refine zU_aloadn hY dX3_init_11 rfl ?_
  refine zU_iconst hY dX3_init_12 ?_
  refine zU_newa hY hR (atype := .int) (ty := .int) zw_ac_int rfl 13 (by decide) rfl (N := 4) (a0 := (4, .inl z0)) (fun _ => rfl) (by decide) (by decide) (by decide) (by omega) (by omega) dX3_init_13 (fun q2 => ?_)
  refine zU_putF hY hI zw_lay3 tyX3 tyX3_ok nmX3 (ci := 3) rfl 0 rfl 1 (by decide) zw_fX3_15 rfl rfl rfl rfl (Nat.le_of_ble_eq_true rfl) dX3_init_15 ?_
  refine zU_aloadn hY dX3_init_18 rfl ?_
  refine zU_iconst hY dX3_init_19 ?_
  refine zU_newa hY hR (atype := .int) (ty := .int) zw_ac_int rfl 14 (by decide) rfl (N := 4) (a0 := (4, .inl z0)) (fun _ => rfl) (by decide) (by decide) (by decide) (by omega) (by omega) dX3_init_20 (fun q3 => ?_)
  refine zU_putF hY hI zw_lay3 tyX3 tyX3_ok nmX3 (ci := 3) rfl 0 rfl 2 (by decide) zw_fX3_18 rfl rfl rfl rfl (Nat.le_of_ble_eq_true rfl) dX3_init_22 ?_
  refine zU_aloadn hY dX3_init_25 rfl ?_
  refine zU_iconst hY dX3_init_26 ?_
  refine zU_newa hY hR (atype := .int) (ty := .int) zw_ac_int rfl 15 (by decide) rfl (N := 4) (a0 := (4, .inl z0)) (fun _ => rfl) (by decide) (by decide) (by decide) (by omega) (by omega) dX3_init_27 (fun q4 => ?_)
  refine zU_putF hY hI zw_lay3 tyX3 tyX3_ok nmX3 (ci := 3) rfl 0 rfl 3 (by decide) zw_fX3_21 rfl rfl rfl rfl (Nat.le_of_ble_eq_true rfl) dX3_init_29 ?_
  exact zU_vret hY hM (by omega) (by omega) dX3_init_32 (⟨q1, q2, q3, q4, rfl⟩)
set_option maxRecDepth 100000 in
set_option maxHeartbeats 4000000 in
theorem c_X2_init : zKC yX2_init cX2_init 1 1 1 10 eKn (fun h0 cA w1 => ∃ b : Nat → Nat, b 16 = h0 ∧ w1 = zkbl cA b) := by
  refine zKC_of (by decide) rfl (by decide) (fun Γ h0 hY hI hR hM => ?_)
  show zU Γ 0 0 [(h0, eKn)] 0 [some (.ref h0)] []
  refine zU_aloadn hY dX2_init_0 rfl ?_
  refine zU_objinit hY rfl hR (by decide) zw_oi_X2 (by decide) dX2_init_1 ?_
  refine zU_aloadn hY dX2_init_4 rfl ?_
  refine zU_bipush hY dX2_init_5 (by decide) ?_
  refine zU_newa hY hR (atype := .int) (ty := .int) zw_ac_int rfl 17 (by decide) rfl (N := 10) (a0 := (10, .inl z0)) (fun _ => rfl) (by decide) (by decide) (by decide) (by omega) (by omega) dX2_init_7 (fun q1 => ?_)
  refine zU_putF hY hI zw_lay2 tyX2 tyX2_ok nmX2 (ci := 2) rfl 0 rfl 2 (by decide) zw_fX2_11 rfl rfl rfl rfl (Nat.le_of_ble_eq_true rfl) dX2_init_9 ?_
  exact zU_vret hY hM (by omega) (by omega) dX2_init_12 (⟨fun k => if k = 16 then h0 else q1, rfl, rfl⟩)
set_option maxRecDepth 100000 in
set_option maxHeartbeats 4000000 in
theorem c_X0_init : zKC yX0_init cX0_init 1 2 6 26 eCl (fun h0 cA w1 => ∃ b : Nat → Nat, b 9 = h0 ∧ w1 = zblk cA b) := by
  refine zKC_of (by decide) rfl (by decide) (fun Γ h0 hY hI hR hM => ?_)
  show zU Γ 0 0 [(h0, eCl)] 0 [some (.ref h0)] []
  refine zU_aloadn hY dX0_init_0 rfl ?_
  refine zU_objinit hY rfl hR (by decide) zw_oi_X0 (by decide) dX0_init_1 ?_
  refine zU_aloadn hY dX0_init_4 rfl ?_
  refine zU_iconst hY dX0_init_5 ?_
  refine zU_put hY zw_lay0 tyX0 tyX0_ok nmX0 (ci := 0) rfl 0 rfl 9 (by decide) zw_fX0_9 rfl rfl rfl rfl (Nat.le_of_ble_eq_true rfl) dX0_init_6 ?_
  refine zU_aloadn hY dX0_init_9 rfl ?_
  refine zU_new hY hR zw_lay1 tyX1 tyX1_ok zw_cX0_15 zw_is_X1 zw_in_RX1 (ci := 1) rfl (fs := [.int 0, .int 0, .int 0, .int 0]) (by intro j hj; have hj2 : j = 0 ∨ j = 1 ∨ j = 2 ∨ j = 3 := (by omega); rcases hj2 with rfl | rfl | rfl | rfl <;> rfl) (by omega) (by omega) dX0_init_10 (fun f => ?_)
  refine zU_dup hY dX0_init_13 rfl ?_
  refine zU_callN hY rfl hR c_X1_init zw_co_yX1_init zw_in_RX1 zw_im_yX1_init (fun _ s => s.2.2.1) rfl ⟨by decide, by decide, by decide +kernel⟩ (by decide) (by decide) (by omega) (by omega) (Nat.le_of_ble_eq_true rfl) dX0_init_14 (fun w1 e1 => ?_)
  subst e1
  refine zU_putF hY hI zw_lay0 tyX0 tyX0_ok nmX0 (ci := 0) rfl 0 rfl 15 (by decide) zw_fX0_18 rfl rfl rfl rfl (Nat.le_of_ble_eq_true rfl) dX0_init_17 ?_
  refine zU_aloadn hY dX0_init_20 rfl ?_
  refine zU_new hY hR zw_lay3 tyX3 tyX3_ok zw_cX0_22 zw_is_X3 zw_in_RX3 (ci := 3) rfl (fs := [.null, .null, .null, .null, .int 0, .int 0]) (by intro j hj; have hj2 : j = 0 ∨ j = 1 ∨ j = 2 ∨ j = 3 ∨ j = 4 ∨ j = 5 := (by omega); rcases hj2 with rfl | rfl | rfl | rfl | rfl | rfl <;> rfl) (by omega) (by omega) dX0_init_21 (fun m => ?_)
  refine zU_dup hY dX0_init_24 rfl ?_
  refine zU_callN hY rfl hR c_X3_init zw_co_yX3_init zw_in_RX3 zw_im_yX3_init (fun _ s => s.2.2.2.1) rfl ⟨by decide, by decide, by decide +kernel⟩ (by decide) (by decide) (by omega) (by omega) (Nat.le_of_ble_eq_true rfl) dX0_init_25 (fun w2 e2 => ?_)
  obtain ⟨q1, q2, q3, q4, rfl⟩ := e2
  refine zU_putF hY hI zw_lay0 tyX0 tyX0_ok nmX0 (ci := 0) rfl 0 rfl 16 (by decide) zw_fX0_25 rfl rfl rfl rfl (Nat.le_of_ble_eq_true rfl) dX0_init_28 ?_
  exact zU_vret hY hM (by omega) (by omega) dX0_init_31 (⟨fun k => if k = 9 then h0 else if k = 10 then f else if k = 11 then m else if k = 12 then q1 else if k = 13 then q2 else if k = 14 then q3 else q4, rfl, rfl⟩)
def zfix (cA : Nat → ClassId) (h0 r1 r2 r3 r4 r5 r6 r7 r8 : Nat) (f1 f2 f3 : Nat → Int32) (g5 g6 : Nat → Option Nat) : va_W := [(h0, .inr (4, [.ref r1, .ref r2, .ref r3, .ref r4, .ref r5, .ref r6, .ref r7, .ref r8, .int 0, .int 0, .int 0, .int 0, .int 0, .long 0])), (r1, aI cA 1 12 f1), (r2, aI cA 2 12 f2), (r3, aI cA 3 12 f3), (r4, aI cA 4 12 z0), (r5, aQ cA 5 11 g5), (r6, aQ cA 6 3 g6), (r7, aI cA 7 20 z0), (r8, aI cA 8 20 z0)]
def zTl (cA : Nat → ClassId) (B : Nat → Nat → Nat) : Nat → va_W
  | 0 => []
  | n + 1 => zTl cA B n ++ zblk cA (B n)
def kTl (cA : Nat → ClassId) (B : Nat → Nat → Nat) : Nat → va_W
  | 0 => []
  | n + 1 => kTl cA B n ++ zkbl cA (B n)
theorem zTl_l {cA : Nat → ClassId} {B : Nat → Nat → Nat} : ∀ n : Nat, (zTl cA B n).length = 7 * n := by
  intro n
  induction n with
  | zero => rfl
  | succ n ih =>
    simp only [zTl, List.length_append, ih]
    show 7 * n + 7 = 7 * (n + 1)
    omega
theorem kTl_l {cA : Nat → ClassId} {B : Nat → Nat → Nat} : ∀ n : Nat, (kTl cA B n).length = 2 * n := by
  intro n
  induction n with
  | zero => rfl
  | succ n ih =>
    simp only [kTl, List.length_append, ih]
    show 2 * n + 2 = 2 * (n + 1)
    omega
theorem zTl_c {cA : Nat → ClassId} {B B' : Nat → Nat → Nat} : ∀ n : Nat, (∀ i, i < n → B' i = B i) → zTl cA B' n = zTl cA B n := by
  intro n
  induction n with
  | zero => intro _; rfl
  | succ n ih =>
    intro h
    simp only [zTl]
    rw [ih (fun i hi => h i (by omega)), h n (by omega)]
theorem kTl_c {cA : Nat → ClassId} {B B' : Nat → Nat → Nat} : ∀ n : Nat, (∀ i, i < n → B' i = B i) → kTl cA B' n = kTl cA B n := by
  intro n
  induction n with
  | zero => intro _; rfl
  | succ n ih =>
    intro h
    simp only [kTl]
    rw [ih (fun i hi => h i (by omega)), h n (by omega)]
theorem zTl_g {cA : Nat → ClassId} {B : Nat → Nat → Nat} {i j : Nat} (hj : j < 7) : ∀ n : Nat, i < n → (zTl cA B n)[7 * i + j]? = (zblk cA (B i))[j]? := by
  intro n
  induction n with
  | zero => intro h; omega
  | succ n ih =>
    intro h
    simp only [zTl]
    have l := zTl_l (cA := cA) (B := B) n
    by_cases g : i < n
    · rw [List.getElem?_append_left (by omega)]
      exact ih g
    · have e : i = n := by omega
      rw [List.getElem?_append_right (by omega), l, e]
      congr 1
      omega
theorem kTl_g {cA : Nat → ClassId} {B : Nat → Nat → Nat} {i j : Nat} (hj : j < 2) : ∀ n : Nat, i < n → (kTl cA B n)[2 * i + j]? = (zkbl cA (B i))[j]? := by
  intro n
  induction n with
  | zero => intro h; omega
  | succ n ih =>
    intro h
    simp only [kTl]
    have l := kTl_l (cA := cA) (B := B) n
    by_cases g : i < n
    · rw [List.getElem?_append_left (by omega)]
      exact ih g
    · have e : i = n := by omega
      rw [List.getElem?_append_right (by omega), l, e]
      congr 1
      omega
set_option maxRecDepth 100000 in
set_option maxHeartbeats 4000000 in
theorem lp_X4_i1 {Γ : zG} {cs ss MC MS h0 r1 r2 r3 r4 r5 r6 r7 r8 : Nat} (hY : zY Γ RX4 cX4_init 2) (hR : zR4 Γ 4 MC MS) {g5 g6 : Nat → Option Nat} (hk : ∀ f1 f2 f3 : Nat → Int32, (∀ j, j < 12 → f1 j = Int32.ofInt (-1) ∧ f2 j = Int32.ofInt (-1) ∧ f3 j = Int32.ofInt (-1)) → zU Γ cs ss (zfix (zcA Γ) h0 r1 r2 r3 r4 r5 r6 r7 r8 f1 f2 f3 g5 g6) 104 [some (.ref h0), some (zI 12)] []) : ∀ (f i : Nat) (f1 f2 f3 : Nat → Int32), i ≤ 12 → 12 - i < f → (∀ j, j < i → f1 j = Int32.ofInt (-1) ∧ f2 j = Int32.ofInt (-1) ∧ f3 j = Int32.ofInt (-1)) → zU Γ cs ss (zfix (zcA Γ) h0 r1 r2 r3 r4 r5 r6 r7 r8 f1 f2 f3 g5 g6) 71 [some (.ref h0), some (zI (i : Int))] [] := by
  intro f
  induction f with
  | zero => intro i f1 f2 f3 h1 h2; omega
  | succ f ih =>
    intro i f1 f2 f3 h1 h2 hf
    refine zU_iloadn hY dX4_init_71 rfl ?_
    refine zU_bipush hY dX4_init_72 (by decide) ?_
    refine zU_icmp_ge (tgt := 104) hY dX4_init_74 (by decide) ⟨by omega, by omega⟩ (by decide) (fun h => ?_) (fun h => ?_)
    · obtain rfl : i = 12 := by omega
      exact hk f1 f2 f3 hf
    · refine zU_aloadn hY dX4_init_77 rfl ?_
      refine zU_get hY zw_lay4 (ci := 4) rfl 0 rfl 0 (by decide) zw_fX4_9 rfl rfl dX4_init_78 ?_
      refine zU_iloadn hY dX4_init_81 rfl ?_
      refine zU_iconst hY dX4_init_82 ?_
      refine zU_iast hY 1 (by decide) rfl 1 rfl (j := i) rfl ⟨by omega, by decide⟩ dX4_init_83 ?_
      refine zU_aloadn hY dX4_init_84 rfl ?_
      refine zU_get hY zw_lay4 (ci := 4) rfl 0 rfl 1 (by decide) zw_fX4_13 rfl rfl dX4_init_85 ?_
      refine zU_iloadn hY dX4_init_88 rfl ?_
      refine zU_iconst hY dX4_init_89 ?_
      refine zU_iast hY 2 (by decide) rfl 2 rfl (j := i) rfl ⟨by omega, by decide⟩ dX4_init_90 ?_
      refine zU_aloadn hY dX4_init_91 rfl ?_
      refine zU_get hY zw_lay4 (ci := 4) rfl 0 rfl 2 (by decide) zw_fX4_16 rfl rfl dX4_init_92 ?_
      refine zU_iloadn hY dX4_init_95 rfl ?_
      refine zU_iconst hY dX4_init_96 ?_
      refine zU_iast hY 3 (by decide) rfl 3 rfl (j := i) rfl ⟨by omega, by decide⟩ dX4_init_97 ?_
      refine zU_iinc hY (i := 1) rfl dX4_init_98 ?_
      refine zU_goto (tgt := 71) hY dX4_init_101 (by decide) ?_
      refine ih (i + 1) (upd f1 i (Int32.ofInt (-1))) (upd f2 i (Int32.ofInt (-1))) (upd f3 i (Int32.ofInt (-1))) (by omega) (by omega) (fun j hj => ?_)
      unfold upd
      by_cases e : j = i
      · rw [if_pos e, if_pos e, if_pos e]
        exact ⟨rfl, rfl, rfl⟩
      · rw [if_neg e, if_neg e, if_neg e]
        exact hf j (by omega)
set_option maxRecDepth 100000 in
set_option maxHeartbeats 4000000 in
theorem lp_X4_i2 {Γ : zG} {cs ss MC MS h0 r1 r2 r3 r4 r5 r6 r7 r8 : Nat} (hY : zY Γ RX4 cX4_init 2) (hR : zR4 Γ 4 MC MS) {f1 f2 f3 : Nat → Int32} {g6 : Nat → Option Nat} (hcs : cs + 7 * 11 ≤ MC) (hss : ss + 43 * 11 ≤ MS) (hk : ∀ (g5 : Nat → Option Nat) (B : Nat → Nat → Nat), (∀ n, n < 11 → g5 n = some (B n 9)) → zU Γ (cs + 7 * 11) (ss + 43 * 11) (zfix (zcA Γ) h0 r1 r2 r3 r4 r5 r6 r7 r8 f1 f2 f3 g5 g6 ++ zTl (zcA Γ) B 11) 131 [some (.ref h0), some (zI 11)] []) : ∀ (f i : Nat) (g5 : Nat → Option Nat) (B : Nat → Nat → Nat), i ≤ 11 → 11 - i < f → (∀ n, n < i → g5 n = some (B n 9)) → zU Γ (cs + 7 * i) (ss + 43 * i) (zfix (zcA Γ) h0 r1 r2 r3 r4 r5 r6 r7 r8 f1 f2 f3 g5 g6 ++ zTl (zcA Γ) B i) 106 [some (.ref h0), some (zI (i : Int))] [] := by
  intro f
  induction f with
  | zero => intro i g5 B h1 h2; omega
  | succ f ih =>
    intro i g5 B h1 h2 hg
    refine zU_iloadn hY dX4_init_106 rfl ?_
    refine zU_bipush hY dX4_init_107 (by decide) ?_
    refine zU_icmp_ge (tgt := 131) hY dX4_init_109 (by decide) ⟨by omega, by omega⟩ (by decide) (fun h => ?_) (fun h => ?_)
    · obtain rfl : i = 11 := by omega
      exact hk g5 B hg
    · refine zU_aloadn hY dX4_init_112 rfl ?_
      refine zU_get hY zw_lay4 (ci := 4) rfl 0 rfl 4 (by decide) zw_fX4_24 rfl rfl dX4_init_113 ?_
      refine zU_iloadn hY dX4_init_116 rfl ?_
      refine zU_new hY hR zw_lay0 tyX0 tyX0_ok zw_cX4_22 zw_is_X0 zw_in_RX0 (ci := 0) rfl (fs := [.int 0, .int 0, .int 0, .int 0, .int 0, .int 0, .int 0, .int 0, .int 0, .int 0, .int 0, .int 0, .int 0, .int 0, .int 0, .null, .null]) (by intro j hj; have hj2 : j = 0 ∨ j = 1 ∨ j = 2 ∨ j = 3 ∨ j = 4 ∨ j = 5 ∨ j = 6 ∨ j = 7 ∨ j = 8 ∨ j = 9 ∨ j = 10 ∨ j = 11 ∨ j = 12 ∨ j = 13 ∨ j = 14 ∨ j = 15 ∨ j = 16 := (by omega); rcases hj2 with rfl | rfl | rfl | rfl | rfl | rfl | rfl | rfl | rfl | rfl | rfl | rfl | rfl | rfl | rfl | rfl | rfl <;> rfl) (by omega) (by omega) dX4_init_117 (fun q => ?_)
      refine zU_dup hY dX4_init_120 rfl ?_
      refine zU_callN hY rfl hR c_X0_init zw_co_yX0_init zw_in_RX0 zw_im_yX0_init (fun _ s => s.1) rfl ⟨by decide, by decide, by decide +kernel⟩ (by decide) (by decide) (by omega) (by omega) (Nat.le_of_ble_eq_true rfl) dX4_init_121 (fun w1 e1 => ?_)
      obtain ⟨b, hb, rfl⟩ := e1
      have l := zTl_l (cA := zcA Γ) (B := B) i
      have hv : ((zfix (zcA Γ) h0 r1 r2 r3 r4 r5 r6 r7 r8 f1 f2 f3 g5 g6 ++ zTl (zcA Γ) B i) ++ zblk (zcA Γ) b)[9 + 7 * i]? = some (q, .inr (0, [.int 0, .int 0, .int 0, .int 0, .int 0, .int 0, .int 0, .int 0, .int 0, .int 0, .int 0, .int 0, .int 0, .int 0, .int 0, .ref (b 10), .ref (b 11)])) := by
        rw [List.getElem?_append_right (by rw [List.length_append, l]; exact Nat.le_refl _)]
        rw [show 9 + 7 * i - (zfix (zcA Γ) h0 r1 r2 r3 r4 r5 r6 r7 r8 f1 f2 f3 g5 g6 ++ zTl (zcA Γ) B i).length = 0 by rw [List.length_append, l]; exact Nat.sub_self _, ← hb]
        rfl
      refine zU_astq hY 5 (by decide) (r := (RX0, TX0, 17)) rfl 5 (9 + 7 * i) 0 rfl hv rfl (j := i) rfl ⟨by omega, by decide⟩ dX4_init_124 ?_
      refine zU_iinc hY (i := 1) rfl dX4_init_125 ?_
      refine zU_goto (tgt := 106) hY dX4_init_128 (by decide) ?_
      have e2 : zTl (zcA Γ) (fun n => if n = i then b else B n) (i + 1) = zTl (zcA Γ) B i ++ zblk (zcA Γ) b := by
        show zTl (zcA Γ) (fun n => if n = i then b else B n) i ++ zblk (zcA Γ) (if i = i then b else B i) = _
        rw [zTl_c (B := B) i (fun n hn => if_neg (by omega)), if_pos rfl]
      have key := ih (i + 1) (va_up g5 i (some q)) (fun n => if n = i then b else B n) (by omega) (by omega) (fun n hn => by
        unfold va_up
        by_cases e : n = i
        · simp only [e, if_true]
          rw [hb]
        · simp only [e, if_false]
          exact hg n (by omega))
      rw [e2, ← List.append_assoc] at key
      exact zU_wide (by omega) (by omega) key
set_option maxRecDepth 100000 in
set_option maxHeartbeats 4000000 in
theorem lp_X4_i3 {Γ : zG} {cs ss MC MS h0 r1 r2 r3 r4 r5 r6 r7 r8 : Nat} (hY : zY Γ RX4 cX4_init 2) (hR : zR4 Γ 4 MC MS) {f1 f2 f3 : Nat → Int32} {g5 : Nat → Option Nat} {wt : va_W} {nt : Nat} (hnt : wt.length = nt) (hcs : cs + 2 * 3 ≤ MC) (hss : ss + 13 * 3 ≤ MS) (hk : ∀ (g6 : Nat → Option Nat) (B : Nat → Nat → Nat), (∀ n, n < 3 → g6 n = some (B n 16)) → zU Γ (cs + 2 * 3) (ss + 13 * 3) ((zfix (zcA Γ) h0 r1 r2 r3 r4 r5 r6 r7 r8 f1 f2 f3 g5 g6 ++ wt) ++ kTl (zcA Γ) B 3) 157 [some (.ref h0), some (zI 3)] []) : ∀ (f i : Nat) (g6 : Nat → Option Nat) (B : Nat → Nat → Nat), i ≤ 3 → 3 - i < f → (∀ n, n < i → g6 n = some (B n 16)) → zU Γ (cs + 2 * i) (ss + 13 * i) ((zfix (zcA Γ) h0 r1 r2 r3 r4 r5 r6 r7 r8 f1 f2 f3 g5 g6 ++ wt) ++ kTl (zcA Γ) B i) 133 [some (.ref h0), some (zI (i : Int))] [] := by
  intro f
  induction f with
  | zero => intro i g6 B h1 h2; omega
  | succ f ih =>
    intro i g6 B h1 h2 hg
    refine zU_iloadn hY dX4_init_133 rfl ?_
    refine zU_iconst hY dX4_init_134 ?_
    refine zU_icmp_ge (tgt := 157) hY dX4_init_135 (by decide) ⟨by omega, by omega⟩ (by decide) (fun h => ?_) (fun h => ?_)
    · obtain rfl : i = 3 := by omega
      exact hk g6 B hg
    · refine zU_aloadn hY dX4_init_138 rfl ?_
      refine zU_get hY zw_lay4 (ci := 4) rfl 0 rfl 5 (by decide) zw_fX4_30 rfl rfl dX4_init_139 ?_
      refine zU_iloadn hY dX4_init_142 rfl ?_
      refine zU_new hY hR zw_lay2 tyX2 tyX2_ok zw_cX4_28 zw_is_X2 zw_in_RX2 (ci := 2) rfl (fs := [.int 0, .int 0, .null]) (by intro j hj; have hj2 : j = 0 ∨ j = 1 ∨ j = 2 := (by omega); rcases hj2 with rfl | rfl | rfl <;> rfl) (by omega) (by omega) dX4_init_143 (fun q => ?_)
      refine zU_dup hY dX4_init_146 rfl ?_
      refine zU_callN hY rfl hR c_X2_init zw_co_yX2_init zw_in_RX2 zw_im_yX2_init (fun _ s => s.2.1) rfl ⟨by decide, by decide, by decide +kernel⟩ (by decide) (by decide) (by omega) (by omega) (Nat.le_of_ble_eq_true rfl) dX4_init_147 (fun w1 e1 => ?_)
      obtain ⟨b, hb, rfl⟩ := e1
      have l := kTl_l (cA := zcA Γ) (B := B) i
      have l2 : ((zfix (zcA Γ) h0 r1 r2 r3 r4 r5 r6 r7 r8 f1 f2 f3 g5 g6 ++ wt) ++ kTl (zcA Γ) B i).length = 9 + nt + 2 * i := by
        rw [List.length_append, List.length_append, l, hnt]
        rfl
      have hv : (((zfix (zcA Γ) h0 r1 r2 r3 r4 r5 r6 r7 r8 f1 f2 f3 g5 g6 ++ wt) ++ kTl (zcA Γ) B i) ++ zkbl (zcA Γ) b)[9 + nt + 2 * i]? = some (q, .inr (2, [.int 0, .int 0, .ref (b 17)])) := by
        rw [List.getElem?_append_right (by rw [l2]; exact Nat.le_refl _), l2, Nat.sub_self, ← hb]
        rfl
      refine zU_astq hY 6 (by decide) (r := (RX2, TX2, 3)) rfl 6 (9 + nt + 2 * i) 2 rfl hv rfl (j := i) rfl ⟨by omega, by decide⟩ dX4_init_150 ?_
      refine zU_iinc hY (i := 1) rfl dX4_init_151 ?_
      refine zU_goto (tgt := 133) hY dX4_init_154 (by decide) ?_
      have e2 : kTl (zcA Γ) (fun n => if n = i then b else B n) (i + 1) = kTl (zcA Γ) B i ++ zkbl (zcA Γ) b := by
        show kTl (zcA Γ) (fun n => if n = i then b else B n) i ++ zkbl (zcA Γ) (if i = i then b else B i) = _
        rw [kTl_c (B := B) i (fun n hn => if_neg (by omega)), if_pos rfl]
      have key := ih (i + 1) (va_up g6 i (some q)) (fun n => if n = i then b else B n) (by omega) (by omega) (fun n hn => by
        unfold va_up
        by_cases e : n = i
        · simp only [e, if_true]
          rw [hb]
        · simp only [e, if_false]
          exact hg n (by omega))
      rw [e2, ← List.append_assoc] at key
      exact zU_wide (by omega) (by omega) key
def zXpost (h0 : Nat) (cA : Nat → ClassId) (w1 : va_W) : Prop := ∃ (r1 r2 r3 r4 r5 r6 r7 r8 : Nat) (f1 f2 f3 : Nat → Int32) (g5 g6 : Nat → Option Nat) (B K : Nat → Nat → Nat), (∀ j, j < 12 → f1 j = Int32.ofInt (-1) ∧ f2 j = Int32.ofInt (-1) ∧ f3 j = Int32.ofInt (-1)) ∧ (∀ n, n < 11 → g5 n = some (B n 9)) ∧ (∀ n, n < 3 → g6 n = some (K n 16)) ∧ w1 = (zfix cA h0 r1 r2 r3 r4 r5 r6 r7 r8 f1 f2 f3 g5 g6 ++ zTl cA B 11) ++ kTl cA K 3
set_option maxRecDepth 100000 in
set_option maxHeartbeats 4000000 in
theorem c_X4_init : zKC yX4_init cX4_init 2 4 91 614 eX zXpost := by
  refine zKC_of (by decide) rfl (by decide) (fun Γ h0 hY hI hR hM => ?_)
  show zU Γ 0 0 [(h0, eX)] 0 [some (.ref h0), none] []
  refine zU_aloadn hY dX4_init_0 rfl ?_
  refine zU_objinit hY rfl hR (by decide) zw_oi_X4 (by decide) dX4_init_1 ?_
  refine zU_aloadn hY dX4_init_4 rfl ?_
  refine zU_bipush hY dX4_init_5 (by decide) ?_
  refine zU_newa hY hR (atype := .int) (ty := .int) zw_ac_int rfl 1 (by decide) rfl (N := 12) (a0 := (12, .inl z0)) (fun _ => rfl) (by decide) (by decide) (by decide) (by omega) (by omega) dX4_init_7 (fun q1 => ?_)
  refine zU_putF hY hI zw_lay4 tyX4 tyX4_ok nmX4 (ci := 4) rfl 0 rfl 0 (by decide) zw_fX4_9 rfl rfl rfl rfl (Nat.le_of_ble_eq_true rfl) dX4_init_9 ?_
  refine zU_aloadn hY dX4_init_12 rfl ?_
  refine zU_bipush hY dX4_init_13 (by decide) ?_
  refine zU_newa hY hR (atype := .int) (ty := .int) zw_ac_int rfl 2 (by decide) rfl (N := 12) (a0 := (12, .inl z0)) (fun _ => rfl) (by decide) (by decide) (by decide) (by omega) (by omega) dX4_init_15 (fun q2 => ?_)
  refine zU_putF hY hI zw_lay4 tyX4 tyX4_ok nmX4 (ci := 4) rfl 0 rfl 1 (by decide) zw_fX4_13 rfl rfl rfl rfl (Nat.le_of_ble_eq_true rfl) dX4_init_17 ?_
  refine zU_aloadn hY dX4_init_20 rfl ?_
  refine zU_bipush hY dX4_init_21 (by decide) ?_
  refine zU_newa hY hR (atype := .int) (ty := .int) zw_ac_int rfl 3 (by decide) rfl (N := 12) (a0 := (12, .inl z0)) (fun _ => rfl) (by decide) (by decide) (by decide) (by omega) (by omega) dX4_init_23 (fun q3 => ?_)
  refine zU_putF hY hI zw_lay4 tyX4 tyX4_ok nmX4 (ci := 4) rfl 0 rfl 2 (by decide) zw_fX4_16 rfl rfl rfl rfl (Nat.le_of_ble_eq_true rfl) dX4_init_25 ?_
  refine zU_aloadn hY dX4_init_28 rfl ?_
  refine zU_bipush hY dX4_init_29 (by decide) ?_
  refine zU_newa hY hR (atype := .int) (ty := .int) zw_ac_int rfl 4 (by decide) rfl (N := 12) (a0 := (12, .inl z0)) (fun _ => rfl) (by decide) (by decide) (by decide) (by omega) (by omega) dX4_init_31 (fun q4 => ?_)
  refine zU_putF hY hI zw_lay4 tyX4 tyX4_ok nmX4 (ci := 4) rfl 0 rfl 3 (by decide) zw_fX4_19 rfl rfl rfl rfl (Nat.le_of_ble_eq_true rfl) dX4_init_33 ?_
  refine zU_aloadn hY dX4_init_36 rfl ?_
  refine zU_bipush hY dX4_init_37 (by decide) ?_
  refine zU_newq hY hR (C := RX0) zw_cX4_22 (fun _ s => s.2.2.2.2.1) 5 (by decide) rfl (N := 11) (by decide) (by decide) (by omega) (by omega) dX4_init_39 (fun q5 => ?_)
  refine zU_putF hY hI zw_lay4 tyX4 tyX4_ok nmX4 (ci := 4) rfl 0 rfl 4 (by decide) zw_fX4_24 rfl rfl rfl rfl (Nat.le_of_ble_eq_true rfl) dX4_init_42 ?_
  refine zU_aloadn hY dX4_init_45 rfl ?_
  refine zU_iconst hY dX4_init_46 ?_
  refine zU_newq hY hR (C := RX2) zw_cX4_28 (fun _ s => s.2.2.2.2.2) 6 (by decide) rfl (N := 3) (by decide) (by decide) (by omega) (by omega) dX4_init_47 (fun q6 => ?_)
  refine zU_putF hY hI zw_lay4 tyX4 tyX4_ok nmX4 (ci := 4) rfl 0 rfl 5 (by decide) zw_fX4_30 rfl rfl rfl rfl (Nat.le_of_ble_eq_true rfl) dX4_init_50 ?_
  refine zU_aloadn hY dX4_init_53 rfl ?_
  refine zU_bipush hY dX4_init_54 (by decide) ?_
  refine zU_newa hY hR (atype := .int) (ty := .int) zw_ac_int rfl 7 (by decide) rfl (N := 20) (a0 := (20, .inl z0)) (fun _ => rfl) (by decide) (by decide) (by decide) (by omega) (by omega) dX4_init_56 (fun q7 => ?_)
  refine zU_putF hY hI zw_lay4 tyX4 tyX4_ok nmX4 (ci := 4) rfl 0 rfl 6 (by decide) zw_fX4_34 rfl rfl rfl rfl (Nat.le_of_ble_eq_true rfl) dX4_init_58 ?_
  refine zU_aloadn hY dX4_init_61 rfl ?_
  refine zU_bipush hY dX4_init_62 (by decide) ?_
  refine zU_newa hY hR (atype := .int) (ty := .int) zw_ac_int rfl 8 (by decide) rfl (N := 20) (a0 := (20, .inl z0)) (fun _ => rfl) (by decide) (by decide) (by decide) (by omega) (by omega) dX4_init_64 (fun q8 => ?_)
  refine zU_putF hY hI zw_lay4 tyX4 tyX4_ok nmX4 (ci := 4) rfl 0 rfl 7 (by decide) zw_fX4_37 rfl rfl rfl rfl (Nat.le_of_ble_eq_true rfl) dX4_init_66 ?_
  refine zU_iconst hY dX4_init_69 ?_
  refine zU_istoren hY (i := 1) (Nat.le_of_ble_eq_true rfl) dX4_init_70 rfl ?_
  refine lp_X4_i1 (h0 := h0) (r1 := q1) (r2 := q2) (r3 := q3) (r4 := q4) (r5 := q5) (r6 := q6) (r7 := q7) (r8 := q8) hY hR (g5 := fun _ => none) (g6 := fun _ => none) (fun f1 f2 f3 hf => ?_) 13 0 z0 z0 z0 (by decide) (by decide) (fun j hj => absurd hj (Nat.not_lt_zero j))
  refine zU_iconst hY dX4_init_104 ?_
  refine zU_istoren hY (i := 1) (Nat.le_of_ble_eq_true rfl) dX4_init_105 rfl ?_
  have k2 := lp_X4_i2 (cs := 8) (ss := 102) (h0 := h0) (r1 := q1) (r2 := q2) (r3 := q3) (r4 := q4) (r5 := q5) (r6 := q6) (r7 := q7) (r8 := q8) (f1 := f1) (f2 := f2) (f3 := f3) (g6 := fun _ => none) hY hR (by decide) (by decide) (fun g5 B hB => ?_) 12 0 (fun _ => none) (fun _ _ => 0) (by decide) (by decide) (fun n hn => absurd hn (Nat.not_lt_zero n))
  · rw [show zTl (zcA Γ) (fun _ _ => 0) 0 = [] from rfl, List.append_nil] at k2
    exact zU_wide (by decide) (by decide) k2
  refine zU_iconst hY dX4_init_131 ?_
  refine zU_istoren hY (i := 1) (Nat.le_of_ble_eq_true rfl) dX4_init_132 rfl ?_
  have k3 := lp_X4_i3 (cs := 85) (ss := 575) (h0 := h0) (r1 := q1) (r2 := q2) (r3 := q3) (r4 := q4) (r5 := q5) (r6 := q6) (r7 := q7) (r8 := q8) (f1 := f1) (f2 := f2) (f3 := f3) (g5 := g5) (wt := zTl (zcA Γ) B 11) (nt := 77) hY hR (zTl_l 11) (by decide) (by decide) (fun g6 K hK => ?_) 4 0 (fun _ => none) (fun _ _ => 0) (by decide) (by decide) (fun n hn => absurd hn (Nat.not_lt_zero n))
  · rw [show kTl (zcA Γ) (fun _ _ => 0) 0 = [] from rfl, List.append_nil] at k3
    exact zU_wide (by decide) (by decide) k3
  exact zU_vret hY hM (by decide) (by decide) dX4_init_157 ⟨q1, q2, q3, q4, q5, q6, q7, q8, f1, f2, f3, g5, g6, B, K, hf, hB, hK, rfl⟩
