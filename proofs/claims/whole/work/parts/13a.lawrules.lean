/-! THE LAW: rows of its own: the script, switches, compares, doubles; where both sides agree. -/
def zScr (Γ : zG) (b N : Nat) (xs : Nat → Int32) : Prop := match Γ with
  | (_, _, _, _, s, _, _, _, _, _, _, _, A, _) => va_X b N xs s s.heap ∧ b < s.heap.size ∧ ¬ A b
def zSx (xs : Nat → Int32) (j : Int) : Int := (xs j.toNat).toInt
def zC16 (a : Int) : Int := ((Int32.ofInt a).toUInt32 % 65536).toInt32.toInt
theorem zC16_b {a : Int} : 0 ≤ zC16 a ∧ zC16 a ≤ 65535 := by
  have h : ((Int32.ofInt a).toUInt32 % 65536).toNat < 65536 := by
    rw [UInt32.toNat_mod]
    exact Nat.lt_of_lt_of_eq (Nat.mod_lt _ (by decide)) (by decide)
  have e : zC16 a = (((Int32.ofInt a).toUInt32 % 65536).toNat : Int) := by
    show ((Int32.ofInt a).toUInt32 % 65536).toBitVec.toInt = _
    rw [BitVec.toInt_eq_toNat_of_lt (by show 2 * ((Int32.ofInt a).toUInt32 % 65536).toNat < 2 ^ 32; omega)]
    rfl
  omega
theorem zlc0 {a : Int64} : lg_cmp a a = 0 := by
  unfold lg_cmp
  simp
theorem zd_self {w : UInt64} {op : CmpOp} (h : FP.dIsNaN w = false) : Op.cmpValue (FP.dcmp w w) op = 0 := by
  have h1 : FP.dcmp w w = some .eq := Jvm.FP.Core.dcmp_self ((Jvm.FP.Core.notNaN_iff w).mp h)
  rw [h1]
  rfl
section ZL
variable {Γ : zG} {ad : Nat → Int → Nat} {cs ss MC MS : Nat} {x y : zSt} {pc : Nat} {L : List (Option Value)} {st : List Value} {own : String} {cc : ByteArray} {nL : Nat}
theorem zV_sld (hX : zX Γ ad own cc nL) {b N : Nat} {xs : Nat → Int32} (hS : zScr Γ b N xs) (hN : N ≤ 4096) {i : Int} (hi : 0 ≤ i ∧ i < N) (d : decode cc pc = .ok (.iaload, 1)) (kk : zV Γ ad cs ss x y (pc + 1) L (zI (zSx xs i) :: st)) : zV Γ ad cs ss x y pc L (zI i :: .ref b :: st) := by
  obtain ⟨p, l, e, R, s, m, args, below, meth, c, D, cA, A, Q⟩ := Γ
  intro H locs ls hW hVS hL
  obtain ⟨h1, h2⟩ := zi_vp (n := N) (by omega) hi
  refine va_sld hX.1.1 hX.1.2.1 hS.1 hS.2.1 hS.2.2 hVS h1 d ?_
  rw [h2]
  have k := kk H locs ls hW hVS hL
  unfold zSx at k
  rw [zi_back] at k
  exact k
theorem zi_nat {N : Nat} (hN : N ≤ 4096) : Int32.ofNat N = Int32.ofInt (N : Int) := by
  apply Int32.toInt_inj.mp
  rw [zi_toInt ⟨by omega, by omega⟩]
  exact Int32.toInt_ofNat_of_lt (by omega)
theorem zV_slen (hX : zX Γ ad own cc nL) {b N : Nat} {xs : Nat → Int32} (hS : zScr Γ b N xs) (hN : N ≤ 4096) (d : decode cc pc = .ok (.arraylength, 1)) (kk : zV Γ ad cs ss x y (pc + 1) L (zI (N : Int) :: st)) : zV Γ ad cs ss x y pc L (.ref b :: st) := by
  obtain ⟨p, l, e, R, s, m, args, below, meth, c, D, cA, A, Q⟩ := Γ
  intro H locs ls hW hVS hL
  refine va_slen hX.1.1 hX.1.2.1 hS.1 hS.2.1 hS.2.2 hVS d ?_
  rw [zi_nat hN]
  exact kk H locs ls hW hVS hL
theorem zV_tabIn (hX : zX Γ ad own cc nL) {z dflt lo hi off : Int} {offs : Array Int} {len tgt : Nat} (d : decode cc pc = .ok (.tableswitch dflt lo hi offs, len)) (hz : zR z) (h1 : ¬ z < lo) (h2 : ¬ hi < z) (ho : offs[(z - lo).toNat]? = some off) (ht : (pc : Int) + off = (tgt : Int)) (kk : zV Γ ad cs ss x y tgt L st) : zV Γ ad cs ss x y pc L (zI z :: st) := by
  obtain ⟨p, l, e, R, s, m, args, below, meth, c, D, cA, A, Q⟩ := Γ
  intro H locs ls hW hVS hL
  exact lv_tableIn hX.1.1 hX.1.2.1 d (by rw [zi_toInt hz]; exact h1) (by rw [zi_toInt hz]; exact h2) (by rw [zi_toInt hz]; exact ho) ht (kk H locs ls hW hVS hL)
theorem zV_tabOut (hX : zX Γ ad own cc nL) {z dflt lo hi : Int} {offs : Array Int} {len tgt : Nat} (d : decode cc pc = .ok (.tableswitch dflt lo hi offs, len)) (hz : zR z) (h : z < lo ∨ hi < z) (ht : (pc : Int) + dflt = (tgt : Int)) (kk : zV Γ ad cs ss x y tgt L st) : zV Γ ad cs ss x y pc L (zI z :: st) := by
  obtain ⟨p, l, e, R, s, m, args, below, meth, c, D, cA, A, Q⟩ := Γ
  intro H locs ls hW hVS hL
  exact lv_tableOut hX.1.1 hX.1.2.1 d (by rw [zi_toInt hz]; exact h) ht (kk H locs ls hW hVS hL)
theorem zV_i2c (hX : zX Γ ad own cc nL) {a : Int} (d : decode cc pc = .ok (.i2c, 1)) (kk : zV Γ ad cs ss x y (pc + 1) L (zI (zC16 a) :: st)) : zV Γ ad cs ss x y pc L (zI a :: st) := by
  obtain ⟨p, l, e, R, s, m, args, below, meth, c, D, cA, A, Q⟩ := Γ
  intro H locs ls hW hVS hL
  refine lv_i2c hX.1.1 hX.1.2.1 d rfl ?_
  have k := kk H locs ls hW hVS hL
  unfold zC16 at k
  rw [zi_back] at k
  exact k
theorem zV_lcmpE (hX : zX Γ ad own cc nL) {a : Int64} (d : decode cc pc = .ok (.lcmp, 1)) (kk : zV Γ ad cs ss x y (pc + 1) L (zI 0 :: st)) : zV Γ ad cs ss x y pc L (.long a :: .long a :: st) := by
  obtain ⟨p, l, e, R, s, m, args, below, meth, c, D, cA, A, Q⟩ := Γ
  intro H locs ls hW hVS hL
  refine W.lcmp hX.1.1 hX.1.2.1 d ?_
  rw [zlc0]
  exact kk H locs ls hW hVS hL
theorem zV_dcmpE (hX : zX Γ ad own cc nL) {w : UInt64} {op : CmpOp} (h : FP.dIsNaN w = false) (d : decode cc pc = .ok (.dcmp op, 1)) (kk : zV Γ ad cs ss x y (pc + 1) L (zI 0 :: st)) : zV Γ ad cs ss x y pc L (.double w :: .double w :: st) := by
  obtain ⟨p, l, e, R, s, m, args, below, meth, c, D, cA, A, Q⟩ := Γ
  intro H locs ls hW hVS hL
  refine lv_dcmp hX.1.1 hX.1.2.1 d ?_
  rw [zd_self h]
  exact kk H locs ls hW hVS hL
theorem zV_fstore7 (hX : zX Γ ad own cc nL) {a0 a1 a2 a3 a4 a5 a6 b : Option Value} {w : UInt32} {L : List (Option Value)} (d : decode cc pc = .ok (.fstore 7, 2)) (kk : zV Γ ad cs ss x y (pc + 2) (a0 :: a1 :: a2 :: a3 :: a4 :: a5 :: a6 :: some (.float w) :: L) st) : zV Γ ad cs ss x y pc (a0 :: a1 :: a2 :: a3 :: a4 :: a5 :: a6 :: b :: L) (.float w :: st) := by
  obtain ⟨p, l, e, R, s, m, args, below, meth, c, D, cA, A, Q⟩ := Γ
  intro H locs ls hW hVS hL
  exact lv_fstore hX.1.1 hX.1.2.1 d hL.1 (by simp) rfl (fun ls' h' => kk H locs ls' hW hVS (hL.st (i := 7) (by simp) rfl h'))
theorem zV_fload (hX : zX Γ ad own cc nL) {i : Nat} {w : UInt32} (d : decode cc pc = .ok (.fload i, 2)) (h : L[i]? = some (some (.float w))) (kk : zV Γ ad cs ss x y (pc + 2) L (.float w :: st)) : zV Γ ad cs ss x y pc L st := by
  obtain ⟨p, l, e, R, s, m, args, below, meth, c, D, cA, A, Q⟩ := Γ
  intro H locs ls hW hVS hL
  exact lv_fload hX.1.1 hX.1.2.1 d (hL.at h) (kk H locs ls hW hVS hL)
/-- script[i + j] -/
theorem zV_arg (hX : zX Γ ad own cc nL) {b N : Nat} {xs : Nat → Int32} (hS : zScr Γ b N xs) (hN : N ≤ 4096) {i j v : Int} (hi : 0 ≤ i ∧ i + 7 < N) (hj : 0 ≤ j ∧ j ≤ 7) (e : v = zSx xs (i + j)) (h0 : L[0]? = some (some (.ref b))) (h5 : L[5]? = some (some (zI i)))
    (d0 : decode cc pc = .ok (.aload_n 0, 1)) (d1 : decode cc (pc + 1) = .ok (.iload 5, 2)) (d3 : decode cc (pc + 3) = .ok (.iconst j, 1)) (d4 : decode cc (pc + 4) = .ok (.iadd, 1)) (d5 : decode cc (pc + 5) = .ok (.iaload, 1)) (kk : zV Γ ad cs ss x y (pc + 6) L (zI v :: st)) : zV Γ ad cs ss x y pc L st := by
  subst e
  refine zV_aloadn hX d0 h0 ?_
  refine zV_iload hX d1 h5 ?_
  refine zV_iconst hX d3 ?_
  refine zV_iadd hX d4 ?_
  exact zV_sld hX hS hN ⟨by omega, by omega⟩ d5 kk
theorem zV_argb (hX : zX Γ ad own cc nL) {b N : Nat} {xs : Nat → Int32} (hS : zScr Γ b N xs) (hN : N ≤ 4096) {i j v : Int} (hi : 0 ≤ i ∧ i + 7 < N) (hj : 0 ≤ j ∧ j ≤ 7) (hj8 : (Int8.ofInt j).toInt32 = Int32.ofInt j) (e : v = zSx xs (i + j)) (h0 : L[0]? = some (some (.ref b))) (h5 : L[5]? = some (some (zI i)))
    (d0 : decode cc pc = .ok (.aload_n 0, 1)) (d1 : decode cc (pc + 1) = .ok (.iload 5, 2)) (d3 : decode cc (pc + 3) = .ok (.bipush j, 2)) (d4 : decode cc (pc + 5) = .ok (.iadd, 1)) (d5 : decode cc (pc + 6) = .ok (.iaload, 1)) (kk : zV Γ ad cs ss x y (pc + 7) L (zI v :: st)) : zV Γ ad cs ss x y pc L st := by
  subst e
  refine zV_aloadn hX d0 h0 ?_
  refine zV_iload hX d1 h5 ?_
  refine zV_bipush hX d3 hj8 ?_
  refine zV_iadd hX d4 ?_
  exact zV_sld hX hS hN ⟨by omega, by omega⟩ d5 kk
end ZL
/-- where a pair of calls leaves the law: the handler's number k, the model's answer b -/
def zEnd (x2 y2 : zSt) (q k b : Int) : Prop := y2 20 0 39 = k ∧ (k = 0 → y2 60 0 0 = (Int32.ofInt b).toInt) ∧ JV x2 (mCod y2 0) q
theorem m_gen {G : Prop} {r q q' : Int} {X x x1 y y1 : zSt} {P : Int → zSt → Prop} {v1 : Option Value} {A : zSt → Option Value → zSt → Prop} (H : JV x (mCod y 0) q) (p : zHq G r X P y v1 x1 y1) (hq : q ≤ q' ∧ q' ≤ 1000000)
    (hs : ∀ W : zSt, JV x (mCod W 0) q → G → ∀ (vv : Option Value) (y2 : zSt), A W vv y2 → vv = some (zI r) ∧ zGo X y2 W q' 0)
    (hf : ∀ W : zSt, JV x (mCod W 0) q → ∀ (k : Int) (x1 : zSt), P k x1 → ∀ (vv : Option Value) (y2 : zSt), A W vv y2 → (∃ b : Int, vv = some (zI b)) ∧ zGo x1 y2 W q k) :
    ∃ k : Int, v1 = some (zI k) ∧ (0 ≤ k ∧ k ≤ 3) ∧ JV x (mCod y1 0) q ∧ ∀ (vv : Option Value) (y2 : zSt), A y1 vv y2 → ∃ b : Int, vv = some (zI b) ∧ zEnd x1 y2 q' k b := by
  rcases p with ⟨g, rfl, rfl, rfl⟩ | ⟨k, pk, kb, rfl, rfl⟩
  · have H1 := JV_out (a := (Int32.ofInt r).toInt) H (Nat.le_refl 60)
    refine ⟨0, rfl, by decide, H1, fun vv y2 h => ?_⟩
    obtain ⟨h1, h2, h3, h4, h5⟩ := hs _ H1 g vv y2 h
    exact ⟨r, h1, h2, fun _ => by rw [h3, zup_same], h5⟩
  · refine ⟨k, rfl, by omega, H, fun vv y2 h => ?_⟩
    obtain ⟨⟨b, h1⟩, h2, h3, h4, h5⟩ := hf _ H k x1 pk vv y2 h
    exact ⟨b, h1, h2, fun h0 => by omega, JV_le h5 hq.1 hq.2⟩
theorem law_tail {Γ : zG} {ad : Nat → Int → Nat} {cs ss MC MS d : Nat} {x y : zSt} {T : Nat} (hX : zX Γ ad RL cL_law 9) (hN : zN Γ d MC MS) (hd : 1 ≤ d) (hc : cs ≤ MC) (hs : ss ≤ MS)
    (t0 : decode cL_law T = .ok (.aload_n 2, 1)) (t1 : decode cL_law (T + 1) = .ok (.invokevirtual 124, 3)) (t4 : decode cL_law (T + 4) = .ok (.iload 6, 2)) (t6 : decode cL_law (T + 6) = .ok (.if_icmp .eq 5, 3)) (t11 : decode cL_law (T + 11) = .ok (.iload 6, 2)) (t13 : decode cL_law (T + 13) = .ok (.ifCond .ne 15, 3)) (t16 : decode cL_law (T + 16) = .ok (.aload_n 3, 1)) (t17 : decode cL_law (T + 17) = .ok (.iconst 0, 1)) (t18 : decode cL_law (T + 18) = .ok (.laload, 1)) (t19 : decode cL_law (T + 19) = .ok (.iload 7, 2)) (t21 : decode cL_law (T + 21) = .ok (.i2l, 1)) (t22 : decode cL_law (T + 22) = .ok (.lcmp, 1)) (t23 : decode cL_law (T + 23) = .ok (.ifCond .eq 5, 3)) {off : Int} (t28 : decode cL_law (T + 28) = .ok (.goto off, 3)) (hoff : ((T + 28 : Nat) : Int) + off = ((2026 : Nat) : Int))
    {k bv q : Int} (kb : 0 ≤ k ∧ k ≤ 3) (E : zEnd x y q k bv) {a0 a4 a5 a8 : Option Value}
    (kk : zV Γ ad cs ss x y 2026 [a0, some (.ref (ad 0 0)), some (.ref (ad 20 0)), some (.ref (ad 60 0)), a4, a5, some (zI k), some (zI bv), a8] []) : zV Γ ad cs ss x y T [a0, some (.ref (ad 0 0)), some (.ref (ad 20 0)), some (.ref (ad 60 0)), a4, a5, some (zI k), some (zI bv), a8] [] := by
  obtain ⟨e1, e2, -⟩ := E
  have go : zV Γ ad cs ss x y (T + 28) [a0, some (.ref (ad 0 0)), some (.ref (ad 20 0)), some (.ref (ad 60 0)), a4, a5, some (zI k), some (zI bv), a8] [] := zV_goto (tgt := 2026) hX t28 hoff kk
  have zk : zR k := ⟨by omega, by omega⟩
  refine zV_aloadn hX t0 rfl ?_
  refine zV_cVS (n := 0) hX rfl hN 20 rfl rfl ⟨by decide, by decide⟩ c_X5_thrown zw_co_yX5_thrown zw_mL_124 zw_in_RX5 zw_im_yX5_thrown zw_se_yX5_thrown ⟨by decide, by decide, by decide +kernel⟩ rfl (by omega) (by decide) (by omega) (by omega) rfl (Nat.le_of_ble_eq_true rfl) t1 ?_
  rw [e1]
  refine zV_iload hX t4 rfl ?_
  refine zV_icmp_eq (tgt := T + 11) hX t6 (by omega) zk zk (fun _ => ?_) (fun h => absurd rfl h)
  refine zV_iload hX t11 rfl ?_
  refine zV_if_ne (tgt := T + 28) hX t13 (by omega) zk (fun _ => go) (fun h0 => ?_)
  refine zV_aloadn hX t16 rfl ?_
  refine zV_iconst hX t17 ?_
  refine zV_lald hX 60 rfl (i := 0) (j := 0) ⟨by decide, by decide⟩ ⟨by decide, by decide⟩ (by decide) t18 (fun _ => ?_)
  rw [show zm x y 60 0 0 = y 60 0 0 from congrFun (congrFun (zm_y (by decide)) 0) 0, e2 h0]
  refine zV_iload hX t19 rfl ?_
  refine zV_i2lz hX t21 ?_
  refine zV_lcmpE hX t22 ?_
  exact zV_if_eq (tgt := T + 28) hX t23 (by omega) zR_0 (fun _ => go) (fun h => absurd rfl h)
