/-! THE LAW, the cases of doubles. -/
theorem zf2d_n {r : UInt32} (h : FP.fIsNaN r = false) : FP.dIsNaN (FP.f2d r) = false := by
  unfold FP.f2d
  rw [if_neg (show ¬ (FP.Core.fIsNaN r = true) from fun q => by rw [show FP.Core.fIsNaN r = false from h] at q; cases q)]
  exact Jvm.FP.Core.f2d_out h
theorem zu64 {w : UInt64} : UInt64.ofNat ((w.toNat : Int)).toNat = w := by rw [Int.toNat_natCast, UInt64.ofNat_toNat]
theorem m_load {q : Int} {x x1 y y1 : zSt} {v1 : Option Value} (H : JV x (mCod y 0) q) (hq : q ≤ 1000000) (p : zHd (xSn x (x 0 0 10).toNat ≠ 0) (FP.f2d (zFq (xLn x (x 0 0 10).toNat) (xSn x (x 0 0 10).toNat))) x (fun (k : Int) (x1 : zSt) => x1 = x ∧ k = 1 ∧ xSn x (x 0 0 10).toNat = 0) y v1 x1 y1) :
    ∃ k : Int, v1 = some (zI k) ∧ (0 ≤ k ∧ k ≤ 3) ∧ JV x (mCod y1 0) q ∧ ∀ (vv : Option Value) (y2 : zSt), ((y1 20 0 28 = 0 ∧ vv = some (.float FP.fconst0) ∧ y2 = mCod y1 1) ∨ (y1 20 0 28 ≠ 0 ∧ vv = some (.float (zFq (mSn (mCod y1 0) (y1 20 0 28).toNat - mLn (mCod y1 0) (y1 20 0 28).toNat) (mSn (mCod y1 0) (y1 20 0 28).toNat))) ∧ y2 = mCod y1 0)) → ∃ w : UInt32, vv = some (.float w) ∧ y2 20 0 39 = k ∧ (k = 0 → FP.fIsNaN w = false ∧ y2 61 0 0 = ((FP.f2d w).toNat : Int)) ∧ JV x1 (mCod y2 0) q := by
  rcases p with ⟨g, rfl, rfl, rfl⟩ | ⟨k, ⟨rfl, rfl, g⟩, kb, rfl, rfl⟩
  · have H1 := JV_out (k := 61) (a := ((FP.f2d (zFq (xLn x1 (x1 0 0 10).toNat) (xSn x1 (x1 0 0 10).toNat))).toNat : Int)) H (by decide)
    refine ⟨0, rfl, by decide, H1, fun vv y2 h => ?_⟩
    obtain ⟨s0, s1, s2⟩ := jw_sn H1
    have C := jw_c H1
    have I := JV_xI H hq
    have i3 := I.2.1
    have sb := (xSn_b I (x1 0 0 10).toNat (by omega)).1
    have hn : FP.fIsNaN (zFq (xLn x1 (x1 0 0 10).toNat) (xSn x1 (x1 0 0 10).toNat)) = false := zFq_n ⟨by omega, by omega⟩ g
    rcases h with ⟨c, e, rfl⟩ | ⟨c, e, rfl⟩
    · exfalso
      rw [s1, c] at g
      exact g rfl
    · rw [← s2, ← s1] at e
      refine ⟨_, e, mCod_c, fun _ => ⟨hn, ?_⟩, kp_same H1⟩
      rw [mCod_k (by decide), zup_same]
  · refine ⟨1, rfl, by decide, H, fun vv y2 h => ?_⟩
    obtain ⟨s0, s1, s2⟩ := jw_sn H
    rcases h with ⟨c, e, rfl⟩ | ⟨c, e, rfl⟩
    · exact ⟨_, e, mCod_c, fun h => by omega, by rw [mCod_cod]; exact H⟩
    · exfalso
      rw [s1] at g
      exact s0 c g
theorem m_mean {q : Int} {x x1 y y1 : zSt} {v1 : Option Value} (H : JV x (mCod y 0) q) (hq : q ≤ 1000000) (p : zHd (xVn x 12 ≠ 0) (zDq (xVs x 12) (xVn x 12)) x (fun (k : Int) (x1 : zSt) => x1 = x ∧ k = 1 ∧ xVn x 12 = 0) y v1 x1 y1) :
    ∃ k : Int, v1 = some (zI k) ∧ (0 ≤ k ∧ k ≤ 3) ∧ JV x (mCod y1 0) q ∧ ∀ (vv : Option Value) (y2 : zSt), ((mVn y1 12 = 0 ∧ vv = some (.double FP.dconst0) ∧ y2 = mCod y1 1) ∨ (mVn y1 12 ≠ 0 ∧ vv = some (.double (zDq (mVs y1 12) (mVn y1 12))) ∧ y2 = mCod y1 0)) → ∃ w : UInt64, vv = some (.double w) ∧ y2 20 0 39 = k ∧ (k = 0 → FP.dIsNaN w = false ∧ y2 61 0 0 = (w.toNat : Int)) ∧ JV x1 (mCod y2 0) q := by
  rcases p with ⟨g, rfl, rfl, rfl⟩ | ⟨k, ⟨rfl, rfl, g⟩, kb, rfl, rfl⟩
  · have H1 := JV_out (k := 61) (a := ((zDq (xVs x1 12) (xVn x1 12)).toNat : Int)) H (by decide)
    refine ⟨0, rfl, by decide, H1, fun vv y2 h => ?_⟩
    obtain ⟨s1, s2⟩ := j_vs H1.1 H1.2.1.1 12 (Nat.le_refl 12)
    rw [(mVs_cod 12).1] at s1
    rw [(mVs_cod 12).2] at s2
    have sb := (xVs_b (JV_xI H hq) 12 (Nat.le_refl 12)).2
    have hn : FP.dIsNaN (zDq (xVs x1 12) (xVn x1 12)) = false := zDq_n ⟨by omega, by omega⟩ g
    rcases h with ⟨c, e, rfl⟩ | ⟨c, e, rfl⟩
    · exfalso
      rw [s2] at g
      exact g c
    · rw [← s1, ← s2] at e
      refine ⟨_, e, mCod_c, fun _ => ⟨hn, ?_⟩, kp_same H1⟩
      rw [mCod_k (by decide), zup_same]
  · refine ⟨1, rfl, by decide, H, fun vv y2 h => ?_⟩
    obtain ⟨s1, s2⟩ := j_vs H.1 H.2.1.1 12 (Nat.le_refl 12)
    rw [(mVs_cod 12).2] at s2
    rcases h with ⟨c, e, rfl⟩ | ⟨c, e, rfl⟩
    · exact ⟨_, e, mCod_c, fun h => by omega, by rw [mCod_cod]; exact H⟩
    · exfalso
      rw [s2] at g
      exact c g
/-- V with a double in the local 7 -/
def zVd (Γ : zG) (ad : Nat → Int → Nat) (cs ss : Nat) (x y : zSt) (pc : Nat) (L : List (Option Value)) (w : UInt64) (st : List Value) : Prop := match Γ with
  | (p, l, e, R, s, m, args, below, meth, c, D, cA, A, Q) => ∀ (H : Heap) (locs : List Loc) (ls : Array Slot), zW D cA ad x y H → va_S A s.heap H locs → zL ls L → ls[7]? = some (.val (.double w)) → W p l e R s m args below meth c H locs cs ss Q (F0 m pc ls st)
section ZD
variable {Γ : zG} {ad : Nat → Int → Nat} {cs ss MC MS : Nat} {x y : zSt} {pc : Nat} {L : List (Option Value)} {st : List Value} {own : String} {cc : ByteArray} {nL : Nat} {w : UInt64}
theorem zVd_of (kk : zV Γ ad cs ss x y pc L st) : zVd Γ ad cs ss x y pc L w st := by
  obtain ⟨p, l, e, R, s, m, args, below, meth, c, D, cA, A, Q⟩ := Γ
  intro H locs ls hW hS hL _
  exact kk H locs ls hW hS hL
theorem zVd_store (hX : zX Γ ad own cc nL) {a0 a1 a2 a3 a4 a5 a6 b7 b8 : Option Value} (d : decode cc pc = .ok (.dstore 7, 2)) (kk : zVd Γ ad cs ss x y (pc + 2) [a0, a1, a2, a3, a4, a5, a6, none, none] w st) : zV Γ ad cs ss x y pc [a0, a1, a2, a3, a4, a5, a6, b7, b8] (.double w :: st) := by
  obtain ⟨p, l, e, R, s, m, args, below, meth, c, D, cA, A, Q⟩ := Γ
  intro H locs ls hW hS hL
  refine lv_dstore hX.1.1 hX.1.2.1 d hL.1 (by simp) rfl (fun ls' h' => kk H locs ls' hW hS ⟨⟨h'.1, h'.2.1, fun q hq => ?_⟩, fun v hv => ?_⟩ (h'.2.2 (7, .double w) List.mem_cons_self))
  · obtain ⟨j, v⟩ := q
    have h1 := zLl_mem.mp hq
    have hj : j < 7 := by
      rcases Nat.lt_or_ge j 7 with g | g
      · exact g
      · exfalso
        have h2 : j = 7 ∨ j = 8 ∨ 9 ≤ j := by omega
        rcases h2 with rfl | rfl | h2
        · simp at h1
        · simp at h1
        · rw [List.getElem?_eq_none (by simpa using h2)] at h1
          cases h1
    have h2 : [a0, a1, a2, a3, a4, a5, a6, b7, b8][j]? = some (some v) := by
      rw [← h1]
      have h3 : j = 0 ∨ j = 1 ∨ j = 2 ∨ j = 3 ∨ j = 4 ∨ j = 5 ∨ j = 6 := by omega
      rcases h3 with rfl | rfl | rfl | rfl | rfl | rfl | rfl <;> rfl
    refine h'.2.2 (j, v) (List.mem_cons_of_mem _ (List.mem_filter.mpr ⟨zLl_mem.mpr h2, ?_⟩))
    have h4 := hL.2 v (List.mem_of_getElem? h2)
    have h5 : j ≠ 7 := by omega
    have h6 : j ≠ 8 := by omega
    simp [h4, h5, h6]
  · refine hL.2 v ?_
    simp only [List.mem_cons, reduceCtorEq, List.not_mem_nil, or_false, false_or] at hv ⊢
    rcases hv with h | h | h | h | h | h | h <;> simp only [h, true_or, or_true]
theorem zVd_aloadn (hX : zX Γ ad own cc nL) {k : Fin 4} {q : Nat} (d : decode cc pc = .ok (.aload_n k, 1)) (h : L[(k : Nat)]? = some (some (.ref q))) (kk : zVd Γ ad cs ss x y (pc + 1) L w (.ref q :: st)) : zVd Γ ad cs ss x y pc L w st := by
  obtain ⟨p, l, e, R, s, m, args, below, meth, c, D, cA, A, Q⟩ := Γ
  intro H locs ls hW hS hL h7
  exact lv_aload_n hX.1.1 hX.1.2.1 d rfl (hL.at h) (kk H locs ls hW hS hL h7)
theorem zVd_aload (hX : zX Γ ad own cc nL) {i : Nat} {q : Nat} (d : decode cc pc = .ok (.aload i, 2)) (h : L[i]? = some (some (.ref q))) (kk : zVd Γ ad cs ss x y (pc + 2) L w (.ref q :: st)) : zVd Γ ad cs ss x y pc L w st := by
  obtain ⟨p, l, e, R, s, m, args, below, meth, c, D, cA, A, Q⟩ := Γ
  intro H locs ls hW hS hL h7
  exact lv_aload hX.1.1 hX.1.2.1 d (hL.at h) (kk H locs ls hW hS hL h7)
theorem zVd_iload (hX : zX Γ ad own cc nL) {i : Nat} {z : Int} (d : decode cc pc = .ok (.iload i, 2)) (h : L[i]? = some (some (zI z))) (kk : zVd Γ ad cs ss x y (pc + 2) L w (zI z :: st)) : zVd Γ ad cs ss x y pc L w st := by
  obtain ⟨p, l, e, R, s, m, args, below, meth, c, D, cA, A, Q⟩ := Γ
  intro H locs ls hW hS hL h7
  exact lv_iload hX.1.1 hX.1.2.1 d (hL.at h) (kk H locs ls hW hS hL h7)
theorem zVd_iconst (hX : zX Γ ad own cc nL) {n : Int} (d : decode cc pc = .ok (.iconst n, 1)) (kk : zVd Γ ad cs ss x y (pc + 1) L w (zI n :: st)) : zVd Γ ad cs ss x y pc L w st := by
  obtain ⟨p, l, e, R, s, m, args, below, meth, c, D, cA, A, Q⟩ := Γ
  intro H locs ls hW hS hL h7
  exact lv_iconst hX.1.1 hX.1.2.1 d rfl (kk H locs ls hW hS hL h7)
theorem zVd_icmp_eq (hX : zX Γ ad own cc nL) {a b off : Int} {tgt : Nat} (d : decode cc pc = .ok (.if_icmp .eq off, 3)) (ht : (pc : Int) + off = (tgt : Int)) (ha : zR a) (hb : zR b) (kt : a = b → zVd Γ ad cs ss x y tgt L w st) (kf : ¬ (a = b) → zVd Γ ad cs ss x y (pc + 3) L w st) : zVd Γ ad cs ss x y pc L w (zI b :: zI a :: st) := by
  obtain ⟨p, l, e, R, s, m, args, below, meth, c, D, cA, A, Q⟩ := Γ
  intro H locs ls hW hS hL h7
  exact lv_icmp_eq hX.1.1 hX.1.2.1 d ht (fun h => kt ((zi_inj ha hb).mp h) H locs ls hW hS hL h7) (fun h => kf (fun q => h ((zi_inj ha hb).mpr q)) H locs ls hW hS hL h7)
theorem zVd_if_eq (hX : zX Γ ad own cc nL) {a off : Int} {tgt : Nat} (d : decode cc pc = .ok (.ifCond .eq off, 3)) (ht : (pc : Int) + off = (tgt : Int)) (ha : zR a) (kt : a = 0 → zVd Γ ad cs ss x y tgt L w st) (kf : ¬ (a = 0) → zVd Γ ad cs ss x y (pc + 3) L w st) : zVd Γ ad cs ss x y pc L w (zI a :: st) := by
  obtain ⟨p, l, e, R, s, m, args, below, meth, c, D, cA, A, Q⟩ := Γ
  intro H locs ls hW hS hL h7
  exact lv_if_eq hX.1.1 hX.1.2.1 d ht (fun h => kt ((zi_inj ha zR_0).mp h) H locs ls hW hS hL h7) (fun h => kf (fun q => h ((zi_inj ha zR_0).mpr q)) H locs ls hW hS hL h7)
theorem zVd_if_ne (hX : zX Γ ad own cc nL) {a off : Int} {tgt : Nat} (d : decode cc pc = .ok (.ifCond .ne off, 3)) (ht : (pc : Int) + off = (tgt : Int)) (ha : zR a) (kt : a ≠ 0 → zVd Γ ad cs ss x y tgt L w st) (kf : a = 0 → zVd Γ ad cs ss x y (pc + 3) L w st) : zVd Γ ad cs ss x y pc L w (zI a :: st) := by
  obtain ⟨p, l, e, R, s, m, args, below, meth, c, D, cA, A, Q⟩ := Γ
  intro H locs ls hW hS hL h7
  exact lv_if_ne hX.1.1 hX.1.2.1 d ht (fun h => kt ((not_congr (zi_inj ha zR_0)).mp h) H locs ls hW hS hL h7) (fun h => kf ((zi_inj ha zR_0).mp h) H locs ls hW hS hL h7)
theorem zVd_dload (hX : zX Γ ad own cc nL) (d : decode cc pc = .ok (.dload 7, 2)) (kk : zVd Γ ad cs ss x y (pc + 2) L w (.double w :: st)) : zVd Γ ad cs ss x y pc L w st := by
  obtain ⟨p, l, e, R, s, m, args, below, meth, c, D, cA, A, Q⟩ := Γ
  intro H locs ls hW hS hL h7
  exact lv_dload hX.1.1 hX.1.2.1 d h7 (kk H locs ls hW hS hL h7)
theorem zVd_dcmpE (hX : zX Γ ad own cc nL) {u : UInt64} {op : CmpOp} (h : FP.dIsNaN u = false) (d : decode cc pc = .ok (.dcmp op, 1)) (kk : zVd Γ ad cs ss x y (pc + 1) L w (zI 0 :: st)) : zVd Γ ad cs ss x y pc L w (.double u :: .double u :: st) := by
  obtain ⟨p, l, e, R, s, m, args, below, meth, c, D, cA, A, Q⟩ := Γ
  intro H locs ls hW hS hL h7
  refine lv_dcmp hX.1.1 hX.1.2.1 d ?_
  rw [zd_self h]
  exact kk H locs ls hW hS hL h7
theorem zVd_dald {n cn a : Nat} (hX : zX Γ ad own cc nL) (k : Nat) (hsh : zsh k = (5, a, n, cn)) {i j : Int} (hi : 0 ≤ i ∧ i < cn) (hj : 0 ≤ j ∧ j < n) (hn : n < 2147483648) (d : decode cc pc = .ok (.daload, 1)) (kk : zVd Γ ad cs ss x y (pc + 1) L w (.double (UInt64.ofNat (zm x y k i j).toNat) :: st)) : zVd Γ ad cs ss x y pc L w (zI j :: .ref (ad k i) :: st) := by
  obtain ⟨p, l, e, R, s, m, args, below, meth, c, D, cA, A, Q⟩ := Γ
  intro H locs ls hW hS hL h7
  have hz : zin k i := ⟨hi.1, by rw [hsh]; exact hi.2⟩
  have h1 := hW.2.1 k i hz
  have he : zE cA ad (zm x y k i) k i = .inl (cA k, n, .inr (.inr (.inr (.inl (fun j => UInt64.ofNat (zm x y k i j).toNat))))) := by unfold zE; rw [hsh]; try rfl
  have ht : zty k = .double := by unfold zty; rw [hsh]; try rfl
  rw [he] at h1
  have hK := hX.2.2.1.at (k := k) (by rw [hsh]; exact Nat.succ_ne_zero _)
  rw [ht] at hK
  obtain ⟨hv, hc⟩ := zi_vp hn hj
  refine va_dald (D := D) (cl := zCl) (tys := [(cA k, .double)]) hX.1.1 hX.1.2.1 hK (zP1 h1) 0 0 rfl rfl hv d ?_
  have e2 : ((Int32.ofInt j).toNatClampNeg : Int) = j := by rw [hc]; omega
  have key := kk H locs ls hW hS hL h7
  simp only [e2]
  exact key
/-- a method of the model, with the double kept in its local -/
theorem zVd_cVS (hX : zX Γ ad own cc nL) (hlen : L.length = nL) {d mc ms d' index maxL n : Nat} (hN : zN Γ d MC MS) {y' : MethodName} {bytes : ByteArray} {ret' : Option FieldType} {As : List Value} {C : String} {T : u_T} {N ci cn : Nat} (k : Nat) {i : Int} (hcl : zCl[ci]? = some (C, T, N)) (hsh : zsh k = (0, ci, N, cn)) (hi : 0 ≤ i ∧ i < cn) {x1 y1 : zSt}
    {r : Int} (hC : zC y' bytes maxL ret' d' mc ms (.ref (ad k i) :: As) ad x y (zpS r x1 y1) zF) (hcode : Cond.code y' bytes maxL ret' ∈ zWL) (hlink : Cond.methodLink own index y' ∈ zWL) (hini : Cond.initialized y'.cls ∈ zWL) (hst : Cond.instanceMethod y' ∈ zWL) (hse : Cond.selects C y' y' ∈ zWL)
    (hd : y'.cls ≠ "java/lang/invoke/MethodHandle" ∧ y'.cls ≠ "java/lang/invoke/VarHandle" ∧ (parseMethodDescriptor y'.desc).map (fun d => d.parameters.length) = some n) (hn : As.length = n) (hdd : d' + 1 ≤ d) (hmL : maxL ≤ 20) (hmc : cs + mc ≤ MC) (hms : ss + ms ≤ MS) {rest : List Value} (hst0 : st = As.reverse ++ .ref (ad k i) :: rest) (hc : (rest.map fun v => v.category).sum ≤ 8) (hg : decode cc pc = .ok (.invokevirtual index, 3))
    (kk : zVd Γ ad (cs + mc) (ss + ms) x1 y1 (pc + 3) L w (zI r :: rest)) : zVd Γ ad cs ss x y pc L w st := by
  obtain ⟨p, l, e, R, s, m, args, below, meth, c, D, cA, A, Q⟩ := Γ
  intro H locs ls hW hS hL h7
  obtain ⟨⟨r1, r2, r3, r4⟩, hT, hl⟩ := hN
  have hA := zA_in (ad := ad) hS hX.2.2.2.1 hX.2.2.2.2
  have hts := hX.1.2.2.2.2
  subst hst0
  have hz : zin k i := ⟨hi.1, by rw [hsh]; exact hi.2⟩
  have hat := hW.2.1 k i hz
  have he : zE cA ad (zm x y k i) k i = .inr (ci, (List.range N).map (fun j => zV1 ad (zm x y k i) i (zfl k j) j)) := by unfold zE; rw [hsh]; try rfl
  rw [he] at hat
  have hrv := va_recv hX.2.2.1.1 (zP1 hat) hcl (q0 := 0) rfl
  refine zcall_run (vx_runV (C := C) hX.1 (hC l D cA hl H.size) ⟨callB_of n hts (zGood hcode) rfl rfl rfl (hts _ hini) (hts _ hlink) hd ⟨by show d' + 1 ≤ _; omega, by show 8 + (maxL + 11) + 40 * d' ≤ _; omega⟩, hts _ hst, hts _ hse⟩ ⟨zPc_blind, hrv, fun U hU hWm => ⟨rfl, by rw [hU], by rw [hU]; exact hW, hX.2.2.1.moved hWm.alike, by rw [hU]; exact hT.go hS hA hWm⟩⟩ rfl hn (hL.1.1.trans hlen) rfl (lv_room hc) hg ⟨by omega, by omega⟩) hS hA (fun v x' y' H1 locs1 hp hw hs => ?_) (fun E ce q x' y' H1 locs1 hp _ _ _ _ _ => hp.elim)
  obtain ⟨rfl, rfl, rfl⟩ := hp
  exact kk H1 locs1 ls hw hs hL h7
end ZD
section ZC2
variable {Γ : zG} {ad : Nat → Int → Nat} {cs ss MC MS bs N : Nat} {xs : Nat → Int32} {x y : zSt} {i q : Int} {l6 l7 l8 : Option Value}
set_option maxRecDepth 100000 in
set_option maxHeartbeats 4000000 in
theorem k_load (hX : zX Γ ad RL cL_law 9) (hN : zN Γ 60 MC MS) (hG : zNG Γ) (hc : cs + 3 ≤ MC) (hs : ss + 18 ≤ MS) (H : JV x (mCod y 0) q) (hq : q + 561 < 1000000) (kk : zGoOn Γ ad (cs + 3) (ss + 18) bs i q) : zV Γ ad cs ss x y 1707 [some (.ref bs), some (.ref (ad 0 0)), some (.ref (ad 20 0)), some (.ref (ad 60 0)), some (.ref (ad 61 0)), some (zI i), l6, l7, l8] [] := by
  have hI : xI x := JV_xI H (by omega)
  have n0 := (jw_I H).1
  have i3 := hI.2.1
  have sb := (xSn_b hI (x 0 0 10).toNat (by omega)).1
  refine zV_aloadn hX dL_law_1707 rfl ?_
  refine zV_aload hX dL_law_1708 rfl ?_
  refine zV_callSH (n := 2) hX rfl hN hG (h_load (P := (fun (k : Int) (x1 : zSt) => x1 = x ∧ k = 1 ∧ xSn x (x 0 0 10).toNat = 0)) (c_X4_load hI) (fun E x1 y1 p => ⟨p.1.1, ⟨p.2.1, rfl, p.1.2⟩, p.2.2⟩) (fun g => zFq_n ⟨by omega, by omega⟩ g)) zw_cw_yL_load zw_mL_218 zw_in_RL zw_st_yL_load ⟨by decide, by decide, by decide +kernel⟩ rfl (by omega) (by decide) (by omega) (by omega) rfl (Nat.le_of_ble_eq_true rfl) dL_law_1710 (fun v1 x1 y1 p1 => ?_)
  obtain ⟨k, rfl, kb, H1, ag⟩ := m_load H (by omega) p1
  refine zV_istore6 hX dL_law_1713 ?_
  refine zV_aloadn hX dL_law_1715 rfl ?_
  refine zV_callV (n := 0) hX rfl hN 20 rfl rfl ⟨by decide, by decide⟩ (c_X5_load (jw_I H1) (jw_sn H1).1) zw_co_yX5_load zw_mL_221 zw_in_RX5 zw_im_yX5_load zw_se_yX5_load ⟨by decide, by decide, by decide +kernel⟩ rfl (by omega) (by decide) (by omega) (by omega) rfl (Nat.le_of_ble_eq_true rfl) dL_law_1716 (fun vv x2 y2 p2 => ?_) (fun _ _ _ h => h.elim)
  obtain ⟨rfl, p2⟩ := p2
  obtain ⟨w, rfl, e1, e2, E⟩ := ag _ _ p2
  refine zV_fstore7 hX dL_law_1719 ?_
  have zk : zR k := ⟨by omega, by omega⟩
  have go : zV Γ ad (cs + 1 + 0) (ss + 6 + 0) x2 y2 1770 [some (.ref bs), some (.ref (ad 0 0)), some (.ref (ad 20 0)), some (.ref (ad 60 0)), some (.ref (ad 61 0)), some (zI i), some (zI k), some (.float w), l8] [] := zV_goto (tgt := 2026) hX dL_law_1770 (by decide) (zV_wide (by omega) (by omega) (kk _ _ _ _ _ _ E (by omega)))
  refine zV_aloadn hX dL_law_1721 rfl ?_
  refine zV_cVS (n := 0) hX rfl hN 20 rfl rfl ⟨by decide, by decide⟩ c_X5_thrown zw_co_yX5_thrown zw_mL_124 zw_in_RX5 zw_im_yX5_thrown zw_se_yX5_thrown ⟨by decide, by decide, by decide +kernel⟩ rfl (by omega) (by decide) (by omega) (by omega) rfl (Nat.le_of_ble_eq_true rfl) dL_law_1722 ?_
  rw [e1]
  refine zV_iload hX dL_law_1725 rfl ?_
  refine zV_icmp_eq (tgt := 1732) hX dL_law_1727 (by decide) zk zk (fun _ => ?_) (fun h => absurd rfl h)
  refine zV_iload hX dL_law_1732 rfl ?_
  refine zV_if_ne (tgt := 1770) hX dL_law_1734 (by decide) zk (fun _ => go) (fun h0 => ?_)
  obtain ⟨hn, e3⟩ := e2 h0
  refine zV_aload hX dL_law_1737 rfl ?_
  refine zV_iconst hX dL_law_1739 ?_
  refine zV_dald hX 61 rfl (i := 0) (j := 0) ⟨by decide, by decide⟩ ⟨by decide, by decide⟩ (by decide) dL_law_1740 (fun _ => ?_)
  rw [show zm x2 y2 61 0 0 = y2 61 0 0 from congrFun (congrFun (zm_y (by decide)) 0) 0, e3, zu64]
  refine zV_fload hX dL_law_1741 rfl ?_
  refine zV_f2d hX hn dL_law_1743 ?_
  refine zV_dcmpE hX (zf2d_n hn) dL_law_1744 ?_
  exact zV_if_eq (tgt := 1770) hX dL_law_1745 (by decide) zR_0 (fun _ => go) (fun h => absurd rfl h)
set_option maxRecDepth 100000 in
set_option maxHeartbeats 4000000 in
theorem k_meanValue (hX : zX Γ ad RL cL_law 9) (hN : zN Γ 60 MC MS) (hG : zNG Γ) (hc : cs + 3 ≤ MC) (hs : ss + 18 ≤ MS) (H : JV x (mCod y 0) q) (hq : q + 561 < 1000000) (kk : zGoOn Γ ad (cs + 3) (ss + 18) bs i q) : zV Γ ad cs ss x y 1773 [some (.ref bs), some (.ref (ad 0 0)), some (.ref (ad 20 0)), some (.ref (ad 60 0)), some (.ref (ad 61 0)), some (zI i), l6, l7, l8] [] := by
  have hI : xI x := JV_xI H (by omega)
  refine zV_aloadn hX dL_law_1773 rfl ?_
  refine zV_aload hX dL_law_1774 rfl ?_
  refine zV_callSH (n := 2) hX rfl hN hG (h_meanValue (P := (fun (k : Int) (x1 : zSt) => x1 = x ∧ k = 1 ∧ xVn x 12 = 0)) (c_X4_meanValue hI) (fun E x1 y1 p => ⟨p.1.1, ⟨p.2.1, rfl, p.1.2⟩, p.2.2⟩)) zw_cw_yL_meanValue zw_mL_222 zw_in_RL zw_st_yL_meanValue ⟨by decide, by decide, by decide +kernel⟩ rfl (by omega) (by decide) (by omega) (by omega) rfl (Nat.le_of_ble_eq_true rfl) dL_law_1776 (fun v1 x1 y1 p1 => ?_)
  obtain ⟨k, rfl, kb, H1, ag⟩ := m_mean H (by omega) p1
  refine zV_istore6 hX dL_law_1779 ?_
  refine zV_aloadn hX dL_law_1781 rfl ?_
  refine zV_callV (n := 0) hX rfl hN 20 rfl rfl ⟨by decide, by decide⟩ (c_X5_meanValue (jw_I H1)) zw_co_yX5_meanValue zw_mL_224 zw_in_RX5 zw_im_yX5_meanValue zw_se_yX5_meanValue ⟨by decide, by decide, by decide +kernel⟩ rfl (by omega) (by decide) (by omega) (by omega) rfl (Nat.le_of_ble_eq_true rfl) dL_law_1782 (fun vv x2 y2 p2 => ?_) (fun _ _ _ h => h.elim)
  obtain ⟨rfl, p2⟩ := p2
  obtain ⟨w, rfl, e1, e2, E⟩ := ag _ _ p2
  refine zVd_store hX dL_law_1785 ?_
  have zk : zR k := ⟨by omega, by omega⟩
  have go : zVd Γ ad (cs + 1 + 0) (ss + 6 + 0) x2 y2 1835 [some (.ref bs), some (.ref (ad 0 0)), some (.ref (ad 20 0)), some (.ref (ad 60 0)), some (.ref (ad 61 0)), some (zI i), some (zI k), none, none] w [] := zVd_of (zV_goto (tgt := 2026) hX dL_law_1835 (by decide) (zV_wide (by omega) (by omega) (kk _ _ _ _ _ _ E (by omega))))
  refine zVd_aloadn hX dL_law_1787 rfl ?_
  refine zVd_cVS (n := 0) hX rfl hN 20 rfl rfl ⟨by decide, by decide⟩ c_X5_thrown zw_co_yX5_thrown zw_mL_124 zw_in_RX5 zw_im_yX5_thrown zw_se_yX5_thrown ⟨by decide, by decide, by decide +kernel⟩ rfl (by omega) (by decide) (by omega) (by omega) rfl (Nat.le_of_ble_eq_true rfl) dL_law_1788 ?_
  rw [e1]
  refine zVd_iload hX dL_law_1791 rfl ?_
  refine zVd_icmp_eq (tgt := 1798) hX dL_law_1793 (by decide) zk zk (fun _ => ?_) (fun h => absurd rfl h)
  refine zVd_iload hX dL_law_1798 rfl ?_
  refine zVd_if_ne (tgt := 1835) hX dL_law_1800 (by decide) zk (fun _ => go) (fun h0 => ?_)
  obtain ⟨hn, e3⟩ := e2 h0
  refine zVd_aload hX dL_law_1803 rfl ?_
  refine zVd_iconst hX dL_law_1805 ?_
  refine zVd_dald hX 61 rfl (i := 0) (j := 0) ⟨by decide, by decide⟩ ⟨by decide, by decide⟩ (by decide) dL_law_1806 ?_
  rw [show zm x2 y2 61 0 0 = y2 61 0 0 from congrFun (congrFun (zm_y (by decide)) 0) 0, e3, zu64]
  refine zVd_dload hX dL_law_1807 ?_
  refine zVd_dcmpE hX hn dL_law_1809 ?_
  exact zVd_if_eq (tgt := 1835) hX dL_law_1810 (by decide) zR_0 (fun _ => go) (fun h => absurd rfl h)
end ZC2
