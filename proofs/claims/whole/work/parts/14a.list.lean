/-! THE CONSTRUCTORS: worlds as lists, while they grow. -/
theorem zw_oi_X4 : Cond.methodLink RX4 1 objectInit ∈ zWL := zw_i 25 (by decide +kernel) (by decide +kernel)
theorem zw_oi_i : Cond.instanceMethod objectInit ∈ zWL := zw_i 26 (by decide +kernel) (by decide +kernel)
theorem zw_oi_c : Cond.code objectInit ⟨#[0xb1]⟩ 1 none ∈ zWL := zw_i 27 (by decide +kernel) (by decide +kernel)
theorem zw_oi_X0 : Cond.methodLink RX0 3 objectInit ∈ zWL := zw_i 36 (by decide +kernel) (by decide +kernel)
theorem zw_oi_X1 : Cond.methodLink RX1 1 objectInit ∈ zWL := zw_i 42 (by decide +kernel) (by decide +kernel)
theorem zw_oi_X3 : Cond.methodLink RX3 3 objectInit ∈ zWL := zw_i 66 (by decide +kernel) (by decide +kernel)
theorem zw_oi_X2 : Cond.methodLink RX2 3 objectInit ∈ zWL := zw_i 145 (by decide +kernel) (by decide +kernel)
theorem zw_oi_X5 : Cond.methodLink RX5 1 objectInit ∈ zWL := zw_i 777 (by decide +kernel) (by decide +kernel)
/-- the words of nest mates, and of arrays of references -/
def zNst (U : State) : Prop := va_Nw (.methodLinkNest RX4 40 yX0_init RX4) U ∧ va_Nw (.methodLinkNest RX4 41 yX2_init RX4) U ∧ va_Nw (.methodLinkNest RX0 17 yX1_init RX4) U ∧ va_Nw (.methodLinkNest RX0 24 yX3_init RX4) U ∧ va_AO RX0 U ∧ va_AO RX2 U
theorem zNst.warm {s U : State} (hW : s.WarmedH U.vm) (h : zNst s) : zNst U := ⟨va_Nw.warmM hW h.1, va_Nw.warmM hW h.2.1, va_Nw.warmM hW h.2.2.1, va_Nw.warmM hW h.2.2.2.1, va_AO.moved hW.alike h.2.2.2.2.1, va_AO.moved hW.alike h.2.2.2.2.2⟩
theorem va_RA_u {U : State} {a b : ClassId} {ty : FieldType} (h : va_RA U a ty) (h' : va_RA U b ty) : a = b := by
  cases ty with
  | object C =>
    obtain ⟨k1, c1, -, -, -, h4⟩ := h
    obtain ⟨k2, c2, -, -, -, h5⟩ := h'
    exact Option.some.inj (h4.symm.trans h5)
  | _ => exact Option.some.inj ((show U.vm.findClass _ = some a from h).symm.trans (show U.vm.findClass _ = some b from h'))
def zKp (D : va_G) (cA : Nat → ClassId) (h0 : Nat) (e0 : va_E) (sz : Nat) : State → Prop := fun U => U.heap.size = sz ∧ va_P D zCl [(h0, e0)] U.heap ∧ zK D cA U ∧ zNst U
/-- the contract of a constructor: its receiver h0, as new made it; what then lies there -/
def zKC (y : MethodName) (bytes : ByteArray) (maxL d mc ms : Nat) (e0 : va_E) (post : Nat → (Nat → ClassId) → va_W → Prop) : Prop :=
  ∀ (l : Launch) (D : va_G) (cA : Nat → ClassId) (h0 sz : Nat), Met l y (zws y bytes maxL none) (zrm d mc ms) (va_Pc [.ref h0] (zKp D cA h0 e0 sz)) (va_Qv (post h0 cA) (fun w1 t => va_P D zCl w1 t.heap ∧ va_D (va_A [(h0, e0)] sz) w1) (va_A [(h0, e0)] sz)) mc ms (va_A [(h0, e0)] sz)
theorem zKp_blind {D : va_G} {cA : Nat → ClassId} {h0 sz : Nat} {e0 : va_E} {av : List Value} : FrameBlind (va_Pc av (zKp D cA h0 e0 sz)) := by
  intro a U g mk h
  obtain ⟨h0, h1, h2, h3, h4⟩ := h
  exact ⟨h0, h1, h2, zK.moved (u := U) (U := U.calling g mk a) (Vm.Alike.refl U.vm) h3, zNst.warm (s := U) (U := U.calling g mk a) (State.WarmedH.refl U) h4⟩
def zU (Γ : zG) (cs ss : Nat) (ws : va_W) (pc : Nat) (L : List (Option Value)) (st : List Value) : Prop := match Γ with
  | (p, l, e, R, s, m, args, below, meth, c, D, _, A, Q) => ∀ (H : Heap) (locs : List Loc) (ls : Array Slot), va_P D zCl ws H → va_D A ws → va_S A s.heap H locs → zL ls L → W p l e R s m args below meth c H locs cs ss Q (F0 m pc ls st)
def zY (Γ : zG) (own : String) (cc : ByteArray) (nL : Nat) : Prop := match Γ with
  | (p, _, _, _, s, m, args, _, meth, c, D, cA, A, _) => (p.tables.exec = Jvm.exec ∧ c.code = cc ∧ c.maxLocals = nL ∧ s.vm.findClass own = some m.cls ∧ ∀ w ∈ zWL, w.before args s = true) ∧ meth.locks = false ∧ zK D cA s ∧ (∀ q, s.heap.size ≤ q → A q) ∧ zNst s
def zIn (Γ : zG) : Prop := match Γ with
  | (_, _, _, _, _, _, _, _, meth, _, _, _, _, _) => meth.name = "<init>"
def zR4 (Γ : zG) (d MC MS : Nat) : Prop := match Γ with
  | (_, _, _, R, _, _, _, _, _, _, _, _, _, _) => d ≤ R.frames ∧ 40 * d ≤ R.locals ∧ MC ≤ R.cells ∧ MS ≤ R.slots
def zcA (Γ : zG) : Nat → ClassId := match Γ with
  | (_, _, _, _, _, _, _, _, _, _, _, cA, _, _) => cA
def zMk (Γ : zG) (MC MS : Nat) (post : va_W → Prop) : Prop := match Γ with
  | (_, _, _, _, s, _, args, below, meth, _, D, _, A, Q) => Q = MQ below (va_Qv post (fun w1 t => va_P D zCl w1 t.heap ∧ va_D A w1) A) args s MC MS A ∧ meth.sig.returnType = none
section ZU
variable {Γ : zG} {cs ss MC MS : Nat} {ws : va_W} {pc : Nat} {L : List (Option Value)} {st : List Value} {own : String} {cc : ByteArray} {nL : Nat}
theorem zU_wide {cs' ss' : Nat} (h1 : cs ≤ cs') (h2 : ss ≤ ss') (kk : zU Γ cs' ss' ws pc L st) : zU Γ cs ss ws pc L st := by
  obtain ⟨p, l, e, R, s, m, args, below, meth, c, D, cA, A, Q⟩ := Γ
  intro H locs ls hP hD hS hL
  exact W.widen h1 h2 (kk H locs ls hP hD hS hL)
theorem zU_aloadn (hY : zY Γ own cc nL) {k : Fin 4} {q : Nat} (d : decode cc pc = .ok (.aload_n k, 1)) (h : L[(k : Nat)]? = some (some (.ref q))) (kk : zU Γ cs ss ws (pc + 1) L (.ref q :: st)) : zU Γ cs ss ws pc L st := by
  obtain ⟨p, l, e, R, s, m, args, below, meth, c, D, cA, A, Q⟩ := Γ
  intro H locs ls hP hD hS hL
  exact lv_aload_n hY.1.1 hY.1.2.1 d rfl (hL.at h) (kk H locs ls hP hD hS hL)
theorem zU_iloadn (hY : zY Γ own cc nL) {k : Fin 4} {z : Int} (d : decode cc pc = .ok (.iload_n k, 1)) (h : L[(k : Nat)]? = some (some (zI z))) (kk : zU Γ cs ss ws (pc + 1) L (zI z :: st)) : zU Γ cs ss ws pc L st := by
  obtain ⟨p, l, e, R, s, m, args, below, meth, c, D, cA, A, Q⟩ := Γ
  intro H locs ls hP hD hS hL
  exact lv_iload_n hY.1.1 hY.1.2.1 d rfl (hL.at h) (kk H locs ls hP hD hS hL)
theorem zU_iconst (hY : zY Γ own cc nL) {n : Int} (d : decode cc pc = .ok (.iconst n, 1)) (kk : zU Γ cs ss ws (pc + 1) L (zI n :: st)) : zU Γ cs ss ws pc L st := by
  obtain ⟨p, l, e, R, s, m, args, below, meth, c, D, cA, A, Q⟩ := Γ
  intro H locs ls hP hD hS hL
  exact lv_iconst hY.1.1 hY.1.2.1 d rfl (kk H locs ls hP hD hS hL)
theorem zU_bipush (hY : zY Γ own cc nL) {n : Int} (d : decode cc pc = .ok (.bipush n, 2)) (h : (Int8.ofInt n).toInt32 = Int32.ofInt n) (kk : zU Γ cs ss ws (pc + 2) L (zI n :: st)) : zU Γ cs ss ws pc L st := by
  obtain ⟨p, l, e, R, s, m, args, below, meth, c, D, cA, A, Q⟩ := Γ
  intro H locs ls hP hD hS hL
  exact lv_bipush hY.1.1 hY.1.2.1 d h (kk H locs ls hP hD hS hL)
theorem zU_dup (hY : zY Γ own cc nL) {v : Value} (d : decode cc pc = .ok (.dup, 1)) (h : v.category = 1) (kk : zU Γ cs ss ws (pc + 1) L (v :: v :: st)) : zU Γ cs ss ws pc L (v :: st) := by
  obtain ⟨p, l, e, R, s, m, args, below, meth, c, D, cA, A, Q⟩ := Γ
  intro H locs ls hP hD hS hL
  exact lv_dup hY.1.1 hY.1.2.1 d h (kk H locs ls hP hD hS hL)
theorem zU_istoren (hY : zY Γ own cc nL) {k : Fin 4} {i : Nat} {z : Int} (hi : i < L.length) (d : decode cc pc = .ok (.istore_n k, 1)) (hk : (k : Nat) = i) (kk : zU Γ cs ss ws (pc + 1) (L.set i (some (zI z))) st) : zU Γ cs ss ws pc L (zI z :: st) := by
  obtain ⟨p, l, e, R, s, m, args, below, meth, c, D, cA, A, Q⟩ := Γ
  intro H locs ls hP hD hS hL
  exact lv_istore_n hY.1.1 hY.1.2.1 d hk hL.1 hi rfl (fun ls' h' => kk H locs ls' hP hD hS (hL.st hi rfl h'))
theorem zU_astoren (hY : zY Γ own cc nL) {k : Fin 4} {i : Nat} {q : Nat} (hi : i < L.length) (d : decode cc pc = .ok (.astore_n k, 1)) (hk : (k : Nat) = i) (kk : zU Γ cs ss ws (pc + 1) (L.set i (some (.ref q))) st) : zU Γ cs ss ws pc L (.ref q :: st) := by
  obtain ⟨p, l, e, R, s, m, args, below, meth, c, D, cA, A, Q⟩ := Γ
  intro H locs ls hP hD hS hL
  exact lv_astore_n hY.1.1 hY.1.2.1 d hk hL.1 hi rfl (fun ls' h' => kk H locs ls' hP hD hS (hL.st hi rfl h'))
theorem zU_astore (hY : zY Γ own cc nL) {i : Nat} {q : Nat} (hi : i < L.length) (d : decode cc pc = .ok (.astore i, 2)) (kk : zU Γ cs ss ws (pc + 2) (L.set i (some (.ref q))) st) : zU Γ cs ss ws pc L (.ref q :: st) := by
  obtain ⟨p, l, e, R, s, m, args, below, meth, c, D, cA, A, Q⟩ := Γ
  intro H locs ls hP hD hS hL
  exact lv_astore hY.1.1 hY.1.2.1 d hL.1 hi rfl (fun ls' h' => kk H locs ls' hP hD hS (hL.st hi rfl h'))
theorem zU_istore (hY : zY Γ own cc nL) {i : Nat} {z : Int} (hi : i < L.length) (d : decode cc pc = .ok (.istore i, 2)) (kk : zU Γ cs ss ws (pc + 2) (L.set i (some (zI z))) st) : zU Γ cs ss ws pc L (zI z :: st) := by
  obtain ⟨p, l, e, R, s, m, args, below, meth, c, D, cA, A, Q⟩ := Γ
  intro H locs ls hP hD hS hL
  exact lv_istore hY.1.1 hY.1.2.1 d hL.1 hi rfl (fun ls' h' => kk H locs ls' hP hD hS (hL.st hi rfl h'))
theorem zU_iinc (hY : zY Γ own cc nL) {i : Nat} {z n : Int} (h : L[i]? = some (some (zI z))) (d : decode cc pc = .ok (.iinc i n, 3)) (kk : zU Γ cs ss ws (pc + 3) (L.set i (some (zI (z + n)))) st) : zU Γ cs ss ws pc L st := by
  obtain ⟨p, l, e, R, s, m, args, below, meth, c, D, cA, A, Q⟩ := Γ
  intro H locs ls hP hD hS hL
  have hi := (List.getElem?_eq_some_iff.mp h).1
  obtain ⟨k, hk⟩ := List.getElem?_of_mem (zLl_mem.mpr h)
  exact lv_iinc (v := Int32.ofInt (z + n)) hY.1.1 hY.1.2.1 d hL.1 hk (Int32.ofInt_add z n).symm hi rfl (fun ls' h' => kk H locs ls' hP hD hS (hL.st hi rfl h'))
theorem zU_goto (hY : zY Γ own cc nL) {off : Int} {tgt : Nat} (d : decode cc pc = .ok (.goto off, 3)) (ht : (pc : Int) + off = (tgt : Int)) (kk : zU Γ cs ss ws tgt L st) : zU Γ cs ss ws pc L st := by
  obtain ⟨p, l, e, R, s, m, args, below, meth, c, D, cA, A, Q⟩ := Γ
  intro H locs ls hP hD hS hL
  exact lv_goto hY.1.1 hY.1.2.1 d ht (kk H locs ls hP hD hS hL)
theorem zU_icmp_ge (hY : zY Γ own cc nL) {a b off : Int} {tgt : Nat} (d : decode cc pc = .ok (.if_icmp .ge off, 3)) (ht : (pc : Int) + off = (tgt : Int)) (ha : zR a) (hb : zR b) (kt : b ≤ a → zU Γ cs ss ws tgt L st) (kf : ¬ (b ≤ a) → zU Γ cs ss ws (pc + 3) L st) : zU Γ cs ss ws pc L (zI b :: zI a :: st) := by
  obtain ⟨p, l, e, R, s, m, args, below, meth, c, D, cA, A, Q⟩ := Γ
  intro H locs ls hP hD hS hL
  exact lv_icmp_ge hY.1.1 hY.1.2.1 d ht (fun h => kt ((zi_le hb ha).mp h) H locs ls hP hD hS hL) (fun h => kf (fun q => h ((zi_le hb ha).mpr q)) H locs ls hP hD hS hL)
theorem zU_objinit (hY : zY Γ own cc nL) (hlen : L.length = nL) {d idx a : Nat} (hR : zR4 Γ d MC MS) (hd : 1 ≤ d) (hl : Cond.methodLink own idx objectInit ∈ zWL) (hc : (st.map fun v => v.category).sum ≤ 8) (dd : decode cc pc = .ok (.invokespecial idx, 3)) (kk : zU Γ cs ss ws (pc + 3) L st) : zU Γ cs ss ws pc L (.ref a :: st) := by
  obtain ⟨p, l, e, R, s, m, args, below, meth, c, D, cA, A, Q⟩ := Γ
  intro H locs ls hP hD hS hL
  obtain ⟨r1, r2, r3, r4⟩ := hR
  have hts := hY.1.2.2.2.2
  have h8 : 2 * (F0 m pc ls (.ref a :: st)).monitorRoom + (st.map fun v => v.category).sum ≤ 8 := lv_room hc
  exact W.objInit hY.1.1 hY.1.2.1 hY.1.2.2.2.1 (hts _ hl) (hts _ zw_oi_i) (hts _ zw_oi_c) rfl (hL.1.1.trans (hlen.trans hY.1.2.2.1.symm)) rfl dd (by omega) (by omega) (kk H locs ls hP hD hS hL)
/-- newarray -/
theorem zU_newa (hY : zY Γ own cc nL) {d : Nat} (hR : zR4 Γ d MC MS) {atype : ArrayType} {ty : FieldType} (harr : Cond.arrayClass (newarray.typeOf atype) ∈ zWL) (hty : newarray.typeOf atype = ty) (k : Nat) (hk : (zsh k).1 ≠ 0) (ht : zty k = ty) {N : Nat} {a0 : vp_A} (ha : ∀ cA : ClassId, vp_cell cA a0 = arrV cA N (fun _ => defaultValue ty)) {n : Int} (hn : n = (N : Int)) (hN : N ≤ 1000) (hbytes : N * componentBytes ty ≤ 536870912) (hcs : cs + 1 ≤ MC) (hss : ss + N ≤ MS) (dd : decode cc pc = .ok (.newarray atype, 2))
    (kk : ∀ q : Nat, zU Γ (cs + 1) (ss + N) (ws ++ [(q, .inl (zcA Γ k, a0))]) (pc + 2) L (.ref q :: st)) : zU Γ cs ss ws pc L (zI n :: st) := by
  obtain ⟨p, l, e, R, s, m, args, below, meth, c, D, cA, A, Q⟩ := Γ
  intro H locs ls hP hD hS hL
  obtain ⟨r1, r2, r3, r4⟩ := hR
  have hz : zR n := ⟨by omega, by omega⟩
  have h0 : ¬ Int32.ofInt n < 0 := fun q => by
    rw [zi_z, zi_lt hz zR_0] at q
    omega
  have h1 : (Int32.ofInt n).toNatClampNeg = N := by
    rw [Int32.toNatClampNeg, zi_toInt hz]
    omega
  refine va_newa hY.1.1 hY.1.2.1 (hY.1.2.2.2.2 _ harr) hty (tys := []) hY.2.2.1.1 hP hD hS hY.2.2.2.1 ha h0 h1 hbytes (by omega) (by omega) dd (fun q cA' H1 hK' hP' hD' hS' => ?_)
  have e1 : cA' = cA k := by
    have g := (hK'.2 0 _ rfl).2
    have g2 := (hY.2.2.1.2 k hk).2
    rw [ht] at g2
    exact va_RA_u g g2
  subst e1
  exact kk q H1 locs ls hP' hD' hS' hL
/-- anewarray -/
theorem zU_newq (hY : zY Γ own cc nL) {d index : Nat} (hR : zR4 Γ d MC MS) {C : String} (hl : Cond.classLink own index C ∈ zWL) (hover : ∀ s, zNst s → va_AO C s) (k : Nat) (hk : (zsh k).1 ≠ 0) (ht : zty k = .object C) {N : Nat} {n : Int} (hn : n = (N : Int)) (hN : N ≤ 1000) (hcs : cs + 1 ≤ MC) (hss : ss + N ≤ MS) (dd : decode cc pc = .ok (.anewarray index, 3))
    (kk : ∀ q : Nat, zU Γ (cs + 1) (ss + N) (ws ++ [(q, .inl (zcA Γ k, N, .inr (.inr (.inr (.inr (fun _ => none))))))]) (pc + 3) L (.ref q :: st)) : zU Γ cs ss ws pc L (zI n :: st) := by
  obtain ⟨p, l, e, R, s, m, args, below, meth, c, D, cA, A, Q⟩ := Γ
  intro H locs ls hP hD hS hL
  obtain ⟨r1, r2, r3, r4⟩ := hR
  have hz : zR n := ⟨by omega, by omega⟩
  have h0 : ¬ Int32.ofInt n < 0 := fun q => by
    rw [zi_z, zi_lt hz zR_0] at q
    omega
  have h1 : (Int32.ofInt n).toNatClampNeg = N := by
    rw [Int32.toNatClampNeg, zi_toInt hz]
    omega
  refine va_newq hY.1.1 hY.1.2.1 hY.1.2.2.2.1 (hY.1.2.2.2.2 _ hl) (hover _ hY.2.2.2.2) (tys := []) hY.2.2.1.1 hP hD hS hY.2.2.2.1 h0 h1 (by omega) (by omega) (by omega) dd (fun q cA' H1 hK' hP' hD' hS' => ?_)
  have e1 : cA' = cA k := by
    have g := (hK'.2 0 _ rfl).2
    have g2 := (hY.2.2.1.2 k hk).2
    rw [ht] at g2
    exact va_RA_u g g2
  subst e1
  exact kk q H1 locs ls hP' hD' hS' hL
/-- new -/
theorem zU_new (hY : zY Γ own cc nL) {d index ci : Nat} (hR : zR4 Γ d MC MS) {C : String} {T : u_T} {N : Nat} (hlay : ∀ w ∈ u_ws C T N, w ∈ zWL) (ty : Nat → FieldType) (hty : ∀ k, k < N → parseFieldDescriptor (T k).2.2.1 = some (ty k)) (hl : Cond.classLink own index C ∈ zWL) (hi : Cond.instantiable C N ∈ zWL) (hini : Cond.initialized C ∈ zWL) (hc : zCl[ci]? = some (C, T, N)) {fs : List Value} (hfs : ∀ j, j < N → defaultValue (ty j) = vp_V fs j) (hcs : cs + 1 ≤ MC) (hss : ss + N ≤ MS) (dd : decode cc pc = .ok (.new index, 3))
    (kk : ∀ q : Nat, zU Γ (cs + 1) (ss + N) (ws ++ [(q, .inr (ci, fs))]) (pc + 3) L (.ref q :: st)) : zU Γ cs ss ws pc L st := by
  obtain ⟨p, l, e, R, s, m, args, below, meth, c, D, cA, A, Q⟩ := Γ
  intro H locs ls hP hD hS hL
  obtain ⟨r1, r2, r3, r4⟩ := hR
  have hts := hY.1.2.2.2.2
  exact va_new hY.1.1 hY.1.2.1 hts hlay ty hty hY.1.2.2.2.1 (hts _ hl) (hts _ hi) (hts _ hini) (tys := []) hY.2.2.1.1 hP hD hS hY.2.2.2.1 hc hfs (by omega) (by omega) dd (fun q H1 hP' hD' hS' => kk q H1 locs ls hP' hD' hS' hL)
/-- putfield of a final field, in a constructor -/
theorem zU_putF (hY : zY Γ own cc nL) (hI : zIn Γ) {index ci a : Nat} {C : String} {T : u_T} {N : Nat} (hlay : ∀ w ∈ u_ws C T N, w ∈ zWL) (ty : Nat → FieldType) (hty : ∀ k, k < N → parseFieldDescriptor (T k).2.2.1 = some (ty k)) (hnm : ∀ a, a < N → ∀ b, b < N → a ≠ b → (T a).2.1 ≠ (T b).2.1) (hc : zCl[ci]? = some (C, T, N)) (q0 : Nat) {fs : List Value} (he : ws[q0]? = some (a, .inr (ci, fs))) (k : Nat) (hk : k < N) (hl : Cond.fieldLink own index own (T k).2.1 (T k).2.2.1 ∈ zWL) (hfin : (T k).2.2.2 = true) (hdecl : (T k).1 = own) {v : Value} (hn : narrow (ty k) v = v) (hfit : fits (ty k) v = true) (hlf : k < fs.length) (dd : decode cc pc = .ok (.putfield index, 3))
    (kk : zU Γ cs ss (ws.set q0 (a, .inr (ci, fs.set k v))) (pc + 3) L st) : zU Γ cs ss ws pc L (v :: .ref a :: st) := by
  obtain ⟨p, l, e, R, s, m, args, below, meth, c, D, cA, A, Q⟩ := Γ
  intro H locs ls hP hD hS hL
  have hts := hY.1.2.2.2.2
  exact va_putF hY.1.1 hY.1.2.1 hts hlay ty hty hnm hY.1.2.2.2.1 (tys := []) hY.2.2.1.1 hP hD hS q0 he hc k hk (hts _ hl) (by rw [hdecl]; exact fun _ h => h) hfin hI hdecl (hty k hk) hn hfit hlf dd (fun H1 locs1 hP' hD' hS' => kk H1 locs1 ls hP' hD' hS' hL)
theorem zU_put (hY : zY Γ own cc nL) {index ci a : Nat} {C : String} {T : u_T} {N : Nat} (hlay : ∀ w ∈ u_ws C T N, w ∈ zWL) (ty : Nat → FieldType) (hty : ∀ k, k < N → parseFieldDescriptor (T k).2.2.1 = some (ty k)) (hnm : ∀ a, a < N → ∀ b, b < N → a ≠ b → (T a).2.1 ≠ (T b).2.1) (hc : zCl[ci]? = some (C, T, N)) (q0 : Nat) {fs : List Value} (he : ws[q0]? = some (a, .inr (ci, fs))) (k : Nat) (hk : k < N) (hl : Cond.fieldLink own index own (T k).2.1 (T k).2.2.1 ∈ zWL) (hfin : (T k).2.2.2 = false) (hdecl : (T k).1 = own) {v : Value} (hn : narrow (ty k) v = v) (hfit : fits (ty k) v = true) (hlf : k < fs.length) (dd : decode cc pc = .ok (.putfield index, 3))
    (kk : zU Γ cs ss (ws.set q0 (a, .inr (ci, fs.set k v))) (pc + 3) L st) : zU Γ cs ss ws pc L (v :: .ref a :: st) := by
  obtain ⟨p, l, e, R, s, m, args, below, meth, c, D, cA, A, Q⟩ := Γ
  intro H locs ls hP hD hS hL
  have hts := hY.1.2.2.2.2
  exact va_put hY.1.1 hY.1.2.1 hts hlay ty hty hnm hY.1.2.2.2.1 (tys := []) hY.2.2.1.1 hP hD hS q0 he hc k hk (hts _ hl) (by rw [hdecl]; exact fun _ h => h) hfin (hty k hk) hn hfit hlf dd (fun H1 locs1 hP' hD' hS' => kk H1 locs1 ls hP' hD' hS' hL)
theorem zU_get (hY : zY Γ own cc nL) {index ci a : Nat} {C : String} {T : u_T} {N : Nat} (hlay : ∀ w ∈ u_ws C T N, w ∈ zWL) (hc : zCl[ci]? = some (C, T, N)) (q0 : Nat) {fs : List Value} (he : ws[q0]? = some (a, .inr (ci, fs))) (k : Nat) (hk : k < N) (hl : Cond.fieldLink own index own (T k).2.1 (T k).2.2.1 ∈ zWL) (hdecl : (T k).1 = own) {v : Value} (hv : fs[k]? = some v) (dd : decode cc pc = .ok (.getfield index, 3))
    (kk : zU Γ cs ss ws (pc + 3) L (v :: st)) : zU Γ cs ss ws pc L (.ref a :: st) := by
  obtain ⟨p, l, e, R, s, m, args, below, meth, c, D, cA, A, Q⟩ := Γ
  intro H locs ls hP hD hS hL
  have hts := hY.1.2.2.2.2
  exact va_get hY.1.1 hY.1.2.1 hts hlay hY.1.2.2.2.1 (tys := []) hY.2.2.1.1 hP q0 he hc k hk (hts _ hl) (by rw [hdecl]; exact fun _ h => h) hv dd (kk H locs ls hP hD hS hL)
theorem zU_iast (hY : zY Γ own cc nL) (k : Nat) (hk : (zsh k).1 ≠ 0) (ht : zty k = .int) (q0 : Nat) {a n : Nat} {f : Nat → Int32} (he : ws[q0]? = some (a, .inl (zcA Γ k, n, .inl f))) {i x : Int} {j : Nat} (hj : i = (j : Int)) (hn : j < n ∧ n ≤ 1000) (dd : decode cc pc = .ok (.iastore, 1))
    (kk : zU Γ cs ss (ws.set q0 (a, .inl (zcA Γ k, n, .inl (upd f j (Int32.ofInt x))))) (pc + 1) L st) : zU Γ cs ss ws pc L (zI x :: zI i :: .ref a :: st) := by
  obtain ⟨p, l, e, R, s, m, args, below, meth, c, D, cA, A, Q⟩ := Γ
  intro H locs ls hP hD hS hL
  obtain ⟨h1, h2⟩ := zi_vp (n := n) (j := i) (by omega) ⟨by omega, by omega⟩
  have h3 : (Int32.ofInt i).toNatClampNeg = j := by omega
  have hK := hY.2.2.1.at hk
  rw [ht] at hK
  refine va_iast (tys := [(cA k, .int)]) hY.1.1 hY.1.2.1 hK hP hD hS q0 0 he rfl h1 dd (fun H1 locs1 hP' hD' hS' => ?_)
  rw [h3] at hP' hD'
  exact kk H1 locs1 ls hP' hD' hS' hL
theorem zU_cast (hY : zY Γ own cc nL) (k : Nat) (hk : (zsh k).1 ≠ 0) (ht : zty k = .char) (q0 : Nat) {a n : Nat} {f : Nat → Int32} (he : ws[q0]? = some (a, .inl (zcA Γ k, n, .inl f))) {i x : Int} {j : Nat} (hj : i = (j : Int)) (hn : j < n ∧ n ≤ 1000) (dd : decode cc pc = .ok (.castore, 1))
    (kk : zU Γ cs ss (ws.set q0 (a, .inl (zcA Γ k, n, .inl (upd f j (vp_nar .char (Int32.ofInt x)))))) (pc + 1) L st) : zU Γ cs ss ws pc L (zI x :: zI i :: .ref a :: st) := by
  obtain ⟨p, l, e, R, s, m, args, below, meth, c, D, cA, A, Q⟩ := Γ
  intro H locs ls hP hD hS hL
  obtain ⟨h1, h2⟩ := zi_vp (n := n) (j := i) (by omega) ⟨by omega, by omega⟩
  have h3 : (Int32.ofInt i).toNatClampNeg = j := by omega
  have hK := hY.2.2.1.at hk
  rw [ht] at hK
  refine va_cast (tys := [(cA k, .char)]) hY.1.1 hY.1.2.1 hK hP hD hS q0 0 he rfl h1 dd (fun H1 locs1 hP' hD' hS' => ?_)
  rw [h3] at hP' hD'
  exact kk H1 locs1 ls hP' hD' hS' hL
theorem zU_astq (hY : zY Γ own cc nL) (k : Nat) (hk : (zsh k).1 ≠ 0) {r : vw_C} (ht : zty k = .object r.1) (q0 qk ci : Nat) {a n v : Nat} {vs : List Value} {f : Nat → Option Nat} (he : ws[q0]? = some (a, .inl (zcA Γ k, n, .inr (.inr (.inr (.inr f)))))) (hv : ws[qk]? = some (v, .inr (ci, vs))) (hc : zCl[ci]? = some r) {i : Int} {j : Nat} (hj : i = (j : Int)) (hn : j < n ∧ n ≤ 1000) (dd : decode cc pc = .ok (.aastore, 1))
    (kk : zU Γ cs ss (ws.set q0 (a, .inl (zcA Γ k, n, .inr (.inr (.inr (.inr (va_up f j (some v)))))))) (pc + 1) L st) : zU Γ cs ss ws pc L (.ref v :: zI i :: .ref a :: st) := by
  obtain ⟨p, l, e, R, s, m, args, below, meth, c, D, cA, A, Q⟩ := Γ
  intro H locs ls hP hD hS hL
  obtain ⟨h1, h2⟩ := zi_vp (n := n) (j := i) (by omega) ⟨by omega, by omega⟩
  have h3 : (Int32.ofInt i).toNatClampNeg = j := by omega
  have hK := hY.2.2.1.at hk
  rw [ht] at hK
  refine va_astq (tys := [(cA k, .object r.1)]) hY.1.1 hY.1.2.1 hK hP hD hS q0 0 qk ci he rfl hv hc h1 dd (fun H1 locs1 hP' hD' hS' => ?_)
  rw [h3] at hP' hD'
  exact kk H1 locs1 ls hP' hD' hS' hL
theorem zU_vret (hY : zY Γ own cc nL) {post : va_W → Prop} (hM : zMk Γ MC MS post) (h1 : cs ≤ MC) (h2 : ss ≤ MS) (dd : decode cc pc = .ok (.return_, 1)) (hp : post ws) : zU Γ cs ss ws pc L [] := by
  obtain ⟨p, l, e, R, s, m, args, below, meth, c, D, cA, A, Q⟩ := Γ
  intro H locs ls hP hD hS hL
  obtain ⟨rfl, hr⟩ := hM
  exact W.widen h1 h2 (W.vret hY.1.1 hY.1.2.1 hr (fun t ht _ => ⟨⟨ws, rfl, hp, ⟨by rw [ht]; exact hP, hD⟩⟩, hS.F ht⟩) (fun q hq => hS.2.2 q hq) dd hY.2.1)
/-- behind a constructor's call: what lay there stays -/
theorem zjoin {D : va_G} {A : Nat → Prop} {w0 w1 : va_W} {q : Nat} {e0 : va_E} {H H1 : Heap} (hP : va_P D zCl (w0 ++ [(q, e0)]) H) (hD : va_D A (w0 ++ [(q, e0)])) (hA : ∀ z, H.size ≤ z → A z) (hk : ∀ z : Nat, z < H.size → ¬ va_A [(q, e0)] H.size z → H1[z]? = H[z]?) (hP1 : va_P D zCl w1 H1) (hD1 : va_D (va_A [(q, e0)] H.size) w1) : va_P D zCl (w0 ++ w1) H1 ∧ va_D A (w0 ++ w1) := by
  have hq : (w0 ++ [(q, e0)])[w0.length]? = some (q, e0) := by simp
  have h0 : ∀ (i : Nat) (z : Nat × va_E), w0[i]? = some z → va_at D zCl z H ∧ A z.1 ∧ z.1 ≠ q ∧ z.1 < H.size := fun i z hz => by
    have hi : i < w0.length := (List.getElem?_eq_some_iff.mp hz).1
    have hz' : (w0 ++ [(q, e0)])[i]? = some z := by rw [List.getElem?_append_left hi]; exact hz
    refine ⟨hP i z hz', hD.2 i z hz', fun e => ?_, (hP i z hz').lt⟩
    have := hD.1 i w0.length z (q, e0) hz' hq e
    omega
  have hin : ∀ z : Nat, va_A [(q, e0)] H.size z → z = q ∨ H.size ≤ z := fun z h => by
    rcases h with ⟨k, e, h⟩ | h
    · left
      match k, h with
      | 0, h => cases h; rfl
      | k + 1, h => simp at h
    · exact Or.inr h
  have hout : ∀ (i : Nat) (z : Nat × va_E), w0[i]? = some z → ¬ va_A [(q, e0)] H.size z.1 := fun i z hz h => by
    obtain ⟨-, -, n1, n2⟩ := h0 i z hz
    rcases hin _ h with e | e
    · exact n1 e
    · omega
  refine ⟨fun i z hz => ?_, fun i j z z' hz hz' e => ?_, fun i z hz => ?_⟩
  · by_cases hi : i < w0.length
    · rw [List.getElem?_append_left hi] at hz
      obtain ⟨a1, -, -, a4⟩ := h0 i z hz
      exact a1.kept (hk _ a4 (hout i z hz))
    · rw [List.getElem?_append_right (by omega)] at hz
      exact hP1 _ z hz
  · by_cases hi : i < w0.length
    · rw [List.getElem?_append_left hi] at hz
      by_cases hj : j < w0.length
      · rw [List.getElem?_append_left hj] at hz'
        exact hD.1 i j z z' (by rw [List.getElem?_append_left hi]; exact hz) (by rw [List.getElem?_append_left hj]; exact hz') e
      · rw [List.getElem?_append_right (by omega)] at hz'
        exact absurd (hD1.2 _ z' hz') (by rw [← e]; exact hout i z hz)
    · rw [List.getElem?_append_right (by omega)] at hz
      by_cases hj : j < w0.length
      · rw [List.getElem?_append_left hj] at hz'
        exact absurd (hD1.2 _ z hz) (by rw [e]; exact hout j z' hz')
      · rw [List.getElem?_append_right (by omega)] at hz'
        have := hD1.1 _ _ z z' hz hz' e
        omega
  · by_cases hi : i < w0.length
    · rw [List.getElem?_append_left hi] at hz
      exact (h0 i z hz).2.1
    · rw [List.getElem?_append_right (by omega)] at hz
      rcases hin _ (hD1.2 _ z hz) with e | e
      · rw [e]
        exact hD.2 _ _ hq
      · exact hA _ e
theorem zsing {D : va_G} {w0 : va_W} {z : Nat × va_E} {H : Heap} (hP : va_P D zCl (w0 ++ [z]) H) : va_P D zCl [z] H := zP1 (hP w0.length z (by simp))
theorem zfree {A : Nat → Prop} {w0 : va_W} {q : Nat} {e0 : va_E} {H : Heap} (hD : va_D A (w0 ++ [(q, e0)])) (hA : ∀ z, H.size ≤ z → A z) : ∀ z : Nat, va_A [(q, e0)] H.size z → A z := fun z h => by
  rcases h with ⟨k, e, h⟩ | h
  · match k, h with
    | 0, h => cases h; exact hD.2 w0.length (q, e0) (by simp)
    | k + 1, h => simp at h
  · exact hA z h
/-- the constructor of a nest mate -/
theorem zU_callN (hY : zY Γ own cc nL) (hlen : L.length = nL) {d d' mc ms index maxL : Nat} (hR : zR4 Γ d MC MS) {y' : MethodName} {bytes : ByteArray} {e0 : va_E} {post : Nat → (Nat → ClassId) → va_W → Prop} (hC : zKC y' bytes maxL d' mc ms e0 post) (hcode : Cond.code y' bytes maxL none ∈ zWL) (hini : Cond.initialized y'.cls ∈ zWL) (him : Cond.instanceMethod y' ∈ zWL) (hnest : ∀ s, zNst s → va_Nw (.methodLinkNest own index y' RX4) s) (hname : y'.name = "<init>") (hd : y'.cls ≠ "java/lang/invoke/MethodHandle" ∧ y'.cls ≠ "java/lang/invoke/VarHandle" ∧ (parseMethodDescriptor y'.desc).map (fun d => d.parameters.length) = some 0)
    (hdd : d' + 1 ≤ d) (hmL : maxL ≤ 20) (hmc : cs + mc ≤ MC) (hms : ss + ms ≤ MS) {q : Nat} {w0 : va_W} (hc : (st.map fun v => v.category).sum ≤ 8) (dd : decode cc pc = .ok (.invokespecial index, 3))
    (kk : ∀ w1 : va_W, post q (zcA Γ) w1 → zU Γ (cs + mc) (ss + ms) (w0 ++ w1) (pc + 3) L st) : zU Γ cs ss (w0 ++ [(q, e0)]) pc L (.ref q :: st) := by
  obtain ⟨p, l, e, R, s, m, args, below, meth, c, D, cA, A, Q⟩ := Γ
  intro H locs ls hP hD hS hL
  obtain ⟨r1, r2, r3, r4⟩ := hR
  have hts := hY.1.2.2.2.2
  have hA : ∀ z, H.size ≤ z → A z := fun z h => hY.2.2.2.1 z (Nat.le_trans hS.1 h)
  have hF := zfree hD hA
  refine va_callv (va_runIN (As := []) hY.1 (hC l D cA q H.size) ⟨va_cnB 0 hts (zGood hcode) rfl rfl rfl (hnest _ hY.2.2.2.2) (hts _ hini) hd ⟨by show d' + 1 ≤ _; omega, by show 8 + (maxL + 11) + 40 * d' ≤ _; omega⟩, hname, hts _ him⟩ ⟨zKp_blind, fun U hU hW => ⟨rfl, by rw [hU], by rw [hU]; exact zsing hP, hY.2.2.1.moved hW.alike, hY.2.2.2.2.warm hW⟩⟩ rfl rfl (hL.1.1.trans hlen) rfl (lv_room hc) dd ⟨by omega, by omega⟩) hS (fun z _ h => hF z h) hF (fun w1 t H1 locs1 ht _ hp hB _ hk hS1 => ?_)
  obtain ⟨hP1, hD1⟩ := hB
  rw [ht] at hP1
  obtain ⟨j1, j2⟩ := zjoin hP hD hA hk hP1 hD1
  exact kk w1 hp H1 locs1 ls j1 j2 hS1 hL
/-- a public constructor -/
theorem zU_callI (hY : zY Γ own cc nL) (hlen : L.length = nL) {d d' mc ms index maxL : Nat} (hR : zR4 Γ d MC MS) {y' : MethodName} {bytes : ByteArray} {e0 : va_E} {post : Nat → (Nat → ClassId) → va_W → Prop} (hC : zKC y' bytes maxL d' mc ms e0 post) (hcode : Cond.code y' bytes maxL none ∈ zWL) (hini : Cond.initialized y'.cls ∈ zWL) (him : Cond.instanceMethod y' ∈ zWL) (hlink : Cond.methodLink own index y' ∈ zWL) (hname : y'.name = "<init>") (hd : y'.cls ≠ "java/lang/invoke/MethodHandle" ∧ y'.cls ≠ "java/lang/invoke/VarHandle" ∧ (parseMethodDescriptor y'.desc).map (fun d => d.parameters.length) = some 0)
    (hdd : d' + 1 ≤ d) (hmL : maxL ≤ 20) (hmc : cs + mc ≤ MC) (hms : ss + ms ≤ MS) {q : Nat} {w0 : va_W} (hc : (st.map fun v => v.category).sum ≤ 8) (dd : decode cc pc = .ok (.invokespecial index, 3))
    (kk : ∀ w1 : va_W, post q (zcA Γ) w1 → zU Γ (cs + mc) (ss + ms) (w0 ++ w1) (pc + 3) L st) : zU Γ cs ss (w0 ++ [(q, e0)]) pc L (.ref q :: st) := by
  obtain ⟨p, l, e, R, s, m, args, below, meth, c, D, cA, A, Q⟩ := Γ
  intro H locs ls hP hD hS hL
  obtain ⟨r1, r2, r3, r4⟩ := hR
  have hts := hY.1.2.2.2.2
  have hA : ∀ z, H.size ≤ z → A z := fun z h => hY.2.2.2.1 z (Nat.le_trans hS.1 h)
  have hF := zfree hD hA
  refine va_callv (va_runI (As := []) hY.1 (hC l D cA q H.size) (cwI 0 hts (zGood hcode) rfl rfl rfl (hts _ hini) (hts _ hlink) (hts _ him) hname hd ⟨by show d' + 1 ≤ _; omega, by show 8 + (maxL + 11) + 40 * d' ≤ _; omega⟩) ⟨zKp_blind, fun U hU hW => ⟨rfl, by rw [hU], by rw [hU]; exact zsing hP, hY.2.2.1.moved hW.alike, hY.2.2.2.2.warm hW⟩⟩ rfl rfl (hL.1.1.trans hlen) rfl (lv_room hc) dd ⟨by omega, by omega⟩) hS (fun z _ h => hF z h) hF (fun w1 t H1 locs1 ht _ hp hB _ hk hS1 => ?_)
  obtain ⟨hP1, hD1⟩ := hB
  rw [ht] at hP1
  obtain ⟨j1, j2⟩ := zjoin hP hD hA hk hP1 hD1
  exact kk w1 hp H1 locs1 ls j1 j2 hS1 hL
end ZU
/-- a constructor's contract out of the walk of its body -/
theorem zKC_of {y : MethodName} {bytes : ByteArray} {maxL d mc ms : Nat} {e0 : va_E} {post : Nat → (Nat → ClassId) → va_W → Prop} (hy : plainName y.cls = true) (hname : y.name = "<init>") (hlen : 1 ≤ maxL)
    (body : ∀ (Γ : zG) (h0 : Nat), zY Γ y.cls bytes maxL → zIn Γ → zR4 Γ d mc ms → zMk Γ mc ms (post h0 (zcA Γ)) → zU Γ 0 0 [(h0, e0)] 0 (some (.ref h0) :: List.replicate (maxL - 1) none) []) : zKC y bytes maxL d mc ms e0 post := by
  intro l D cA h0 sz
  refine Met.ofW (cc := bytes) (maxL := maxL) (ret := none) hy rfl ?_
  intro p e s m args below meth c s₁ B hml hv
  obtain ⟨rfl, hsz, hP, hK, hN⟩ := hv
  have hts := atoms_spec (ws := zws y bytes maxL none) B.pre
  have hent := lv_entry [.ref h0] (n := maxL) hlen
  rw [lg_entry_eq]
  generalize (lg_sl [.ref h0] ++ List.replicate (maxL - (lg_sl [.ref h0]).length) Slot.unset).toArray = ls at hent ⊢
  have hLn : (some (.ref h0) :: List.replicate (maxL - 1) (none : Option Value)).length = maxL := by simp; omega
  refine body (p, l, e, (headSpec (zws y bytes maxL none) (zrm d mc ms)).room, s, m, [.ref h0].toArray, below, meth, c, D, cA, va_A [(h0, e0)] sz, MQ below (va_Qv (post h0 cA) (fun w1 t => va_P D zCl w1 t.heap ∧ va_D (va_A [(h0, e0)] sz) w1) (va_A [(h0, e0)] sz)) [.ref h0].toArray s mc ms (va_A [(h0, e0)] sz)) h0
    ⟨⟨B.exec, B.bytes, hml, findClass_of_methodNamed B.named, fun w hw => hts w (List.mem_cons_of_mem _ hw)⟩, B.notSynchronized, hK, fun q hq => Or.inr (by rw [← hsz]; exact hq), hN⟩
    ((name_of_methodNamed B.named B.method).1.trans hname) ⟨Nat.le_refl _, Nat.le_refl _, Nat.le_refl _, Nat.le_refl _⟩ ⟨rfl, B.returns⟩ s.heap [] ls hP ?_ va_S.rf ⟨⟨?_, hent.2.1, fun q hq => ?_⟩, fun v hv => ?_⟩
  · refine ⟨fun i j z z' hz hz' _ => ?_, fun k z hz => ?_⟩
    · have h1 := (List.getElem?_eq_some_iff.mp hz).1
      have h2 := (List.getElem?_eq_some_iff.mp hz').1
      simp at h1 h2
      omega
    · match k, hz with
      | 0, hz => cases hz; exact Or.inl ⟨0, e0, rfl⟩
      | k + 1, hz => simp at hz
  · rw [hLn]; exact hent.1
  · obtain ⟨j, v⟩ := q
    have h1 := zLl_mem.mp hq
    refine hent.2.2 (j, v) ?_
    match j, h1 with
    | 0, h1 => cases h1; exact List.mem_cons_self
    | j + 1, h1 =>
      have h3 := List.mem_of_getElem? (show (List.replicate (maxL - 1) (none : Option Value))[j]? = some (some v) from h1)
      rw [List.mem_replicate] at h3
      cases h3.2
  · rcases List.mem_cons.mp hv with h | h
    · cases h; rfl
    · rw [List.mem_replicate] at h
      cases h.2
