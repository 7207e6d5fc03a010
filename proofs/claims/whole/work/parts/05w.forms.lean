/-! THE JUDGEMENT V, fifth part: answers in closed forms, and calls by them. -/
def zpS (r : Int) (x1 y1 : zSt) : Option Value → zSt → zSt → Prop := fun v x y => v = some (zI r) ∧ x = x1 ∧ y = y1
def zpV (x1 y1 : zSt) : Option Value → zSt → zSt → Prop := fun v x y => v = none ∧ x = x1 ∧ y = y1
def zpF (ad : Nat → Int → Nat) (k : Nat) (i : Int) (x1 y1 : zSt) : Option Value → zSt → zSt → Prop := fun v x y => v = some (.ref (ad k i)) ∧ x = x1 ∧ y = y1
def zpG (P : Prop) (x1 y1 : zSt) : Option Value → zSt → zSt → Prop := fun v x y => v = none ∧ P ∧ x = x1 ∧ y = y1
def zpH (P : Prop) (ad : Nat → Int → Nat) (k : Nat) (i : Int) (x1 y1 : zSt) : Option Value → zSt → zSt → Prop := fun v x y => v = some (.ref (ad k i)) ∧ P ∧ x = x1 ∧ y = y1
def zpSG (P : Prop) (r : Int) (x1 y1 : zSt) : Option Value → zSt → zSt → Prop := fun v x y => P ∧ v = some (zI r) ∧ x = x1 ∧ y = y1
theorem zpSG_j {P : Prop} {e r : Int} {x y x1 y1 : zSt} (hP : P) (h : e = r) (hx : x = x1) (hy : y = y1) : zpSG P r x1 y1 (some (zI e)) x y := ⟨hP, by rw [h], hx, hy⟩
/-- thrown E, nothing changed -/
def zpX (P : String → Prop) (x1 y1 : zSt) : String → zSt → zSt → Prop := fun E x y => P E ∧ x = x1 ∧ y = y1
def zb (P : Prop) [Decidable P] : Int := if P then 1 else 0
theorem zb_t {P : Prop} [Decidable P] (h : P) : zb P = 1 := if_pos h
theorem zb_f {P : Prop} [Decidable P] (h : ¬ P) : zb P = 0 := if_neg h
theorem zb_01 {P : Prop} [Decidable P] : zb P = 0 ∨ zb P = 1 := by unfold zb; split <;> simp
theorem zb_R {P : Prop} [Decidable P] : zR (zb P) := by rcases zb_01 (P := P) with h | h <;> rw [h] <;> decide
theorem zb_congr {P P' : Prop} [Decidable P] [Decidable P'] (h : P ↔ P') : zb P = zb P' := by
  by_cases h1 : P
  · rw [zb_t h1, zb_t (h.mp h1)]
  · rw [zb_f h1, zb_f (fun q => h1 (h.mpr q))]
theorem zn_b {P : Prop} [Decidable P] : narrow .boolean (zI (zb P)) = zI (zb P) := zn_bool zb_01
theorem zpS_i {e r : Int} {x y : zSt} (h : e = r) : zpS r x y (some (zI e)) x y := ⟨by rw [h], rfl, rfl⟩
theorem zpV_j {x y x1 y1 : zSt} (hx : x = x1) (hy : y = y1) : zpV x1 y1 none x y := ⟨rfl, hx, hy⟩
theorem zpS_j {e r : Int} {x y x1 y1 : zSt} (h : e = r) (hx : x = x1) (hy : y = y1) : zpS r x1 y1 (some (zI e)) x y := ⟨by rw [h], hx, hy⟩
section ZV5
variable {Γ : zG} {ad : Nat → Int → Nat} {cs ss MC MS : Nat} {x y x1 y1 : zSt} {pc : Nat} {L : List (Option Value)} {st : List Value} {own : String} {cc : ByteArray} {nL : Nat}
theorem zV_ifeq_b {P : Prop} [Decidable P] (hX : zX Γ ad own cc nL) {off : Int} {tgt : Nat} (d : decode cc pc = .ok (.ifCond .eq off, 3)) (ht : (pc : Int) + off = (tgt : Int)) (kt : ¬ P → zV Γ ad cs ss x y tgt L st) (kf : P → zV Γ ad cs ss x y (pc + 3) L st) : zV Γ ad cs ss x y pc L (zI (zb P) :: st) := by
  refine zV_if_eq hX d ht zb_R (fun h => kt (fun hp => ?_)) (fun h => kf ?_)
  · rw [zb_t hp] at h
    exact absurd h (by decide)
  · by_cases hp : P
    · exact hp
    · exact absurd (zb_f hp) h
theorem zV_ifne_b {P : Prop} [Decidable P] (hX : zX Γ ad own cc nL) {off : Int} {tgt : Nat} (d : decode cc pc = .ok (.ifCond .ne off, 3)) (ht : (pc : Int) + off = (tgt : Int)) (kt : P → zV Γ ad cs ss x y tgt L st) (kf : ¬ P → zV Γ ad cs ss x y (pc + 3) L st) : zV Γ ad cs ss x y pc L (zI (zb P) :: st) := by
  refine zV_if_ne hX d ht zb_R (fun h => kt ?_) (fun h => kf (fun hp => ?_))
  · by_cases hp : P
    · exact hp
    · exact absurd (zb_f hp) h
  · rw [zb_t hp] at h
    exact absurd h (by decide)
/-- throw new E("text") -/
theorem zV_throwW (hX : zX Γ ad RX4 cc nL) (hlen : L.length = nL) {d : Nat} (hN : zN Γ d MC MS) (hdd : 6 ≤ d) (hmc : cs + 1 ≤ MC) (hms : ss + 6 ≤ MS) {cls : String} {ik is ic ix : Nat} {rx : ByteArray} (x0 : decode rx 0 = .ok (.aload_n 0, 1)) (x1 : decode rx 1 = .ok (.aload_n 1, 1)) (x2 : decode rx 2 = .ok (.invokespecial ix, 3)) (x5 : decode rx 5 = .ok (.return_, 1))
    (hat : ∀ w ∈ zAt RX4 ic cls ix rx ["java/lang/RuntimeException", "java/lang/Exception"], w ∈ zWL ∨ w ∈ zxw) (hk : Cond.classLink RX4 ik cls ∈ zWL) (hini : Cond.initialized cls ∈ zWL) (text : String) (hstr : (is, text) ∈ zstrs) (hcls : Bundle.fit cls = true)
    (d0 : decode cc pc = .ok (.new ik, 3)) (d3 : decode cc (pc + 3) = .ok (.dup, 1)) (d4 : decode cc (pc + 4) = .ok (.ldc_w is, 3)) (d6 : decode cc (pc + 7) = .ok (.invokespecial ic, 3)) (d9 : decode cc (pc + 10) = .ok (.athrow, 1))
    (kk : zVX Γ ad (cs + 1) (ss + 6) x y (pc + 10) L cls) : zV Γ ad cs ss x y pc L [] := by
  obtain ⟨p, l, e, R, s, m, args, below, meth, c, D, cA, A, Q⟩ := Γ
  intro H locs ls hW hS hL
  obtain ⟨⟨r1, r2, r3, r4⟩, hT, hl⟩ := hN
  obtain ⟨sa, hsa⟩ := hT.2.2.1 _ hstr
  have hts := hX.1.2.2.2.2
  refine zx_throwW (names := ["java/lang/RuntimeException", "java/lang/Exception"]) (A := A) hX.1.1 hX.1.2.1 hl x0 x1 x2 x5 hX.1.2.2.2.1 hcls (by decide) (hts _ hk) (hts _ hini) hsa (fun w hw => ?_) (fun w hw => ?_) hT.1 hT.2.1 hS (hL.1.1.trans (hlen.trans hX.1.2.2.1.symm)) d0 d3 d4 d6 (by show 2 + 3 < _; omega) (by show 0 + (13 * (2 + 1) + 43) ≤ _; omega) (by omega) (by omega) d9 (fun q H1 ce g1 g2 g3 g4 g5 => kk H1 locs ls q ce [] (hW.kept g2) ⟨Nat.le_trans hS.1 g1, fun z h1 h2 => (g2 z (Nat.lt_of_lt_of_le h1 hS.1)).trans (hS.2.1 z h1 h2), hS.2.2⟩ hL g3 g4 g5)
  · rcases hat w hw with h | h
    · exact hts w h
    · exact va_tabs (zxw_tab h) rfl (hT.2.2.2 w h)
  · unfold vx_ot
    rcases List.mem_cons.mp hw with rfl | hw
    · rfl
    · rcases List.mem_cons.mp hw with rfl | hw
      · rfl
      · rcases hat w hw with h | h
        · rw [zw_good h, Bool.or_true]
        · rw [zxw_tab h, Bool.true_or]
def zxor (a b : Int) : Int := (Int32.ofInt a ^^^ Int32.ofInt b).toInt
theorem zV_ixor (hX : zX Γ ad own cc nL) {a b : Int} (d : decode cc pc = .ok (.ixor, 1)) (kk : zV Γ ad cs ss x y (pc + 1) L (zI (zxor a b) :: st)) : zV Γ ad cs ss x y pc L (zI b :: zI a :: st) := by
  obtain ⟨p, l, e, R, s, m, args, below, meth, c, D, cA, A, Q⟩ := Γ
  intro H locs ls hW hS hL
  refine lv_ixor hX.1.1 hX.1.2.1 d ?_
  rw [← zi_back]
  exact kk H locs ls hW hS hL
theorem zxor_nn {a b : Int} (ha : 0 ≤ a ∧ a ≤ 2147483647) (hb : 0 ≤ b ∧ b ≤ 2147483647) : 0 ≤ zxor a b ∧ zR (zxor a b) := by
  refine ⟨?_, zR_of _⟩
  have h1 : (Int32.ofInt a).toBitVec.msb = false := by
    rw [BitVec.msb_eq_toInt]
    have := zi_toInt (z := a) ⟨by omega, by omega⟩
    show decide ((Int32.ofInt a).toInt < 0) = false
    rw [this]
    simp; omega
  have h2 : (Int32.ofInt b).toBitVec.msb = false := by
    rw [BitVec.msb_eq_toInt]
    have := zi_toInt (z := b) ⟨by omega, by omega⟩
    show decide ((Int32.ofInt b).toInt < 0) = false
    rw [this]
    simp; omega
  have h3 : (Int32.ofInt a ^^^ Int32.ofInt b).toBitVec.msb = false := by
    rw [Int32.toBitVec_xor, BitVec.msb_xor, h1, h2]
    rfl
  rw [BitVec.msb_eq_toInt] at h3
  have h4 := of_decide_eq_false h3
  show 0 ≤ (Int32.ofInt a ^^^ Int32.ofInt b).toBitVec.toInt
  omega
theorem zV_i2l (hX : zX Γ ad own cc nL) {a : Int} (d : decode cc pc = .ok (.i2l, 1)) (ha : zR a) (kk : zV Γ ad cs ss x y (pc + 1) L (.long (Int64.ofInt a) :: st)) : zV Γ ad cs ss x y pc L (zI a :: st) := by
  obtain ⟨p, l, e, R, s, m, args, below, meth, c, D, cA, A, Q⟩ := Γ
  intro H locs ls hW hS hL
  refine lv_i2l hX.1.1 hX.1.2.1 d (Int32.toInt64_ofInt ?_ ?_) (kk H locs ls hW hS hL)
  · have e1 : Int32.minValue.toInt = -2147483648 := by decide
    rw [e1]; omega
  · have e2 : Int32.maxValue.toInt = 2147483647 := by decide
    rw [e2]; omega
theorem zV_lmul (hX : zX Γ ad own cc nL) {a b : Int} (d : decode cc pc = .ok (.lmul, 1)) (kk : zV Γ ad cs ss x y (pc + 1) L (.long (Int64.ofInt (a * b)) :: st)) : zV Γ ad cs ss x y pc L (.long (Int64.ofInt b) :: .long (Int64.ofInt a) :: st) := by
  obtain ⟨p, l, e, R, s, m, args, below, meth, c, D, cA, A, Q⟩ := Γ
  intro H locs ls hW hS hL
  refine lv_lmul hX.1.1 hX.1.2.1 d ?_
  rw [← Int64.ofInt_mul]
  exact kk H locs ls hW hS hL
theorem zV_ladd (hX : zX Γ ad own cc nL) {a b : Int} (d : decode cc pc = .ok (.ladd, 1)) (kk : zV Γ ad cs ss x y (pc + 1) L (.long (Int64.ofInt (a + b)) :: st)) : zV Γ ad cs ss x y pc L (.long (Int64.ofInt b) :: .long (Int64.ofInt a) :: st) := by
  obtain ⟨p, l, e, R, s, m, args, below, meth, c, D, cA, A, Q⟩ := Γ
  intro H locs ls hW hS hL
  refine lv_ladd hX.1.1 hX.1.2.1 d ?_
  rw [← Int64.ofInt_add]
  exact kk H locs ls hW hS hL
theorem zV_ldcw (hX : zX Γ ad own cc nL) {n : Int} {i : Nat} (hw : Cond.constant own i (Int32.ofInt n) ∈ zWL) (d : decode cc pc = .ok (.ldc_w i, 3)) (kk : zV Γ ad cs ss x y (pc + 3) L (zI n :: st)) : zV Γ ad cs ss x y pc L st := by
  obtain ⟨p, l, e, R, s, m, args, below, meth, c, D, cA, A, Q⟩ := Γ
  intro H locs ls hW hS hL
  exact lv_ldcw hX.1.1 hX.1.2.1 hX.1.2.2.2.1 (hX.1.2.2.2.2 _ hw) d (kk H locs ls hW hS hL)
theorem zk_265 : Cond.constant RJ6 265 (Int32.ofInt 1431655765) ∈ zWL := by
  have h : Int32.ofInt 1431655765 = 1431655765 := by decide
  rw [h]
  exact zw_k_265
theorem zk_266 : Cond.constant RJ6 266 (Int32.ofInt 858993459) ∈ zWL := by
  have h : Int32.ofInt 858993459 = 858993459 := by decide
  rw [h]
  exact zw_k_266
theorem zk_267 : Cond.constant RJ6 267 (Int32.ofInt 252645135) ∈ zWL := by
  have h : Int32.ofInt 252645135 = 252645135 := by decide
  rw [h]
  exact zw_k_267
theorem zV_cSS (hX : zX Γ ad own cc nL) (hlen : L.length = nL) {d mc ms d' index maxL n : Nat} (hN : zN Γ d MC MS) {y' : MethodName} {bytes : ByteArray} {ret' : Option FieldType} {As : List Value}
     {r : Int} (hC : zC y' bytes maxL ret' d' mc ms As ad x y (zpS r x1 y1) zF) (hcode : Cond.code y' bytes maxL ret' ∈ zWL) (hlink : Cond.methodLink own index y' ∈ zWL) (hini : Cond.initialized y'.cls ∈ zWL) (hst : Cond.static y' ∈ zWL)
    (hd : y'.cls ≠ "java/lang/invoke/MethodHandle" ∧ y'.cls ≠ "java/lang/invoke/VarHandle" ∧ (parseMethodDescriptor y'.desc).map (fun d => d.parameters.length) = some n) (hn : As.length = n) (hdd : d' + 1 ≤ d) (hmL : maxL ≤ 20) (hmc : cs + mc ≤ MC) (hms : ss + ms ≤ MS) {rest : List Value} (hst0 : st = As.reverse ++ rest) (hc : (rest.map fun v => v.category).sum ≤ 8) (hg : decode cc pc = .ok (.invokestatic index, 3))
    (kk : zV Γ ad (cs + mc) (ss + ms) x1 y1 (pc + 3) L (zI r :: rest)) : zV Γ ad cs ss x y pc L st := by
  refine zV_callS hX hlen hN hC hcode hlink hini hst hd hn hdd hmL hmc hms hst0 hc hg (fun v x' y' h => ?_) (fun _ _ _ h => h.elim)
  obtain ⟨rfl, rfl, rfl⟩ := h
  exact kk
theorem zV_cSSX (hX : zX Γ ad own cc nL) (hlen : L.length = nL) {d mc ms d' index maxL n : Nat} (hN : zN Γ d MC MS) {y' : MethodName} {bytes : ByteArray} {ret' : Option FieldType} {As : List Value} {px' : String → zSt → zSt → Prop}
     {r : Int} (hC : zC y' bytes maxL ret' d' mc ms As ad x y (zpS r x1 y1) px') (hcode : Cond.code y' bytes maxL ret' ∈ zWL) (hlink : Cond.methodLink own index y' ∈ zWL) (hini : Cond.initialized y'.cls ∈ zWL) (hst : Cond.static y' ∈ zWL)
    (hd : y'.cls ≠ "java/lang/invoke/MethodHandle" ∧ y'.cls ≠ "java/lang/invoke/VarHandle" ∧ (parseMethodDescriptor y'.desc).map (fun d => d.parameters.length) = some n) (hn : As.length = n) (hdd : d' + 1 ≤ d) (hmL : maxL ≤ 20) (hmc : cs + mc ≤ MC) (hms : ss + ms ≤ MS) {rest : List Value} (hst0 : st = As.reverse ++ rest) (hc : (rest.map fun v => v.category).sum ≤ 8) (hg : decode cc pc = .ok (.invokestatic index, 3))
    (kk : zV Γ ad (cs + mc) (ss + ms) x1 y1 (pc + 3) L (zI r :: rest))
    (kx : ∀ (E : String) (x' y' : zSt), px' E x' y' → zVX Γ ad (cs + mc) (ss + ms) x' y' pc L E) : zV Γ ad cs ss x y pc L st := by
  refine zV_callS hX hlen hN hC hcode hlink hini hst hd hn hdd hmL hmc hms hst0 hc hg (fun v x' y' h => ?_) kx
  obtain ⟨rfl, rfl, rfl⟩ := h
  exact kk
theorem zV_cSV (hX : zX Γ ad own cc nL) (hlen : L.length = nL) {d mc ms d' index maxL n : Nat} (hN : zN Γ d MC MS) {y' : MethodName} {bytes : ByteArray} {ret' : Option FieldType} {As : List Value}
     (hC : zC y' bytes maxL ret' d' mc ms As ad x y (zpV x1 y1) zF) (hcode : Cond.code y' bytes maxL ret' ∈ zWL) (hlink : Cond.methodLink own index y' ∈ zWL) (hini : Cond.initialized y'.cls ∈ zWL) (hst : Cond.static y' ∈ zWL)
    (hd : y'.cls ≠ "java/lang/invoke/MethodHandle" ∧ y'.cls ≠ "java/lang/invoke/VarHandle" ∧ (parseMethodDescriptor y'.desc).map (fun d => d.parameters.length) = some n) (hn : As.length = n) (hdd : d' + 1 ≤ d) (hmL : maxL ≤ 20) (hmc : cs + mc ≤ MC) (hms : ss + ms ≤ MS) {rest : List Value} (hst0 : st = As.reverse ++ rest) (hc : (rest.map fun v => v.category).sum ≤ 8) (hg : decode cc pc = .ok (.invokestatic index, 3))
    (kk : zV Γ ad (cs + mc) (ss + ms) x1 y1 (pc + 3) L rest) : zV Γ ad cs ss x y pc L st := by
  refine zV_callS hX hlen hN hC hcode hlink hini hst hd hn hdd hmL hmc hms hst0 hc hg (fun v x' y' h => ?_) (fun _ _ _ h => h.elim)
  obtain ⟨rfl, rfl, rfl⟩ := h
  exact kk
theorem zV_cSVX (hX : zX Γ ad own cc nL) (hlen : L.length = nL) {d mc ms d' index maxL n : Nat} (hN : zN Γ d MC MS) {y' : MethodName} {bytes : ByteArray} {ret' : Option FieldType} {As : List Value} {px' : String → zSt → zSt → Prop}
     (hC : zC y' bytes maxL ret' d' mc ms As ad x y (zpV x1 y1) px') (hcode : Cond.code y' bytes maxL ret' ∈ zWL) (hlink : Cond.methodLink own index y' ∈ zWL) (hini : Cond.initialized y'.cls ∈ zWL) (hst : Cond.static y' ∈ zWL)
    (hd : y'.cls ≠ "java/lang/invoke/MethodHandle" ∧ y'.cls ≠ "java/lang/invoke/VarHandle" ∧ (parseMethodDescriptor y'.desc).map (fun d => d.parameters.length) = some n) (hn : As.length = n) (hdd : d' + 1 ≤ d) (hmL : maxL ≤ 20) (hmc : cs + mc ≤ MC) (hms : ss + ms ≤ MS) {rest : List Value} (hst0 : st = As.reverse ++ rest) (hc : (rest.map fun v => v.category).sum ≤ 8) (hg : decode cc pc = .ok (.invokestatic index, 3))
    (kk : zV Γ ad (cs + mc) (ss + ms) x1 y1 (pc + 3) L rest)
    (kx : ∀ (E : String) (x' y' : zSt), px' E x' y' → zVX Γ ad (cs + mc) (ss + ms) x' y' pc L E) : zV Γ ad cs ss x y pc L st := by
  refine zV_callS hX hlen hN hC hcode hlink hini hst hd hn hdd hmL hmc hms hst0 hc hg (fun v x' y' h => ?_) kx
  obtain ⟨rfl, rfl, rfl⟩ := h
  exact kk
theorem zV_cSF (hX : zX Γ ad own cc nL) (hlen : L.length = nL) {d mc ms d' index maxL n : Nat} (hN : zN Γ d MC MS) {y' : MethodName} {bytes : ByteArray} {ret' : Option FieldType} {As : List Value}
     {rk : Nat} {ri : Int} (hC : zC y' bytes maxL ret' d' mc ms As ad x y (zpF ad rk ri x1 y1) zF) (hcode : Cond.code y' bytes maxL ret' ∈ zWL) (hlink : Cond.methodLink own index y' ∈ zWL) (hini : Cond.initialized y'.cls ∈ zWL) (hst : Cond.static y' ∈ zWL)
    (hd : y'.cls ≠ "java/lang/invoke/MethodHandle" ∧ y'.cls ≠ "java/lang/invoke/VarHandle" ∧ (parseMethodDescriptor y'.desc).map (fun d => d.parameters.length) = some n) (hn : As.length = n) (hdd : d' + 1 ≤ d) (hmL : maxL ≤ 20) (hmc : cs + mc ≤ MC) (hms : ss + ms ≤ MS) {rest : List Value} (hst0 : st = As.reverse ++ rest) (hc : (rest.map fun v => v.category).sum ≤ 8) (hg : decode cc pc = .ok (.invokestatic index, 3))
    (kk : zV Γ ad (cs + mc) (ss + ms) x1 y1 (pc + 3) L (.ref (ad rk ri) :: rest)) : zV Γ ad cs ss x y pc L st := by
  refine zV_callS hX hlen hN hC hcode hlink hini hst hd hn hdd hmL hmc hms hst0 hc hg (fun v x' y' h => ?_) (fun _ _ _ h => h.elim)
  obtain ⟨rfl, rfl, rfl⟩ := h
  exact kk
theorem zV_cSFX (hX : zX Γ ad own cc nL) (hlen : L.length = nL) {d mc ms d' index maxL n : Nat} (hN : zN Γ d MC MS) {y' : MethodName} {bytes : ByteArray} {ret' : Option FieldType} {As : List Value} {px' : String → zSt → zSt → Prop}
     {rk : Nat} {ri : Int} (hC : zC y' bytes maxL ret' d' mc ms As ad x y (zpF ad rk ri x1 y1) px') (hcode : Cond.code y' bytes maxL ret' ∈ zWL) (hlink : Cond.methodLink own index y' ∈ zWL) (hini : Cond.initialized y'.cls ∈ zWL) (hst : Cond.static y' ∈ zWL)
    (hd : y'.cls ≠ "java/lang/invoke/MethodHandle" ∧ y'.cls ≠ "java/lang/invoke/VarHandle" ∧ (parseMethodDescriptor y'.desc).map (fun d => d.parameters.length) = some n) (hn : As.length = n) (hdd : d' + 1 ≤ d) (hmL : maxL ≤ 20) (hmc : cs + mc ≤ MC) (hms : ss + ms ≤ MS) {rest : List Value} (hst0 : st = As.reverse ++ rest) (hc : (rest.map fun v => v.category).sum ≤ 8) (hg : decode cc pc = .ok (.invokestatic index, 3))
    (kk : zV Γ ad (cs + mc) (ss + ms) x1 y1 (pc + 3) L (.ref (ad rk ri) :: rest))
    (kx : ∀ (E : String) (x' y' : zSt), px' E x' y' → zVX Γ ad (cs + mc) (ss + ms) x' y' pc L E) : zV Γ ad cs ss x y pc L st := by
  refine zV_callS hX hlen hN hC hcode hlink hini hst hd hn hdd hmL hmc hms hst0 hc hg (fun v x' y' h => ?_) kx
  obtain ⟨rfl, rfl, rfl⟩ := h
  exact kk
theorem zV_cSGX (hX : zX Γ ad own cc nL) (hlen : L.length = nL) {d mc ms d' index maxL n : Nat} (hN : zN Γ d MC MS) {y' : MethodName} {bytes : ByteArray} {ret' : Option FieldType} {As : List Value} {px' : String → zSt → zSt → Prop}
     {P : Prop} (hC : zC y' bytes maxL ret' d' mc ms As ad x y (zpG P x1 y1) px') (hcode : Cond.code y' bytes maxL ret' ∈ zWL) (hlink : Cond.methodLink own index y' ∈ zWL) (hini : Cond.initialized y'.cls ∈ zWL) (hst : Cond.static y' ∈ zWL)
    (hd : y'.cls ≠ "java/lang/invoke/MethodHandle" ∧ y'.cls ≠ "java/lang/invoke/VarHandle" ∧ (parseMethodDescriptor y'.desc).map (fun d => d.parameters.length) = some n) (hn : As.length = n) (hdd : d' + 1 ≤ d) (hmL : maxL ≤ 20) (hmc : cs + mc ≤ MC) (hms : ss + ms ≤ MS) {rest : List Value} (hst0 : st = As.reverse ++ rest) (hc : (rest.map fun v => v.category).sum ≤ 8) (hg : decode cc pc = .ok (.invokestatic index, 3))
    (kk : P → zV Γ ad (cs + mc) (ss + ms) x1 y1 (pc + 3) L rest)
    (kx : ∀ (E : String) (x' y' : zSt), px' E x' y' → zVX Γ ad (cs + mc) (ss + ms) x' y' pc L E) : zV Γ ad cs ss x y pc L st := by
  refine zV_callS hX hlen hN hC hcode hlink hini hst hd hn hdd hmL hmc hms hst0 hc hg (fun v x' y' h => ?_) kx
  obtain ⟨rfl, hP, rfl, rfl⟩ := h
  exact kk hP
theorem zV_cSHX (hX : zX Γ ad own cc nL) (hlen : L.length = nL) {d mc ms d' index maxL n : Nat} (hN : zN Γ d MC MS) {y' : MethodName} {bytes : ByteArray} {ret' : Option FieldType} {As : List Value} {px' : String → zSt → zSt → Prop}
     {P : Prop} {rk : Nat} {ri : Int} (hC : zC y' bytes maxL ret' d' mc ms As ad x y (zpH P ad rk ri x1 y1) px') (hcode : Cond.code y' bytes maxL ret' ∈ zWL) (hlink : Cond.methodLink own index y' ∈ zWL) (hini : Cond.initialized y'.cls ∈ zWL) (hst : Cond.static y' ∈ zWL)
    (hd : y'.cls ≠ "java/lang/invoke/MethodHandle" ∧ y'.cls ≠ "java/lang/invoke/VarHandle" ∧ (parseMethodDescriptor y'.desc).map (fun d => d.parameters.length) = some n) (hn : As.length = n) (hdd : d' + 1 ≤ d) (hmL : maxL ≤ 20) (hmc : cs + mc ≤ MC) (hms : ss + ms ≤ MS) {rest : List Value} (hst0 : st = As.reverse ++ rest) (hc : (rest.map fun v => v.category).sum ≤ 8) (hg : decode cc pc = .ok (.invokestatic index, 3))
    (kk : P → zV Γ ad (cs + mc) (ss + ms) x1 y1 (pc + 3) L (.ref (ad rk ri) :: rest))
    (kx : ∀ (E : String) (x' y' : zSt), px' E x' y' → zVX Γ ad (cs + mc) (ss + ms) x' y' pc L E) : zV Γ ad cs ss x y pc L st := by
  refine zV_callS hX hlen hN hC hcode hlink hini hst hd hn hdd hmL hmc hms hst0 hc hg (fun v x' y' h => ?_) kx
  obtain ⟨rfl, hP, rfl, rfl⟩ := h
  exact kk hP
theorem zV_cVS (hX : zX Γ ad own cc nL) (hlen : L.length = nL) {d mc ms d' index maxL n : Nat} (hN : zN Γ d MC MS) {y' : MethodName} {bytes : ByteArray} {ret' : Option FieldType} {As : List Value} {C : String} {T : u_T} {N ci cn : Nat} (k : Nat) {i : Int} (hcl : zCl[ci]? = some (C, T, N)) (hsh : zsh k = (0, ci, N, cn)) (hi : 0 ≤ i ∧ i < cn)
     {r : Int} (hC : zC y' bytes maxL ret' d' mc ms (.ref (ad k i) :: As) ad x y (zpS r x1 y1) zF) (hcode : Cond.code y' bytes maxL ret' ∈ zWL) (hlink : Cond.methodLink own index y' ∈ zWL) (hini : Cond.initialized y'.cls ∈ zWL) (hst : Cond.instanceMethod y' ∈ zWL) (hse : Cond.selects C y' y' ∈ zWL)
    (hd : y'.cls ≠ "java/lang/invoke/MethodHandle" ∧ y'.cls ≠ "java/lang/invoke/VarHandle" ∧ (parseMethodDescriptor y'.desc).map (fun d => d.parameters.length) = some n) (hn : As.length = n) (hdd : d' + 1 ≤ d) (hmL : maxL ≤ 20) (hmc : cs + mc ≤ MC) (hms : ss + ms ≤ MS) {rest : List Value} (hst0 : st = As.reverse ++ .ref (ad k i) :: rest) (hc : (rest.map fun v => v.category).sum ≤ 8) (hg : decode cc pc = .ok (.invokevirtual index, 3))
    (kk : zV Γ ad (cs + mc) (ss + ms) x1 y1 (pc + 3) L (zI r :: rest)) : zV Γ ad cs ss x y pc L st := by
  refine zV_callV hX hlen hN k hcl hsh hi hC hcode hlink hini hst hse hd hn hdd hmL hmc hms hst0 hc hg (fun v x' y' h => ?_) (fun _ _ _ h => h.elim)
  obtain ⟨rfl, rfl, rfl⟩ := h
  exact kk
theorem zV_cVSX (hX : zX Γ ad own cc nL) (hlen : L.length = nL) {d mc ms d' index maxL n : Nat} (hN : zN Γ d MC MS) {y' : MethodName} {bytes : ByteArray} {ret' : Option FieldType} {As : List Value} {C : String} {T : u_T} {N ci cn : Nat} (k : Nat) {i : Int} (hcl : zCl[ci]? = some (C, T, N)) (hsh : zsh k = (0, ci, N, cn)) (hi : 0 ≤ i ∧ i < cn) {px' : String → zSt → zSt → Prop}
     {r : Int} (hC : zC y' bytes maxL ret' d' mc ms (.ref (ad k i) :: As) ad x y (zpS r x1 y1) px') (hcode : Cond.code y' bytes maxL ret' ∈ zWL) (hlink : Cond.methodLink own index y' ∈ zWL) (hini : Cond.initialized y'.cls ∈ zWL) (hst : Cond.instanceMethod y' ∈ zWL) (hse : Cond.selects C y' y' ∈ zWL)
    (hd : y'.cls ≠ "java/lang/invoke/MethodHandle" ∧ y'.cls ≠ "java/lang/invoke/VarHandle" ∧ (parseMethodDescriptor y'.desc).map (fun d => d.parameters.length) = some n) (hn : As.length = n) (hdd : d' + 1 ≤ d) (hmL : maxL ≤ 20) (hmc : cs + mc ≤ MC) (hms : ss + ms ≤ MS) {rest : List Value} (hst0 : st = As.reverse ++ .ref (ad k i) :: rest) (hc : (rest.map fun v => v.category).sum ≤ 8) (hg : decode cc pc = .ok (.invokevirtual index, 3))
    (kk : zV Γ ad (cs + mc) (ss + ms) x1 y1 (pc + 3) L (zI r :: rest))
    (kx : ∀ (E : String) (x' y' : zSt), px' E x' y' → zVX Γ ad (cs + mc) (ss + ms) x' y' pc L E) : zV Γ ad cs ss x y pc L st := by
  refine zV_callV hX hlen hN k hcl hsh hi hC hcode hlink hini hst hse hd hn hdd hmL hmc hms hst0 hc hg (fun v x' y' h => ?_) kx
  obtain ⟨rfl, rfl, rfl⟩ := h
  exact kk
theorem zV_cVV (hX : zX Γ ad own cc nL) (hlen : L.length = nL) {d mc ms d' index maxL n : Nat} (hN : zN Γ d MC MS) {y' : MethodName} {bytes : ByteArray} {ret' : Option FieldType} {As : List Value} {C : String} {T : u_T} {N ci cn : Nat} (k : Nat) {i : Int} (hcl : zCl[ci]? = some (C, T, N)) (hsh : zsh k = (0, ci, N, cn)) (hi : 0 ≤ i ∧ i < cn)
     (hC : zC y' bytes maxL ret' d' mc ms (.ref (ad k i) :: As) ad x y (zpV x1 y1) zF) (hcode : Cond.code y' bytes maxL ret' ∈ zWL) (hlink : Cond.methodLink own index y' ∈ zWL) (hini : Cond.initialized y'.cls ∈ zWL) (hst : Cond.instanceMethod y' ∈ zWL) (hse : Cond.selects C y' y' ∈ zWL)
    (hd : y'.cls ≠ "java/lang/invoke/MethodHandle" ∧ y'.cls ≠ "java/lang/invoke/VarHandle" ∧ (parseMethodDescriptor y'.desc).map (fun d => d.parameters.length) = some n) (hn : As.length = n) (hdd : d' + 1 ≤ d) (hmL : maxL ≤ 20) (hmc : cs + mc ≤ MC) (hms : ss + ms ≤ MS) {rest : List Value} (hst0 : st = As.reverse ++ .ref (ad k i) :: rest) (hc : (rest.map fun v => v.category).sum ≤ 8) (hg : decode cc pc = .ok (.invokevirtual index, 3))
    (kk : zV Γ ad (cs + mc) (ss + ms) x1 y1 (pc + 3) L rest) : zV Γ ad cs ss x y pc L st := by
  refine zV_callV hX hlen hN k hcl hsh hi hC hcode hlink hini hst hse hd hn hdd hmL hmc hms hst0 hc hg (fun v x' y' h => ?_) (fun _ _ _ h => h.elim)
  obtain ⟨rfl, rfl, rfl⟩ := h
  exact kk
theorem zV_cVVX (hX : zX Γ ad own cc nL) (hlen : L.length = nL) {d mc ms d' index maxL n : Nat} (hN : zN Γ d MC MS) {y' : MethodName} {bytes : ByteArray} {ret' : Option FieldType} {As : List Value} {C : String} {T : u_T} {N ci cn : Nat} (k : Nat) {i : Int} (hcl : zCl[ci]? = some (C, T, N)) (hsh : zsh k = (0, ci, N, cn)) (hi : 0 ≤ i ∧ i < cn) {px' : String → zSt → zSt → Prop}
     (hC : zC y' bytes maxL ret' d' mc ms (.ref (ad k i) :: As) ad x y (zpV x1 y1) px') (hcode : Cond.code y' bytes maxL ret' ∈ zWL) (hlink : Cond.methodLink own index y' ∈ zWL) (hini : Cond.initialized y'.cls ∈ zWL) (hst : Cond.instanceMethod y' ∈ zWL) (hse : Cond.selects C y' y' ∈ zWL)
    (hd : y'.cls ≠ "java/lang/invoke/MethodHandle" ∧ y'.cls ≠ "java/lang/invoke/VarHandle" ∧ (parseMethodDescriptor y'.desc).map (fun d => d.parameters.length) = some n) (hn : As.length = n) (hdd : d' + 1 ≤ d) (hmL : maxL ≤ 20) (hmc : cs + mc ≤ MC) (hms : ss + ms ≤ MS) {rest : List Value} (hst0 : st = As.reverse ++ .ref (ad k i) :: rest) (hc : (rest.map fun v => v.category).sum ≤ 8) (hg : decode cc pc = .ok (.invokevirtual index, 3))
    (kk : zV Γ ad (cs + mc) (ss + ms) x1 y1 (pc + 3) L rest)
    (kx : ∀ (E : String) (x' y' : zSt), px' E x' y' → zVX Γ ad (cs + mc) (ss + ms) x' y' pc L E) : zV Γ ad cs ss x y pc L st := by
  refine zV_callV hX hlen hN k hcl hsh hi hC hcode hlink hini hst hse hd hn hdd hmL hmc hms hst0 hc hg (fun v x' y' h => ?_) kx
  obtain ⟨rfl, rfl, rfl⟩ := h
  exact kk
theorem zV_cVF (hX : zX Γ ad own cc nL) (hlen : L.length = nL) {d mc ms d' index maxL n : Nat} (hN : zN Γ d MC MS) {y' : MethodName} {bytes : ByteArray} {ret' : Option FieldType} {As : List Value} {C : String} {T : u_T} {N ci cn : Nat} (k : Nat) {i : Int} (hcl : zCl[ci]? = some (C, T, N)) (hsh : zsh k = (0, ci, N, cn)) (hi : 0 ≤ i ∧ i < cn)
     {rk : Nat} {ri : Int} (hC : zC y' bytes maxL ret' d' mc ms (.ref (ad k i) :: As) ad x y (zpF ad rk ri x1 y1) zF) (hcode : Cond.code y' bytes maxL ret' ∈ zWL) (hlink : Cond.methodLink own index y' ∈ zWL) (hini : Cond.initialized y'.cls ∈ zWL) (hst : Cond.instanceMethod y' ∈ zWL) (hse : Cond.selects C y' y' ∈ zWL)
    (hd : y'.cls ≠ "java/lang/invoke/MethodHandle" ∧ y'.cls ≠ "java/lang/invoke/VarHandle" ∧ (parseMethodDescriptor y'.desc).map (fun d => d.parameters.length) = some n) (hn : As.length = n) (hdd : d' + 1 ≤ d) (hmL : maxL ≤ 20) (hmc : cs + mc ≤ MC) (hms : ss + ms ≤ MS) {rest : List Value} (hst0 : st = As.reverse ++ .ref (ad k i) :: rest) (hc : (rest.map fun v => v.category).sum ≤ 8) (hg : decode cc pc = .ok (.invokevirtual index, 3))
    (kk : zV Γ ad (cs + mc) (ss + ms) x1 y1 (pc + 3) L (.ref (ad rk ri) :: rest)) : zV Γ ad cs ss x y pc L st := by
  refine zV_callV hX hlen hN k hcl hsh hi hC hcode hlink hini hst hse hd hn hdd hmL hmc hms hst0 hc hg (fun v x' y' h => ?_) (fun _ _ _ h => h.elim)
  obtain ⟨rfl, rfl, rfl⟩ := h
  exact kk
theorem zV_cVFX (hX : zX Γ ad own cc nL) (hlen : L.length = nL) {d mc ms d' index maxL n : Nat} (hN : zN Γ d MC MS) {y' : MethodName} {bytes : ByteArray} {ret' : Option FieldType} {As : List Value} {C : String} {T : u_T} {N ci cn : Nat} (k : Nat) {i : Int} (hcl : zCl[ci]? = some (C, T, N)) (hsh : zsh k = (0, ci, N, cn)) (hi : 0 ≤ i ∧ i < cn) {px' : String → zSt → zSt → Prop}
     {rk : Nat} {ri : Int} (hC : zC y' bytes maxL ret' d' mc ms (.ref (ad k i) :: As) ad x y (zpF ad rk ri x1 y1) px') (hcode : Cond.code y' bytes maxL ret' ∈ zWL) (hlink : Cond.methodLink own index y' ∈ zWL) (hini : Cond.initialized y'.cls ∈ zWL) (hst : Cond.instanceMethod y' ∈ zWL) (hse : Cond.selects C y' y' ∈ zWL)
    (hd : y'.cls ≠ "java/lang/invoke/MethodHandle" ∧ y'.cls ≠ "java/lang/invoke/VarHandle" ∧ (parseMethodDescriptor y'.desc).map (fun d => d.parameters.length) = some n) (hn : As.length = n) (hdd : d' + 1 ≤ d) (hmL : maxL ≤ 20) (hmc : cs + mc ≤ MC) (hms : ss + ms ≤ MS) {rest : List Value} (hst0 : st = As.reverse ++ .ref (ad k i) :: rest) (hc : (rest.map fun v => v.category).sum ≤ 8) (hg : decode cc pc = .ok (.invokevirtual index, 3))
    (kk : zV Γ ad (cs + mc) (ss + ms) x1 y1 (pc + 3) L (.ref (ad rk ri) :: rest))
    (kx : ∀ (E : String) (x' y' : zSt), px' E x' y' → zVX Γ ad (cs + mc) (ss + ms) x' y' pc L E) : zV Γ ad cs ss x y pc L st := by
  refine zV_callV hX hlen hN k hcl hsh hi hC hcode hlink hini hst hse hd hn hdd hmL hmc hms hst0 hc hg (fun v x' y' h => ?_) kx
  obtain ⟨rfl, rfl, rfl⟩ := h
  exact kk
theorem zV_cVGX (hX : zX Γ ad own cc nL) (hlen : L.length = nL) {d mc ms d' index maxL n : Nat} (hN : zN Γ d MC MS) {y' : MethodName} {bytes : ByteArray} {ret' : Option FieldType} {As : List Value} {C : String} {T : u_T} {N ci cn : Nat} (k : Nat) {i : Int} (hcl : zCl[ci]? = some (C, T, N)) (hsh : zsh k = (0, ci, N, cn)) (hi : 0 ≤ i ∧ i < cn) {px' : String → zSt → zSt → Prop}
     {P : Prop} (hC : zC y' bytes maxL ret' d' mc ms (.ref (ad k i) :: As) ad x y (zpG P x1 y1) px') (hcode : Cond.code y' bytes maxL ret' ∈ zWL) (hlink : Cond.methodLink own index y' ∈ zWL) (hini : Cond.initialized y'.cls ∈ zWL) (hst : Cond.instanceMethod y' ∈ zWL) (hse : Cond.selects C y' y' ∈ zWL)
    (hd : y'.cls ≠ "java/lang/invoke/MethodHandle" ∧ y'.cls ≠ "java/lang/invoke/VarHandle" ∧ (parseMethodDescriptor y'.desc).map (fun d => d.parameters.length) = some n) (hn : As.length = n) (hdd : d' + 1 ≤ d) (hmL : maxL ≤ 20) (hmc : cs + mc ≤ MC) (hms : ss + ms ≤ MS) {rest : List Value} (hst0 : st = As.reverse ++ .ref (ad k i) :: rest) (hc : (rest.map fun v => v.category).sum ≤ 8) (hg : decode cc pc = .ok (.invokevirtual index, 3))
    (kk : P → zV Γ ad (cs + mc) (ss + ms) x1 y1 (pc + 3) L rest)
    (kx : ∀ (E : String) (x' y' : zSt), px' E x' y' → zVX Γ ad (cs + mc) (ss + ms) x' y' pc L E) : zV Γ ad cs ss x y pc L st := by
  refine zV_callV hX hlen hN k hcl hsh hi hC hcode hlink hini hst hse hd hn hdd hmL hmc hms hst0 hc hg (fun v x' y' h => ?_) kx
  obtain ⟨rfl, hP, rfl, rfl⟩ := h
  exact kk hP
theorem zV_cVHX (hX : zX Γ ad own cc nL) (hlen : L.length = nL) {d mc ms d' index maxL n : Nat} (hN : zN Γ d MC MS) {y' : MethodName} {bytes : ByteArray} {ret' : Option FieldType} {As : List Value} {C : String} {T : u_T} {N ci cn : Nat} (k : Nat) {i : Int} (hcl : zCl[ci]? = some (C, T, N)) (hsh : zsh k = (0, ci, N, cn)) (hi : 0 ≤ i ∧ i < cn) {px' : String → zSt → zSt → Prop}
     {P : Prop} {rk : Nat} {ri : Int} (hC : zC y' bytes maxL ret' d' mc ms (.ref (ad k i) :: As) ad x y (zpH P ad rk ri x1 y1) px') (hcode : Cond.code y' bytes maxL ret' ∈ zWL) (hlink : Cond.methodLink own index y' ∈ zWL) (hini : Cond.initialized y'.cls ∈ zWL) (hst : Cond.instanceMethod y' ∈ zWL) (hse : Cond.selects C y' y' ∈ zWL)
    (hd : y'.cls ≠ "java/lang/invoke/MethodHandle" ∧ y'.cls ≠ "java/lang/invoke/VarHandle" ∧ (parseMethodDescriptor y'.desc).map (fun d => d.parameters.length) = some n) (hn : As.length = n) (hdd : d' + 1 ≤ d) (hmL : maxL ≤ 20) (hmc : cs + mc ≤ MC) (hms : ss + ms ≤ MS) {rest : List Value} (hst0 : st = As.reverse ++ .ref (ad k i) :: rest) (hc : (rest.map fun v => v.category).sum ≤ 8) (hg : decode cc pc = .ok (.invokevirtual index, 3))
    (kk : P → zV Γ ad (cs + mc) (ss + ms) x1 y1 (pc + 3) L (.ref (ad rk ri) :: rest))
    (kx : ∀ (E : String) (x' y' : zSt), px' E x' y' → zVX Γ ad (cs + mc) (ss + ms) x' y' pc L E) : zV Γ ad cs ss x y pc L st := by
  refine zV_callV hX hlen hN k hcl hsh hi hC hcode hlink hini hst hse hd hn hdd hmL hmc hms hst0 hc hg (fun v x' y' h => ?_) kx
  obtain ⟨rfl, hP, rfl, rfl⟩ := h
  exact kk hP
end ZV5
