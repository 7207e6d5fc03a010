/-! THE JUDGEMENT V, third part: contracts, ends, calls, throws. -/
def zPc (D : va_G) (cA : Nat → ClassId) (ad : Nat → Int → Nat) (sz : Nat) (x y : zSt) : State → Prop := fun U => U.heap.size = sz ∧ zW D cA ad x y U.heap ∧ zK D cA U ∧ zST (zA ad sz) U U.heap
def zQ (D : va_G) (cA : Nat → ClassId) (ad : Nat → Int → Nat) (post : Option Value → zSt → zSt → Prop) (A : Nat → Prop) : Array Value → State → Outcome → State → Prop := fun _ st oc t => (∃ (v : Option Value) (x y : zSt), oc = .returned v ∧ post v x y ∧ zW D cA ad x y t.heap) ∧ va_F A st t
def zXc (D : va_G) (cA : Nat → ClassId) (ad : Nat → Int → Nat) (px : String → zSt → zSt → Prop) (A : Nat → Prop) : String → State → State → Prop := fun E st t => (∃ (x y : zSt), px E x y ∧ zW D cA ad x y t.heap) ∧ va_F A st t
/-- room of a method at most d calls deep -/
def zrm (d mc ms : Nat) : Room := { frames := d, cells := mc, slots := ms, locals := 40 * d }
abbrev zws (y : MethodName) (bytes : ByteArray) (maxL : Nat) (ret : Option FieldType) : List Cond := Cond.code y bytes maxL ret :: zWL
/-- the contract of a method: called with av in the world (x, y) it ends as post says, or throws as px says -/
def zC (y : MethodName) (bytes : ByteArray) (maxL : Nat) (ret : Option FieldType) (d mc ms : Nat) (av : List Value) (ad : Nat → Int → Nat) (x y' : zSt) (post : Option Value → zSt → zSt → Prop) (px : String → zSt → zSt → Prop) : Prop :=
  ∀ (l : Launch) (D : va_G) (cA : Nat → ClassId), l.stackTraces = false → ∀ sz : Nat, vx_Met l y (zws y bytes maxL ret) (zrm d mc ms) (va_Pc av (zPc D cA ad sz x y')) (zQ D cA ad post (zA ad sz)) (zXc D cA ad px (zA ad sz)) mc ms (zA ad sz)
/-- never -/
def zF : String → zSt → zSt → Prop := fun _ _ _ => False
theorem zC.weak {y : MethodName} {bytes : ByteArray} {maxL : Nat} {ret : Option FieldType} {d mc ms : Nat} {av : List Value} {ad : Nat → Int → Nat} {x y' : zSt} {post post' : Option Value → zSt → zSt → Prop} {px px' : String → zSt → zSt → Prop} (h : zC y bytes maxL ret d mc ms av ad x y' post px) (h1 : ∀ v a b, post v a b → post' v a b) (h2 : ∀ E a b, px E a b → px' E a b) : zC y bytes maxL ret d mc ms av ad x y' post' px' := by
  intro l D cA hl sz
  have h0 := h l D cA hl sz
  unfold vx_Met MetFree at h0 ⊢
  intro p e ha hc hk s m args below hf happ hP hK
  obtain ⟨t, o, a1, a2, a3, a4⟩ := h0 p e ha hc hk s m args below hf happ hP hK
  refine ⟨t, o, a1, a2, a3, ?_⟩
  rcases a4 with ⟨⟨⟨v, x1, y1, e1, e2, e3⟩, e4⟩, e5⟩ | ⟨q, e0, E, ce, L, ⟨⟨x1, y1, e2, e3⟩, e4⟩, e5⟩
  · exact Or.inl ⟨⟨⟨v, x1, y1, e1, h1 _ _ _ e2, e3⟩, e4⟩, e5⟩
  · exact Or.inr ⟨q, e0, E, ce, L, ⟨⟨x1, y1, h2 _ _ _ e2, e3⟩, e4⟩, e5⟩
theorem zW.kept {D : va_G} {cA : Nat → ClassId} {ad : Nat → Int → Nat} {x y : zSt} {H H1 : Heap} (hW : zW D cA ad x y H) (h : ∀ q : Nat, q < H.size → H1[q]? = H[q]?) : zW D cA ad x y H1 :=
  ⟨hW.1, fun k i hz => (hW.2.1 k i hz).kept (h _ (hW.2.1 k i hz).lt), hW.2.2⟩
theorem zK.moved {D : va_G} {cA : Nat → ClassId} {u U : State} (hvm : u.vm.Alike U.vm) (h : zK D cA u) : zK D cA U := ⟨va_K.moved hvm h.1, fun k hk => ⟨arrOfT_moved hvm (h.2 k hk).1, (h.2 k hk).2.moved hvm⟩⟩
theorem zxw_warm {s U : State} {w : Cond} (hw : w ∈ zxw) (hW : s.WarmedH U.vm) (h : va_Nw w s) : va_Nw w U := by
  unfold zxw at hw
  rcases List.mem_append.mp hw with hw | hw
  · obtain ⟨E, -, rfl⟩ := List.mem_map.mp hw
    exact va_Nw.warmC hW h
  · obtain ⟨E, -, rfl⟩ := List.mem_map.mp hw
    exact va_Nw.warmD hW h
theorem zST.go {A B : Nat → Prop} {s U : State} {H : Heap} {locs : List Loc} (h : zST A s s.heap) (hS : va_S A s.heap H locs) (hAB : ∀ q, B q → A q) (hW : s.WarmedH U.vm) : zST B U H :=
  ⟨((h.1.kept hS.2.1).narrow hAB).moved hW.alike, ((h.2.1.kept hS.2.1).narrow hAB).moved hW.alike, fun q hq => (h.2.2.1 q hq).imp fun a ha => vk_R.warm hW ha, fun w hw => zxw_warm hw hW (h.2.2.2 w hw)⟩
theorem zPc_blind {av : List Value} {D : va_G} {cA : Nat → ClassId} {ad : Nat → Int → Nat} {sz : Nat} {x y : zSt} : FrameBlind (va_Pc av (zPc D cA ad sz x y)) := by
  intro a U g mk h
  obtain ⟨h0, h1, h2, h3, h4⟩ := h
  refine ⟨h0, h1, h2, zK.moved (u := U) (U := U.calling g mk a) (Vm.Alike.refl U.vm) h3, ?_⟩
  exact zST.go (s := U) (U := U.calling g mk a) (locs := []) h4 va_S.rf (fun _ h => h) (State.WarmedH.refl U)
theorem zGood {c : Cond} (h : c ∈ zWL) : GoodIn zWL (c :: zWL) := fun w hw => by
  have h1 : w ∈ zWL := (List.mem_cons.mp hw).elim (fun e => e ▸ h) id
  exact ⟨h1, good_of_word (zw_good h1)⟩
/-- room and statics of a method -/
def zN (Γ : zG) (d MC MS : Nat) : Prop := match Γ with
  | (_, l, _, R, s, _, _, _, _, _, _, _, A, _) => (d ≤ R.frames ∧ 40 * d ≤ R.locals ∧ MC ≤ R.cells ∧ MS ≤ R.slots) ∧ zST A s s.heap ∧ l.stackTraces = false
/-- what a method of this kind owes at its end -/
def zM (Γ : zG) (ad : Nat → Int → Nat) (MC MS : Nat) (ret : Option FieldType) (post : Option Value → zSt → zSt → Prop) (px : String → zSt → zSt → Prop) : Prop := match Γ with
  | (_, _, _, _, s, _, args, below, meth, _, D, cA, A, Q) => Q = vx_MQ below (zQ D cA ad post A) (zXc D cA ad px A) args s MC MS A ∧ meth.sig.returnType = ret
def zNT (Γ : zG) : Prop := match Γ with
  | (_, _, _, _, _, _, _, _, _, c, _, _, _, _) => ∀ x ∈ c.exceptionTable.toList, False
section ZV3
variable {Γ : zG} {ad : Nat → Int → Nat} {cs ss MC MS : Nat} {x y : zSt} {pc : Nat} {L : List (Option Value)} {st : List Value} {own : String} {cc : ByteArray} {nL : Nat} {ret : Option FieldType} {post : Option Value → zSt → zSt → Prop} {px : String → zSt → zSt → Prop}
theorem zV_iret (hX : zX Γ ad own cc nL) {ty : FieldType} (hM : zM Γ ad MC MS (some ty) post px) (h1 : cs ≤ MC) (h2 : ss ≤ MS) {z : Int} (hn : narrow ty (zI z) = zI z) (d : decode cc pc = .ok (.ireturn, 1)) (hp : post (some (zI z)) x y) : zV Γ ad cs ss x y pc L [zI z] := by
  obtain ⟨p, l, e, R, s, m, args, below, meth, c, D, cA, A, Q⟩ := Γ
  intro H locs ls hW hS hL
  obtain ⟨rfl, hr⟩ := hM
  exact W.widen h1 h2 (vx_ret (W.zret hX.1.1 hX.1.2.1 hr hn (fun t ht _ => ⟨⟨_, x, y, rfl, hp, by rw [ht]; exact hW⟩, hS.F ht⟩) (fun q hq => hS.2.2 q hq) d hX.2.1))
theorem zV_vret (hX : zX Γ ad own cc nL) (hM : zM Γ ad MC MS none post px) (h1 : cs ≤ MC) (h2 : ss ≤ MS) (d : decode cc pc = .ok (.return_, 1)) (hp : post none x y) : zV Γ ad cs ss x y pc L [] := by
  obtain ⟨p, l, e, R, s, m, args, below, meth, c, D, cA, A, Q⟩ := Γ
  intro H locs ls hW hS hL
  obtain ⟨rfl, hr⟩ := hM
  exact W.widen h1 h2 (vx_ret (W.vret hX.1.1 hX.1.2.1 hr (fun t ht _ => ⟨⟨_, x, y, rfl, hp, by rw [ht]; exact hW⟩, hS.F ht⟩) (fun q hq => hS.2.2 q hq) d hX.2.1))
theorem zV_aret (hX : zX Γ ad own cc nL) {n : String} (hM : zM Γ ad MC MS (some (.object n)) post px) (h1 : cs ≤ MC) (h2 : ss ≤ MS) {q : Nat} (d : decode cc pc = .ok (.areturn, 1)) (hp : post (some (.ref q)) x y) : zV Γ ad cs ss x y pc L [.ref q] := by
  obtain ⟨p, l, e, R, s, m, args, below, meth, c, D, cA, A, Q⟩ := Γ
  intro H locs ls hW hS hL
  obtain ⟨rfl, hr⟩ := hM
  exact W.widen h1 h2 (vx_ret (W.aret hX.1.1 hX.1.2.1 hr (Or.inl ⟨_, rfl⟩) (Or.inr ⟨_, rfl⟩) (fun t ht _ => ⟨⟨_, x, y, rfl, hp, by rw [ht]; exact hW⟩, hS.F ht⟩) (fun q hq => hS.2.2 q hq) d hX.2.1))
theorem zV_lret (hX : zX Γ ad own cc nL) (hM : zM Γ ad MC MS (some .long) post px) (h1 : cs ≤ MC) (h2 : ss ≤ MS) {v : Int64} (d : decode cc pc = .ok (.lreturn, 1)) (hp : post (some (.long v)) x y) : zV Γ ad cs ss x y pc L [.long v] := by
  obtain ⟨p, l, e, R, s, m, args, below, meth, c, D, cA, A, Q⟩ := Γ
  intro H locs ls hW hS hL
  obtain ⟨rfl, hr⟩ := hM
  exact W.widen h1 h2 (vx_ret (W.lret hX.1.1 hX.1.2.1 hr (fun t ht _ => ⟨⟨_, x, y, rfl, hp, by rw [ht]; exact hW⟩, hS.F ht⟩) (fun q hq => hS.2.2 q hq) d hX.2.1))
theorem zV_fret (hX : zX Γ ad own cc nL) (hM : zM Γ ad MC MS (some .float) post px) (h1 : cs ≤ MC) (h2 : ss ≤ MS) {v : UInt32} (d : decode cc pc = .ok (.freturn, 1)) (hp : post (some (.float v)) x y) : zV Γ ad cs ss x y pc L [.float v] := by
  obtain ⟨p, l, e, R, s, m, args, below, meth, c, D, cA, A, Q⟩ := Γ
  intro H locs ls hW hS hL
  obtain ⟨rfl, hr⟩ := hM
  exact W.widen h1 h2 (vx_ret (W.fret hX.1.1 hX.1.2.1 hr (fun t ht _ => ⟨⟨_, x, y, rfl, hp, by rw [ht]; exact hW⟩, hS.F ht⟩) (fun q hq => hS.2.2 q hq) d hX.2.1))
theorem zV_dret (hX : zX Γ ad own cc nL) (hM : zM Γ ad MC MS (some .double) post px) (h1 : cs ≤ MC) (h2 : ss ≤ MS) {v : UInt64} (d : decode cc pc = .ok (.dreturn, 1)) (hp : post (some (.double v)) x y) : zV Γ ad cs ss x y pc L [.double v] := by
  obtain ⟨p, l, e, R, s, m, args, below, meth, c, D, cA, A, Q⟩ := Γ
  intro H locs ls hW hS hL
  obtain ⟨rfl, hr⟩ := hM
  exact W.widen h1 h2 (vx_ret (W.dret hX.1.1 hX.1.2.1 hr (fun t ht _ => ⟨⟨_, x, y, rfl, hp, by rw [ht]; exact hW⟩, hS.F ht⟩) (fun q hq => hS.2.2 q hq) d hX.2.1))
/-- q is thrown over the frame at pc -/
def zVX (Γ : zG) (ad : Nat → Int → Nat) (cs ss : Nat) (x y : zSt) (pc : Nat) (L : List (Option Value)) (E : String) : Prop := match Γ with
  | (p, l, e, R, s, m, args, below, meth, c, D, cA, A, Q) => ∀ (H : Heap) (locs : List Loc) (ls : Array Slot) (q : Nat) (ce : Cell) (st : List Value), zW D cA ad x y H → va_S A s.heap H locs → zL ls L → H[q]? = some ce → ce.vm = .none → s.vm.findClass E = some ce.cls → vx_W p l e R s m args below meth c H locs cs ss Q (F0 m pc ls st) q
theorem zVX_out (hX : zX Γ ad own cc nL) (hT : zNT Γ) (hM : zM Γ ad MC MS ret post px) (h1 : cs ≤ MC) (h2 : ss ≤ MS) {E : String} (hp : px E x y) : zVX Γ ad cs ss x y pc L E := by
  obtain ⟨p, l, e, R, s, m, args, below, meth, c, D, cA, A, Q⟩ := Γ
  intro H locs ls q ce st hW hS hL hq hv hE
  obtain ⟨rfl, hr⟩ := hM
  exact vx_out (fun z hz => absurd hz (fun h => hT z h)) hX.2.1 hq hv hE (fun t ht _ => ⟨⟨x, y, hp, by rw [ht]; exact hW⟩, hS.F ht⟩) (fun z hz => hS.2.2 z hz) h1 h2
/-- behind a call -/
theorem zcall_run {p : Program} {l : Launch} {e : Env} {R : Room} {s : State} {m : MethodId} {args a : Array Value} {below : List Frame} {meth : Method} {c : Code} {D : va_G} {cA : Nat → ClassId} {A A1 : Nat → Prop} {Q : State → Prop} {H : Heap} {locs : List Loc} {ls : Array Slot} {st0 rest : List Value} {mc ms : Nat}
    (hr : vx_Run p l e R s m args below meth c H locs cs ss mc ms (F0 m pc ls st0) rest (zQ D cA ad post A1 a) (zXc D cA ad px A1) A1) (hS : va_S A s.heap H locs) (hA : ∀ q, A1 q → A q)
    (kk : ∀ (v : Option Value) (x y : zSt) (H1 : Heap) (locs1 : List Loc), post v x y → zW D cA ad x y H1 → va_S A s.heap H1 locs1 → W p l e R s m args below meth c H1 locs1 (cs + mc) (ss + ms) Q (F0 m (pc + 3) ls (v.toList ++ rest)))
    (kx : ∀ (E : String) (ce : Cell) (q : Nat) (x y : zSt) (H1 : Heap) (locs1 : List Loc), px E x y → zW D cA ad x y H1 → va_S A s.heap H1 locs1 → H1[q]? = some ce → ce.vm = .none → s.vm.findClass E = some ce.cls → vx_W p l e R s m args below meth c H1 locs1 (cs + mc) (ss + ms) Q (F0 m pc ls rest) q) :
    W p l e R s m args below meth c H locs cs ss Q (F0 m pc ls st0) := by
  intro T hT X
  rcases hr T hT X with ⟨v, st₀, t, T', Lc, h0, X', hL, e1, e2, ⟨⟨v', x1, y1, hv, hp, hw⟩, hF⟩, st⟩ | ⟨q, st₀, t, T', Lc, E, ce, h0, X', hL, e1, e2, ⟨⟨x1, y1, hp, hw⟩, hF⟩, hce, hcv, hcl, st⟩
  · cases hv
    obtain ⟨-, -, k3⟩ := vx_keep h0 e1 hS (fun q _ h => hA q h) hA hL hF
    obtain ⟨t2, a1, b1⟩ := kk v x1 y1 T'.heap (locs ++ Lc) hp (by rw [e1]; exact hw) k3 T' rfl X'
    exact ⟨t2, st t2 a1, b1⟩
  · obtain ⟨-, -, k3⟩ := vx_keep h0 e1 hS (fun q _ h => hA q h) hA hL hF
    obtain ⟨t2, a1, b1⟩ := kx E ce q x1 y1 T'.heap (locs ++ Lc) hp (by rw [e1]; exact hw) k3 (by rw [e1]; exact hce) hcv hcl T' rfl X'
    exact ⟨t2, st.trans a1, b1⟩
theorem zA_in {s : State} {H : Heap} {locs : List Loc} {A : Nat → Prop} (hS : va_S A s.heap H locs) (h1 : ∀ q, s.heap.size ≤ q → A q) (h2 : ∀ (k : Nat) (i : Int), zin k i → A (ad k i)) : ∀ q, zA ad H.size q → A q := by
  intro q h
  rcases h with ⟨k, i, hz, rfl⟩ | h
  · exact h2 k i hz
  · exact h1 q (Nat.le_trans hS.1 h)
/-- a static method of a class own -/
theorem zV_callS (hX : zX Γ ad own cc nL) (hlen : L.length = nL) {d mc ms d' index maxL n : Nat} (hN : zN Γ d MC MS) {y' : MethodName} {bytes : ByteArray} {ret' : Option FieldType} {As : List Value} {post' : Option Value → zSt → zSt → Prop} {px' : String → zSt → zSt → Prop}
    (hC : zC y' bytes maxL ret' d' mc ms As ad x y post' px') (hcode : Cond.code y' bytes maxL ret' ∈ zWL) (hlink : Cond.methodLink own index y' ∈ zWL) (hini : Cond.initialized y'.cls ∈ zWL) (hst : Cond.static y' ∈ zWL)
    (hd : y'.cls ≠ "java/lang/invoke/MethodHandle" ∧ y'.cls ≠ "java/lang/invoke/VarHandle" ∧ (parseMethodDescriptor y'.desc).map (fun d => d.parameters.length) = some n) (hn : As.length = n) (hdd : d' + 1 ≤ d) (hmL : maxL ≤ 20) (hmc : cs + mc ≤ MC) (hms : ss + ms ≤ MS) {rest : List Value} (hst0 : st = As.reverse ++ rest) (hc : (rest.map fun v => v.category).sum ≤ 8) (hg : decode cc pc = .ok (.invokestatic index, 3))
    (kk : ∀ (v : Option Value) (x' y' : zSt), post' v x' y' → zV Γ ad (cs + mc) (ss + ms) x' y' (pc + 3) L (v.toList ++ rest))
    (kx : ∀ (E : String) (x' y' : zSt), px' E x' y' → zVX Γ ad (cs + mc) (ss + ms) x' y' pc L E) : zV Γ ad cs ss x y pc L st := by
  obtain ⟨p, l, e, R, s, m, args, below, meth, c, D, cA, A, Q⟩ := Γ
  intro H locs ls hW hS hL
  obtain ⟨⟨r1, r2, r3, r4⟩, hT, hl⟩ := hN
  have hA := zA_in (ad := ad) hS hX.2.2.2.1 hX.2.2.2.2
  have hts := hX.1.2.2.2.2
  subst hst0
  refine zcall_run (vx_runS hX.1 (hC l D cA hl H.size) ⟨callB_of n hts (zGood hcode) rfl rfl rfl (hts _ hini) (hts _ hlink) hd ⟨by show d' + 1 ≤ _; omega, by show 8 + (maxL + 11) + 40 * d' ≤ _; omega⟩, hts _ hst⟩ ⟨zPc_blind, fun U hU hWm => ⟨rfl, by rw [hU], by rw [hU]; exact hW, hX.2.2.1.moved hWm.alike, by rw [hU]; exact hT.go hS hA hWm⟩⟩ rfl hn (hL.1.1.trans hlen) rfl (lv_room hc) hg ⟨by omega, by omega⟩) hS hA (fun v x' y' H1 locs1 hp hw hs => kk v x' y' hp H1 locs1 ls hw hs hL) (fun E ce q x' y' H1 locs1 hp hw hs h1 h2 h3 => kx E x' y' hp H1 locs1 ls q ce rest hw hs hL h1 h2 h3)
/-- a method of the object at (k, i) -/
theorem zV_callV (hX : zX Γ ad own cc nL) (hlen : L.length = nL) {d mc ms d' index maxL n : Nat} (hN : zN Γ d MC MS) {y' : MethodName} {bytes : ByteArray} {ret' : Option FieldType} {As : List Value} {C : String} {T : u_T} {N ci cn : Nat} (k : Nat) {i : Int} (hcl : zCl[ci]? = some (C, T, N)) (hsh : zsh k = (0, ci, N, cn)) (hi : 0 ≤ i ∧ i < cn) {post' : Option Value → zSt → zSt → Prop} {px' : String → zSt → zSt → Prop}
    (hC : zC y' bytes maxL ret' d' mc ms (.ref (ad k i) :: As) ad x y post' px') (hcode : Cond.code y' bytes maxL ret' ∈ zWL) (hlink : Cond.methodLink own index y' ∈ zWL) (hini : Cond.initialized y'.cls ∈ zWL) (hst : Cond.instanceMethod y' ∈ zWL) (hse : Cond.selects C y' y' ∈ zWL)
    (hd : y'.cls ≠ "java/lang/invoke/MethodHandle" ∧ y'.cls ≠ "java/lang/invoke/VarHandle" ∧ (parseMethodDescriptor y'.desc).map (fun d => d.parameters.length) = some n) (hn : As.length = n) (hdd : d' + 1 ≤ d) (hmL : maxL ≤ 20) (hmc : cs + mc ≤ MC) (hms : ss + ms ≤ MS) {rest : List Value} (hst0 : st = As.reverse ++ .ref (ad k i) :: rest) (hc : (rest.map fun v => v.category).sum ≤ 8) (hg : decode cc pc = .ok (.invokevirtual index, 3))
    (kk : ∀ (v : Option Value) (x' y' : zSt), post' v x' y' → zV Γ ad (cs + mc) (ss + ms) x' y' (pc + 3) L (v.toList ++ rest))
    (kx : ∀ (E : String) (x' y' : zSt), px' E x' y' → zVX Γ ad (cs + mc) (ss + ms) x' y' pc L E) : zV Γ ad cs ss x y pc L st := by
  obtain ⟨p, l, e, R, s, m, args, below, meth, c, D, cA, A, Q⟩ := Γ
  intro H locs ls hW hS hL
  obtain ⟨⟨r1, r2, r3, r4⟩, hT, hl⟩ := hN
  have hA := zA_in (ad := ad) hS hX.2.2.2.1 hX.2.2.2.2
  have hts := hX.1.2.2.2.2
  subst hst0
  have hz : zin k i := ⟨hi.1, by rw [hsh]; exact hi.2⟩
  have hat := hW.2.1 k i hz
  have he : zE cA ad (zm x y k i) k i = .inr (ci, (List.range N).map (fun j => zV1 ad (zm x y k i) i (zfl k j) j)) := by unfold zE; rw [hsh]; try rfl
  rw [he] at hat
  have hrv := va_recv hX.2.2.1.1 (zP1 hat) hcl (q0 := 0) rfl
  refine zcall_run (vx_runV (C := C) hX.1 (hC l D cA hl H.size) ⟨callB_of n hts (zGood hcode) rfl rfl rfl (hts _ hini) (hts _ hlink) hd ⟨by show d' + 1 ≤ _; omega, by show 8 + (maxL + 11) + 40 * d' ≤ _; omega⟩, hts _ hst, hts _ hse⟩ ⟨zPc_blind, hrv, fun U hU hWm => ⟨rfl, by rw [hU], by rw [hU]; exact hW, hX.2.2.1.moved hWm.alike, by rw [hU]; exact hT.go hS hA hWm⟩⟩ rfl hn (hL.1.1.trans hlen) rfl (lv_room hc) hg ⟨by omega, by omega⟩) hS hA (fun v x' y' H1 locs1 hp hw hs => kk v x' y' hp H1 locs1 ls hw hs hL) (fun E ce q x' y' H1 locs1 hp hw hs h1 h2 h3 => kx E x' y' hp H1 locs1 ls q ce rest hw hs hL h1 h2 h3)
theorem zxw_tab {w : Cond} (h : w ∈ zxw) : w.onTables = true := by
  unfold zxw at h
  rcases List.mem_append.mp h with h | h
  · obtain ⟨E, -, rfl⟩ := List.mem_map.mp h
    rfl
  · obtain ⟨E, -, rfl⟩ := List.mem_map.mp h
    rfl
/-- throw new E("text") -/
theorem zV_throw (hX : zX Γ ad RX4 cc nL) (hlen : L.length = nL) {d : Nat} (hN : zN Γ d MC MS) (hdd : 6 ≤ d) (hmc : cs + 1 ≤ MC) (hms : ss + 6 ≤ MS) {cls : String} {ik is ic ix : Nat} {rx : ByteArray} (x0 : decode rx 0 = .ok (.aload_n 0, 1)) (x1 : decode rx 1 = .ok (.aload_n 1, 1)) (x2 : decode rx 2 = .ok (.invokespecial ix, 3)) (x5 : decode rx 5 = .ok (.return_, 1))
    (hat : ∀ w ∈ zAt RX4 ic cls ix rx ["java/lang/RuntimeException", "java/lang/Exception"], w ∈ zWL ∨ w ∈ zxw) (hk : Cond.classLink RX4 ik cls ∈ zWL) (hini : Cond.initialized cls ∈ zWL) (text : String) (hstr : (is, text) ∈ zstrs) (hcls : Bundle.fit cls = true)
    (d0 : decode cc pc = .ok (.new ik, 3)) (d3 : decode cc (pc + 3) = .ok (.dup, 1)) (d4 : decode cc (pc + 4) = .ok (.ldc is, 2)) (d6 : decode cc (pc + 6) = .ok (.invokespecial ic, 3)) (d9 : decode cc (pc + 9) = .ok (.athrow, 1))
    (kk : zVX Γ ad (cs + 1) (ss + 6) x y (pc + 9) L cls) : zV Γ ad cs ss x y pc L [] := by
  obtain ⟨p, l, e, R, s, m, args, below, meth, c, D, cA, A, Q⟩ := Γ
  intro H locs ls hW hS hL
  obtain ⟨⟨r1, r2, r3, r4⟩, hT, hl⟩ := hN
  obtain ⟨sa, hsa⟩ := hT.2.2.1 _ hstr
  have hts := hX.1.2.2.2.2
  refine zx_throw (names := ["java/lang/RuntimeException", "java/lang/Exception"]) (A := A) hX.1.1 hX.1.2.1 hl x0 x1 x2 x5 hX.1.2.2.2.1 hcls (by decide) (hts _ hk) (hts _ hini) hsa (fun w hw => ?_) (fun w hw => ?_) hT.1 hT.2.1 hS (hL.1.1.trans (hlen.trans hX.1.2.2.1.symm)) d0 d3 d4 d6 (by show 2 + 3 < _; omega) (by show 0 + (13 * (2 + 1) + 43) ≤ _; omega) (by omega) (by omega) d9 (fun q H1 ce g1 g2 g3 g4 g5 => kk H1 locs ls q ce [] (hW.kept g2) ⟨Nat.le_trans hS.1 g1, fun z h1 h2 => (g2 z (Nat.lt_of_lt_of_le h1 hS.1)).trans (hS.2.1 z h1 h2), hS.2.2⟩ hL g3 g4 g5)
  · rcases hat w hw with h | h
    · exact hts w h
    · exact va_tabs (zxw_tab h) rfl (hT.2.2.2 w h)
  · unfold vx_ot
    rcases List.mem_cons.mp hw with rfl | hw
    · rfl
    · rcases List.mem_cons.mp hw with rfl | hw
      · rfl
      · rcases hat w hw with h | h
        · rw [zw_good h, Bool.or_true]
        · rw [zxw_tab h, Bool.true_or]
end ZV3
