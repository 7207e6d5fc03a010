/-! THE LAW'S HELPERS: methods with a table of handlers; contracts and calls. -/
def zncs : List (String × String) := [("java/lang/IllegalStateException", "java/lang/IllegalArgumentException"), ("java/util/NoSuchElementException", "java/lang/IllegalArgumentException"), ("java/lang/IllegalStateException", "java/util/NoSuchElementException"), ("java/lang/UnsupportedOperationException", "java/lang/IllegalArgumentException"), ("java/lang/IllegalArgumentException", "java/lang/IndexOutOfBoundsException"), ("java/lang/UnsupportedOperationException", "java/lang/IndexOutOfBoundsException"), ("java/lang/IllegalStateException", "java/lang/IndexOutOfBoundsException")]
def zNc (U : State) : Prop := ∀ q ∈ zncs, va_Nc q.1 q.2 U
theorem zNc.moved {u U : State} (hvm : u.vm.Alike U.vm) (h : zNc u) : zNc U := fun q hq => va_Nc.moved hvm (h q hq)
def zPh (D : va_G) (cA : Nat → ClassId) (ad : Nat → Int → Nat) (sz : Nat) (x y : zSt) : State → Prop := fun U => zPc D cA ad sz x y U ∧ zNc U
abbrev zwh (y : MethodName) (bytes : ByteArray) (maxL : Nat) (ret : Option FieldType) (hh : List (Nat × Nat × Nat × Nat)) : List Cond := Cond.codeWith y bytes maxL ret hh :: zWL
/-- the contract of a helper: it returns -/
def zHC (y : MethodName) (bytes : ByteArray) (maxL : Nat) (ret : Option FieldType) (hh : List (Nat × Nat × Nat × Nat)) (d mc ms : Nat) (av : List Value) (ad : Nat → Int → Nat) (x y' : zSt) (post : Option Value → zSt → zSt → Prop) : Prop :=
  ∀ (l : Launch) (D : va_G) (cA : Nat → ClassId), l.stackTraces = false → ∀ sz : Nat, vx_Met l y (zwh y bytes maxL ret hh) (zrm d mc ms) (va_Pc av (zPh D cA ad sz x y')) (zQ D cA ad post (zA ad sz)) (zXc D cA ad zF (zA ad sz)) mc ms (zA ad sz)
theorem zPh_blind {av : List Value} {D : va_G} {cA : Nat → ClassId} {ad : Nat → Int → Nat} {sz : Nat} {x y : zSt} : FrameBlind (va_Pc av (zPh D cA ad sz x y)) := by
  intro a U g mk h
  obtain ⟨h0, ⟨h1, h2, h3, h4⟩, h5⟩ := h
  refine ⟨h0, ⟨h1, h2, zK.moved (u := U) (U := U.calling g mk a) (Vm.Alike.refl U.vm) h3, ?_⟩, zNc.moved (u := U) (U := U.calling g mk a) (Vm.Alike.refl U.vm) h5⟩
  exact zST.go (s := U) (U := U.calling g mk a) (locs := []) h4 va_S.rf (fun _ h => h) (State.WarmedH.refl U)
def zHT (Γ : zG) (hh : List (Nat × Nat × Nat × Nat)) : Prop := match Γ with
  | (_, _, _, _, s, _, _, _, _, c, _, _, _, _) => c.exceptionTable.toList = tableOf hh ∧ zNc s
def zNG (Γ : zG) : Prop := match Γ with
  | (_, _, _, _, s, _, _, _, _, _, _, _, _, _) => zNc s
theorem zHC_ofV {y : MethodName} {bytes : ByteArray} {maxL : Nat} {ret : Option FieldType} {hh : List (Nat × Nat × Nat × Nat)} {d mc ms : Nat} {av : List Value} {ad : Nat → Int → Nat} {x y' : zSt} {post : Option Value → zSt → zSt → Prop} (hy : plainName y.cls = true) (hcat : ∀ v ∈ av, v.category = 1) (hlen : av.length ≤ maxL)
    (body : ∀ Γ : zG, zX Γ ad y.cls bytes maxL → zN Γ d mc ms → zM Γ ad mc ms ret post zF → zHT Γ hh → zV Γ ad 0 0 x y' 0 (av.map some ++ List.replicate (maxL - av.length) none) []) : zHC y bytes maxL ret hh d mc ms av ad x y' post := by
  intro l D cA hl sz
  refine vx_ofWH (cc := bytes) (maxL := maxL) (ret := ret) (hh := hh) hy rfl ?_
  intro p e s m args below meth c s₁ B hml hv
  obtain ⟨rfl, ⟨hsz, hW, hK, hST⟩, hNc⟩ := hv
  have hts := atoms_spec (ws := zwh y bytes maxL ret hh) B.pre
  have hsl := zsl_len av hcat
  have hent := lv_entry av (n := maxL) (by rw [hsl]; exact hlen)
  rw [lg_entry_eq]
  rw [hsl] at hent ⊢
  generalize (lg_sl av ++ List.replicate (maxL - av.length) Slot.unset).toArray = ls at hent ⊢
  have hLn : (av.map some ++ List.replicate (maxL - av.length) (none : Option Value)).length = maxL := by simp; omega
  refine body (p, l, e, (headSpec (zwh y bytes maxL ret hh) (zrm d mc ms)).room, s, m, av.toArray, below, meth, c, D, cA, zA ad sz, vx_MQ below (zQ D cA ad post (zA ad sz)) (zXc D cA ad zF (zA ad sz)) av.toArray s mc ms (zA ad sz))
    ⟨⟨B.exec, B.bytes, hml, findClass_of_methodNamed B.named, fun w hw => hts w (List.mem_cons_of_mem _ hw)⟩, B.notSynchronized, hK, fun q hq => Or.inr (by rw [← hsz]; exact hq), fun k i hz => Or.inl ⟨k, i, hz, rfl⟩⟩
    ⟨⟨Nat.le_refl _, Nat.le_refl _, Nat.le_refl _, Nat.le_refl _⟩, hST, hl⟩ ⟨rfl, B.returns⟩ ⟨vx_table (x := y) B (hts _ List.mem_cons_self), hNc⟩ s.heap [] ls hW va_S.rf ⟨⟨?_, hent.2.1, fun q hq => ?_⟩, fun v hv => ?_⟩
  · rw [hLn]; exact hent.1
  · obtain ⟨j, v⟩ := q
    have h1 := zLl_mem.mp hq
    refine hent.2.2 (j, v) ?_
    have h2 : av[j]? = some v := by
      by_cases hj : j < av.length
      · rw [List.getElem?_append_left (by simpa using hj)] at h1
        simpa using h1
      · rw [List.getElem?_append_right (by simpa using hj)] at h1
        have h3 := List.mem_of_getElem? h1
        rw [List.mem_replicate] at h3
        cases h3.2
    have h3 := zargs_mem av 0 j v hcat h2
    rwa [Nat.zero_add] at h3
  · rcases List.mem_append.mp hv with h | h
    · obtain ⟨w, hw, he⟩ := List.mem_map.mp h
      cases he
      exact hcat _ hw
    · rw [List.mem_replicate] at h
      cases h.2
section ZH
variable {Γ : zG} {ad : Nat → Int → Nat} {cs ss MC MS : Nat} {x y : zSt} {pc : Nat} {L : List (Option Value)} {st : List Value} {own : String} {cc : ByteArray} {nL : Nat}
theorem zV_callSH (hX : zX Γ ad own cc nL) (hlen : L.length = nL) {d mc ms d' index maxL n : Nat} (hN : zN Γ d MC MS) (hNc : zNG Γ) {y' : MethodName} {bytes : ByteArray} {ret' : Option FieldType} {hh : List (Nat × Nat × Nat × Nat)} {As : List Value} {post' : Option Value → zSt → zSt → Prop}
    (hC : zHC y' bytes maxL ret' hh d' mc ms As ad x y post') (hcode : Cond.codeWith y' bytes maxL ret' hh ∈ zWL) (hlink : Cond.methodLink own index y' ∈ zWL) (hini : Cond.initialized y'.cls ∈ zWL) (hst : Cond.static y' ∈ zWL)
    (hd : y'.cls ≠ "java/lang/invoke/MethodHandle" ∧ y'.cls ≠ "java/lang/invoke/VarHandle" ∧ (parseMethodDescriptor y'.desc).map (fun d => d.parameters.length) = some n) (hn : As.length = n) (hdd : d' + 1 ≤ d) (hmL : maxL ≤ 20) (hmc : cs + mc ≤ MC) (hms : ss + ms ≤ MS) {rest : List Value} (hst0 : st = As.reverse ++ rest) (hc : (rest.map fun v => v.category).sum ≤ 8) (hg : decode cc pc = .ok (.invokestatic index, 3))
    (kk : ∀ (v : Option Value) (x' y' : zSt), post' v x' y' → zV Γ ad (cs + mc) (ss + ms) x' y' (pc + 3) L (v.toList ++ rest)) : zV Γ ad cs ss x y pc L st := by
  obtain ⟨p, l, e, R, s, m, args, below, meth, c, D, cA, A, Q⟩ := Γ
  intro H locs ls hW hS hL
  obtain ⟨⟨r1, r2, r3, r4⟩, hT, hl⟩ := hN
  have hA := zA_in (ad := ad) hS hX.2.2.2.1 hX.2.2.2.2
  have hts := hX.1.2.2.2.2
  subst hst0
  have hpl : ∀ w ∈ zwh y' bytes maxL ret' hh, ∀ (a' : Array Value) (U : State), s.WarmedH U.vm → w.before a' U = true := pay_in hts (zGood hcode)
  refine zcall_run (vx_runSX hX.1 (hC l D cA hl H.size) ⟨⟨rfl, rfl, by show d' + 1 ≤ _; omega, by show 8 + (maxL + 11) + 40 * d' ≤ _; omega, hpl, List.mem_cons_self⟩, hts _ hcode, hts _ hini, ⟨hd.1, hd.2.1⟩, fun sig h => ?_, hts _ hlink, hts _ hst⟩ ⟨zPh_blind, fun U hU hWm => ⟨rfl, ⟨by rw [hU], by rw [hU]; exact hW, hX.2.2.1.moved hWm.alike, by rw [hU]; exact hT.go hS hA hWm⟩, zNc.moved hWm.alike hNc⟩⟩ rfl hn (hL.1.1.trans hlen) rfl (lv_room hc) hg ⟨by omega, by omega⟩) hS hA (fun v x' y' H1 locs1 hp hw hs => kk v x' y' hp H1 locs1 ls hw hs hL) (fun E ce q x' y' H1 locs1 hp _ _ _ _ _ => hp.elim)
  have h2 := hd.2.2
  rw [h] at h2
  exact (Option.some.inj h2).symm
/-- a handler takes it -/
theorem zVX_catch (hX : zX Γ ad own cc nL) {d : Nat} (hN : zN Γ d MC MS) {hh : List (Nat × Nat × Nat × Nat)} (hT : zHT Γ hh) (pre : List ExceptionTableEntry) (h : ExceptionTableEntry) (suf : List ExceptionTableEntry) (hs : tableOf hh = pre ++ h :: suf) {E : String} (hE : E ∈ zexc) (hp : ∀ z ∈ pre, z.catchType ≠ 0 ∧ ∃ nm : String, Cond.classLink own z.catchType nm ∈ zWL ∧ (E, nm) ∈ zncs) (hx : covers h pc = true) (h0 : h.catchType ≠ 0) (hl : Cond.classLink own h.catchType E ∈ zWL) (kk : ∀ q : Nat, zV Γ ad cs ss x y h.handlerPc L [.ref q]) : zVX Γ ad cs ss x y pc L E := by
  obtain ⟨p, l, e, R, s, m, args, below, meth, c, D, cA, A, Q⟩ := Γ
  intro H locs ls q ce st hW hS hL hq hv hE'
  obtain ⟨-, hST, -⟩ := hN
  obtain ⟨ht, hnc⟩ := hT
  have hts := hX.1.2.2.2.2
  have hcw : Cond.castable E E ∈ zxw := List.mem_append_left _ (List.mem_map.mpr ⟨E, hE, rfl⟩)
  refine vx_catch (own := own) (name := E) hX.1.2.2.2.1 pre h suf (by rw [ht]; exact hs) (fun z hz => Or.inr ⟨(hp z hz).1, ?_⟩) hx h0 (hts _ hl) (va_tabs (zxw_tab hcw) rfl (hST.2.2.2 _ hcw)) hq hv hE' (kk q H locs ls hW hS hL)
  obtain ⟨-, nm, h1, h2⟩ := hp z hz
  exact ⟨nm, hts _ h1, hnc _ h2⟩
theorem zi_i2l {a : Int} : (Int32.ofInt a).toInt64 = Int64.ofInt (Int32.ofInt a).toInt := by
  have h := Int32.toInt64_ofInt (n := (Int32.ofInt a).toInt) (by rw [show Int32.minValue.toInt = -2147483648 by decide]; exact (zR_of (Int32.ofInt a)).1) (by rw [show Int32.maxValue.toInt = 2147483647 by decide]; exact (zR_of (Int32.ofInt a)).2)
  rw [Int32.ofInt_toInt] at h
  exact h
theorem zV_i2lz (hX : zX Γ ad own cc nL) {a : Int} (d : decode cc pc = .ok (.i2l, 1)) (kk : zV Γ ad cs ss x y (pc + 1) L (.long (Int64.ofInt (Int32.ofInt a).toInt) :: st)) : zV Γ ad cs ss x y pc L (zI a :: st) := by
  obtain ⟨p, l, e, R, s, m, args, below, meth, c, D, cA, A, Q⟩ := Γ
  intro H locs ls hW hS hL
  exact lv_i2l hX.1.1 hX.1.2.1 d zi_i2l (kk H locs ls hW hS hL)
theorem zV_lconst (hX : zX Γ ad own cc nL) {n : Fin 2} {z : Int} (d : decode cc pc = .ok (.lconst n, 1)) (h : Int64.ofNat (n : Nat) = Int64.ofInt z) (kk : zV Γ ad cs ss x y (pc + 1) L (.long (Int64.ofInt z) :: st)) : zV Γ ad cs ss x y pc L st := by
  obtain ⟨p, l, e, R, s, m, args, below, meth, c, D, cA, A, Q⟩ := Γ
  intro H locs ls hW hS hL
  exact lv_lconst hX.1.1 hX.1.2.1 d h (kk H locs ls hW hS hL)
end ZH
/-- what a helper leaves: the answer in the row, or the number of the handler -/
def zHq (G : Prop) (r : Int) (X : zSt) (P : Int → zSt → Prop) (Y : zSt) : Option Value → zSt → zSt → Prop := fun v x1 y1 => (G ∧ v = some (zI 0) ∧ x1 = X ∧ y1 = zup Y 60 0 0 (Int32.ofInt r).toInt) ∨ (∃ k : Int, P k x1 ∧ (1 ≤ k ∧ k ≤ 3) ∧ v = some (zI k) ∧ y1 = Y)
def zHd (G : Prop) (w : UInt64) (X : zSt) (P : Int → zSt → Prop) (Y : zSt) : Option Value → zSt → zSt → Prop := fun v x1 y1 => (G ∧ v = some (zI 0) ∧ x1 = X ∧ y1 = zup Y 61 0 0 (w.toNat : Int)) ∨ (∃ k : Int, P k x1 ∧ (1 ≤ k ∧ k ≤ 3) ∧ v = some (zI k) ∧ y1 = Y)
