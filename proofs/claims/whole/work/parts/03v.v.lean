/-! THE WORLD OF THIS CLAIM: a cell has a kind k and a number i; kinds 0 to 19 belong to the class, 20 to 59 to the model, 60 and 61 are the law's rows. x and y tell what the slots hold, as whole numbers. -/
abbrev zSt : Type := Nat → Int → Int → Int
abbrev zR (z : Int) : Prop := -2147483648 ≤ z ∧ z ≤ 2147483647
def zI (z : Int) : Value := .int (Int32.ofInt z)
/-- shape of a kind: (0, class, fields) an object; 1 ints, 2 chars, 3 booleans, 4 longs, 5 doubles, 6 references to a kind; then how many there are -/
def zshL : List (Nat × Nat × Nat × Nat) := [(0, 4, 14, 1), (1, 0, 12, 1), (1, 0, 12, 1), (1, 0, 12, 1), (1, 0, 12, 1), (6, 9, 11, 1), (6, 16, 3, 1), (1, 0, 20, 1), (1, 0, 20, 1), (0, 0, 17, 11), (0, 1, 4, 11), (0, 3, 6, 11), (1, 0, 4, 11), (1, 0, 4, 11), (1, 0, 4, 11), (1, 0, 4, 11), (0, 2, 3, 3), (1, 0, 10, 3), (0, 0, 0, 0), (0, 0, 0, 0), (0, 5, 40, 1), (3, 0, 12, 1), (1, 0, 12, 1), (1, 0, 12, 1), (1, 0, 12, 1), (0, 0, 0, 0), (2, 0, 16, 1), (1, 0, 16, 1), (1, 0, 16, 1), (1, 0, 16, 1), (1, 0, 16, 1), (1, 0, 16, 1), (1, 0, 16, 1), (1, 0, 16, 1), (2, 0, 16, 1), (1, 0, 16, 1), (1, 0, 16, 1), (1, 0, 16, 1), (1, 0, 16, 1), (1, 0, 16, 1), (1, 0, 16, 1), (2, 0, 16, 1), (2, 0, 16, 1), (1, 0, 16, 1), (1, 0, 64, 1), (1, 0, 64, 1), (1, 0, 64, 1), (1, 0, 64, 1), (0, 0, 0, 0), (1, 0, 3, 1), (0, 0, 0, 0), (1, 0, 60, 1), (1, 0, 60, 1), (1, 0, 60, 1), (0, 0, 0, 0), (1, 0, 20, 1), (1, 0, 20, 1), (0, 0, 0, 0), (0, 0, 0, 0), (0, 0, 0, 0), (4, 0, 1, 1), (5, 0, 1, 1)]
def zsh (k : Nat) : Nat × Nat × Nat × Nat := zshL.getD k (0, 0, 0, 0)
/-- tags of an object's fields: 0 an int, 1 a long, r + 2 a reference to the cell of kind r with the same number -/
def zflL : List (List Nat) := [[3, 4, 5, 6, 7, 8, 9, 10, 0, 0, 0, 0, 0, 1], [], [], [], [], [], [], [], [], [0, 0, 0, 0, 0, 0, 0, 0, 0, 0, 0, 0, 0, 0, 0, 12, 13], [0, 0, 0, 0], [14, 15, 16, 17, 0, 0], [], [], [], [], [0, 0, 19], [], [], [], [0, 23, 24, 25, 26, 0, 28, 29, 30, 31, 32, 33, 34, 35, 36, 37, 38, 39, 40, 41, 42, 43, 44, 45, 46, 47, 48, 49, 0, 51, 0, 53, 54, 55, 0, 57, 58, 0, 1, 0], [], [], [], [], [], [], [], [], [], [], [], [], [], [], [], [], [], [], [], [], [], [], [], [], [], [], [], [], [], [], [], [], [], [], [], [], [], [], [], [], []]
def zfl (k j : Nat) : Nat := (zflL.getD k []).getD j 0
def zty (k : Nat) : FieldType := match zsh k with
  | (1, _) => .int
  | (2, _) => .char
  | (3, _) => .boolean
  | (4, _) => .long
  | (5, _) => .double
  | (6, a, _) => .object (if a = 9 then RX0 else RX2)
  | _ => .int
def zin (k : Nat) (i : Int) : Prop := 0 ≤ i ∧ i < (zsh k).2.2.2
def zm (x y : zSt) : zSt := fun k => if k < 20 then x k else y k
def zV1 (ad : Nat → Int → Nat) (f : Int → Int) (i : Int) (t j : Nat) : Value := match t with
  | 0 => .int (Int32.ofInt (f j))
  | 1 => .long (Int64.ofInt (f j))
  | r + 2 => .ref (ad r i)
def zE (cA : Nat → ClassId) (ad : Nat → Int → Nat) (f : Int → Int) (k : Nat) (i : Int) : va_E := match zsh k with
  | (0, ci, n, _) => .inr (ci, (List.range n).map (fun j => zV1 ad f i (zfl k j) j))
  | (1, _, n, _) => .inl (cA k, n, .inl (fun j => Int32.ofInt (f j)))
  | (2, _, n, _) => .inl (cA k, n, .inl (fun j => Int32.ofInt (f j)))
  | (3, _, n, _) => .inl (cA k, n, .inl (fun j => Int32.ofInt (f j)))
  | (4, _, n, _) => .inl (cA k, n, .inr (.inl (fun j => Int64.ofInt (f j))))
  | (5, _, n, _) => .inl (cA k, n, .inr (.inr (.inr (.inl (fun j => UInt64.ofNat (f j).toNat)))))
  | (_, a, n, _) => .inl (cA k, n, .inr (.inr (.inr (.inr (fun j => some (ad a j))))))
/-- slots whose numbers need not be ints -/
def zlg (k : Nat) (j : Int) : Bool := (k == 0 && j == 13) || (k == 20 && j == 38) || decide (60 ≤ k)
def zW (D : va_G) (cA : Nat → ClassId) (ad : Nat → Int → Nat) (x y : zSt) (H : Heap) : Prop :=
  (∀ (k k' : Nat) (i i' : Int), zin k i → zin k' i' → ad k i = ad k' i' → k = k' ∧ i = i') ∧
  (∀ (k : Nat) (i : Int), zin k i → va_at D zCl (ad k i, zE cA ad (zm x y k i) k i) H) ∧
  (∀ (k : Nat) (i j : Int), zlg k j = false → zR (zm x y k i j))
def zK (D : va_G) (cA : Nat → ClassId) (s : State) : Prop := va_K D zCl [] s ∧ ∀ k : Nat, (zsh k).1 ≠ 0 → ArrOfT s (cA k) (zty k) ∧ va_RA s (cA k) (zty k)
def zstrs : List (Nat × String) := [(52, "the variable, the owner or the value is out of range"), (62, "the variable is data or is written by a cell"), (69, "the variable or the value is out of range"), (266, "the variable is not data"), (264, "there is no such variable"), (78, "the variable has no value"), (84, "one of them is out of range"), (88, "what it reads must be there, what it writes must not"), (94, "no variable is left to write"), (270, "there is no such cell"), (129, "the constant is out of range"), (134, "no cell writes the variable"), (161, "the cell would fail"), (272, "the cell has not failed"), (196, "the room is out of range"), (201, "there are 3 kernels"), (208, "there is no such kernel"), (214, "the period is out of range"), (219, "the number of ticks is out of range"), (224, "the tick would be greater than 5000"), (241, "there are no kernels"), (244, "no variable has a value"), (249, "the cell is not fresh, or there are 20 views"), (268, "there is no such view")]
def zexc : List String := ["java/lang/IllegalArgumentException", "java/lang/IllegalStateException", "java/util/NoSuchElementException", "java/lang/UnsupportedOperationException", "java/lang/IndexOutOfBoundsException", "java/lang/ArithmeticException"]
def zxw : List Cond := zexc.map (fun E => Cond.castable E E) ++ ["java/lang/RuntimeException", "java/lang/Exception", "java/lang/Throwable"].map (fun E => Cond.declares ⟨E, "<init>", "(Ljava/lang/String;)V"⟩)
def zST (A : Nat → Prop) (U : State) (H : Heap) : Prop := vx_Zq Bundle.tN "UNASSIGNED_STACK" Bundle.steD A U H ∧ vx_Zq Bundle.tN "SUPPRESSED_SENTINEL" Bundle.listD A U H ∧ (∀ q ∈ zstrs, ∃ a, vk_R RX4 q.1 q.2 a U) ∧ ∀ w ∈ zxw, va_Nw w U
def zA (ad : Nat → Int → Nat) (sz : Nat) : Nat → Prop := fun q => (∃ (k : Nat) (i : Int), zin k i ∧ q = ad k i) ∨ sz ≤ q
def zup (x : zSt) (k : Nat) (i j z : Int) : zSt := fun k' i' j' => if k' = k ∧ i' = i ∧ j' = j then z else x k' i' j'
theorem zup_same {x : zSt} {k : Nat} {i j z : Int} : zup x k i j z k i j = z := if_pos ⟨rfl, rfl, rfl⟩
theorem zup_k {x : zSt} {k k' : Nat} {i i' j j' z : Int} (h : k' ≠ k) : zup x k i j z k' i' j' = x k' i' j' := if_neg (fun q => h q.1)
theorem zup_i {x : zSt} {k : Nat} {i i' j j' z : Int} (h : i' ≠ i) : zup x k i j z k i' j' = x k i' j' := if_neg (fun q => h q.2.1)
theorem zup_j {x : zSt} {k : Nat} {i j j' z : Int} (h : j' ≠ j) : zup x k i j z k i j' = x k i j' := if_neg (fun q => h q.2.2)
theorem zup_e {x : zSt} {k : Nat} {i i' j j' z : Int} : zup x k i j z k i' j' = if i' = i ∧ j' = j then z else x k i' j' := by
  unfold zup
  by_cases h : i' = i ∧ j' = j
  · rw [if_pos ⟨rfl, h⟩, if_pos h]
  · rw [if_neg (fun q => h q.2), if_neg h]
theorem zm_x {x y : zSt} {k : Nat} (h : k < 20) : zm x y k = x k := if_pos h
theorem zm_y {x y : zSt} {k : Nat} (h : ¬ k < 20) : zm x y k = y k := if_neg h
/-- locals, by place -/
def zLl (L : List (Option Value)) : List (Nat × Value) := (List.range L.length).filterMap (fun j => (L.getD j none).map (fun v => (j, v)))
def zL (ls : Array Slot) (L : List (Option Value)) : Prop := lv_has ls L.length (zLl L) ∧ ∀ v, some v ∈ L → v.category = 1
theorem zLl_mem {L : List (Option Value)} {j : Nat} {v : Value} : (j, v) ∈ zLl L ↔ L[j]? = some (some v) := by
  unfold zLl
  rw [List.mem_filterMap]
  constructor
  · rintro ⟨a, ha, h⟩
    rw [List.mem_range] at ha
    rw [List.getD_eq_getElem?_getD] at h
    rw [List.getElem?_eq_getElem ha] at h
    simp only [Option.getD_some, Option.map_eq_some_iff, Prod.mk.injEq] at h
    obtain ⟨w, hw, rfl, rfl⟩ := h
    rw [List.getElem?_eq_getElem ha, hw]
  · intro h
    have hl := (List.getElem?_eq_some_iff.mp h).1
    refine ⟨j, List.mem_range.mpr hl, ?_⟩
    rw [List.getD_eq_getElem?_getD, h]
    rfl
theorem zL.at {ls : Array Slot} {L : List (Option Value)} (h : zL ls L) {i : Nat} {v : Value} (hi : L[i]? = some (some v)) : ls[i]? = some (.val v) := h.1.2.2 (i, v) (zLl_mem.mpr hi)
theorem zL.st {ls ls' : Array Slot} {L : List (Option Value)} {i : Nat} {v : Value} (h : zL ls L) (hi : i < L.length) (hc : v.category = 1)
    (h' : lv_has ls' L.length ((i, v) :: (zLl L).filter (fun q => !(q.1 == i) && !(q.1 + 1 == i && q.2.category == 2)))) : zL ls' (L.set i (some v)) := by
  refine ⟨⟨by rw [List.length_set]; exact h'.1, h'.2.1, fun q hq => ?_⟩, fun w hw => ?_⟩
  · refine h'.2.2 q ?_
    obtain ⟨j, w⟩ := q
    have h1 := zLl_mem.mp hq
    by_cases hj : j = i
    · subst hj
      rw [List.getElem?_set_self hi] at h1
      cases h1
      exact List.mem_cons_self
    · rw [List.getElem?_set_ne (Ne.symm hj)] at h1
      refine List.mem_cons_of_mem _ (List.mem_filter.mpr ⟨zLl_mem.mpr h1, ?_⟩)
      have h2 := h.2 w (List.mem_of_getElem? h1)
      simp [hj, h2]
  · rcases List.mem_or_eq_of_mem_set hw with h1 | h1
    · exact h.2 w h1
    · cases h1
      exact hc
abbrev zG : Type := Program × Launch × Env × Room × State × MethodId × Array Value × List Frame × Method × Code × va_G × (Nat → ClassId) × (Nat → Prop) × (State → Prop)
/-- the judgement: at pc, with locals L and stack st, over the world (x, y) -/
def zV (Γ : zG) (ad : Nat → Int → Nat) (cs ss : Nat) (x y : zSt) (pc : Nat) (L : List (Option Value)) (st : List Value) : Prop := match Γ with
  | (p, l, e, R, s, m, args, below, meth, c, D, cA, A, Q) => ∀ (H : Heap) (locs : List Loc) (ls : Array Slot), zW D cA ad x y H → va_S A s.heap H locs → zL ls L → W p l e R s m args below meth c H locs cs ss Q (F0 m pc ls st)
/-- what holds in a method of the class own, with the code cc and nL locals -/
def zX (Γ : zG) (ad : Nat → Int → Nat) (own : String) (cc : ByteArray) (nL : Nat) : Prop := match Γ with
  | (p, _, _, _, s, m, args, _, meth, c, D, cA, A, _) => (p.tables.exec = Jvm.exec ∧ c.code = cc ∧ c.maxLocals = nL ∧ s.vm.findClass own = some m.cls ∧ ∀ w ∈ zWL, w.before args s = true) ∧ meth.locks = false ∧ zK D cA s ∧ (∀ q, s.heap.size ≤ q → A q) ∧ ∀ (k : Nat) (i : Int), zin k i → A (ad k i)
section ZV
variable {Γ : zG} {ad : Nat → Int → Nat} {cs ss : Nat} {x y : zSt} {pc : Nat} {L : List (Option Value)} {st : List Value} {own : String} {cc : ByteArray} {nL : Nat}
theorem zV_top {v w : Value} (h : v = w) (kk : zV Γ ad cs ss x y pc L (w :: st)) : zV Γ ad cs ss x y pc L (v :: st) := h ▸ kk
theorem zV_wide {cs' ss' : Nat} (h1 : cs ≤ cs') (h2 : ss ≤ ss') (kk : zV Γ ad cs' ss' x y pc L st) : zV Γ ad cs ss x y pc L st := by
  obtain ⟨p, l, e, R, s, m, args, below, meth, c, D, cA, A, Q⟩ := Γ
  intro H locs ls hW hS hL
  exact W.widen h1 h2 (kk H locs ls hW hS hL)
theorem zV_iconst (hX : zX Γ ad own cc nL) {n : Int} (d : decode cc pc = .ok (.iconst n, 1)) (kk : zV Γ ad cs ss x y (pc + 1) L (zI n :: st)) : zV Γ ad cs ss x y pc L st := by
  obtain ⟨p, l, e, R, s, m, args, below, meth, c, D, cA, A, Q⟩ := Γ
  intro H locs ls hW hS hL
  exact lv_iconst hX.1.1 hX.1.2.1 d rfl (kk H locs ls hW hS hL)
theorem zV_bipush (hX : zX Γ ad own cc nL) {n : Int} (d : decode cc pc = .ok (.bipush n, 2)) (h : (Int8.ofInt n).toInt32 = Int32.ofInt n) (kk : zV Γ ad cs ss x y (pc + 2) L (zI n :: st)) : zV Γ ad cs ss x y pc L st := by
  obtain ⟨p, l, e, R, s, m, args, below, meth, c, D, cA, A, Q⟩ := Γ
  intro H locs ls hW hS hL
  exact lv_bipush hX.1.1 hX.1.2.1 d h (kk H locs ls hW hS hL)
theorem zV_sipush (hX : zX Γ ad own cc nL) {n : Int} (d : decode cc pc = .ok (.sipush n, 3)) (h : (Int16.ofInt n).toInt32 = Int32.ofInt n) (kk : zV Γ ad cs ss x y (pc + 3) L (zI n :: st)) : zV Γ ad cs ss x y pc L st := by
  obtain ⟨p, l, e, R, s, m, args, below, meth, c, D, cA, A, Q⟩ := Γ
  intro H locs ls hW hS hL
  exact lv_sipush hX.1.1 hX.1.2.1 d h (kk H locs ls hW hS hL)
theorem zV_ldc (hX : zX Γ ad own cc nL) {n : Int} {i : Nat} (hw : Cond.constant own i (Int32.ofInt n) ∈ zWL) (d : decode cc pc = .ok (.ldc i, 2)) (kk : zV Γ ad cs ss x y (pc + 2) L (zI n :: st)) : zV Γ ad cs ss x y pc L st := by
  obtain ⟨p, l, e, R, s, m, args, below, meth, c, D, cA, A, Q⟩ := Γ
  intro H locs ls hW hS hL
  exact lv_ldc hX.1.1 hX.1.2.1 hX.1.2.2.2.1 (hX.1.2.2.2.2 _ hw) d (kk H locs ls hW hS hL)
theorem zV_iload (hX : zX Γ ad own cc nL) {i : Nat} {z : Int} (d : decode cc pc = .ok (.iload i, 2)) (h : L[i]? = some (some (zI z))) (kk : zV Γ ad cs ss x y (pc + 2) L (zI z :: st)) : zV Γ ad cs ss x y pc L st := by
  obtain ⟨p, l, e, R, s, m, args, below, meth, c, D, cA, A, Q⟩ := Γ
  intro H locs ls hW hS hL
  exact lv_iload hX.1.1 hX.1.2.1 d (hL.at h) (kk H locs ls hW hS hL)
theorem zV_iloadn (hX : zX Γ ad own cc nL) {k : Fin 4} {z : Int} (d : decode cc pc = .ok (.iload_n k, 1)) (h : L[(k : Nat)]? = some (some (zI z))) (kk : zV Γ ad cs ss x y (pc + 1) L (zI z :: st)) : zV Γ ad cs ss x y pc L st := by
  obtain ⟨p, l, e, R, s, m, args, below, meth, c, D, cA, A, Q⟩ := Γ
  intro H locs ls hW hS hL
  exact lv_iload_n hX.1.1 hX.1.2.1 d rfl (hL.at h) (kk H locs ls hW hS hL)
theorem zV_aload (hX : zX Γ ad own cc nL) {i : Nat} {q : Nat} (d : decode cc pc = .ok (.aload i, 2)) (h : L[i]? = some (some (.ref q))) (kk : zV Γ ad cs ss x y (pc + 2) L (.ref q :: st)) : zV Γ ad cs ss x y pc L st := by
  obtain ⟨p, l, e, R, s, m, args, below, meth, c, D, cA, A, Q⟩ := Γ
  intro H locs ls hW hS hL
  exact lv_aload hX.1.1 hX.1.2.1 d (hL.at h) (kk H locs ls hW hS hL)
theorem zV_aloadn (hX : zX Γ ad own cc nL) {k : Fin 4} {q : Nat} (d : decode cc pc = .ok (.aload_n k, 1)) (h : L[(k : Nat)]? = some (some (.ref q))) (kk : zV Γ ad cs ss x y (pc + 1) L (.ref q :: st)) : zV Γ ad cs ss x y pc L st := by
  obtain ⟨p, l, e, R, s, m, args, below, meth, c, D, cA, A, Q⟩ := Γ
  intro H locs ls hW hS hL
  exact lv_aload_n hX.1.1 hX.1.2.1 d rfl (hL.at h) (kk H locs ls hW hS hL)
theorem zV_istore_w (hX : zX Γ ad own cc nL) {i : Nat} {z : Int} (hi : i < L.length) (d : decode cc pc = .ok (.istore i, 2)) (kk : zV Γ ad cs ss x y (pc + 2) (L.set i (some (zI z))) st) : zV Γ ad cs ss x y pc L (zI z :: st) := by
  obtain ⟨p, l, e, R, s, m, args, below, meth, c, D, cA, A, Q⟩ := Γ
  intro H locs ls hW hS hL
  exact lv_istore hX.1.1 hX.1.2.1 d hL.1 hi rfl (fun ls' h' => kk H locs ls' hW hS (hL.st hi rfl h'))
theorem zV_istore_n (hX : zX Γ ad own cc nL) {k : Fin 4} {i : Nat} {z : Int} (hi : i < L.length) (d : decode cc pc = .ok (.istore_n k, 1)) (hk : (k : Nat) = i) (kk : zV Γ ad cs ss x y (pc + 1) (L.set i (some (zI z))) st) : zV Γ ad cs ss x y pc L (zI z :: st) := by
  obtain ⟨p, l, e, R, s, m, args, below, meth, c, D, cA, A, Q⟩ := Γ
  intro H locs ls hW hS hL
  exact lv_istore_n hX.1.1 hX.1.2.1 d hk hL.1 hi rfl (fun ls' h' => kk H locs ls' hW hS (hL.st hi rfl h'))
theorem zV_astore_w (hX : zX Γ ad own cc nL) {i : Nat} {q : Nat} (hi : i < L.length) (d : decode cc pc = .ok (.astore i, 2)) (kk : zV Γ ad cs ss x y (pc + 2) (L.set i (some (.ref q))) st) : zV Γ ad cs ss x y pc L (.ref q :: st) := by
  obtain ⟨p, l, e, R, s, m, args, below, meth, c, D, cA, A, Q⟩ := Γ
  intro H locs ls hW hS hL
  exact lv_astore hX.1.1 hX.1.2.1 d hL.1 hi rfl (fun ls' h' => kk H locs ls' hW hS (hL.st hi rfl h'))
theorem zV_astore_n (hX : zX Γ ad own cc nL) {k : Fin 4} {i : Nat} {q : Nat} (hi : i < L.length) (d : decode cc pc = .ok (.astore_n k, 1)) (hk : (k : Nat) = i) (kk : zV Γ ad cs ss x y (pc + 1) (L.set i (some (.ref q))) st) : zV Γ ad cs ss x y pc L (.ref q :: st) := by
  obtain ⟨p, l, e, R, s, m, args, below, meth, c, D, cA, A, Q⟩ := Γ
  intro H locs ls hW hS hL
  exact lv_astore_n hX.1.1 hX.1.2.1 d hk hL.1 hi rfl (fun ls' h' => kk H locs ls' hW hS (hL.st hi rfl h'))
theorem zV_iinc_w (hX : zX Γ ad own cc nL) {i : Nat} {z n : Int} (h : L[i]? = some (some (zI z))) (d : decode cc pc = .ok (.iinc i n, 3)) (kk : zV Γ ad cs ss x y (pc + 3) (L.set i (some (zI (z + n)))) st) : zV Γ ad cs ss x y pc L st := by
  obtain ⟨p, l, e, R, s, m, args, below, meth, c, D, cA, A, Q⟩ := Γ
  intro H locs ls hW hS hL
  have hi := (List.getElem?_eq_some_iff.mp h).1
  obtain ⟨k, hk⟩ := List.getElem?_of_mem (zLl_mem.mpr h)
  exact lv_iinc (v := Int32.ofInt (z + n)) hX.1.1 hX.1.2.1 d hL.1 hk (Int32.ofInt_add z n).symm hi rfl (fun ls' h' => kk H locs ls' hW hS (hL.st hi rfl h'))
theorem zV_istore0 (hX : zX Γ ad own cc nL) {b : Option Value} {z : Int} {L : List (Option Value)} (d : decode cc pc = .ok (.istore 0, 2)) (kk : zV Γ ad cs ss x y (pc + 2) (some (zI z) :: L) st) : zV Γ ad cs ss x y pc (b :: L) (zI z :: st) := zV_istore_w hX (i := 0) (by simp) d kk
theorem zV_istoren0 (hX : zX Γ ad own cc nL) {b : Option Value} {z : Int} {L : List (Option Value)} (d : decode cc pc = .ok (.istore_n 0, 1)) (kk : zV Γ ad cs ss x y (pc + 1) (some (zI z) :: L) st) : zV Γ ad cs ss x y pc (b :: L) (zI z :: st) := zV_istore_n hX (i := 0) (by simp) d rfl kk
theorem zV_astore0 (hX : zX Γ ad own cc nL) {b : Option Value} {q : Nat} {L : List (Option Value)} (d : decode cc pc = .ok (.astore 0, 2)) (kk : zV Γ ad cs ss x y (pc + 2) (some (.ref q) :: L) st) : zV Γ ad cs ss x y pc (b :: L) (.ref q :: st) := zV_astore_w hX (i := 0) (by simp) d kk
theorem zV_astoren0 (hX : zX Γ ad own cc nL) {b : Option Value} {q : Nat} {L : List (Option Value)} (d : decode cc pc = .ok (.astore_n 0, 1)) (kk : zV Γ ad cs ss x y (pc + 1) (some (.ref q) :: L) st) : zV Γ ad cs ss x y pc (b :: L) (.ref q :: st) := zV_astore_n hX (i := 0) (by simp) d rfl kk
theorem zV_iinc0 (hX : zX Γ ad own cc nL) {z n : Int} {L : List (Option Value)} (d : decode cc pc = .ok (.iinc 0 n, 3)) (kk : zV Γ ad cs ss x y (pc + 3) (some (zI (z + n)) :: L) st) : zV Γ ad cs ss x y pc (some (zI z) :: L) st := zV_iinc_w hX (i := 0) (z := z) rfl d kk
theorem zV_istore1 (hX : zX Γ ad own cc nL) {a0 : Option Value} {b : Option Value} {z : Int} {L : List (Option Value)} (d : decode cc pc = .ok (.istore 1, 2)) (kk : zV Γ ad cs ss x y (pc + 2) (a0 :: some (zI z) :: L) st) : zV Γ ad cs ss x y pc (a0 :: b :: L) (zI z :: st) := zV_istore_w hX (i := 1) (by simp) d kk
theorem zV_istoren1 (hX : zX Γ ad own cc nL) {a0 : Option Value} {b : Option Value} {z : Int} {L : List (Option Value)} (d : decode cc pc = .ok (.istore_n 1, 1)) (kk : zV Γ ad cs ss x y (pc + 1) (a0 :: some (zI z) :: L) st) : zV Γ ad cs ss x y pc (a0 :: b :: L) (zI z :: st) := zV_istore_n hX (i := 1) (by simp) d rfl kk
theorem zV_astore1 (hX : zX Γ ad own cc nL) {a0 : Option Value} {b : Option Value} {q : Nat} {L : List (Option Value)} (d : decode cc pc = .ok (.astore 1, 2)) (kk : zV Γ ad cs ss x y (pc + 2) (a0 :: some (.ref q) :: L) st) : zV Γ ad cs ss x y pc (a0 :: b :: L) (.ref q :: st) := zV_astore_w hX (i := 1) (by simp) d kk
theorem zV_astoren1 (hX : zX Γ ad own cc nL) {a0 : Option Value} {b : Option Value} {q : Nat} {L : List (Option Value)} (d : decode cc pc = .ok (.astore_n 1, 1)) (kk : zV Γ ad cs ss x y (pc + 1) (a0 :: some (.ref q) :: L) st) : zV Γ ad cs ss x y pc (a0 :: b :: L) (.ref q :: st) := zV_astore_n hX (i := 1) (by simp) d rfl kk
theorem zV_iinc1 (hX : zX Γ ad own cc nL) {a0 : Option Value} {z n : Int} {L : List (Option Value)} (d : decode cc pc = .ok (.iinc 1 n, 3)) (kk : zV Γ ad cs ss x y (pc + 3) (a0 :: some (zI (z + n)) :: L) st) : zV Γ ad cs ss x y pc (a0 :: some (zI z) :: L) st := zV_iinc_w hX (i := 1) (z := z) rfl d kk
theorem zV_istore2 (hX : zX Γ ad own cc nL) {a0 a1 : Option Value} {b : Option Value} {z : Int} {L : List (Option Value)} (d : decode cc pc = .ok (.istore 2, 2)) (kk : zV Γ ad cs ss x y (pc + 2) (a0 :: a1 :: some (zI z) :: L) st) : zV Γ ad cs ss x y pc (a0 :: a1 :: b :: L) (zI z :: st) := zV_istore_w hX (i := 2) (by simp) d kk
theorem zV_istoren2 (hX : zX Γ ad own cc nL) {a0 a1 : Option Value} {b : Option Value} {z : Int} {L : List (Option Value)} (d : decode cc pc = .ok (.istore_n 2, 1)) (kk : zV Γ ad cs ss x y (pc + 1) (a0 :: a1 :: some (zI z) :: L) st) : zV Γ ad cs ss x y pc (a0 :: a1 :: b :: L) (zI z :: st) := zV_istore_n hX (i := 2) (by simp) d rfl kk
theorem zV_astore2 (hX : zX Γ ad own cc nL) {a0 a1 : Option Value} {b : Option Value} {q : Nat} {L : List (Option Value)} (d : decode cc pc = .ok (.astore 2, 2)) (kk : zV Γ ad cs ss x y (pc + 2) (a0 :: a1 :: some (.ref q) :: L) st) : zV Γ ad cs ss x y pc (a0 :: a1 :: b :: L) (.ref q :: st) := zV_astore_w hX (i := 2) (by simp) d kk
theorem zV_astoren2 (hX : zX Γ ad own cc nL) {a0 a1 : Option Value} {b : Option Value} {q : Nat} {L : List (Option Value)} (d : decode cc pc = .ok (.astore_n 2, 1)) (kk : zV Γ ad cs ss x y (pc + 1) (a0 :: a1 :: some (.ref q) :: L) st) : zV Γ ad cs ss x y pc (a0 :: a1 :: b :: L) (.ref q :: st) := zV_astore_n hX (i := 2) (by simp) d rfl kk
theorem zV_iinc2 (hX : zX Γ ad own cc nL) {a0 a1 : Option Value} {z n : Int} {L : List (Option Value)} (d : decode cc pc = .ok (.iinc 2 n, 3)) (kk : zV Γ ad cs ss x y (pc + 3) (a0 :: a1 :: some (zI (z + n)) :: L) st) : zV Γ ad cs ss x y pc (a0 :: a1 :: some (zI z) :: L) st := zV_iinc_w hX (i := 2) (z := z) rfl d kk
theorem zV_istore3 (hX : zX Γ ad own cc nL) {a0 a1 a2 : Option Value} {b : Option Value} {z : Int} {L : List (Option Value)} (d : decode cc pc = .ok (.istore 3, 2)) (kk : zV Γ ad cs ss x y (pc + 2) (a0 :: a1 :: a2 :: some (zI z) :: L) st) : zV Γ ad cs ss x y pc (a0 :: a1 :: a2 :: b :: L) (zI z :: st) := zV_istore_w hX (i := 3) (by simp) d kk
theorem zV_istoren3 (hX : zX Γ ad own cc nL) {a0 a1 a2 : Option Value} {b : Option Value} {z : Int} {L : List (Option Value)} (d : decode cc pc = .ok (.istore_n 3, 1)) (kk : zV Γ ad cs ss x y (pc + 1) (a0 :: a1 :: a2 :: some (zI z) :: L) st) : zV Γ ad cs ss x y pc (a0 :: a1 :: a2 :: b :: L) (zI z :: st) := zV_istore_n hX (i := 3) (by simp) d rfl kk
theorem zV_astore3 (hX : zX Γ ad own cc nL) {a0 a1 a2 : Option Value} {b : Option Value} {q : Nat} {L : List (Option Value)} (d : decode cc pc = .ok (.astore 3, 2)) (kk : zV Γ ad cs ss x y (pc + 2) (a0 :: a1 :: a2 :: some (.ref q) :: L) st) : zV Γ ad cs ss x y pc (a0 :: a1 :: a2 :: b :: L) (.ref q :: st) := zV_astore_w hX (i := 3) (by simp) d kk
theorem zV_astoren3 (hX : zX Γ ad own cc nL) {a0 a1 a2 : Option Value} {b : Option Value} {q : Nat} {L : List (Option Value)} (d : decode cc pc = .ok (.astore_n 3, 1)) (kk : zV Γ ad cs ss x y (pc + 1) (a0 :: a1 :: a2 :: some (.ref q) :: L) st) : zV Γ ad cs ss x y pc (a0 :: a1 :: a2 :: b :: L) (.ref q :: st) := zV_astore_n hX (i := 3) (by simp) d rfl kk
theorem zV_iinc3 (hX : zX Γ ad own cc nL) {a0 a1 a2 : Option Value} {z n : Int} {L : List (Option Value)} (d : decode cc pc = .ok (.iinc 3 n, 3)) (kk : zV Γ ad cs ss x y (pc + 3) (a0 :: a1 :: a2 :: some (zI (z + n)) :: L) st) : zV Γ ad cs ss x y pc (a0 :: a1 :: a2 :: some (zI z) :: L) st := zV_iinc_w hX (i := 3) (z := z) rfl d kk
theorem zV_istore4 (hX : zX Γ ad own cc nL) {a0 a1 a2 a3 : Option Value} {b : Option Value} {z : Int} {L : List (Option Value)} (d : decode cc pc = .ok (.istore 4, 2)) (kk : zV Γ ad cs ss x y (pc + 2) (a0 :: a1 :: a2 :: a3 :: some (zI z) :: L) st) : zV Γ ad cs ss x y pc (a0 :: a1 :: a2 :: a3 :: b :: L) (zI z :: st) := zV_istore_w hX (i := 4) (by simp) d kk
theorem zV_astore4 (hX : zX Γ ad own cc nL) {a0 a1 a2 a3 : Option Value} {b : Option Value} {q : Nat} {L : List (Option Value)} (d : decode cc pc = .ok (.astore 4, 2)) (kk : zV Γ ad cs ss x y (pc + 2) (a0 :: a1 :: a2 :: a3 :: some (.ref q) :: L) st) : zV Γ ad cs ss x y pc (a0 :: a1 :: a2 :: a3 :: b :: L) (.ref q :: st) := zV_astore_w hX (i := 4) (by simp) d kk
theorem zV_iinc4 (hX : zX Γ ad own cc nL) {a0 a1 a2 a3 : Option Value} {z n : Int} {L : List (Option Value)} (d : decode cc pc = .ok (.iinc 4 n, 3)) (kk : zV Γ ad cs ss x y (pc + 3) (a0 :: a1 :: a2 :: a3 :: some (zI (z + n)) :: L) st) : zV Γ ad cs ss x y pc (a0 :: a1 :: a2 :: a3 :: some (zI z) :: L) st := zV_iinc_w hX (i := 4) (z := z) rfl d kk
theorem zV_istore5 (hX : zX Γ ad own cc nL) {a0 a1 a2 a3 a4 : Option Value} {b : Option Value} {z : Int} {L : List (Option Value)} (d : decode cc pc = .ok (.istore 5, 2)) (kk : zV Γ ad cs ss x y (pc + 2) (a0 :: a1 :: a2 :: a3 :: a4 :: some (zI z) :: L) st) : zV Γ ad cs ss x y pc (a0 :: a1 :: a2 :: a3 :: a4 :: b :: L) (zI z :: st) := zV_istore_w hX (i := 5) (by simp) d kk
theorem zV_astore5 (hX : zX Γ ad own cc nL) {a0 a1 a2 a3 a4 : Option Value} {b : Option Value} {q : Nat} {L : List (Option Value)} (d : decode cc pc = .ok (.astore 5, 2)) (kk : zV Γ ad cs ss x y (pc + 2) (a0 :: a1 :: a2 :: a3 :: a4 :: some (.ref q) :: L) st) : zV Γ ad cs ss x y pc (a0 :: a1 :: a2 :: a3 :: a4 :: b :: L) (.ref q :: st) := zV_astore_w hX (i := 5) (by simp) d kk
theorem zV_iinc5 (hX : zX Γ ad own cc nL) {a0 a1 a2 a3 a4 : Option Value} {z n : Int} {L : List (Option Value)} (d : decode cc pc = .ok (.iinc 5 n, 3)) (kk : zV Γ ad cs ss x y (pc + 3) (a0 :: a1 :: a2 :: a3 :: a4 :: some (zI (z + n)) :: L) st) : zV Γ ad cs ss x y pc (a0 :: a1 :: a2 :: a3 :: a4 :: some (zI z) :: L) st := zV_iinc_w hX (i := 5) (z := z) rfl d kk
theorem zV_istore6 (hX : zX Γ ad own cc nL) {a0 a1 a2 a3 a4 a5 : Option Value} {b : Option Value} {z : Int} {L : List (Option Value)} (d : decode cc pc = .ok (.istore 6, 2)) (kk : zV Γ ad cs ss x y (pc + 2) (a0 :: a1 :: a2 :: a3 :: a4 :: a5 :: some (zI z) :: L) st) : zV Γ ad cs ss x y pc (a0 :: a1 :: a2 :: a3 :: a4 :: a5 :: b :: L) (zI z :: st) := zV_istore_w hX (i := 6) (by simp) d kk
theorem zV_astore6 (hX : zX Γ ad own cc nL) {a0 a1 a2 a3 a4 a5 : Option Value} {b : Option Value} {q : Nat} {L : List (Option Value)} (d : decode cc pc = .ok (.astore 6, 2)) (kk : zV Γ ad cs ss x y (pc + 2) (a0 :: a1 :: a2 :: a3 :: a4 :: a5 :: some (.ref q) :: L) st) : zV Γ ad cs ss x y pc (a0 :: a1 :: a2 :: a3 :: a4 :: a5 :: b :: L) (.ref q :: st) := zV_astore_w hX (i := 6) (by simp) d kk
theorem zV_iinc6 (hX : zX Γ ad own cc nL) {a0 a1 a2 a3 a4 a5 : Option Value} {z n : Int} {L : List (Option Value)} (d : decode cc pc = .ok (.iinc 6 n, 3)) (kk : zV Γ ad cs ss x y (pc + 3) (a0 :: a1 :: a2 :: a3 :: a4 :: a5 :: some (zI (z + n)) :: L) st) : zV Γ ad cs ss x y pc (a0 :: a1 :: a2 :: a3 :: a4 :: a5 :: some (zI z) :: L) st := zV_iinc_w hX (i := 6) (z := z) rfl d kk
theorem zV_istore7 (hX : zX Γ ad own cc nL) {a0 a1 a2 a3 a4 a5 a6 : Option Value} {b : Option Value} {z : Int} {L : List (Option Value)} (d : decode cc pc = .ok (.istore 7, 2)) (kk : zV Γ ad cs ss x y (pc + 2) (a0 :: a1 :: a2 :: a3 :: a4 :: a5 :: a6 :: some (zI z) :: L) st) : zV Γ ad cs ss x y pc (a0 :: a1 :: a2 :: a3 :: a4 :: a5 :: a6 :: b :: L) (zI z :: st) := zV_istore_w hX (i := 7) (by simp) d kk
theorem zV_astore7 (hX : zX Γ ad own cc nL) {a0 a1 a2 a3 a4 a5 a6 : Option Value} {b : Option Value} {q : Nat} {L : List (Option Value)} (d : decode cc pc = .ok (.astore 7, 2)) (kk : zV Γ ad cs ss x y (pc + 2) (a0 :: a1 :: a2 :: a3 :: a4 :: a5 :: a6 :: some (.ref q) :: L) st) : zV Γ ad cs ss x y pc (a0 :: a1 :: a2 :: a3 :: a4 :: a5 :: a6 :: b :: L) (.ref q :: st) := zV_astore_w hX (i := 7) (by simp) d kk
theorem zV_iinc7 (hX : zX Γ ad own cc nL) {a0 a1 a2 a3 a4 a5 a6 : Option Value} {z n : Int} {L : List (Option Value)} (d : decode cc pc = .ok (.iinc 7 n, 3)) (kk : zV Γ ad cs ss x y (pc + 3) (a0 :: a1 :: a2 :: a3 :: a4 :: a5 :: a6 :: some (zI (z + n)) :: L) st) : zV Γ ad cs ss x y pc (a0 :: a1 :: a2 :: a3 :: a4 :: a5 :: a6 :: some (zI z) :: L) st := zV_iinc_w hX (i := 7) (z := z) rfl d kk
theorem zV_istore8 (hX : zX Γ ad own cc nL) {a0 a1 a2 a3 a4 a5 a6 a7 : Option Value} {b : Option Value} {z : Int} {L : List (Option Value)} (d : decode cc pc = .ok (.istore 8, 2)) (kk : zV Γ ad cs ss x y (pc + 2) (a0 :: a1 :: a2 :: a3 :: a4 :: a5 :: a6 :: a7 :: some (zI z) :: L) st) : zV Γ ad cs ss x y pc (a0 :: a1 :: a2 :: a3 :: a4 :: a5 :: a6 :: a7 :: b :: L) (zI z :: st) := zV_istore_w hX (i := 8) (by simp) d kk
theorem zV_astore8 (hX : zX Γ ad own cc nL) {a0 a1 a2 a3 a4 a5 a6 a7 : Option Value} {b : Option Value} {q : Nat} {L : List (Option Value)} (d : decode cc pc = .ok (.astore 8, 2)) (kk : zV Γ ad cs ss x y (pc + 2) (a0 :: a1 :: a2 :: a3 :: a4 :: a5 :: a6 :: a7 :: some (.ref q) :: L) st) : zV Γ ad cs ss x y pc (a0 :: a1 :: a2 :: a3 :: a4 :: a5 :: a6 :: a7 :: b :: L) (.ref q :: st) := zV_astore_w hX (i := 8) (by simp) d kk
theorem zV_iinc8 (hX : zX Γ ad own cc nL) {a0 a1 a2 a3 a4 a5 a6 a7 : Option Value} {z n : Int} {L : List (Option Value)} (d : decode cc pc = .ok (.iinc 8 n, 3)) (kk : zV Γ ad cs ss x y (pc + 3) (a0 :: a1 :: a2 :: a3 :: a4 :: a5 :: a6 :: a7 :: some (zI (z + n)) :: L) st) : zV Γ ad cs ss x y pc (a0 :: a1 :: a2 :: a3 :: a4 :: a5 :: a6 :: a7 :: some (zI z) :: L) st := zV_iinc_w hX (i := 8) (z := z) rfl d kk
theorem zV_istore9 (hX : zX Γ ad own cc nL) {a0 a1 a2 a3 a4 a5 a6 a7 a8 : Option Value} {b : Option Value} {z : Int} {L : List (Option Value)} (d : decode cc pc = .ok (.istore 9, 2)) (kk : zV Γ ad cs ss x y (pc + 2) (a0 :: a1 :: a2 :: a3 :: a4 :: a5 :: a6 :: a7 :: a8 :: some (zI z) :: L) st) : zV Γ ad cs ss x y pc (a0 :: a1 :: a2 :: a3 :: a4 :: a5 :: a6 :: a7 :: a8 :: b :: L) (zI z :: st) := zV_istore_w hX (i := 9) (by simp) d kk
theorem zV_astore9 (hX : zX Γ ad own cc nL) {a0 a1 a2 a3 a4 a5 a6 a7 a8 : Option Value} {b : Option Value} {q : Nat} {L : List (Option Value)} (d : decode cc pc = .ok (.astore 9, 2)) (kk : zV Γ ad cs ss x y (pc + 2) (a0 :: a1 :: a2 :: a3 :: a4 :: a5 :: a6 :: a7 :: a8 :: some (.ref q) :: L) st) : zV Γ ad cs ss x y pc (a0 :: a1 :: a2 :: a3 :: a4 :: a5 :: a6 :: a7 :: a8 :: b :: L) (.ref q :: st) := zV_astore_w hX (i := 9) (by simp) d kk
theorem zV_iinc9 (hX : zX Γ ad own cc nL) {a0 a1 a2 a3 a4 a5 a6 a7 a8 : Option Value} {z n : Int} {L : List (Option Value)} (d : decode cc pc = .ok (.iinc 9 n, 3)) (kk : zV Γ ad cs ss x y (pc + 3) (a0 :: a1 :: a2 :: a3 :: a4 :: a5 :: a6 :: a7 :: a8 :: some (zI (z + n)) :: L) st) : zV Γ ad cs ss x y pc (a0 :: a1 :: a2 :: a3 :: a4 :: a5 :: a6 :: a7 :: a8 :: some (zI z) :: L) st := zV_iinc_w hX (i := 9) (z := z) rfl d kk
theorem zV_iadd (hX : zX Γ ad own cc nL) {a b : Int} (d : decode cc pc = .ok (.iadd, 1)) (kk : zV Γ ad cs ss x y (pc + 1) L (zI (a + b) :: st)) : zV Γ ad cs ss x y pc L (zI b :: zI a :: st) := by
  obtain ⟨p, l, e, R, s, m, args, below, meth, c, D, cA, A, Q⟩ := Γ
  intro H locs ls hW hS hL
  refine lv_iadd hX.1.1 hX.1.2.1 d ?_
  rw [← Int32.ofInt_add]
  exact kk H locs ls hW hS hL
theorem zV_isub (hX : zX Γ ad own cc nL) {a b : Int} (d : decode cc pc = .ok (.isub, 1)) (kk : zV Γ ad cs ss x y (pc + 1) L (zI (a - b) :: st)) : zV Γ ad cs ss x y pc L (zI b :: zI a :: st) := by
  obtain ⟨p, l, e, R, s, m, args, below, meth, c, D, cA, A, Q⟩ := Γ
  intro H locs ls hW hS hL
  refine lv_isub hX.1.1 hX.1.2.1 d ?_
  rw [← Int32.ofInt_sub]
  exact kk H locs ls hW hS hL
theorem zV_imul (hX : zX Γ ad own cc nL) {a b : Int} (d : decode cc pc = .ok (.imul, 1)) (kk : zV Γ ad cs ss x y (pc + 1) L (zI (a * b) :: st)) : zV Γ ad cs ss x y pc L (zI b :: zI a :: st) := by
  obtain ⟨p, l, e, R, s, m, args, below, meth, c, D, cA, A, Q⟩ := Γ
  intro H locs ls hW hS hL
  refine lv_imul hX.1.1 hX.1.2.1 d ?_
  rw [← Int32.ofInt_mul]
  exact kk H locs ls hW hS hL
theorem zV_ineg (hX : zX Γ ad own cc nL) {a : Int} (d : decode cc pc = .ok (.ineg, 1)) (kk : zV Γ ad cs ss x y (pc + 1) L (zI (-a) :: st)) : zV Γ ad cs ss x y pc L (zI a :: st) := by
  obtain ⟨p, l, e, R, s, m, args, below, meth, c, D, cA, A, Q⟩ := Γ
  intro H locs ls hW hS hL
  refine lv_ineg hX.1.1 hX.1.2.1 d ?_
  rw [← Int32.ofInt_neg]
  exact kk H locs ls hW hS hL
theorem zi_toInt {z : Int} (h : zR z) : (Int32.ofInt z).toInt = z := Int32.toInt_ofInt_of_le h.1 (Int.lt_of_le_of_lt h.2 (by decide))
theorem zi_inj {a b : Int} (ha : zR a) (hb : zR b) : Int32.ofInt a = Int32.ofInt b ↔ a = b := by
  rw [← Int32.toInt_inj, zi_toInt ha, zi_toInt hb]
theorem zi_lt {a b : Int} (ha : zR a) (hb : zR b) : Int32.ofInt a < Int32.ofInt b ↔ a < b := by
  rw [Int32.lt_iff_toInt_lt, zi_toInt ha, zi_toInt hb]
theorem zi_le {a b : Int} (ha : zR a) (hb : zR b) : Int32.ofInt a ≤ Int32.ofInt b ↔ a ≤ b := by
  rw [Int32.le_iff_toInt_le, zi_toInt ha, zi_toInt hb]
theorem zi_z : (0 : Int32) = Int32.ofInt 0 := rfl
theorem zR_0 : zR 0 := by decide
theorem zi_div {a b : Int} (ha : 0 ≤ a ∧ a ≤ 2147483647) (hb : 0 < b ∧ b ≤ 2147483647) : Int32.ofInt a / Int32.ofInt b = Int32.ofInt (a / b) := by
  have e1 : Int32.minValue.toInt = -2147483648 := by decide
  have e2 : Int32.maxValue.toInt = 2147483647 := by decide
  rw [← Int32.ofInt_tdiv (by rw [e1]; omega) (by rw [e2]; omega) (by rw [e1]; omega) (by rw [e2]; omega), Int.tdiv_eq_ediv_of_nonneg ha.1]
theorem zi_rem {a b : Int} (ha : 0 ≤ a ∧ a ≤ 2147483647) (hb : 0 < b ∧ b ≤ 2147483647) : Int32.ofInt a - Int32.ofInt a / Int32.ofInt b * Int32.ofInt b = Int32.ofInt (a % b) := by
  rw [zi_div ha hb, ← Int32.ofInt_mul, ← Int32.ofInt_sub]
  congr 1
  have := Int.emod_add_mul_ediv a b
  rw [Int.mul_comm] at this
  omega
theorem zi_ne0 {b : Int} (hb : 0 < b ∧ b ≤ 2147483647) : ¬ Int32.ofInt b = 0 := by
  rw [zi_z, zi_inj ⟨by omega, by omega⟩ zR_0]
  omega
theorem zV_idiv (hX : zX Γ ad own cc nL) {a b : Int} (d : decode cc pc = .ok (.idiv, 1)) (ha : 0 ≤ a ∧ a ≤ 2147483647) (hb : 0 < b ∧ b ≤ 2147483647) (kk : zV Γ ad cs ss x y (pc + 1) L (zI (a / b) :: st)) : zV Γ ad cs ss x y pc L (zI b :: zI a :: st) := by
  obtain ⟨p, l, e, R, s, m, args, below, meth, c, D, cA, A, Q⟩ := Γ
  intro H locs ls hW hS hL
  refine lv_idiv hX.1.1 hX.1.2.1 d (zi_ne0 hb) ?_
  rw [zi_div ha hb]
  exact kk H locs ls hW hS hL
theorem zV_irem (hX : zX Γ ad own cc nL) {a b : Int} (d : decode cc pc = .ok (.irem, 1)) (ha : 0 ≤ a ∧ a ≤ 2147483647) (hb : 0 < b ∧ b ≤ 2147483647) (kk : zV Γ ad cs ss x y (pc + 1) L (zI (a % b) :: st)) : zV Γ ad cs ss x y pc L (zI b :: zI a :: st) := by
  obtain ⟨p, l, e, R, s, m, args, below, meth, c, D, cA, A, Q⟩ := Γ
  intro H locs ls hW hS hL
  refine lv_irem hX.1.1 hX.1.2.1 d (zi_ne0 hb) ?_
  rw [zi_rem ha hb]
  exact kk H locs ls hW hS hL
/-- bits: sets of small numbers -/
def zand (a b : Int) : Int := (Int32.ofInt a &&& Int32.ofInt b).toInt
def zor (a b : Int) : Int := (Int32.ofInt a ||| Int32.ofInt b).toInt
def zshl (a b : Int) : Int := (Int32.ofInt a <<< (Int32.ofInt b &&& 31)).toInt
def zshr (a b : Int) : Int := ((Int32.ofInt a).toUInt32 >>> ((Int32.ofInt b).toUInt32 &&& Int32.toUInt32 31)).toInt32.toInt
theorem zi_back (v : Int32) : zI v.toInt = .int v := by unfold zI; rw [Int32.ofInt_toInt]
theorem zR_of (v : Int32) : zR v.toInt := by
  have h1 := v.le_toInt
  have h := v.toInt_lt
  have e : (2 : Int) ^ 31 = 2147483648 := by decide
  have e2 : Int32.minValue.toInt = -2147483648 := by decide
  exact ⟨by simpa using h1, by omega⟩
theorem zV_iand (hX : zX Γ ad own cc nL) {a b : Int} (d : decode cc pc = .ok (.iand, 1)) (kk : zV Γ ad cs ss x y (pc + 1) L (zI (zand a b) :: st)) : zV Γ ad cs ss x y pc L (zI b :: zI a :: st) := by
  obtain ⟨p, l, e, R, s, m, args, below, meth, c, D, cA, A, Q⟩ := Γ
  intro H locs ls hW hS hL
  refine lv_iand hX.1.1 hX.1.2.1 d ?_
  rw [← zi_back]
  exact kk H locs ls hW hS hL
theorem zV_ior (hX : zX Γ ad own cc nL) {a b : Int} (d : decode cc pc = .ok (.ior, 1)) (kk : zV Γ ad cs ss x y (pc + 1) L (zI (zor a b) :: st)) : zV Γ ad cs ss x y pc L (zI b :: zI a :: st) := by
  obtain ⟨p, l, e, R, s, m, args, below, meth, c, D, cA, A, Q⟩ := Γ
  intro H locs ls hW hS hL
  refine lv_ior hX.1.1 hX.1.2.1 d ?_
  rw [← zi_back]
  exact kk H locs ls hW hS hL
theorem zV_ishl (hX : zX Γ ad own cc nL) {a b : Int} (d : decode cc pc = .ok (.ishl, 1)) (kk : zV Γ ad cs ss x y (pc + 1) L (zI (zshl a b) :: st)) : zV Γ ad cs ss x y pc L (zI b :: zI a :: st) := by
  obtain ⟨p, l, e, R, s, m, args, below, meth, c, D, cA, A, Q⟩ := Γ
  intro H locs ls hW hS hL
  refine lv_ishl hX.1.1 hX.1.2.1 d ?_
  rw [← zi_back]
  exact kk H locs ls hW hS hL
theorem zV_iushr (hX : zX Γ ad own cc nL) {a b : Int} (d : decode cc pc = .ok (.iushr, 1)) (kk : zV Γ ad cs ss x y (pc + 1) L (zI (zshr a b) :: st)) : zV Γ ad cs ss x y pc L (zI b :: zI a :: st) := by
  obtain ⟨p, l, e, R, s, m, args, below, meth, c, D, cA, A, Q⟩ := Γ
  intro H locs ls hW hS hL
  refine lv_iushr hX.1.1 hX.1.2.1 d rfl ?_
  rw [← zi_back]
  exact kk H locs ls hW hS hL
theorem zV_dup (hX : zX Γ ad own cc nL) {v : Value} (d : decode cc pc = .ok (.dup, 1)) (h : v.category = 1) (kk : zV Γ ad cs ss x y (pc + 1) L (v :: v :: st)) : zV Γ ad cs ss x y pc L (v :: st) := by
  obtain ⟨p, l, e, R, s, m, args, below, meth, c, D, cA, A, Q⟩ := Γ
  intro H locs ls hW hS hL
  exact lv_dup hX.1.1 hX.1.2.1 d h (kk H locs ls hW hS hL)
theorem zV_pop (hX : zX Γ ad own cc nL) {v : Value} (d : decode cc pc = .ok (.pop, 1)) (h : v.category = 1) (kk : zV Γ ad cs ss x y (pc + 1) L st) : zV Γ ad cs ss x y pc L (v :: st) := by
  obtain ⟨p, l, e, R, s, m, args, below, meth, c, D, cA, A, Q⟩ := Γ
  intro H locs ls hW hS hL
  exact lv_pop hX.1.1 hX.1.2.1 d h (kk H locs ls hW hS hL)
theorem zV_dup_x1 (hX : zX Γ ad own cc nL) {v w : Value} (d : decode cc pc = .ok (.dup_x1, 1)) (h : v.category = 1) (h' : w.category = 1) (kk : zV Γ ad cs ss x y (pc + 1) L (v :: w :: v :: st)) : zV Γ ad cs ss x y pc L (v :: w :: st) := by
  obtain ⟨p, l, e, R, s, m, args, below, meth, c, D, cA, A, Q⟩ := Γ
  intro H locs ls hW hS hL
  exact lv_dup_x1 hX.1.1 hX.1.2.1 d h h' (kk H locs ls hW hS hL)
theorem zV_dup2 (hX : zX Γ ad own cc nL) {v w : Value} (d : decode cc pc = .ok (.dup2, 1)) (h : v.category = 1) (h' : w.category = 1) (kk : zV Γ ad cs ss x y (pc + 1) L (v :: w :: v :: w :: st)) : zV Γ ad cs ss x y pc L (v :: w :: st) := by
  obtain ⟨p, l, e, R, s, m, args, below, meth, c, D, cA, A, Q⟩ := Γ
  intro H locs ls hW hS hL
  exact lv_dup2_11 hX.1.1 hX.1.2.1 d h h' (kk H locs ls hW hS hL)
theorem zV_goto (hX : zX Γ ad own cc nL) {off : Int} {tgt : Nat} (d : decode cc pc = .ok (.goto off, 3)) (ht : (pc : Int) + off = (tgt : Int)) (kk : zV Γ ad cs ss x y tgt L st) : zV Γ ad cs ss x y pc L st := by
  obtain ⟨p, l, e, R, s, m, args, below, meth, c, D, cA, A, Q⟩ := Γ
  intro H locs ls hW hS hL
  exact lv_goto hX.1.1 hX.1.2.1 d ht (kk H locs ls hW hS hL)
theorem zV_icmp_eq (hX : zX Γ ad own cc nL) {a b off : Int} {tgt : Nat} (d : decode cc pc = .ok (.if_icmp .eq off, 3)) (ht : (pc : Int) + off = (tgt : Int)) (ha : zR a) (hb : zR b) (kt : a = b → zV Γ ad cs ss x y tgt L st) (kf : ¬ (a = b) → zV Γ ad cs ss x y (pc + 3) L st) : zV Γ ad cs ss x y pc L (zI b :: zI a :: st) := by
  obtain ⟨p, l, e, R, s, m, args, below, meth, c, D, cA, A, Q⟩ := Γ
  intro H locs ls hW hS hL
  exact lv_icmp_eq hX.1.1 hX.1.2.1 d ht (fun h => kt ((zi_inj ha hb).mp h) H locs ls hW hS hL) (fun h => kf (fun q => h ((zi_inj ha hb).mpr q)) H locs ls hW hS hL)
theorem zV_if_eq (hX : zX Γ ad own cc nL) {a off : Int} {tgt : Nat} (d : decode cc pc = .ok (.ifCond .eq off, 3)) (ht : (pc : Int) + off = (tgt : Int)) (ha : zR a) (kt : a = 0 → zV Γ ad cs ss x y tgt L st) (kf : ¬ (a = 0) → zV Γ ad cs ss x y (pc + 3) L st) : zV Γ ad cs ss x y pc L (zI a :: st) := by
  obtain ⟨p, l, e, R, s, m, args, below, meth, c, D, cA, A, Q⟩ := Γ
  intro H locs ls hW hS hL
  exact lv_if_eq hX.1.1 hX.1.2.1 d ht (fun h => kt ((zi_inj ha zR_0).mp h) H locs ls hW hS hL) (fun h => kf (fun q => h ((zi_inj ha zR_0).mpr q)) H locs ls hW hS hL)
theorem zV_icmp_ne (hX : zX Γ ad own cc nL) {a b off : Int} {tgt : Nat} (d : decode cc pc = .ok (.if_icmp .ne off, 3)) (ht : (pc : Int) + off = (tgt : Int)) (ha : zR a) (hb : zR b) (kt : a ≠ b → zV Γ ad cs ss x y tgt L st) (kf : a = b → zV Γ ad cs ss x y (pc + 3) L st) : zV Γ ad cs ss x y pc L (zI b :: zI a :: st) := by
  obtain ⟨p, l, e, R, s, m, args, below, meth, c, D, cA, A, Q⟩ := Γ
  intro H locs ls hW hS hL
  exact lv_icmp_ne hX.1.1 hX.1.2.1 d ht (fun h => kt ((not_congr (zi_inj ha hb)).mp h) H locs ls hW hS hL) (fun h => kf ((zi_inj ha hb).mp h) H locs ls hW hS hL)
theorem zV_if_ne (hX : zX Γ ad own cc nL) {a off : Int} {tgt : Nat} (d : decode cc pc = .ok (.ifCond .ne off, 3)) (ht : (pc : Int) + off = (tgt : Int)) (ha : zR a) (kt : a ≠ 0 → zV Γ ad cs ss x y tgt L st) (kf : a = 0 → zV Γ ad cs ss x y (pc + 3) L st) : zV Γ ad cs ss x y pc L (zI a :: st) := by
  obtain ⟨p, l, e, R, s, m, args, below, meth, c, D, cA, A, Q⟩ := Γ
  intro H locs ls hW hS hL
  exact lv_if_ne hX.1.1 hX.1.2.1 d ht (fun h => kt ((not_congr (zi_inj ha zR_0)).mp h) H locs ls hW hS hL) (fun h => kf ((zi_inj ha zR_0).mp h) H locs ls hW hS hL)
theorem zV_icmp_lt (hX : zX Γ ad own cc nL) {a b off : Int} {tgt : Nat} (d : decode cc pc = .ok (.if_icmp .lt off, 3)) (ht : (pc : Int) + off = (tgt : Int)) (ha : zR a) (hb : zR b) (kt : a < b → zV Γ ad cs ss x y tgt L st) (kf : ¬ (a < b) → zV Γ ad cs ss x y (pc + 3) L st) : zV Γ ad cs ss x y pc L (zI b :: zI a :: st) := by
  obtain ⟨p, l, e, R, s, m, args, below, meth, c, D, cA, A, Q⟩ := Γ
  intro H locs ls hW hS hL
  exact lv_icmp_lt hX.1.1 hX.1.2.1 d ht (fun h => kt ((zi_lt ha hb).mp h) H locs ls hW hS hL) (fun h => kf (fun q => h ((zi_lt ha hb).mpr q)) H locs ls hW hS hL)
theorem zV_if_lt (hX : zX Γ ad own cc nL) {a off : Int} {tgt : Nat} (d : decode cc pc = .ok (.ifCond .lt off, 3)) (ht : (pc : Int) + off = (tgt : Int)) (ha : zR a) (kt : a < 0 → zV Γ ad cs ss x y tgt L st) (kf : ¬ (a < 0) → zV Γ ad cs ss x y (pc + 3) L st) : zV Γ ad cs ss x y pc L (zI a :: st) := by
  obtain ⟨p, l, e, R, s, m, args, below, meth, c, D, cA, A, Q⟩ := Γ
  intro H locs ls hW hS hL
  exact lv_if_lt hX.1.1 hX.1.2.1 d ht (fun h => kt ((zi_lt ha zR_0).mp h) H locs ls hW hS hL) (fun h => kf (fun q => h ((zi_lt ha zR_0).mpr q)) H locs ls hW hS hL)
theorem zV_icmp_ge (hX : zX Γ ad own cc nL) {a b off : Int} {tgt : Nat} (d : decode cc pc = .ok (.if_icmp .ge off, 3)) (ht : (pc : Int) + off = (tgt : Int)) (ha : zR a) (hb : zR b) (kt : b ≤ a → zV Γ ad cs ss x y tgt L st) (kf : ¬ (b ≤ a) → zV Γ ad cs ss x y (pc + 3) L st) : zV Γ ad cs ss x y pc L (zI b :: zI a :: st) := by
  obtain ⟨p, l, e, R, s, m, args, below, meth, c, D, cA, A, Q⟩ := Γ
  intro H locs ls hW hS hL
  exact lv_icmp_ge hX.1.1 hX.1.2.1 d ht (fun h => kt ((zi_le hb ha).mp h) H locs ls hW hS hL) (fun h => kf (fun q => h ((zi_le hb ha).mpr q)) H locs ls hW hS hL)
theorem zV_if_ge (hX : zX Γ ad own cc nL) {a off : Int} {tgt : Nat} (d : decode cc pc = .ok (.ifCond .ge off, 3)) (ht : (pc : Int) + off = (tgt : Int)) (ha : zR a) (kt : 0 ≤ a → zV Γ ad cs ss x y tgt L st) (kf : ¬ (0 ≤ a) → zV Γ ad cs ss x y (pc + 3) L st) : zV Γ ad cs ss x y pc L (zI a :: st) := by
  obtain ⟨p, l, e, R, s, m, args, below, meth, c, D, cA, A, Q⟩ := Γ
  intro H locs ls hW hS hL
  exact lv_if_ge hX.1.1 hX.1.2.1 d ht (fun h => kt ((zi_le zR_0 ha).mp h) H locs ls hW hS hL) (fun h => kf (fun q => h ((zi_le zR_0 ha).mpr q)) H locs ls hW hS hL)
theorem zV_icmp_gt (hX : zX Γ ad own cc nL) {a b off : Int} {tgt : Nat} (d : decode cc pc = .ok (.if_icmp .gt off, 3)) (ht : (pc : Int) + off = (tgt : Int)) (ha : zR a) (hb : zR b) (kt : b < a → zV Γ ad cs ss x y tgt L st) (kf : ¬ (b < a) → zV Γ ad cs ss x y (pc + 3) L st) : zV Γ ad cs ss x y pc L (zI b :: zI a :: st) := by
  obtain ⟨p, l, e, R, s, m, args, below, meth, c, D, cA, A, Q⟩ := Γ
  intro H locs ls hW hS hL
  exact lv_icmp_gt hX.1.1 hX.1.2.1 d ht (fun h => kt ((zi_lt hb ha).mp h) H locs ls hW hS hL) (fun h => kf (fun q => h ((zi_lt hb ha).mpr q)) H locs ls hW hS hL)
theorem zV_if_gt (hX : zX Γ ad own cc nL) {a off : Int} {tgt : Nat} (d : decode cc pc = .ok (.ifCond .gt off, 3)) (ht : (pc : Int) + off = (tgt : Int)) (ha : zR a) (kt : 0 < a → zV Γ ad cs ss x y tgt L st) (kf : ¬ (0 < a) → zV Γ ad cs ss x y (pc + 3) L st) : zV Γ ad cs ss x y pc L (zI a :: st) := by
  obtain ⟨p, l, e, R, s, m, args, below, meth, c, D, cA, A, Q⟩ := Γ
  intro H locs ls hW hS hL
  exact lv_if_gt hX.1.1 hX.1.2.1 d ht (fun h => kt ((zi_lt zR_0 ha).mp h) H locs ls hW hS hL) (fun h => kf (fun q => h ((zi_lt zR_0 ha).mpr q)) H locs ls hW hS hL)
theorem zV_icmp_le (hX : zX Γ ad own cc nL) {a b off : Int} {tgt : Nat} (d : decode cc pc = .ok (.if_icmp .le off, 3)) (ht : (pc : Int) + off = (tgt : Int)) (ha : zR a) (hb : zR b) (kt : a ≤ b → zV Γ ad cs ss x y tgt L st) (kf : ¬ (a ≤ b) → zV Γ ad cs ss x y (pc + 3) L st) : zV Γ ad cs ss x y pc L (zI b :: zI a :: st) := by
  obtain ⟨p, l, e, R, s, m, args, below, meth, c, D, cA, A, Q⟩ := Γ
  intro H locs ls hW hS hL
  exact lv_icmp_le hX.1.1 hX.1.2.1 d ht (fun h => kt ((zi_le ha hb).mp h) H locs ls hW hS hL) (fun h => kf (fun q => h ((zi_le ha hb).mpr q)) H locs ls hW hS hL)
theorem zV_if_le (hX : zX Γ ad own cc nL) {a off : Int} {tgt : Nat} (d : decode cc pc = .ok (.ifCond .le off, 3)) (ht : (pc : Int) + off = (tgt : Int)) (ha : zR a) (kt : a ≤ 0 → zV Γ ad cs ss x y tgt L st) (kf : ¬ (a ≤ 0) → zV Γ ad cs ss x y (pc + 3) L st) : zV Γ ad cs ss x y pc L (zI a :: st) := by
  obtain ⟨p, l, e, R, s, m, args, below, meth, c, D, cA, A, Q⟩ := Γ
  intro H locs ls hW hS hL
  exact lv_if_le hX.1.1 hX.1.2.1 d ht (fun h => kt ((zi_le ha zR_0).mp h) H locs ls hW hS hL) (fun h => kf (fun q => h ((zi_le ha zR_0).mpr q)) H locs ls hW hS hL)
end ZV
