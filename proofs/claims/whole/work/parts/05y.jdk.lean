theorem zx_ofWF {l : Launch} {y : MethodName} {ws ws' : List Cond} {rm : Room} {Pc : Array Value → State → Prop} {Qc : Array Value → State → Outcome → State → Prop} {XC : String → State → State → Prop} {mc ms : Nat} {free : Addr → Prop} {cc : ByteArray} {maxL : Nat} {ret : Option FieldType}
    (hy : plainFor y = true) (hw : ws = Cond.code y cc maxL ret :: ws')
    (body : ∀ p e s m args below meth c s₁, BodyLoose p l y (headSpec ws rm) cc maxL ret e s m args below meth c s₁ → c.maxLocals = maxL → (∀ x ∈ c.exceptionTable.toList, False) → Pc args s →
      W p l e (headSpec ws rm).room s m args below meth c s.heap [] 0 0 (vx_MQ below Qc XC args s mc ms free) (entryFrame m args maxL)) : vx_Met l y ws rm Pc Qc XC mc ms free := by
  refine MetFree.of_bodySF (code := cc) (maxLocals := maxL) (ret := ret) hy ?_ ?_
  · intro args s m h hn
    obtain ⟨meth, c, h1, h2, h3, h4, h5, h6, -, -⟩ := Cond.code_spec hn (atoms_spec (ws := ws) h _ (by rw [hw]; exact List.mem_cons_self))
    exact ⟨meth, c, h1, h2, h3, h4, h5, h6⟩
  · intro p e s m args below meth c s₁ B hml hP _
    have hh0 : s₁.heap = s.heap := by rw [B.state]; rfl
    have ht : ∀ x ∈ c.exceptionTable.toList, False := by
      obtain ⟨meth9, c9, h1, h2, -, -, -, -, h7, -⟩ := Cond.code_spec B.named (atoms_spec (ws := ws) B.pre _ (by rw [hw]; exact List.mem_cons_self))
      cases Option.some.inj (h1.symm.trans B.method)
      cases Option.some.inj (h2.symm.trans (Stand.of_body B).code)
      intro x hx
      rw [Array.isEmpty_iff.mp h7] at hx
      cases hx
    obtain ⟨t, a1, o, b1, b2, b3⟩ := body p e s m args below meth c s₁ B hml ht hP s₁ hh0 (Stand.of_body B)
    exact ⟨t, o, a1, b1, b2, b3⟩
theorem zC_ofVF {y : MethodName} {bytes : ByteArray} {maxL : Nat} {ret : Option FieldType} {d mc ms : Nat} {av : List Value} {ad : Nat → Int → Nat} {x y' : zSt} {post : Option Value → zSt → zSt → Prop} {px : String → zSt → zSt → Prop} (hy : plainFor y = true) (hcat : ∀ v ∈ av, v.category = 1) (hlen : av.length ≤ maxL)
    (body : ∀ Γ : zG, zX Γ ad y.cls bytes maxL → zN Γ d mc ms → zM Γ ad mc ms ret post px → zNT Γ → zV Γ ad 0 0 x y' 0 (av.map some ++ List.replicate (maxL - av.length) none) []) : zC y bytes maxL ret d mc ms av ad x y' post px := by
  intro l D cA hl sz
  refine zx_ofWF (cc := bytes) (maxL := maxL) (ret := ret) hy rfl ?_
  intro p e s m args below meth c s₁ B hml ht hv
  obtain ⟨rfl, hsz, hW, hK, hST⟩ := hv
  have hts := atoms_spec (ws := zws y bytes maxL ret) B.pre
  have hsl := zsl_len av hcat
  have hent := lv_entry av (n := maxL) (by rw [hsl]; exact hlen)
  rw [lg_entry_eq]
  rw [hsl] at hent ⊢
  generalize (lg_sl av ++ List.replicate (maxL - av.length) Slot.unset).toArray = ls at hent ⊢
  have hLn : (av.map some ++ List.replicate (maxL - av.length) (none : Option Value)).length = maxL := by simp; omega
  refine body (p, l, e, (headSpec (zws y bytes maxL ret) (zrm d mc ms)).room, s, m, av.toArray, below, meth, c, D, cA, zA ad sz, vx_MQ below (zQ D cA ad post (zA ad sz)) (zXc D cA ad px (zA ad sz)) av.toArray s mc ms (zA ad sz))
    ⟨⟨B.exec, B.bytes, hml, findClass_of_methodNamed B.named, fun w hw => hts w (List.mem_cons_of_mem _ hw)⟩, B.notSynchronized, hK, fun q hq => Or.inr (by rw [← hsz]; exact hq), fun k i hz => Or.inl ⟨k, i, hz, rfl⟩⟩
    ⟨⟨Nat.le_refl _, Nat.le_refl _, Nat.le_refl _, Nat.le_refl _⟩, hST, hl⟩ ⟨rfl, B.returns⟩ ht s.heap [] ls hW va_S.rf ⟨⟨?_, hent.2.1, fun q hq => ?_⟩, fun v hv => ?_⟩
  · rw [hLn]; exact hent.1
  · obtain ⟨j, v⟩ := q
    have h1 := zLl_mem.mp hq
    refine hent.2.2 (j, v) ?_
    have h2 : av[j]? = some v := by
      by_cases hj : j < av.length
      · rw [List.getElem?_append_left (by simpa using hj)] at h1
        simpa using h1
      · rw [List.getElem?_append_right (by simpa using hj)] at h1
        have h3 := List.mem_of_getElem? h1
        rw [List.mem_replicate] at h3
        cases h3.2
    have h3 := zargs_mem av 0 j v hcat h2
    rwa [Nat.zero_add] at h3
  · rcases List.mem_append.mp hv with h | h
    · obtain ⟨w, hw, he⟩ := List.mem_map.mp h
      cases he
      exact hcat _ hw
    · rw [List.mem_replicate] at h
      cases h.2
