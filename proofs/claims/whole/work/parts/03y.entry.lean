/-! THE JUDGEMENT V, fourth part: a contract out of the walk of a body. -/
theorem zargs_mem : ∀ (av : List Value) (i j : Nat) (v : Value), (∀ w ∈ av, w.category = 1) → av[j]? = some v → (i + j, v) ∈ lv_args i av := by
  intro av
  induction av with
  | nil => intro i j v _ h; simp at h
  | cons w ws ih =>
    intro i j v hc h
    have hw : ¬ w.category = 2 := by rw [hc w List.mem_cons_self]; decide
    simp only [lv_args, if_neg hw]
    cases j with
    | zero =>
      simp at h
      subst h
      exact List.mem_cons_self
    | succ j =>
      have h2 := ih (i + 1) j v (fun u hu => hc u (List.mem_cons_of_mem _ hu)) (by simpa using h)
      rw [show i + 1 + j = i + (j + 1) by omega] at h2
      exact List.mem_cons_of_mem _ h2
theorem zsl_len : ∀ av : List Value, (∀ w ∈ av, w.category = 1) → (lg_sl av).length = av.length := by
  intro av
  induction av with
  | nil => intro _; rfl
  | cons w ws ih =>
    intro hc
    have h1 := ih (fun u hu => hc u (List.mem_cons_of_mem _ hu))
    have hw := hc w List.mem_cons_self
    simp only [lg_sl, List.flatMap_cons, List.length_append, List.length_cons] at h1 ⊢
    rw [h1, hw]
    simp
    omega
theorem zC_ofV {y : MethodName} {bytes : ByteArray} {maxL : Nat} {ret : Option FieldType} {d mc ms : Nat} {av : List Value} {ad : Nat → Int → Nat} {x y' : zSt} {post : Option Value → zSt → zSt → Prop} {px : String → zSt → zSt → Prop} (hy : plainName y.cls = true) (hcat : ∀ v ∈ av, v.category = 1) (hlen : av.length ≤ maxL)
    (body : ∀ Γ : zG, zX Γ ad y.cls bytes maxL → zN Γ d mc ms → zM Γ ad mc ms ret post px → zNT Γ → zV Γ ad 0 0 x y' 0 (av.map some ++ List.replicate (maxL - av.length) none) []) : zC y bytes maxL ret d mc ms av ad x y' post px := by
  intro l D cA hl sz
  refine vx_ofW (cc := bytes) (maxL := maxL) (ret := ret) hy rfl ?_
  intro p e s m args below meth c s₁ B hml ht hv
  obtain ⟨rfl, hsz, hW, hK, hST⟩ := hv
  have hts := atoms_spec (ws := zws y bytes maxL ret) B.pre
  have hsl := zsl_len av hcat
  have hent := lv_entry av (n := maxL) (by rw [hsl]; exact hlen)
  rw [lg_entry_eq]
  rw [hsl] at hent ⊢
  generalize (lg_sl av ++ List.replicate (maxL - av.length) Slot.unset).toArray = ls at hent ⊢
  have hLn : (av.map some ++ List.replicate (maxL - av.length) (none : Option Value)).length = maxL := by simp; omega
  refine body (p, l, e, (headSpec (zws y bytes maxL ret) (zrm d mc ms)).room, s, m, av.toArray, below, meth, c, D, cA, zA ad sz, vx_MQ below (zQ D cA ad post (zA ad sz)) (zXc D cA ad px (zA ad sz)) av.toArray s mc ms (zA ad sz))
    ⟨⟨B.exec, B.bytes, hml, findClass_of_methodNamed B.named, fun w hw => hts w (List.mem_cons_of_mem _ hw)⟩, B.notSynchronized, hK, fun q hq => Or.inr (by rw [← hsz]; exact hq), fun k i hz => Or.inl ⟨k, i, hz, rfl⟩⟩
    ⟨⟨Nat.le_refl _, Nat.le_refl _, Nat.le_refl _, Nat.le_refl _⟩, hST, hl⟩ ⟨rfl, B.returns⟩ ht s.heap [] ls hW va_S.rf ⟨⟨?_, hent.2.1, fun q hq => ?_⟩, fun v hv => ?_⟩
  · rw [hLn]; exact hent.1
  · obtain ⟨j, v⟩ := q
    have h1 := zLl_mem.mp hq
    refine hent.2.2 (j, v) ?_
    have h2 : av[j]? = some v := by
      by_cases hj : j < av.length
      · rw [List.getElem?_append_left (by simpa using hj)] at h1
        simpa using h1
      · rw [List.getElem?_append_right (by simpa using hj)] at h1
        have h3 := List.mem_of_getElem? h1
        rw [List.mem_replicate] at h3
        cases h3.2
    have h3 := zargs_mem av 0 j v hcat h2
    rwa [Nat.zero_add] at h3
  · rcases List.mem_append.mp hv with h | h
    · obtain ⟨w, hw, he⟩ := List.mem_map.mp h
      cases he
      exact hcat _ hw
    · rw [List.mem_replicate] at h
      cases h.2
