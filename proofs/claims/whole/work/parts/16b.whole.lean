theorem lw_run {p : Program} {e : Env} {s : State} {m : MethodId} {below : List Frame} {meth : Method} {c : Code} (l : Launch) (hflags : l.flags = flags0) {b L : Nat} {xs : Nat → Int32} (hL : L ≤ 4096) (C0 : lw_At p s m meth c b L xs) : W p l e room_1 s m #[Value.ref b] below meth c s.heap [] 0 0 (lw_Z below #[Value.ref b] s) (entryFrame m ([Value.ref b] : List Value).toArray 9) := by
  obtain ⟨hx, hb, hr, hml, hown, hts, hX0, hbl, hlocks, hgv⟩ := C0
  obtain ⟨D, cA, hK⟩ := zK_0 (b := b) hts
  have hST := zST_0 (b := b) hts hgv
  have hNc := zNc_0 hgv
  have hst : l.stackTraces = false := by
    unfold Launch.stackTraces
    rw [hflags]
    decide +kernel
  have hent := lv_entry [.ref b] (n := 9) (Nat.le_of_ble_eq_true rfl)
  rw [lg_entry_eq]
  generalize (lg_sl [.ref b] ++ List.replicate (9 - (lg_sl [.ref b]).length) Slot.unset).toArray = ls at hent ⊢
  have hY : zY (zGm p l e s m b below meth c D cA) RL cL_law 9 := ⟨⟨hx, hb, hml, hown, fun w hw => hts w (zw_tbl hw)⟩, hlocks, hK, fun q h => h, zNst_0 (b := b) hts⟩
  have hR : zR4 (zGm p l e s m b below meth c D cA) 60 616698 7170235 := ⟨by decide, by decide, by decide, by decide⟩
  have key := lw_begin (b := b) hY hR (by decide) (by decide) (fun a0 B K r q60 q61 f1 f2 f3 g5 g6 hf hB hK6 => by
    intro H locs ls hP hD hS hL9
    obtain ⟨w1, w2⟩ := zW_0 hf hB hK6 hP hD
    have hX : zX (zGm p l e s m b below meth c D cA) (zad a0 B K r q60 q61) RL cL_law 9 := ⟨hY.1, hlocks, hK, fun q h => h, w2⟩
    have lp := law_loop (MC := 616698) (MS := 7170235) (bs := b) (N := L) (xs := xs) hX ⟨hR, hST, hst⟩ hNc ⟨hX0, hbl, Nat.not_le.mpr hbl⟩ hL (fun x y cs ss L h1 h2 => lw_over hx hb hr hlocks x y cs ss L h1 h2) (L / 8 + 2) 0 0 200 2000 xS0 tS0 none none none (by decide) (by decide) (by omega) (by omega) (by omega) (by omega) (by rw [mCod_id rfl]; exact JV_0)
    exact lp H locs ls w1 hS hL9)
  refine key s.heap [] ls (fun k z hz => by simp at hz) ⟨fun i j z z' hz _ _ => by simp at hz, fun k z hz => by simp at hz⟩ va_S.rf ⟨⟨?_, hent.2.1, fun q hq => ?_⟩, fun v hv => ?_⟩
  · exact hent.1
  · obtain ⟨j, v⟩ := q
    have h1 := zLl_mem.mp hq
    refine hent.2.2 (j, v) ?_
    match j, h1 with
    | 0, h1 => cases h1; exact List.mem_cons_self
    | j + 1, h1 =>
      have h3 := List.mem_of_getElem? (show (List.replicate 8 (none : Option Value))[j]? = some (some v) from h1)
      rw [List.mem_replicate] at h3
      cases h3.2
  · rcases List.mem_cons.mp hv with h | h
    · cases h; rfl
    · have h3 : some v ∈ List.replicate 8 (none : Option Value) := h
      rw [List.mem_replicate] at h3
      cases h3.2
