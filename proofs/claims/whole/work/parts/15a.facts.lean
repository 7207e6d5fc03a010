/-! WHAT THE LAW'S START GIVES: the classes, the statics, the strings, the words that are narrow. -/
def zat (s : State) (b : Nat) : Prop := ∀ w ∈ lw_tbl, w.before #[Value.ref b] s = true
theorem zat.i {s : State} {b : Nat} (h : zat s b) {w : Cond} (i : Nat) (hi : tables_1[i]? = some w) : w.before #[Value.ref b] s = true := h w (List.mem_append_right _ (List.mem_of_getElem? hi))
def zcf (ci cc cz cj cd q0 q2 : ClassId) : FieldType → ClassId
  | .int => ci
  | .char => cc
  | .boolean => cz
  | .long => cj
  | .double => cd
  | .object C => if C = RX0 then q0 else q2
  | _ => ci
theorem zty_of (k : Nat) : zty k = .int ∨ zty k = .char ∨ zty k = .boolean ∨ zty k = .long ∨ zty k = .double ∨ zty k = .object RX0 ∨ zty k = .object RX2 := by
  unfold zty
  split
  · exact Or.inl rfl
  · exact Or.inr (Or.inl rfl)
  · exact Or.inr (Or.inr (Or.inl rfl))
  · exact Or.inr (Or.inr (Or.inr (Or.inl rfl)))
  · exact Or.inr (Or.inr (Or.inr (Or.inr (Or.inl rfl))))
  · rename_i a _ _
    by_cases e : a = 9
    · rw [if_pos e]
      exact Or.inr (Or.inr (Or.inr (Or.inr (Or.inr (Or.inl rfl)))))
    · rw [if_neg e]
      exact Or.inr (Or.inr (Or.inr (Or.inr (Or.inr (Or.inr rfl)))))
  · exact Or.inl rfl
theorem z_arr {s : State} {A : Array Value} {ty : FieldType} (h : (Cond.arrayClass ty).before A s = true) : ∃ cA : ClassId, ArrOfT s cA ty ∧ s.vm.findClass ("[" ++ ty.toString) = some cA := by
  obtain ⟨cA, kA, comp, h1, h2, h3⟩ := Cond.arrayClass_spec h
  exact ⟨cA, fun n z => ⟨fun k h => (by cases h), kA, h2, comp, h3⟩, h1⟩
theorem z_arq {s : State} {A : Array Value} {C : String} (h : (Cond.arrayOver (.object C)).before A s = true) : ∃ cA : ClassId, ArrOfT s cA (.object C) ∧ va_RA s cA (.object C) := by
  obtain ⟨comp, cA, kA, f1, -, f2, f3, f4⟩ := Cond.arrayOver_spec h
  exact ⟨cA, fun n z => ⟨fun k h => (by cases h), kA, f2, comp, f3⟩, kA, comp, f2, f3, f1, f4⟩
theorem zK_0 {s : State} {b : Nat} (h : zat s b) : ∃ (D : va_G) (cA : Nat → ClassId), zK D cA s := by
  have hw : ∀ w ∈ zWL, w.before #[Value.ref b] s = true := fun w hw => h w (zw_tbl hw)
  obtain ⟨c0, i0, u0⟩ := u_known hw zw_lay0 (hw _ zw_is_X0)
  obtain ⟨c1, i1, u1⟩ := u_known hw zw_lay1 (hw _ zw_is_X1)
  obtain ⟨c2, i2, u2⟩ := u_known hw zw_lay2 (hw _ zw_is_X2)
  obtain ⟨c3, i3, u3⟩ := u_known hw zw_lay3 (hw _ zw_is_X3)
  obtain ⟨c4, i4, u4⟩ := u_known hw zw_lay4 (hw _ zw_is_X4)
  obtain ⟨c5, i5, u5⟩ := u_known hw zw_lay5 (hw _ zw_is_X5)
  obtain ⟨ci, a1, b1⟩ := z_arr (hw _ zw_ac_int)
  obtain ⟨cc, a2, b2⟩ := z_arr (hw _ zw_ac_char)
  obtain ⟨cz, a3, b3⟩ := z_arr (hw _ zw_ac_boolean)
  obtain ⟨cj, a4, b4⟩ := z_arr (hw _ zw_ac_long)
  obtain ⟨cd, a5, b5⟩ := z_arr (hw _ zw_ac_double)
  obtain ⟨q0, a6, b6⟩ := z_arq (C := RX0) (h.i 29 (by decide +kernel))
  obtain ⟨q2, a7, b7⟩ := z_arq (C := RX2) (h.i 31 (by decide +kernel))
  refine ⟨(fun k => [c0, c1, c2, c3, c4, c5].getD k 0, fun k => [i0, i1, i2, i3, i4, i5].getD k (fun _ => 0)), fun k => zcf ci cc cz cj cd q0 q2 (zty k), ⟨fun c q hc => ?_, fun k q hk => by simp at hk⟩, fun k _ => ?_⟩
  · match c, hc with
    | 0, hc => cases hc; exact u0
    | 1, hc => cases hc; exact u1
    | 2, hc => cases hc; exact u2
    | 3, hc => cases hc; exact u3
    | 4, hc => cases hc; exact u4
    | 5, hc => cases hc; exact u5
    | c + 6, hc => simp at hc
  · show ArrOfT s (zcf ci cc cz cj cd q0 q2 (zty k)) (zty k) ∧ va_RA s (zcf ci cc cz cj cd q0 q2 (zty k)) (zty k)
    rcases zty_of k with e | e | e | e | e | e | e
    · rw [e]; exact ⟨a1, b1⟩
    · rw [e]; exact ⟨a2, b2⟩
    · rw [e]; exact ⟨a3, b3⟩
    · rw [e]; exact ⟨a4, b4⟩
    · rw [e]; exact ⟨a5, b5⟩
    · rw [e, show zcf ci cc cz cj cd q0 q2 (.object RX0) = q0 by simp [zcf]]; exact ⟨a6, b6⟩
    · rw [e, show zcf ci cc cz cj cd q0 q2 (.object RX2) = q2 by rw [zcf, if_neg (by decide)]]; exact ⟨a7, b7⟩
theorem z_pick {ws : List Cond} (ps : List Nat) (h : ps.map (fun i => tables_1[i]?) = ws.map some) {w : Cond} (hw : w ∈ ws) : ∃ i : Nat, tables_1[i]? = some w := by
  have h1 : some w ∈ ps.map (fun i => tables_1[i]?) := by rw [h]; exact List.mem_map.mpr ⟨w, hw, rfl⟩
  obtain ⟨i, -, hi⟩ := List.mem_map.mp h1
  exact ⟨i, hi⟩
theorem zstrs_in : [388, 428, 443, 457, 474, 475, 487, 497, 504, 553, 557, 572, 598, 624, 674, 675, 683, 691, 699, 700, 735, 744, 752, 764].map (fun i => tables_1[i]?) = (zstrs.map (fun q => Cond.stringRef RX4 q.1 q.2)).map some := by decide +kernel
theorem zxw_in : [345, 421, 450, 490, 546, 728, 347, 349, 351].map (fun i => tables_1[i]?) = zxw.map some := by decide +kernel
theorem zST_0 {s : State} {b : Nat} (h : zat s b) (hg : (Jvm.Cond.and given_1 narrow_1).before #[Value.ref b] s = true) : zST (fun q => s.heap.size ≤ q) s s.heap := by
  have hw : ∀ w ∈ zWL, w.before #[Value.ref b] s = true := fun w hw => h w (zw_tbl hw)
  have hs := flat_of_before _ hg
  have hx : ∀ w ∈ zxw, va_Nw w s := fun w hq => by
    obtain ⟨i, hi⟩ := z_pick _ zxw_in hq
    exact va_Nw.of (List.all_eq_true.mp (show zxw.all (fun w => w.onTables) = true by decide +kernel) w hq) (h.i i hi)
  refine ⟨vx_Zqof (h.i 370 (by decide +kernel)) (hw _ zw_in_java_lang_Throwable) (hs _ (by decide +kernel)) (fun a h1 h2 => absurd h1 (Nat.not_lt.mpr h2)), vx_Zqof (h.i 372 (by decide +kernel)) (hw _ zw_in_java_lang_Throwable) (hs _ (by decide +kernel)) (fun a h1 h2 => absurd h1 (Nat.not_lt.mpr h2)), fun q hq => ?_, hx⟩
  obtain ⟨i, hi⟩ := z_pick _ zstrs_in (List.mem_map.mpr ⟨q, hq, rfl⟩)
  have h1 := h.i i hi
  obtain ⟨c4, i4, u4⟩ := u_known hw zw_lay4 (hw _ zw_is_X4)
  obtain ⟨k, cf, j, a, -, -, -, -, -, hev⟩ := Cond.stringRef_spec u4.2.1 h1
  exact ⟨a, vk_R.of h1 hev⟩
theorem zNc_0 {s : State} {b : Nat} (hg : (Jvm.Cond.and given_1 narrow_1).before #[Value.ref b] s = true) : zNc s := by
  have hs := flat_of_before _ hg
  intro q hq
  rcases List.mem_cons.mp hq with rfl | hq
  · exact va_Nc.of (hs _ (by decide +kernel))
  rcases List.mem_cons.mp hq with rfl | hq
  · exact va_Nc.of (hs _ (by decide +kernel))
  rcases List.mem_cons.mp hq with rfl | hq
  · exact va_Nc.of (hs _ (by decide +kernel))
  rcases List.mem_cons.mp hq with rfl | hq
  · exact va_Nc.of (hs _ (by decide +kernel))
  rcases List.mem_cons.mp hq with rfl | hq
  · exact va_Nc.of (hs _ (by decide +kernel))
  rcases List.mem_cons.mp hq with rfl | hq
  · exact va_Nc.of (hs _ (by decide +kernel))
  rcases List.mem_cons.mp hq with rfl | hq
  · exact va_Nc.of (hs _ (by decide +kernel))
  · cases hq
theorem zNst_0 {s : State} {b : Nat} (h : zat s b) : zNst s := ⟨va_Nw.of (by decide +kernel) (h.i 33 (by decide +kernel)), va_Nw.of (by decide +kernel) (h.i 142 (by decide +kernel)), va_Nw.of (by decide +kernel) (h.i 39 (by decide +kernel)), va_Nw.of (by decide +kernel) (h.i 63 (by decide +kernel)), va_AO.of (h.i 29 (by decide +kernel)), va_AO.of (h.i 31 (by decide +kernel))⟩
