/-! THE JUDGEMENT V, second part: fields and rows of the world, method ends, calls, throws. -/
theorem zV1_congr {ad : Nat → Int → Nat} {f g : Int → Int} {i : Int} {t j : Nat} (h : f j = g j) : zV1 ad f i t j = zV1 ad g i t j := by
  unfold zV1
  split <;> first | rw [h] | rfl
theorem zm_upx {x y : zSt} {k : Nat} {i j z : Int} (h : k < 20) : zm (zup x k i j z) y = zup (zm x y) k i j z := by
  funext k' i' j'
  by_cases h1 : k' < 20
  · simp [zm, zup, h1]
  · have h2 : k' ≠ k := fun q => h1 (q ▸ h)
    simp [zm, zup, h1, h2]
theorem zm_upy {x y : zSt} {k : Nat} {i j z : Int} (h : ¬ k < 20) : zm x (zup y k i j z) = zup (zm x y) k i j z := by
  funext k' i' j'
  by_cases h1 : k' < 20
  · have h2 : k' ≠ k := fun q => h (q ▸ h1)
    simp [zm, zup, h1, h2]
  · simp [zm, zup, h1]
theorem zE_congr {cA : Nat → ClassId} {ad : Nat → Int → Nat} {f g : Int → Int} {k : Nat} {i : Int} (h : f = g) : zE cA ad f k i = zE cA ad g k i := by rw [h]
theorem zW.upd {D : va_G} {cA : Nat → ClassId} {ad : Nat → Int → Nat} {x y x' y' : zSt} {H H' : Heap} {k : Nat} {i j z : Int} (hW : zW D cA ad x y H) (hz : zin k i) (hoq : ∀ q, q ≠ ad k i → H'[q]? = H[q]?) (hxy : zm x' y' = zup (zm x y) k i j z) (hr : zlg k j = false → zR z)
    (hat : va_at D zCl (ad k i, zE cA ad (zm x' y' k i) k i) H') : zW D cA ad x' y' H' := by
  refine ⟨hW.1, fun k' i' hz' => ?_, fun k' i' j' hl => ?_⟩
  · by_cases h : k' = k ∧ i' = i
    · obtain ⟨rfl, rfl⟩ := h
      exact hat
    · have hne : ad k' i' ≠ ad k i := fun q => h (hW.1 k' k i' i hz' hz q)
      have h1 := (hW.2.1 k' i' hz').kept (hoq _ hne)
      have h2 : zm x' y' k' i' = zm x y k' i' := by
        rw [hxy]
        funext j'
        exact if_neg (fun q => h ⟨q.1, q.2.1⟩)
      rw [h2]
      exact h1
  · rw [hxy]
    unfold zup
    by_cases h : k' = k ∧ i' = i ∧ j' = j
    · rw [if_pos h]
      obtain ⟨rfl, rfl, rfl⟩ := h
      exact hr hl
    · rw [if_neg h]
      exact hW.2.2 k' i' j' hl
theorem zP1 {D : va_G} {cl : List vw_C} {q : Nat × va_E} {H : Heap} (h : va_at D cl q H) : va_P D cl [q] H := by
  intro n p hp
  match n, hp with
  | 0, hp => cases hp; exact h
  | n + 1, hp => simp at hp
theorem zK.at {D : va_G} {cA : Nat → ClassId} {s : State} (h : zK D cA s) {k : Nat} (hk : (zsh k).1 ≠ 0) : va_K D zCl [(cA k, zty k)] s := by
  refine ⟨h.1.1, fun n q hq => ?_⟩
  match n, hq with
  | 0, hq => cases hq; exact h.2 k hk
  | n + 1, hq => simp at hq
theorem zi_vp {j : Int} {n : Nat} (hn : n < 2147483648) (hj : 0 ≤ j ∧ j < n) : vp_in (Int32.ofInt j) n ∧ (Int32.ofInt j).toNatClampNeg = j.toNat := by
  have hR : zR j := ⟨by omega, by omega⟩
  refine ⟨vp_in_iff.mpr ?_, ?_⟩
  · rw [zi_toInt hR]; exact hj
  · rw [Int32.toNatClampNeg, zi_toInt hR]
section ZV2
variable {Γ : zG} {ad : Nat → Int → Nat} {cs ss : Nat} {x y x' y' : zSt} {pc : Nat} {L : List (Option Value)} {st : List Value} {own : String} {cc : ByteArray} {nL : Nat}
theorem zV_getf {ref C : String} {T : u_T} {N ci cn index : Nat} (hX : zX Γ ad own cc nL) (hlay : ∀ w ∈ u_ws C T N, w ∈ zWL) (hc : zCl[ci]? = some (C, T, N)) (k : Nat) (hsh : zsh k = (0, ci, N, cn)) (j : Nat) (hj : j < N) {i : Int} (hi : 0 ≤ i ∧ i < cn) (hlink : Cond.fieldLink own index ref (T j).2.1 (T j).2.2.1 ∈ zWL) (href : (T j).1 = ref)
    (d : decode cc pc = .ok (.getfield index, 3)) (kk : (zlg k j = false → zR (zm x y k i j)) → zV Γ ad cs ss x y (pc + 3) L (zV1 ad (zm x y k i) i (zfl k j) j :: st)) : zV Γ ad cs ss x y pc L (.ref (ad k i) :: st) := by
  obtain ⟨p, l, e, R, s, m, args, below, meth, c, D, cA, A, Q⟩ := Γ
  intro H locs ls hW hS hL
  have hz : zin k i := ⟨hi.1, by rw [hsh]; exact hi.2⟩
  have h1 := hW.2.1 k i hz
  have he : zE cA ad (zm x y k i) k i = .inr (ci, (List.range N).map (fun j => zV1 ad (zm x y k i) i (zfl k j) j)) := by unfold zE; rw [hsh]; try rfl
  rw [he] at h1
  exact va_get (D := D) (cl := zCl) (tys := []) (v := zV1 ad (zm x y k i) i (zfl k j) j) hX.1.1 hX.1.2.1 hX.1.2.2.2.2 hlay hX.1.2.2.2.1 hX.2.2.1.1 (zP1 h1) 0 rfl hc j hj (hX.1.2.2.2.2 _ hlink) (by rw [href]; exact fun _ h => h) (by simp [hj]) d (kk (hW.2.2 k i j) H locs ls hW hS hL)
theorem zV_putf {ref C : String} {T : u_T} {N ci cn index : Nat} (hX : zX Γ ad own cc nL) (hlay : ∀ w ∈ u_ws C T N, w ∈ zWL) (ty0 : Nat → FieldType) (hty : ∀ k, k < N → parseFieldDescriptor (T k).2.2.1 = some (ty0 k)) (hnm : ∀ a, a < N → ∀ b, b < N → a ≠ b → (T a).2.1 ≠ (T b).2.1) (hc : zCl[ci]? = some (C, T, N)) (k : Nat) (hsh : zsh k = (0, ci, N, cn)) (j : Nat) (hj : j < N) {i : Int} (hi : 0 ≤ i ∧ i < cn)
    (hlink : Cond.fieldLink own index ref (T j).2.1 (T j).2.2.1 ∈ zWL) (href : (T j).1 = ref) (hfin : (T j).2.2.2 = false) {ty : FieldType} {v : Value} (hd : parseFieldDescriptor (T j).2.2.1 = some ty) (hn : narrow ty v = v) (hfit : fits ty v = true) {z : Int} (hv : v = zV1 ad (fun _ => z) i (zfl k j) j) (hzr : zlg k j = false → zR z) (hxy : zm x' y' = zup (zm x y) k i j z)
    (d : decode cc pc = .ok (.putfield index, 3)) (kk : zV Γ ad cs ss x' y' (pc + 3) L st) : zV Γ ad cs ss x y pc L (v :: .ref (ad k i) :: st) := by
  obtain ⟨p, l, e, R, s, m, args, below, meth, c, D, cA, A, Q⟩ := Γ
  intro H locs ls hW hS hL
  have hz : zin k i := ⟨hi.1, by rw [hsh]; exact hi.2⟩
  have h1 := hW.2.1 k i hz
  have he : ∀ f : Int → Int, zE cA ad f k i = .inr (ci, (List.range N).map (fun j => zV1 ad f i (zfl k j) j)) := by intro f; unfold zE; rw [hsh]; try rfl
  rw [he] at h1
  have hap := va_apart (own := own) hX.1.2.2.2.2 hlay ty0 hty hnm hX.2.2.1.1 hc
  obtain ⟨r, h1, cell, q1, q2, q3, q4⟩ := h1
  have hr : r = (C, T, N) := Option.some.inj (h1.symm.trans hc)
  subst hr
  obtain ⟨hSl, hfc, kC, hkC, hkind⟩ := hX.2.2.1.1.1 ci _ hc
  obtain ⟨cf, kf, fi, f, hfi, hsl⟩ := hSl j hj
  have hlay1 := hX.1.2.2.2.2 _ (hlay _ (u_in_lay hj))
  unfold u_lay at hlay1
  rw [if_neg (by rw [hfin]; decide)] at hlay1
  have hst := (u_facts hfc hkC (u_lays hX.1.2.2.2.2 hlay hj) hfi).1
  have h6 := u_store hfc hkC hkind hlay1 hfi hd hn hfit
  refine W.putK hX.1.1 hX.1.2.1 (f := f) ⟨hX.1.2.2.2.1, hX.1.2.2.2.2 _ hlink, ⟨_, _, _, by rw [← href]; exact hfi⟩, hst⟩ (by rw [q2]; exact h6) q1 q3 (by rw [hsl]; exact k2_hasslot (q4 j hj)) rfl rfl d fun H' e1 e2 e3 => ?_
  rw [hsl] at e1 ⊢
  refine kk H' _ ls (hW.upd hz e3 hxy hzr ?_) (hS.put e2 e3 (hX.2.2.2.2 k i hz)) hL
  rw [he]
  refine ⟨_, h1, t_OB.to (V := updV (vp_V ((List.range N).map (fun j => zV1 ad (zm x y k i) i (zfl k j) j))) j v) ⟨_, e1, q2, q3, t_set q4 hap hj v⟩ (fun j' hj' => ?_)⟩
  unfold vp_V
  have g : ∀ f : Int → Int, ((List.range N).map (fun j => zV1 ad f i (zfl k j) j)).getD j' .null = zV1 ad f i (zfl k j') j' := by
    intro f
    have hj'' : j' < N := hj'
    simp [List.getD_eq_getElem?_getD, hj'']
  unfold updV
  by_cases hjj : j' = j
  · subst hjj
    rw [if_pos rfl, g, hv]
    refine zV1_congr ?_
    rw [hxy]
    exact zup_same.symm
  · rw [if_neg hjj, g]
    refine (g _).trans (zV1_congr ?_)
    rw [hxy]
    exact (zup_j (by omega)).symm
theorem zV_iald {n cn a : Nat} (hX : zX Γ ad own cc nL) (k : Nat) (hsh : zsh k = (1, a, n, cn)) {i j : Int} (hi : 0 ≤ i ∧ i < cn) (hj : 0 ≤ j ∧ j < n) (hn : n < 2147483648) (d : decode cc pc = .ok (.iaload, 1)) (kk : (zlg k j = false → zR (zm x y k i j)) → zV Γ ad cs ss x y (pc + 1) L (zI (zm x y k i j) :: st)) : zV Γ ad cs ss x y pc L (zI j :: .ref (ad k i) :: st) := by
  obtain ⟨p, l, e, R, s, m, args, below, meth, c, D, cA, A, Q⟩ := Γ
  intro H locs ls hW hS hL
  have hz : zin k i := ⟨hi.1, by rw [hsh]; exact hi.2⟩
  have h1 := hW.2.1 k i hz
  have he : zE cA ad (zm x y k i) k i = .inl (cA k, n, .inl (fun j => Int32.ofInt (zm x y k i j))) := by unfold zE; rw [hsh]; try rfl
  have ht : zty k = .int := by unfold zty; rw [hsh]; try rfl
  rw [he] at h1
  have hK := hX.2.2.1.at (k := k) (by rw [hsh]; exact Nat.succ_ne_zero _)
  rw [ht] at hK
  obtain ⟨hv, hc⟩ := zi_vp hn hj
  refine va_iald (D := D) (cl := zCl) (tys := [(cA k, .int)]) hX.1.1 hX.1.2.1 hK (zP1 h1) 0 0 rfl rfl hv d ?_
  have e2 : ((Int32.ofInt j).toNatClampNeg : Int) = j := by rw [hc]; omega
  have key := kk (hW.2.2 k i j) H locs ls hW hS hL
  simp only [e2]
  exact key
theorem zV_cald {n cn a : Nat} (hX : zX Γ ad own cc nL) (k : Nat) (hsh : zsh k = (2, a, n, cn)) {i j : Int} (hi : 0 ≤ i ∧ i < cn) (hj : 0 ≤ j ∧ j < n) (hn : n < 2147483648) (d : decode cc pc = .ok (.caload, 1)) (kk : (zlg k j = false → zR (zm x y k i j)) → zV Γ ad cs ss x y (pc + 1) L (zI (zm x y k i j) :: st)) : zV Γ ad cs ss x y pc L (zI j :: .ref (ad k i) :: st) := by
  obtain ⟨p, l, e, R, s, m, args, below, meth, c, D, cA, A, Q⟩ := Γ
  intro H locs ls hW hS hL
  have hz : zin k i := ⟨hi.1, by rw [hsh]; exact hi.2⟩
  have h1 := hW.2.1 k i hz
  have he : zE cA ad (zm x y k i) k i = .inl (cA k, n, .inl (fun j => Int32.ofInt (zm x y k i j))) := by unfold zE; rw [hsh]; try rfl
  have ht : zty k = .char := by unfold zty; rw [hsh]; try rfl
  rw [he] at h1
  have hK := hX.2.2.1.at (k := k) (by rw [hsh]; exact Nat.succ_ne_zero _)
  rw [ht] at hK
  obtain ⟨hv, hc⟩ := zi_vp hn hj
  refine va_cald (D := D) (cl := zCl) (tys := [(cA k, .char)]) hX.1.1 hX.1.2.1 hK (zP1 h1) 0 0 rfl rfl hv d ?_
  have e2 : ((Int32.ofInt j).toNatClampNeg : Int) = j := by rw [hc]; omega
  have key := kk (hW.2.2 k i j) H locs ls hW hS hL
  simp only [e2]
  exact key
theorem zV_zald {n cn a : Nat} (hX : zX Γ ad own cc nL) (k : Nat) (hsh : zsh k = (3, a, n, cn)) {i j : Int} (hi : 0 ≤ i ∧ i < cn) (hj : 0 ≤ j ∧ j < n) (hn : n < 2147483648) (d : decode cc pc = .ok (.baload, 1)) (kk : (zlg k j = false → zR (zm x y k i j)) → zV Γ ad cs ss x y (pc + 1) L (zI (zm x y k i j) :: st)) : zV Γ ad cs ss x y pc L (zI j :: .ref (ad k i) :: st) := by
  obtain ⟨p, l, e, R, s, m, args, below, meth, c, D, cA, A, Q⟩ := Γ
  intro H locs ls hW hS hL
  have hz : zin k i := ⟨hi.1, by rw [hsh]; exact hi.2⟩
  have h1 := hW.2.1 k i hz
  have he : zE cA ad (zm x y k i) k i = .inl (cA k, n, .inl (fun j => Int32.ofInt (zm x y k i j))) := by unfold zE; rw [hsh]; try rfl
  have ht : zty k = .boolean := by unfold zty; rw [hsh]; try rfl
  rw [he] at h1
  have hK := hX.2.2.1.at (k := k) (by rw [hsh]; exact Nat.succ_ne_zero _)
  rw [ht] at hK
  obtain ⟨hv, hc⟩ := zi_vp hn hj
  refine va_zald (D := D) (cl := zCl) (tys := [(cA k, .boolean)]) hX.1.1 hX.1.2.1 hK (zP1 h1) 0 0 rfl rfl hv d ?_
  have e2 : ((Int32.ofInt j).toNatClampNeg : Int) = j := by rw [hc]; omega
  have key := kk (hW.2.2 k i j) H locs ls hW hS hL
  simp only [e2]
  exact key
theorem zV_lald {n cn a : Nat} (hX : zX Γ ad own cc nL) (k : Nat) (hsh : zsh k = (4, a, n, cn)) {i j : Int} (hi : 0 ≤ i ∧ i < cn) (hj : 0 ≤ j ∧ j < n) (hn : n < 2147483648) (d : decode cc pc = .ok (.laload, 1)) (kk : (zlg k j = false → zR (zm x y k i j)) → zV Γ ad cs ss x y (pc + 1) L (.long (Int64.ofInt (zm x y k i j)) :: st)) : zV Γ ad cs ss x y pc L (zI j :: .ref (ad k i) :: st) := by
  obtain ⟨p, l, e, R, s, m, args, below, meth, c, D, cA, A, Q⟩ := Γ
  intro H locs ls hW hS hL
  have hz : zin k i := ⟨hi.1, by rw [hsh]; exact hi.2⟩
  have h1 := hW.2.1 k i hz
  have he : zE cA ad (zm x y k i) k i = .inl (cA k, n, .inr (.inl (fun j => Int64.ofInt (zm x y k i j)))) := by unfold zE; rw [hsh]; try rfl
  have ht : zty k = .long := by unfold zty; rw [hsh]; try rfl
  rw [he] at h1
  have hK := hX.2.2.1.at (k := k) (by rw [hsh]; exact Nat.succ_ne_zero _)
  rw [ht] at hK
  obtain ⟨hv, hc⟩ := zi_vp hn hj
  refine va_lald (D := D) (cl := zCl) (tys := [(cA k, .long)]) hX.1.1 hX.1.2.1 hK (zP1 h1) 0 0 rfl rfl hv d ?_
  have e2 : ((Int32.ofInt j).toNatClampNeg : Int) = j := by rw [hc]; omega
  have key := kk (hW.2.2 k i j) H locs ls hW hS hL
  simp only [e2]
  exact key
theorem zV_dald {n cn a : Nat} (hX : zX Γ ad own cc nL) (k : Nat) (hsh : zsh k = (5, a, n, cn)) {i j : Int} (hi : 0 ≤ i ∧ i < cn) (hj : 0 ≤ j ∧ j < n) (hn : n < 2147483648) (d : decode cc pc = .ok (.daload, 1)) (kk : (zlg k j = false → zR (zm x y k i j)) → zV Γ ad cs ss x y (pc + 1) L (.double (UInt64.ofNat (zm x y k i j).toNat) :: st)) : zV Γ ad cs ss x y pc L (zI j :: .ref (ad k i) :: st) := by
  obtain ⟨p, l, e, R, s, m, args, below, meth, c, D, cA, A, Q⟩ := Γ
  intro H locs ls hW hS hL
  have hz : zin k i := ⟨hi.1, by rw [hsh]; exact hi.2⟩
  have h1 := hW.2.1 k i hz
  have he : zE cA ad (zm x y k i) k i = .inl (cA k, n, .inr (.inr (.inr (.inl (fun j => UInt64.ofNat (zm x y k i j).toNat))))) := by unfold zE; rw [hsh]; try rfl
  have ht : zty k = .double := by unfold zty; rw [hsh]; try rfl
  rw [he] at h1
  have hK := hX.2.2.1.at (k := k) (by rw [hsh]; exact Nat.succ_ne_zero _)
  rw [ht] at hK
  obtain ⟨hv, hc⟩ := zi_vp hn hj
  refine va_dald (D := D) (cl := zCl) (tys := [(cA k, .double)]) hX.1.1 hX.1.2.1 hK (zP1 h1) 0 0 rfl rfl hv d ?_
  have e2 : ((Int32.ofInt j).toNatClampNeg : Int) = j := by rw [hc]; omega
  have key := kk (hW.2.2 k i j) H locs ls hW hS hL
  simp only [e2]
  exact key
theorem zV_aald {n cn a : Nat} (hX : zX Γ ad own cc nL) (k : Nat) (hsh : zsh k = (6, a, n, cn)) {i j : Int} (hi : 0 ≤ i ∧ i < cn) (hj : 0 ≤ j ∧ j < n) (hn : n < 2147483648) (d : decode cc pc = .ok (.aaload, 1)) (kk : (zlg k j = false → zR (zm x y k i j)) → zV Γ ad cs ss x y (pc + 1) L (.ref (ad a j) :: st)) : zV Γ ad cs ss x y pc L (zI j :: .ref (ad k i) :: st) := by
  obtain ⟨p, l, e, R, s, m, args, below, meth, c, D, cA, A, Q⟩ := Γ
  intro H locs ls hW hS hL
  have hz : zin k i := ⟨hi.1, by rw [hsh]; exact hi.2⟩
  have h1 := hW.2.1 k i hz
  have he : zE cA ad (zm x y k i) k i = .inl (cA k, n, .inr (.inr (.inr (.inr (fun j => some (ad a j)))))) := by unfold zE; rw [hsh]; try rfl
  have ht : zty k = .object (if a = 9 then RX0 else RX2) := by unfold zty; rw [hsh]; try rfl
  rw [he] at h1
  have hK := hX.2.2.1.at (k := k) (by rw [hsh]; exact Nat.succ_ne_zero _)
  rw [ht] at hK
  obtain ⟨hv, hc⟩ := zi_vp hn hj
  refine va_aldq (D := D) (cl := zCl) (tys := [(cA k, .object (if a = 9 then RX0 else RX2))]) hX.1.1 hX.1.2.1 hK (zP1 h1) 0 0 rfl rfl hv d ?_
  have e2 : ((Int32.ofInt j).toNatClampNeg : Int) = j := by rw [hc]; omega
  have key := kk (hW.2.2 k i j) H locs ls hW hS hL
  simp only [e2]
  exact key
theorem zV_iast {n cn a : Nat} (hX : zX Γ ad own cc nL) (k : Nat) (hsh : zsh k = (1, a, n, cn)) {i j : Int} (hi : 0 ≤ i ∧ i < cn) (hj : 0 ≤ j ∧ j < n) (hn : n < 2147483648) {z : Int} (hzr : zlg k j = false → zR z) (hxy : zm x' y' = zup (zm x y) k i j z) (d : decode cc pc = .ok (.iastore, 1)) (kk : zV Γ ad cs ss x' y' (pc + 1) L st) : zV Γ ad cs ss x y pc L (zI z :: zI j :: .ref (ad k i) :: st) := by
  obtain ⟨p, l, e, R, s, m, args, below, meth, c, D, cA, A, Q⟩ := Γ
  intro H locs ls hW hS hL
  have hz : zin k i := ⟨hi.1, by rw [hsh]; exact hi.2⟩
  have h1 := hW.2.1 k i hz
  have he : ∀ f : Int → Int, zE cA ad f k i = .inl (cA k, n, .inl (fun j => Int32.ofInt (f j))) := by intro f; unfold zE; rw [hsh]; try rfl
  have ht : zty k = .int := by unfold zty; rw [hsh]; try rfl
  rw [he] at h1
  have hK := hX.2.2.1.2 k (by rw [hsh]; exact Nat.succ_ne_zero _)
  rw [ht] at hK
  obtain ⟨hv, hc⟩ := zi_vp hn hj
  refine W.iast hX.1.1 hX.1.2.1 h1 (hK.1 n _) (fun q => by cases q) (by show ¬ (_ ∨ (arrV _ _ _).slots.size ≤ _); rw [arrV_size]; exact hv) rfl rfl d fun H1 e1 z1 oq => ?_
  refine kk H1 _ ls (hW.upd hz oq hxy hzr ?_) (hS.put z1 oq (hX.2.2.2.2 k i hz)) hL
  rw [he]
  show H1[ad k i]? = some (vp_cell _ _)
  rw [e1, vp_cell_i, vp_cell_i, arrV_store]
  congr 2
  funext q
  rw [hxy, hc]
  unfold updV zup
  by_cases hq : q = j.toNat
  · subst hq
    have e2 : ((j.toNat : Nat) : Int) = j := by omega
    rw [if_pos rfl, e2, if_pos ⟨rfl, rfl, rfl⟩]
  · rw [if_neg hq, if_neg (fun h => hq (by omega))]
theorem zV_cast {n cn a : Nat} (hX : zX Γ ad own cc nL) (k : Nat) (hsh : zsh k = (2, a, n, cn)) {i j : Int} (hi : 0 ≤ i ∧ i < cn) (hj : 0 ≤ j ∧ j < n) (hn : n < 2147483648) {z : Int} (hnr : narrow .char (.int (Int32.ofInt z)) = .int (Int32.ofInt z)) (hzr : zlg k j = false → zR z) (hxy : zm x' y' = zup (zm x y) k i j z) (d : decode cc pc = .ok (.castore, 1)) (kk : zV Γ ad cs ss x' y' (pc + 1) L st) : zV Γ ad cs ss x y pc L (zI z :: zI j :: .ref (ad k i) :: st) := by
  obtain ⟨p, l, e, R, s, m, args, below, meth, c, D, cA, A, Q⟩ := Γ
  intro H locs ls hW hS hL
  have hz : zin k i := ⟨hi.1, by rw [hsh]; exact hi.2⟩
  have h1 := hW.2.1 k i hz
  have he : ∀ f : Int → Int, zE cA ad f k i = .inl (cA k, n, .inl (fun j => Int32.ofInt (f j))) := by intro f; unfold zE; rw [hsh]; try rfl
  have ht : zty k = .char := by unfold zty; rw [hsh]; try rfl
  rw [he] at h1
  have hK := hX.2.2.1.2 k (by rw [hsh]; exact Nat.succ_ne_zero _)
  rw [ht] at hK
  obtain ⟨hv, hc⟩ := zi_vp hn hj
  refine W.cast hX.1.1 hX.1.2.1 h1 (hK.1 n _) (fun q => by cases q) (by show ¬ (_ ∨ (arrV _ _ _).slots.size ≤ _); rw [arrV_size]; exact hv) rfl rfl d fun H1 e1 z1 oq => ?_
  refine kk H1 _ ls (hW.upd hz oq hxy hzr ?_) (hS.put z1 oq (hX.2.2.2.2 k i hz)) hL
  rw [he]
  show H1[ad k i]? = some (vp_cell _ _)
  rw [e1, vp_cell_i, vp_cell_i, arrV_store]
  congr 2
  funext q
  rw [hxy, hc]
  unfold updV zup
  by_cases hq : q = j.toNat
  · subst hq
    have e2 : ((j.toNat : Nat) : Int) = j := by omega
    rw [if_pos rfl, e2, if_pos ⟨rfl, rfl, rfl⟩, hnr]
  · rw [if_neg hq, if_neg (fun h => hq (by omega))]
theorem zV_zast {n cn a : Nat} (hX : zX Γ ad own cc nL) (k : Nat) (hsh : zsh k = (3, a, n, cn)) {i j : Int} (hi : 0 ≤ i ∧ i < cn) (hj : 0 ≤ j ∧ j < n) (hn : n < 2147483648) {z : Int} (hnr : narrow .boolean (.int (Int32.ofInt z)) = .int (Int32.ofInt z)) (hzr : zlg k j = false → zR z) (hxy : zm x' y' = zup (zm x y) k i j z) (d : decode cc pc = .ok (.bastore, 1)) (kk : zV Γ ad cs ss x' y' (pc + 1) L st) : zV Γ ad cs ss x y pc L (zI z :: zI j :: .ref (ad k i) :: st) := by
  obtain ⟨p, l, e, R, s, m, args, below, meth, c, D, cA, A, Q⟩ := Γ
  intro H locs ls hW hS hL
  have hz : zin k i := ⟨hi.1, by rw [hsh]; exact hi.2⟩
  have h1 := hW.2.1 k i hz
  have he : ∀ f : Int → Int, zE cA ad f k i = .inl (cA k, n, .inl (fun j => Int32.ofInt (f j))) := by intro f; unfold zE; rw [hsh]; try rfl
  have ht : zty k = .boolean := by unfold zty; rw [hsh]; try rfl
  rw [he] at h1
  have hK := hX.2.2.1.2 k (by rw [hsh]; exact Nat.succ_ne_zero _)
  rw [ht] at hK
  obtain ⟨hv, hc⟩ := zi_vp hn hj
  refine W.zast hX.1.1 hX.1.2.1 h1 (hK.1 n _) (fun q => by cases q) (by show ¬ (_ ∨ (arrV _ _ _).slots.size ≤ _); rw [arrV_size]; exact hv) rfl rfl d fun H1 e1 z1 oq => ?_
  refine kk H1 _ ls (hW.upd hz oq hxy hzr ?_) (hS.put z1 oq (hX.2.2.2.2 k i hz)) hL
  rw [he]
  show H1[ad k i]? = some (vp_cell _ _)
  rw [e1, vp_cell_i, vp_cell_i, arrV_store]
  congr 2
  funext q
  rw [hxy, hc]
  unfold updV zup
  by_cases hq : q = j.toNat
  · subst hq
    have e2 : ((j.toNat : Nat) : Int) = j := by omega
    rw [if_pos rfl, e2, if_pos ⟨rfl, rfl, rfl⟩, hnr]
  · rw [if_neg hq, if_neg (fun h => hq (by omega))]
theorem zV_last {n cn a : Nat} (hX : zX Γ ad own cc nL) (k : Nat) (hsh : zsh k = (4, a, n, cn)) {i j : Int} (hi : 0 ≤ i ∧ i < cn) (hj : 0 ≤ j ∧ j < n) (hn : n < 2147483648) {z : Int} (hzr : zlg k j = false → zR z) (hxy : zm x' y' = zup (zm x y) k i j z) (d : decode cc pc = .ok (.lastore, 1)) (kk : zV Γ ad cs ss x' y' (pc + 1) L st) : zV Γ ad cs ss x y pc L (.long (Int64.ofInt z) :: zI j :: .ref (ad k i) :: st) := by
  obtain ⟨p, l, e, R, s, m, args, below, meth, c, D, cA, A, Q⟩ := Γ
  intro H locs ls hW hS hL
  have hz : zin k i := ⟨hi.1, by rw [hsh]; exact hi.2⟩
  have h1 := hW.2.1 k i hz
  have he : ∀ f : Int → Int, zE cA ad f k i = .inl (cA k, n, .inr (.inl (fun j => Int64.ofInt (f j)))) := by intro f; unfold zE; rw [hsh]; try rfl
  have ht : zty k = .long := by unfold zty; rw [hsh]; try rfl
  rw [he] at h1
  have hK := hX.2.2.1.2 k (by rw [hsh]; exact Nat.succ_ne_zero _)
  rw [ht] at hK
  obtain ⟨hv, hc⟩ := zi_vp hn hj
  refine W.last hX.1.1 hX.1.2.1 h1 (hK.1 n _) (fun q => by cases q) (by show ¬ (_ ∨ (arrV _ _ _).slots.size ≤ _); rw [arrV_size]; exact hv) rfl rfl d fun H1 e1 z1 oq => ?_
  refine kk H1 _ ls (hW.upd hz oq hxy hzr ?_) (hS.put z1 oq (hX.2.2.2.2 k i hz)) hL
  rw [he]
  show H1[ad k i]? = some (vp_cell _ _)
  rw [e1, vp_cell_l, vp_cell_l, arrV_store]
  congr 2
  funext q
  rw [hxy, hc]
  unfold updV zup
  by_cases hq : q = j.toNat
  · subst hq
    have e2 : ((j.toNat : Nat) : Int) = j := by omega
    rw [if_pos rfl, e2, if_pos ⟨rfl, rfl, rfl⟩]
  · rw [if_neg hq, if_neg (fun h => hq (by omega))]
theorem zV_dast {n cn a : Nat} (hX : zX Γ ad own cc nL) (k : Nat) (hsh : zsh k = (5, a, n, cn)) {i j : Int} (hi : 0 ≤ i ∧ i < cn) (hj : 0 ≤ j ∧ j < n) (hn : n < 2147483648) {z : Int} (hzr : zlg k j = false → zR z) (hxy : zm x' y' = zup (zm x y) k i j z) (d : decode cc pc = .ok (.dastore, 1)) (kk : zV Γ ad cs ss x' y' (pc + 1) L st) : zV Γ ad cs ss x y pc L (.double (UInt64.ofNat z.toNat) :: zI j :: .ref (ad k i) :: st) := by
  obtain ⟨p, l, e, R, s, m, args, below, meth, c, D, cA, A, Q⟩ := Γ
  intro H locs ls hW hS hL
  have hz : zin k i := ⟨hi.1, by rw [hsh]; exact hi.2⟩
  have h1 := hW.2.1 k i hz
  have he : ∀ f : Int → Int, zE cA ad f k i = .inl (cA k, n, .inr (.inr (.inr (.inl (fun j => UInt64.ofNat (f j).toNat))))) := by intro f; unfold zE; rw [hsh]; try rfl
  have ht : zty k = .double := by unfold zty; rw [hsh]; try rfl
  rw [he] at h1
  have hK := hX.2.2.1.2 k (by rw [hsh]; exact Nat.succ_ne_zero _)
  rw [ht] at hK
  obtain ⟨hv, hc⟩ := zi_vp hn hj
  refine W.dast hX.1.1 hX.1.2.1 h1 (hK.1 n _) (fun q => by cases q) (by show ¬ (_ ∨ (arrV _ _ _).slots.size ≤ _); rw [arrV_size]; exact hv) rfl rfl d fun H1 e1 z1 oq => ?_
  refine kk H1 _ ls (hW.upd hz oq hxy hzr ?_) (hS.put z1 oq (hX.2.2.2.2 k i hz)) hL
  rw [he]
  show H1[ad k i]? = some (vp_cell _ _)
  rw [e1, vp_cell_d, vp_cell_d, arrV_store]
  congr 2
  funext q
  rw [hxy, hc]
  unfold updV zup
  by_cases hq : q = j.toNat
  · subst hq
    have e2 : ((j.toNat : Nat) : Int) = j := by omega
    rw [if_pos rfl, e2, if_pos ⟨rfl, rfl, rfl⟩]
  · rw [if_neg hq, if_neg (fun h => hq (by omega))]
end ZV2
