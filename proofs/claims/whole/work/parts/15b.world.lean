/-! THE WORLD AT THE LAW'S LOOP: the list of the cells made, as kinds and numbers. -/
def zwls (cA : Nat → ClassId) (a0 : Nat → Nat) (B K : Nat → Nat → Nat) (r : Nat → Nat) (q60 q61 : Nat) (f1 f2 f3 : Nat → Int32) (g5 g6 : Nat → Option Nat) : va_W :=
  ((((zfix cA (a0 0) (a0 1) (a0 2) (a0 3) (a0 4) (a0 5) (a0 6) (a0 7) (a0 8) f1 f2 f3 g5 g6 ++ zTl cA B 11) ++ kTl cA K 3) ++ zYl cA r) ++ [(q60, .inl (cA 60, 1, .inr (.inl (fun _ => 0))))]) ++ [(q61, .inl (cA 61, 1, .inr (.inr (.inr (.inl (fun _ => 0))))))]
def zad (a0 : Nat → Nat) (B K : Nat → Nat → Nat) (r : Nat → Nat) (q60 q61 : Nat) : Nat → Int → Nat := fun k i =>
  if k < 9 then a0 k else if k < 16 then B i.toNat k else if k < 18 then K i.toNat k else if k < 60 then r k else if k = 60 then q60 else q61
def zinv (n : Nat) : Nat × Int :=
  if n < 9 then (n, 0) else if n < 86 then (9 + (n - 9) % 7, (((n - 9) / 7 : Nat) : Int)) else if n < 92 then (16 + (n - 86) % 2, (((n - 86) / 2 : Nat) : Int)) else if n < 125 then ([20, 21, 22, 23, 24, 26, 27, 28, 29, 30, 31, 32, 33, 34, 35, 36, 37, 38, 39, 40, 41, 42, 43, 44, 45, 46, 47, 49, 51, 52, 53, 55, 56].getD (n - 92) 0, 0) else if n = 125 then (60, 0) else (61, 0)
theorem zinv_t : ∀ i, i < 11 → ∀ j, j < 7 → zinv (9 + (7 * i + j)) = (9 + j, (i : Int)) := by decide +kernel
theorem zinv_k : ∀ i, i < 3 → ∀ j, j < 2 → zinv (86 + (2 * i + j)) = (16 + j, (i : Int)) := by decide +kernel
section ZWL
variable {cA : Nat → ClassId} {a0 : Nat → Nat} {B K : Nat → Nat → Nat} {r : Nat → Nat} {q60 q61 : Nat} {f1 f2 f3 : Nat → Int32} {g5 g6 : Nat → Option Nat}
theorem zwls_t {i j : Nat} (hi : i < 11) (hj : j < 7) : (zwls cA a0 B K r q60 q61 f1 f2 f3 g5 g6)[9 + (7 * i + j)]? = (zblk cA (B i))[j]? := by
  have l1 := zTl_l (cA := cA) (B := B) 11
  have l2 := kTl_l (cA := cA) (B := K) 3
  unfold zwls
  rw [List.getElem?_append_left (by simp [l1, l2, zfix, zYl] <;> omega), List.getElem?_append_left (by simp [l1, l2, zfix, zYl] <;> omega), List.getElem?_append_left (by simp [l1, l2, zfix] <;> omega), List.getElem?_append_left (by simp [l1, zfix] <;> omega), List.getElem?_append_right (by simp [zfix])]
  rw [show 9 + (7 * i + j) - (zfix cA (a0 0) (a0 1) (a0 2) (a0 3) (a0 4) (a0 5) (a0 6) (a0 7) (a0 8) f1 f2 f3 g5 g6).length = 7 * i + j by simp [zfix]]
  exact zTl_g hj 11 hi
theorem zwls_k {i j : Nat} (hi : i < 3) (hj : j < 2) : (zwls cA a0 B K r q60 q61 f1 f2 f3 g5 g6)[86 + (2 * i + j)]? = (zkbl cA (K i))[j]? := by
  have l1 := zTl_l (cA := cA) (B := B) 11
  have l2 := kTl_l (cA := cA) (B := K) 3
  unfold zwls
  rw [List.getElem?_append_left (by simp [l1, l2, zfix, zYl] <;> omega), List.getElem?_append_left (by simp [l1, l2, zfix, zYl] <;> omega), List.getElem?_append_left (by simp [l1, l2, zfix] <;> omega), List.getElem?_append_right (by simp [l1, zfix] <;> omega)]
  rw [show 86 + (2 * i + j) - (zfix cA (a0 0) (a0 1) (a0 2) (a0 3) (a0 4) (a0 5) (a0 6) (a0 7) (a0 8) f1 f2 f3 g5 g6 ++ zTl cA B 11).length = 2 * i + j by rw [List.length_append, l1]; simp [zfix]]
  exact kTl_g hj 3 hi
theorem zwls_y {n : Nat} (hn : n < 33) : (zwls cA a0 B K r q60 q61 f1 f2 f3 g5 g6)[92 + n]? = (zYl cA r)[n]? := by
  have l1 := zTl_l (cA := cA) (B := B) 11
  have l2 := kTl_l (cA := cA) (B := K) 3
  unfold zwls
  rw [List.getElem?_append_left (by simp [l1, l2, zfix, zYl] <;> omega), List.getElem?_append_left (by simp [l1, l2, zfix, zYl] <;> omega), List.getElem?_append_right (by simp [l1, l2, zfix])]
  congr 1
  simp [l1, l2, zfix]
theorem zwls_60 : (zwls cA a0 B K r q60 q61 f1 f2 f3 g5 g6)[125]? = some (q60, .inl (cA 60, 1, .inr (.inl (fun _ => 0)))) := by
  have l1 := zTl_l (cA := cA) (B := B) 11
  have l2 := kTl_l (cA := cA) (B := K) 3
  unfold zwls
  rw [List.getElem?_append_left (by simp [l1, l2, zfix, zYl]), List.getElem?_append_right (by simp [l1, l2, zfix, zYl])]
  simp [l1, l2, zfix, zYl]
theorem zwls_61 : (zwls cA a0 B K r q60 q61 f1 f2 f3 g5 g6)[126]? = some (q61, .inl (cA 61, 1, .inr (.inr (.inr (.inl (fun _ => 0)))))) := by
  have l1 := zTl_l (cA := cA) (B := B) 11
  have l2 := kTl_l (cA := cA) (B := K) 3
  unfold zwls
  rw [List.getElem?_append_right (by simp [l1, l2, zfix, zYl])]
  simp [l1, l2, zfix, zYl]
theorem zeq_i {D : va_G} {a n : Nat} {c : ClassId} {f g : Nat → Int32} {H : Heap} (h : ∀ j, j < n → f j = g j) (q : va_at D zCl (a, .inl (c, n, .inl f)) H) : va_at D zCl (a, .inl (c, n, .inl g)) H := by
  have e : vp_cell c (n, .inl f) = vp_cell c (n, .inl g) := by
    rw [vp_cell_i, vp_cell_i]
    unfold arrV
    congr 2
    funext j
    show Value.int (f j.val) = Value.int (g j.val)
    rw [h j.val j.isLt]
  show H[a]? = some (vp_cell c (n, .inl g))
  rw [← e]
  exact q
theorem zeq_q {D : va_G} {a n : Nat} {c : ClassId} {f g : Nat → Option Nat} {H : Heap} (h : ∀ j, j < n → f j = g j) (q : va_at D zCl (a, .inl (c, n, .inr (.inr (.inr (.inr f))))) H) : va_at D zCl (a, .inl (c, n, .inr (.inr (.inr (.inr g))))) H := by
  have e : vp_cell c (n, .inr (.inr (.inr (.inr f)))) = vp_cell c (n, .inr (.inr (.inr (.inr g)))) := by
    rw [vp_cell_q, vp_cell_q]
    unfold arrV
    congr 2
    funext j
    show va_rf (f j.val) = va_rf (g j.val)
    rw [h j.val j.isLt]
  show H[a]? = some (vp_cell c (n, .inr (.inr (.inr (.inr g)))))
  rw [← e]
  exact q
theorem zeq_o {D : va_G} {a ci : Nat} {fs gs : List Value} {H : Heap} (h : fs = gs) (q : va_at D zCl (a, .inr (ci, fs)) H) : va_at D zCl (a, .inr (ci, gs)) H := h ▸ q
theorem zi0 : (0 : Int32) = Int32.ofInt 0 := by decide
theorem zl0 : (0 : Int64) = Int64.ofInt 0 := by decide
def zPl (cA : Nat → ClassId) (a0 : Nat → Nat) (B K : Nat → Nat → Nat) (r : Nat → Nat) (q60 q61 : Nat) (f1 f2 f3 : Nat → Int32) (g5 g6 : Nat → Option Nat) (k : Nat) (i : Int) : Prop :=
  ∃ (n : Nat) (e : va_E), zinv n = (k, i) ∧ (zwls cA a0 B K r q60 q61 f1 f2 f3 g5 g6)[n]? = some (zad a0 B K r q60 q61 k i, e) ∧ ∀ (D : va_G) (H : Heap), va_at D zCl (zad a0 B K r q60 q61 k i, e) H → va_at D zCl (zad a0 B K r q60 q61 k i, zE cA (zad a0 B K r q60 q61) (zm xS0 tS0 k i) k i) H
theorem zin_1 {k : Nat} {i : Int} (h : zin k i) (hk : (zsh k).2.2.2 = 1) : i = 0 := by
  have h2 := h.2
  rw [hk] at h2
  have := h.1
  omega
theorem zin_n {k : Nat} {i : Int} (h : zin k i) : ∃ t : Nat, i = (t : Int) ∧ t < (zsh k).2.2.2 := ⟨i.toNat, by have := h.1; omega, by have := h.1; have := h.2; omega⟩
theorem zp_0 (hf : ∀ j, j < 12 → f1 j = Int32.ofInt (-1) ∧ f2 j = Int32.ofInt (-1) ∧ f3 j = Int32.ofInt (-1)) (hB : ∀ n, n < 11 → g5 n = some (B n 9)) (hK : ∀ n, n < 3 → g6 n = some (K n 16)) {i : Int} (h : zin 0 i) : zPl cA a0 B K r q60 q61 f1 f2 f3 g5 g6 0 i := by
  obtain rfl := zin_1 h (by decide)
  exact ⟨0, _, by decide, rfl, fun D H h => zeq_o (by simp only [zi0, zl0]; rfl) h⟩
theorem zp_1 (hf : ∀ j, j < 12 → f1 j = Int32.ofInt (-1) ∧ f2 j = Int32.ofInt (-1) ∧ f3 j = Int32.ofInt (-1)) (hB : ∀ n, n < 11 → g5 n = some (B n 9)) (hK : ∀ n, n < 3 → g6 n = some (K n 16)) {i : Int} (h : zin 1 i) : zPl cA a0 B K r q60 q61 f1 f2 f3 g5 g6 1 i := by
  obtain rfl := zin_1 h (by decide)
  exact ⟨1, _, by decide, rfl, fun D H h => zeq_i (fun j hj => (hf j hj).1) h⟩
theorem zp_2 (hf : ∀ j, j < 12 → f1 j = Int32.ofInt (-1) ∧ f2 j = Int32.ofInt (-1) ∧ f3 j = Int32.ofInt (-1)) (hB : ∀ n, n < 11 → g5 n = some (B n 9)) (hK : ∀ n, n < 3 → g6 n = some (K n 16)) {i : Int} (h : zin 2 i) : zPl cA a0 B K r q60 q61 f1 f2 f3 g5 g6 2 i := by
  obtain rfl := zin_1 h (by decide)
  exact ⟨2, _, by decide, rfl, fun D H h => zeq_i (fun j hj => (hf j hj).2.1) h⟩
theorem zp_3 (hf : ∀ j, j < 12 → f1 j = Int32.ofInt (-1) ∧ f2 j = Int32.ofInt (-1) ∧ f3 j = Int32.ofInt (-1)) (hB : ∀ n, n < 11 → g5 n = some (B n 9)) (hK : ∀ n, n < 3 → g6 n = some (K n 16)) {i : Int} (h : zin 3 i) : zPl cA a0 B K r q60 q61 f1 f2 f3 g5 g6 3 i := by
  obtain rfl := zin_1 h (by decide)
  exact ⟨3, _, by decide, rfl, fun D H h => zeq_i (fun j hj => (hf j hj).2.2) h⟩
theorem zp_4 (hf : ∀ j, j < 12 → f1 j = Int32.ofInt (-1) ∧ f2 j = Int32.ofInt (-1) ∧ f3 j = Int32.ofInt (-1)) (hB : ∀ n, n < 11 → g5 n = some (B n 9)) (hK : ∀ n, n < 3 → g6 n = some (K n 16)) {i : Int} (h : zin 4 i) : zPl cA a0 B K r q60 q61 f1 f2 f3 g5 g6 4 i := by
  obtain rfl := zin_1 h (by decide)
  exact ⟨4, _, by decide, rfl, fun D H h => zeq_i (fun j _ => zi0) h⟩
theorem zp_5 (hf : ∀ j, j < 12 → f1 j = Int32.ofInt (-1) ∧ f2 j = Int32.ofInt (-1) ∧ f3 j = Int32.ofInt (-1)) (hB : ∀ n, n < 11 → g5 n = some (B n 9)) (hK : ∀ n, n < 3 → g6 n = some (K n 16)) {i : Int} (h : zin 5 i) : zPl cA a0 B K r q60 q61 f1 f2 f3 g5 g6 5 i := by
  obtain rfl := zin_1 h (by decide)
  exact ⟨5, _, by decide, rfl, fun D H h => zeq_q (fun j hj => hB j hj) h⟩
theorem zp_6 (hf : ∀ j, j < 12 → f1 j = Int32.ofInt (-1) ∧ f2 j = Int32.ofInt (-1) ∧ f3 j = Int32.ofInt (-1)) (hB : ∀ n, n < 11 → g5 n = some (B n 9)) (hK : ∀ n, n < 3 → g6 n = some (K n 16)) {i : Int} (h : zin 6 i) : zPl cA a0 B K r q60 q61 f1 f2 f3 g5 g6 6 i := by
  obtain rfl := zin_1 h (by decide)
  exact ⟨6, _, by decide, rfl, fun D H h => zeq_q (fun j hj => hK j hj) h⟩
theorem zp_7 (hf : ∀ j, j < 12 → f1 j = Int32.ofInt (-1) ∧ f2 j = Int32.ofInt (-1) ∧ f3 j = Int32.ofInt (-1)) (hB : ∀ n, n < 11 → g5 n = some (B n 9)) (hK : ∀ n, n < 3 → g6 n = some (K n 16)) {i : Int} (h : zin 7 i) : zPl cA a0 B K r q60 q61 f1 f2 f3 g5 g6 7 i := by
  obtain rfl := zin_1 h (by decide)
  exact ⟨7, _, by decide, rfl, fun D H h => zeq_i (fun j _ => zi0) h⟩
theorem zp_8 (hf : ∀ j, j < 12 → f1 j = Int32.ofInt (-1) ∧ f2 j = Int32.ofInt (-1) ∧ f3 j = Int32.ofInt (-1)) (hB : ∀ n, n < 11 → g5 n = some (B n 9)) (hK : ∀ n, n < 3 → g6 n = some (K n 16)) {i : Int} (h : zin 8 i) : zPl cA a0 B K r q60 q61 f1 f2 f3 g5 g6 8 i := by
  obtain rfl := zin_1 h (by decide)
  exact ⟨8, _, by decide, rfl, fun D H h => zeq_i (fun j _ => zi0) h⟩
theorem zp_9 (hf : ∀ j, j < 12 → f1 j = Int32.ofInt (-1) ∧ f2 j = Int32.ofInt (-1) ∧ f3 j = Int32.ofInt (-1)) (hB : ∀ n, n < 11 → g5 n = some (B n 9)) (hK : ∀ n, n < 3 → g6 n = some (K n 16)) {i : Int} (h : zin 9 i) : zPl cA a0 B K r q60 q61 f1 f2 f3 g5 g6 9 i := by
  obtain ⟨t, rfl, ht⟩ := zin_n h
  have ht2 : t < 11 := ht
  exact ⟨9 + (7 * t + 0), _, zinv_t t ht2 0 (by decide), (zwls_t ht2 (by decide)).trans rfl, fun D H h => zeq_o (by simp only [zi0, zl0]; rfl) h⟩
theorem zp_10 (hf : ∀ j, j < 12 → f1 j = Int32.ofInt (-1) ∧ f2 j = Int32.ofInt (-1) ∧ f3 j = Int32.ofInt (-1)) (hB : ∀ n, n < 11 → g5 n = some (B n 9)) (hK : ∀ n, n < 3 → g6 n = some (K n 16)) {i : Int} (h : zin 10 i) : zPl cA a0 B K r q60 q61 f1 f2 f3 g5 g6 10 i := by
  obtain ⟨t, rfl, ht⟩ := zin_n h
  have ht2 : t < 11 := ht
  exact ⟨9 + (7 * t + 1), _, zinv_t t ht2 1 (by decide), (zwls_t ht2 (by decide)).trans rfl, fun D H h => zeq_o (by simp only [zi0, zl0]; rfl) h⟩
theorem zp_11 (hf : ∀ j, j < 12 → f1 j = Int32.ofInt (-1) ∧ f2 j = Int32.ofInt (-1) ∧ f3 j = Int32.ofInt (-1)) (hB : ∀ n, n < 11 → g5 n = some (B n 9)) (hK : ∀ n, n < 3 → g6 n = some (K n 16)) {i : Int} (h : zin 11 i) : zPl cA a0 B K r q60 q61 f1 f2 f3 g5 g6 11 i := by
  obtain ⟨t, rfl, ht⟩ := zin_n h
  have ht2 : t < 11 := ht
  exact ⟨9 + (7 * t + 2), _, zinv_t t ht2 2 (by decide), (zwls_t ht2 (by decide)).trans rfl, fun D H h => zeq_o (by simp only [zi0, zl0]; rfl) h⟩
theorem zp_12 (hf : ∀ j, j < 12 → f1 j = Int32.ofInt (-1) ∧ f2 j = Int32.ofInt (-1) ∧ f3 j = Int32.ofInt (-1)) (hB : ∀ n, n < 11 → g5 n = some (B n 9)) (hK : ∀ n, n < 3 → g6 n = some (K n 16)) {i : Int} (h : zin 12 i) : zPl cA a0 B K r q60 q61 f1 f2 f3 g5 g6 12 i := by
  obtain ⟨t, rfl, ht⟩ := zin_n h
  have ht2 : t < 11 := ht
  exact ⟨9 + (7 * t + 3), _, zinv_t t ht2 3 (by decide), (zwls_t ht2 (by decide)).trans rfl, fun D H h => zeq_i (fun j _ => zi0) h⟩
theorem zp_13 (hf : ∀ j, j < 12 → f1 j = Int32.ofInt (-1) ∧ f2 j = Int32.ofInt (-1) ∧ f3 j = Int32.ofInt (-1)) (hB : ∀ n, n < 11 → g5 n = some (B n 9)) (hK : ∀ n, n < 3 → g6 n = some (K n 16)) {i : Int} (h : zin 13 i) : zPl cA a0 B K r q60 q61 f1 f2 f3 g5 g6 13 i := by
  obtain ⟨t, rfl, ht⟩ := zin_n h
  have ht2 : t < 11 := ht
  exact ⟨9 + (7 * t + 4), _, zinv_t t ht2 4 (by decide), (zwls_t ht2 (by decide)).trans rfl, fun D H h => zeq_i (fun j _ => zi0) h⟩
theorem zp_14 (hf : ∀ j, j < 12 → f1 j = Int32.ofInt (-1) ∧ f2 j = Int32.ofInt (-1) ∧ f3 j = Int32.ofInt (-1)) (hB : ∀ n, n < 11 → g5 n = some (B n 9)) (hK : ∀ n, n < 3 → g6 n = some (K n 16)) {i : Int} (h : zin 14 i) : zPl cA a0 B K r q60 q61 f1 f2 f3 g5 g6 14 i := by
  obtain ⟨t, rfl, ht⟩ := zin_n h
  have ht2 : t < 11 := ht
  exact ⟨9 + (7 * t + 5), _, zinv_t t ht2 5 (by decide), (zwls_t ht2 (by decide)).trans rfl, fun D H h => zeq_i (fun j _ => zi0) h⟩
theorem zp_15 (hf : ∀ j, j < 12 → f1 j = Int32.ofInt (-1) ∧ f2 j = Int32.ofInt (-1) ∧ f3 j = Int32.ofInt (-1)) (hB : ∀ n, n < 11 → g5 n = some (B n 9)) (hK : ∀ n, n < 3 → g6 n = some (K n 16)) {i : Int} (h : zin 15 i) : zPl cA a0 B K r q60 q61 f1 f2 f3 g5 g6 15 i := by
  obtain ⟨t, rfl, ht⟩ := zin_n h
  have ht2 : t < 11 := ht
  exact ⟨9 + (7 * t + 6), _, zinv_t t ht2 6 (by decide), (zwls_t ht2 (by decide)).trans rfl, fun D H h => zeq_i (fun j _ => zi0) h⟩
theorem zp_16 (hf : ∀ j, j < 12 → f1 j = Int32.ofInt (-1) ∧ f2 j = Int32.ofInt (-1) ∧ f3 j = Int32.ofInt (-1)) (hB : ∀ n, n < 11 → g5 n = some (B n 9)) (hK : ∀ n, n < 3 → g6 n = some (K n 16)) {i : Int} (h : zin 16 i) : zPl cA a0 B K r q60 q61 f1 f2 f3 g5 g6 16 i := by
  obtain ⟨t, rfl, ht⟩ := zin_n h
  have ht2 : t < 3 := ht
  exact ⟨86 + (2 * t + 0), _, zinv_k t ht2 0 (by decide), (zwls_k ht2 (by decide)).trans rfl, fun D H h => zeq_o (by simp only [zi0, zl0]; rfl) h⟩
theorem zp_17 (hf : ∀ j, j < 12 → f1 j = Int32.ofInt (-1) ∧ f2 j = Int32.ofInt (-1) ∧ f3 j = Int32.ofInt (-1)) (hB : ∀ n, n < 11 → g5 n = some (B n 9)) (hK : ∀ n, n < 3 → g6 n = some (K n 16)) {i : Int} (h : zin 17 i) : zPl cA a0 B K r q60 q61 f1 f2 f3 g5 g6 17 i := by
  obtain ⟨t, rfl, ht⟩ := zin_n h
  have ht2 : t < 3 := ht
  exact ⟨86 + (2 * t + 1), _, zinv_k t ht2 1 (by decide), (zwls_k ht2 (by decide)).trans rfl, fun D H h => zeq_i (fun j _ => zi0) h⟩
theorem zp_20 (hf : ∀ j, j < 12 → f1 j = Int32.ofInt (-1) ∧ f2 j = Int32.ofInt (-1) ∧ f3 j = Int32.ofInt (-1)) (hB : ∀ n, n < 11 → g5 n = some (B n 9)) (hK : ∀ n, n < 3 → g6 n = some (K n 16)) {i : Int} (h : zin 20 i) : zPl cA a0 B K r q60 q61 f1 f2 f3 g5 g6 20 i := by
  obtain rfl := zin_1 h (by decide)
  exact ⟨92, _, by decide, (zwls_y (n := 0) (by decide)).trans rfl, fun D H h => zeq_o (by simp only [zi0, zl0]; rfl) h⟩
theorem zp_21 (hf : ∀ j, j < 12 → f1 j = Int32.ofInt (-1) ∧ f2 j = Int32.ofInt (-1) ∧ f3 j = Int32.ofInt (-1)) (hB : ∀ n, n < 11 → g5 n = some (B n 9)) (hK : ∀ n, n < 3 → g6 n = some (K n 16)) {i : Int} (h : zin 21 i) : zPl cA a0 B K r q60 q61 f1 f2 f3 g5 g6 21 i := by
  obtain rfl := zin_1 h (by decide)
  exact ⟨93, _, by decide, (zwls_y (n := 1) (by decide)).trans rfl, fun D H h => zeq_i (fun j _ => zi0) h⟩
theorem zp_22 (hf : ∀ j, j < 12 → f1 j = Int32.ofInt (-1) ∧ f2 j = Int32.ofInt (-1) ∧ f3 j = Int32.ofInt (-1)) (hB : ∀ n, n < 11 → g5 n = some (B n 9)) (hK : ∀ n, n < 3 → g6 n = some (K n 16)) {i : Int} (h : zin 22 i) : zPl cA a0 B K r q60 q61 f1 f2 f3 g5 g6 22 i := by
  obtain rfl := zin_1 h (by decide)
  exact ⟨94, _, by decide, (zwls_y (n := 2) (by decide)).trans rfl, fun D H h => zeq_i (fun j _ => zi0) h⟩
theorem zp_23 (hf : ∀ j, j < 12 → f1 j = Int32.ofInt (-1) ∧ f2 j = Int32.ofInt (-1) ∧ f3 j = Int32.ofInt (-1)) (hB : ∀ n, n < 11 → g5 n = some (B n 9)) (hK : ∀ n, n < 3 → g6 n = some (K n 16)) {i : Int} (h : zin 23 i) : zPl cA a0 B K r q60 q61 f1 f2 f3 g5 g6 23 i := by
  obtain rfl := zin_1 h (by decide)
  exact ⟨95, _, by decide, (zwls_y (n := 3) (by decide)).trans rfl, fun D H h => zeq_i (fun j hj => zups_at 12 hj) h⟩
theorem zp_24 (hf : ∀ j, j < 12 → f1 j = Int32.ofInt (-1) ∧ f2 j = Int32.ofInt (-1) ∧ f3 j = Int32.ofInt (-1)) (hB : ∀ n, n < 11 → g5 n = some (B n 9)) (hK : ∀ n, n < 3 → g6 n = some (K n 16)) {i : Int} (h : zin 24 i) : zPl cA a0 B K r q60 q61 f1 f2 f3 g5 g6 24 i := by
  obtain rfl := zin_1 h (by decide)
  exact ⟨96, _, by decide, (zwls_y (n := 4) (by decide)).trans rfl, fun D H h => zeq_i (fun j hj => zups_at 12 hj) h⟩
theorem zp_26 (hf : ∀ j, j < 12 → f1 j = Int32.ofInt (-1) ∧ f2 j = Int32.ofInt (-1) ∧ f3 j = Int32.ofInt (-1)) (hB : ∀ n, n < 11 → g5 n = some (B n 9)) (hK : ∀ n, n < 3 → g6 n = some (K n 16)) {i : Int} (h : zin 26 i) : zPl cA a0 B K r q60 q61 f1 f2 f3 g5 g6 26 i := by
  obtain rfl := zin_1 h (by decide)
  exact ⟨97, _, by decide, (zwls_y (n := 5) (by decide)).trans rfl, fun D H h => zeq_i (fun j _ => zi0) h⟩
theorem zp_27 (hf : ∀ j, j < 12 → f1 j = Int32.ofInt (-1) ∧ f2 j = Int32.ofInt (-1) ∧ f3 j = Int32.ofInt (-1)) (hB : ∀ n, n < 11 → g5 n = some (B n 9)) (hK : ∀ n, n < 3 → g6 n = some (K n 16)) {i : Int} (h : zin 27 i) : zPl cA a0 B K r q60 q61 f1 f2 f3 g5 g6 27 i := by
  obtain rfl := zin_1 h (by decide)
  exact ⟨98, _, by decide, (zwls_y (n := 6) (by decide)).trans rfl, fun D H h => zeq_i (fun j _ => zi0) h⟩
theorem zp_28 (hf : ∀ j, j < 12 → f1 j = Int32.ofInt (-1) ∧ f2 j = Int32.ofInt (-1) ∧ f3 j = Int32.ofInt (-1)) (hB : ∀ n, n < 11 → g5 n = some (B n 9)) (hK : ∀ n, n < 3 → g6 n = some (K n 16)) {i : Int} (h : zin 28 i) : zPl cA a0 B K r q60 q61 f1 f2 f3 g5 g6 28 i := by
  obtain rfl := zin_1 h (by decide)
  exact ⟨99, _, by decide, (zwls_y (n := 7) (by decide)).trans rfl, fun D H h => zeq_i (fun j _ => zi0) h⟩
theorem zp_29 (hf : ∀ j, j < 12 → f1 j = Int32.ofInt (-1) ∧ f2 j = Int32.ofInt (-1) ∧ f3 j = Int32.ofInt (-1)) (hB : ∀ n, n < 11 → g5 n = some (B n 9)) (hK : ∀ n, n < 3 → g6 n = some (K n 16)) {i : Int} (h : zin 29 i) : zPl cA a0 B K r q60 q61 f1 f2 f3 g5 g6 29 i := by
  obtain rfl := zin_1 h (by decide)
  exact ⟨100, _, by decide, (zwls_y (n := 8) (by decide)).trans rfl, fun D H h => zeq_i (fun j _ => zi0) h⟩
theorem zp_30 (hf : ∀ j, j < 12 → f1 j = Int32.ofInt (-1) ∧ f2 j = Int32.ofInt (-1) ∧ f3 j = Int32.ofInt (-1)) (hB : ∀ n, n < 11 → g5 n = some (B n 9)) (hK : ∀ n, n < 3 → g6 n = some (K n 16)) {i : Int} (h : zin 30 i) : zPl cA a0 B K r q60 q61 f1 f2 f3 g5 g6 30 i := by
  obtain rfl := zin_1 h (by decide)
  exact ⟨101, _, by decide, (zwls_y (n := 9) (by decide)).trans rfl, fun D H h => zeq_i (fun j _ => zi0) h⟩
theorem zp_31 (hf : ∀ j, j < 12 → f1 j = Int32.ofInt (-1) ∧ f2 j = Int32.ofInt (-1) ∧ f3 j = Int32.ofInt (-1)) (hB : ∀ n, n < 11 → g5 n = some (B n 9)) (hK : ∀ n, n < 3 → g6 n = some (K n 16)) {i : Int} (h : zin 31 i) : zPl cA a0 B K r q60 q61 f1 f2 f3 g5 g6 31 i := by
  obtain rfl := zin_1 h (by decide)
  exact ⟨102, _, by decide, (zwls_y (n := 10) (by decide)).trans rfl, fun D H h => zeq_i (fun j _ => zi0) h⟩
theorem zp_32 (hf : ∀ j, j < 12 → f1 j = Int32.ofInt (-1) ∧ f2 j = Int32.ofInt (-1) ∧ f3 j = Int32.ofInt (-1)) (hB : ∀ n, n < 11 → g5 n = some (B n 9)) (hK : ∀ n, n < 3 → g6 n = some (K n 16)) {i : Int} (h : zin 32 i) : zPl cA a0 B K r q60 q61 f1 f2 f3 g5 g6 32 i := by
  obtain rfl := zin_1 h (by decide)
  exact ⟨103, _, by decide, (zwls_y (n := 11) (by decide)).trans rfl, fun D H h => zeq_i (fun j _ => zi0) h⟩
theorem zp_33 (hf : ∀ j, j < 12 → f1 j = Int32.ofInt (-1) ∧ f2 j = Int32.ofInt (-1) ∧ f3 j = Int32.ofInt (-1)) (hB : ∀ n, n < 11 → g5 n = some (B n 9)) (hK : ∀ n, n < 3 → g6 n = some (K n 16)) {i : Int} (h : zin 33 i) : zPl cA a0 B K r q60 q61 f1 f2 f3 g5 g6 33 i := by
  obtain rfl := zin_1 h (by decide)
  exact ⟨104, _, by decide, (zwls_y (n := 12) (by decide)).trans rfl, fun D H h => zeq_i (fun j _ => zi0) h⟩
theorem zp_34 (hf : ∀ j, j < 12 → f1 j = Int32.ofInt (-1) ∧ f2 j = Int32.ofInt (-1) ∧ f3 j = Int32.ofInt (-1)) (hB : ∀ n, n < 11 → g5 n = some (B n 9)) (hK : ∀ n, n < 3 → g6 n = some (K n 16)) {i : Int} (h : zin 34 i) : zPl cA a0 B K r q60 q61 f1 f2 f3 g5 g6 34 i := by
  obtain rfl := zin_1 h (by decide)
  exact ⟨105, _, by decide, (zwls_y (n := 13) (by decide)).trans rfl, fun D H h => zeq_i (fun j hj => zuph_at 16 hj) h⟩
theorem zp_35 (hf : ∀ j, j < 12 → f1 j = Int32.ofInt (-1) ∧ f2 j = Int32.ofInt (-1) ∧ f3 j = Int32.ofInt (-1)) (hB : ∀ n, n < 11 → g5 n = some (B n 9)) (hK : ∀ n, n < 3 → g6 n = some (K n 16)) {i : Int} (h : zin 35 i) : zPl cA a0 B K r q60 q61 f1 f2 f3 g5 g6 35 i := by
  obtain rfl := zin_1 h (by decide)
  exact ⟨106, _, by decide, (zwls_y (n := 14) (by decide)).trans rfl, fun D H h => zeq_i (fun j _ => zi0) h⟩
theorem zp_36 (hf : ∀ j, j < 12 → f1 j = Int32.ofInt (-1) ∧ f2 j = Int32.ofInt (-1) ∧ f3 j = Int32.ofInt (-1)) (hB : ∀ n, n < 11 → g5 n = some (B n 9)) (hK : ∀ n, n < 3 → g6 n = some (K n 16)) {i : Int} (h : zin 36 i) : zPl cA a0 B K r q60 q61 f1 f2 f3 g5 g6 36 i := by
  obtain rfl := zin_1 h (by decide)
  exact ⟨107, _, by decide, (zwls_y (n := 15) (by decide)).trans rfl, fun D H h => zeq_i (fun j _ => zi0) h⟩
theorem zp_37 (hf : ∀ j, j < 12 → f1 j = Int32.ofInt (-1) ∧ f2 j = Int32.ofInt (-1) ∧ f3 j = Int32.ofInt (-1)) (hB : ∀ n, n < 11 → g5 n = some (B n 9)) (hK : ∀ n, n < 3 → g6 n = some (K n 16)) {i : Int} (h : zin 37 i) : zPl cA a0 B K r q60 q61 f1 f2 f3 g5 g6 37 i := by
  obtain rfl := zin_1 h (by decide)
  exact ⟨108, _, by decide, (zwls_y (n := 16) (by decide)).trans rfl, fun D H h => zeq_i (fun j _ => zi0) h⟩
theorem zp_38 (hf : ∀ j, j < 12 → f1 j = Int32.ofInt (-1) ∧ f2 j = Int32.ofInt (-1) ∧ f3 j = Int32.ofInt (-1)) (hB : ∀ n, n < 11 → g5 n = some (B n 9)) (hK : ∀ n, n < 3 → g6 n = some (K n 16)) {i : Int} (h : zin 38 i) : zPl cA a0 B K r q60 q61 f1 f2 f3 g5 g6 38 i := by
  obtain rfl := zin_1 h (by decide)
  exact ⟨109, _, by decide, (zwls_y (n := 17) (by decide)).trans rfl, fun D H h => zeq_i (fun j _ => zi0) h⟩
theorem zp_39 (hf : ∀ j, j < 12 → f1 j = Int32.ofInt (-1) ∧ f2 j = Int32.ofInt (-1) ∧ f3 j = Int32.ofInt (-1)) (hB : ∀ n, n < 11 → g5 n = some (B n 9)) (hK : ∀ n, n < 3 → g6 n = some (K n 16)) {i : Int} (h : zin 39 i) : zPl cA a0 B K r q60 q61 f1 f2 f3 g5 g6 39 i := by
  obtain rfl := zin_1 h (by decide)
  exact ⟨110, _, by decide, (zwls_y (n := 18) (by decide)).trans rfl, fun D H h => zeq_i (fun j _ => zi0) h⟩
theorem zp_40 (hf : ∀ j, j < 12 → f1 j = Int32.ofInt (-1) ∧ f2 j = Int32.ofInt (-1) ∧ f3 j = Int32.ofInt (-1)) (hB : ∀ n, n < 11 → g5 n = some (B n 9)) (hK : ∀ n, n < 3 → g6 n = some (K n 16)) {i : Int} (h : zin 40 i) : zPl cA a0 B K r q60 q61 f1 f2 f3 g5 g6 40 i := by
  obtain rfl := zin_1 h (by decide)
  exact ⟨111, _, by decide, (zwls_y (n := 19) (by decide)).trans rfl, fun D H h => zeq_i (fun j _ => zi0) h⟩
theorem zp_41 (hf : ∀ j, j < 12 → f1 j = Int32.ofInt (-1) ∧ f2 j = Int32.ofInt (-1) ∧ f3 j = Int32.ofInt (-1)) (hB : ∀ n, n < 11 → g5 n = some (B n 9)) (hK : ∀ n, n < 3 → g6 n = some (K n 16)) {i : Int} (h : zin 41 i) : zPl cA a0 B K r q60 q61 f1 f2 f3 g5 g6 41 i := by
  obtain rfl := zin_1 h (by decide)
  exact ⟨112, _, by decide, (zwls_y (n := 20) (by decide)).trans rfl, fun D H h => zeq_i (fun j _ => zi0) h⟩
theorem zp_42 (hf : ∀ j, j < 12 → f1 j = Int32.ofInt (-1) ∧ f2 j = Int32.ofInt (-1) ∧ f3 j = Int32.ofInt (-1)) (hB : ∀ n, n < 11 → g5 n = some (B n 9)) (hK : ∀ n, n < 3 → g6 n = some (K n 16)) {i : Int} (h : zin 42 i) : zPl cA a0 B K r q60 q61 f1 f2 f3 g5 g6 42 i := by
  obtain rfl := zin_1 h (by decide)
  exact ⟨113, _, by decide, (zwls_y (n := 21) (by decide)).trans rfl, fun D H h => zeq_i (fun j _ => zi0) h⟩
theorem zp_43 (hf : ∀ j, j < 12 → f1 j = Int32.ofInt (-1) ∧ f2 j = Int32.ofInt (-1) ∧ f3 j = Int32.ofInt (-1)) (hB : ∀ n, n < 11 → g5 n = some (B n 9)) (hK : ∀ n, n < 3 → g6 n = some (K n 16)) {i : Int} (h : zin 43 i) : zPl cA a0 B K r q60 q61 f1 f2 f3 g5 g6 43 i := by
  obtain rfl := zin_1 h (by decide)
  exact ⟨114, _, by decide, (zwls_y (n := 22) (by decide)).trans rfl, fun D H h => zeq_i (fun j _ => zi0) h⟩
theorem zp_44 (hf : ∀ j, j < 12 → f1 j = Int32.ofInt (-1) ∧ f2 j = Int32.ofInt (-1) ∧ f3 j = Int32.ofInt (-1)) (hB : ∀ n, n < 11 → g5 n = some (B n 9)) (hK : ∀ n, n < 3 → g6 n = some (K n 16)) {i : Int} (h : zin 44 i) : zPl cA a0 B K r q60 q61 f1 f2 f3 g5 g6 44 i := by
  obtain rfl := zin_1 h (by decide)
  exact ⟨115, _, by decide, (zwls_y (n := 23) (by decide)).trans rfl, fun D H h => zeq_i (fun j _ => zi0) h⟩
theorem zp_45 (hf : ∀ j, j < 12 → f1 j = Int32.ofInt (-1) ∧ f2 j = Int32.ofInt (-1) ∧ f3 j = Int32.ofInt (-1)) (hB : ∀ n, n < 11 → g5 n = some (B n 9)) (hK : ∀ n, n < 3 → g6 n = some (K n 16)) {i : Int} (h : zin 45 i) : zPl cA a0 B K r q60 q61 f1 f2 f3 g5 g6 45 i := by
  obtain rfl := zin_1 h (by decide)
  exact ⟨116, _, by decide, (zwls_y (n := 24) (by decide)).trans rfl, fun D H h => zeq_i (fun j _ => zi0) h⟩
theorem zp_46 (hf : ∀ j, j < 12 → f1 j = Int32.ofInt (-1) ∧ f2 j = Int32.ofInt (-1) ∧ f3 j = Int32.ofInt (-1)) (hB : ∀ n, n < 11 → g5 n = some (B n 9)) (hK : ∀ n, n < 3 → g6 n = some (K n 16)) {i : Int} (h : zin 46 i) : zPl cA a0 B K r q60 q61 f1 f2 f3 g5 g6 46 i := by
  obtain rfl := zin_1 h (by decide)
  exact ⟨117, _, by decide, (zwls_y (n := 25) (by decide)).trans rfl, fun D H h => zeq_i (fun j _ => zi0) h⟩
theorem zp_47 (hf : ∀ j, j < 12 → f1 j = Int32.ofInt (-1) ∧ f2 j = Int32.ofInt (-1) ∧ f3 j = Int32.ofInt (-1)) (hB : ∀ n, n < 11 → g5 n = some (B n 9)) (hK : ∀ n, n < 3 → g6 n = some (K n 16)) {i : Int} (h : zin 47 i) : zPl cA a0 B K r q60 q61 f1 f2 f3 g5 g6 47 i := by
  obtain rfl := zin_1 h (by decide)
  exact ⟨118, _, by decide, (zwls_y (n := 26) (by decide)).trans rfl, fun D H h => zeq_i (fun j _ => zi0) h⟩
theorem zp_49 (hf : ∀ j, j < 12 → f1 j = Int32.ofInt (-1) ∧ f2 j = Int32.ofInt (-1) ∧ f3 j = Int32.ofInt (-1)) (hB : ∀ n, n < 11 → g5 n = some (B n 9)) (hK : ∀ n, n < 3 → g6 n = some (K n 16)) {i : Int} (h : zin 49 i) : zPl cA a0 B K r q60 q61 f1 f2 f3 g5 g6 49 i := by
  obtain rfl := zin_1 h (by decide)
  exact ⟨119, _, by decide, (zwls_y (n := 27) (by decide)).trans rfl, fun D H h => zeq_i (fun j _ => zi0) h⟩
theorem zp_51 (hf : ∀ j, j < 12 → f1 j = Int32.ofInt (-1) ∧ f2 j = Int32.ofInt (-1) ∧ f3 j = Int32.ofInt (-1)) (hB : ∀ n, n < 11 → g5 n = some (B n 9)) (hK : ∀ n, n < 3 → g6 n = some (K n 16)) {i : Int} (h : zin 51 i) : zPl cA a0 B K r q60 q61 f1 f2 f3 g5 g6 51 i := by
  obtain rfl := zin_1 h (by decide)
  exact ⟨120, _, by decide, (zwls_y (n := 28) (by decide)).trans rfl, fun D H h => zeq_i (fun j _ => zi0) h⟩
theorem zp_52 (hf : ∀ j, j < 12 → f1 j = Int32.ofInt (-1) ∧ f2 j = Int32.ofInt (-1) ∧ f3 j = Int32.ofInt (-1)) (hB : ∀ n, n < 11 → g5 n = some (B n 9)) (hK : ∀ n, n < 3 → g6 n = some (K n 16)) {i : Int} (h : zin 52 i) : zPl cA a0 B K r q60 q61 f1 f2 f3 g5 g6 52 i := by
  obtain rfl := zin_1 h (by decide)
  exact ⟨121, _, by decide, (zwls_y (n := 29) (by decide)).trans rfl, fun D H h => zeq_i (fun j _ => zi0) h⟩
theorem zp_53 (hf : ∀ j, j < 12 → f1 j = Int32.ofInt (-1) ∧ f2 j = Int32.ofInt (-1) ∧ f3 j = Int32.ofInt (-1)) (hB : ∀ n, n < 11 → g5 n = some (B n 9)) (hK : ∀ n, n < 3 → g6 n = some (K n 16)) {i : Int} (h : zin 53 i) : zPl cA a0 B K r q60 q61 f1 f2 f3 g5 g6 53 i := by
  obtain rfl := zin_1 h (by decide)
  exact ⟨122, _, by decide, (zwls_y (n := 30) (by decide)).trans rfl, fun D H h => zeq_i (fun j _ => zi0) h⟩
theorem zp_55 (hf : ∀ j, j < 12 → f1 j = Int32.ofInt (-1) ∧ f2 j = Int32.ofInt (-1) ∧ f3 j = Int32.ofInt (-1)) (hB : ∀ n, n < 11 → g5 n = some (B n 9)) (hK : ∀ n, n < 3 → g6 n = some (K n 16)) {i : Int} (h : zin 55 i) : zPl cA a0 B K r q60 q61 f1 f2 f3 g5 g6 55 i := by
  obtain rfl := zin_1 h (by decide)
  exact ⟨123, _, by decide, (zwls_y (n := 31) (by decide)).trans rfl, fun D H h => zeq_i (fun j _ => zi0) h⟩
theorem zp_56 (hf : ∀ j, j < 12 → f1 j = Int32.ofInt (-1) ∧ f2 j = Int32.ofInt (-1) ∧ f3 j = Int32.ofInt (-1)) (hB : ∀ n, n < 11 → g5 n = some (B n 9)) (hK : ∀ n, n < 3 → g6 n = some (K n 16)) {i : Int} (h : zin 56 i) : zPl cA a0 B K r q60 q61 f1 f2 f3 g5 g6 56 i := by
  obtain rfl := zin_1 h (by decide)
  exact ⟨124, _, by decide, (zwls_y (n := 32) (by decide)).trans rfl, fun D H h => zeq_i (fun j _ => zi0) h⟩
theorem zp_60 (hf : ∀ j, j < 12 → f1 j = Int32.ofInt (-1) ∧ f2 j = Int32.ofInt (-1) ∧ f3 j = Int32.ofInt (-1)) (hB : ∀ n, n < 11 → g5 n = some (B n 9)) (hK : ∀ n, n < 3 → g6 n = some (K n 16)) {i : Int} (h : zin 60 i) : zPl cA a0 B K r q60 q61 f1 f2 f3 g5 g6 60 i := by
  obtain rfl := zin_1 h (by decide)
  exact ⟨125, _, by decide, zwls_60, fun D H h => by
    have e : (fun _ : Nat => (0 : Int64)) = fun j : Nat => Int64.ofInt (zm xS0 tS0 60 0 (j : Int)) := funext (fun j => zl0)
    show va_at D zCl (_, .inl (cA 60, 1, .inr (.inl (fun j : Nat => Int64.ofInt (zm xS0 tS0 60 0 (j : Int)))))) H
    rw [← e]
    exact h⟩
theorem zp_61 (hf : ∀ j, j < 12 → f1 j = Int32.ofInt (-1) ∧ f2 j = Int32.ofInt (-1) ∧ f3 j = Int32.ofInt (-1)) (hB : ∀ n, n < 11 → g5 n = some (B n 9)) (hK : ∀ n, n < 3 → g6 n = some (K n 16)) {i : Int} (h : zin 61 i) : zPl cA a0 B K r q60 q61 f1 f2 f3 g5 g6 61 i := by
  obtain rfl := zin_1 h (by decide)
  exact ⟨126, _, by decide, zwls_61, fun D H h => h⟩
theorem zp_all (hf : ∀ j, j < 12 → f1 j = Int32.ofInt (-1) ∧ f2 j = Int32.ofInt (-1) ∧ f3 j = Int32.ofInt (-1)) (hB : ∀ n, n < 11 → g5 n = some (B n 9)) (hK : ∀ n, n < 3 → g6 n = some (K n 16)) {k : Nat} {i : Int} (h : zin k i) : zPl cA a0 B K r q60 q61 f1 f2 f3 g5 g6 k i := by
  match k, h with
  | 0, h => exact zp_0 hf hB hK h
  | 1, h => exact zp_1 hf hB hK h
  | 2, h => exact zp_2 hf hB hK h
  | 3, h => exact zp_3 hf hB hK h
  | 4, h => exact zp_4 hf hB hK h
  | 5, h => exact zp_5 hf hB hK h
  | 6, h => exact zp_6 hf hB hK h
  | 7, h => exact zp_7 hf hB hK h
  | 8, h => exact zp_8 hf hB hK h
  | 9, h => exact zp_9 hf hB hK h
  | 10, h => exact zp_10 hf hB hK h
  | 11, h => exact zp_11 hf hB hK h
  | 12, h => exact zp_12 hf hB hK h
  | 13, h => exact zp_13 hf hB hK h
  | 14, h => exact zp_14 hf hB hK h
  | 15, h => exact zp_15 hf hB hK h
  | 16, h => exact zp_16 hf hB hK h
  | 17, h => exact zp_17 hf hB hK h
  | 18, h => exact absurd (Int.lt_of_le_of_lt h.1 h.2) (by decide)
  | 19, h => exact absurd (Int.lt_of_le_of_lt h.1 h.2) (by decide)
  | 20, h => exact zp_20 hf hB hK h
  | 21, h => exact zp_21 hf hB hK h
  | 22, h => exact zp_22 hf hB hK h
  | 23, h => exact zp_23 hf hB hK h
  | 24, h => exact zp_24 hf hB hK h
  | 25, h => exact absurd (Int.lt_of_le_of_lt h.1 h.2) (by decide)
  | 26, h => exact zp_26 hf hB hK h
  | 27, h => exact zp_27 hf hB hK h
  | 28, h => exact zp_28 hf hB hK h
  | 29, h => exact zp_29 hf hB hK h
  | 30, h => exact zp_30 hf hB hK h
  | 31, h => exact zp_31 hf hB hK h
  | 32, h => exact zp_32 hf hB hK h
  | 33, h => exact zp_33 hf hB hK h
  | 34, h => exact zp_34 hf hB hK h
  | 35, h => exact zp_35 hf hB hK h
  | 36, h => exact zp_36 hf hB hK h
  | 37, h => exact zp_37 hf hB hK h
  | 38, h => exact zp_38 hf hB hK h
  | 39, h => exact zp_39 hf hB hK h
  | 40, h => exact zp_40 hf hB hK h
  | 41, h => exact zp_41 hf hB hK h
  | 42, h => exact zp_42 hf hB hK h
  | 43, h => exact zp_43 hf hB hK h
  | 44, h => exact zp_44 hf hB hK h
  | 45, h => exact zp_45 hf hB hK h
  | 46, h => exact zp_46 hf hB hK h
  | 47, h => exact zp_47 hf hB hK h
  | 48, h => exact absurd (Int.lt_of_le_of_lt h.1 h.2) (by decide)
  | 49, h => exact zp_49 hf hB hK h
  | 50, h => exact absurd (Int.lt_of_le_of_lt h.1 h.2) (by decide)
  | 51, h => exact zp_51 hf hB hK h
  | 52, h => exact zp_52 hf hB hK h
  | 53, h => exact zp_53 hf hB hK h
  | 54, h => exact absurd (Int.lt_of_le_of_lt h.1 h.2) (by decide)
  | 55, h => exact zp_55 hf hB hK h
  | 56, h => exact zp_56 hf hB hK h
  | 57, h => exact absurd (Int.lt_of_le_of_lt h.1 h.2) (by decide)
  | 58, h => exact absurd (Int.lt_of_le_of_lt h.1 h.2) (by decide)
  | 59, h => exact absurd (Int.lt_of_le_of_lt h.1 h.2) (by decide)
  | 60, h => exact zp_60 hf hB hK h
  | 61, h => exact zp_61 hf hB hK h
  | k + 62, h =>
    have e : (zsh (k + 62)).2.2.2 = 0 := by
      have e2 : zshL[k + 62]? = none := List.getElem?_eq_none (by show 62 ≤ k + 62; omega)
      unfold zsh
      rw [List.getD_eq_getElem?_getD, e2]
      rfl
    have h2 := h.2
    rw [e] at h2
    have h1 := h.1
    exact absurd (Int.lt_of_le_of_lt h1 h2) (by decide)
theorem zW_0 (hf : ∀ j, j < 12 → f1 j = Int32.ofInt (-1) ∧ f2 j = Int32.ofInt (-1) ∧ f3 j = Int32.ofInt (-1)) (hB : ∀ n, n < 11 → g5 n = some (B n 9)) (hK : ∀ n, n < 3 → g6 n = some (K n 16)) {D : va_G} {A : Nat → Prop} {H : Heap} (hP : va_P D zCl (zwls cA a0 B K r q60 q61 f1 f2 f3 g5 g6) H) (hD : va_D A (zwls cA a0 B K r q60 q61 f1 f2 f3 g5 g6)) : zW D cA (zad a0 B K r q60 q61) xS0 tS0 H ∧ ∀ (k : Nat) (i : Int), zin k i → A (zad a0 B K r q60 q61 k i) := by
  refine ⟨⟨fun k k' i i' h h' e => ?_, fun k i h => ?_, fun k i j _ => ?_⟩, fun k i h => ?_⟩
  · obtain ⟨n, x, v1, v2, -⟩ := zp_all hf hB hK (k := k) (i := i) h
    obtain ⟨n', x', v1', v2', -⟩ := zp_all hf hB hK (k := k') (i := i') h'
    have := hD.1 n n' _ _ v2 v2' e
    subst this
    rw [v1] at v1'
    exact ⟨congrArg Prod.fst v1', congrArg Prod.snd v1'⟩
  · obtain ⟨n, x, -, v2, v3⟩ := zp_all hf hB hK (k := k) (i := i) h
    exact v3 D H (hP n _ v2)
  · unfold zm
    split
    · unfold xS0
      split <;> exact ⟨by decide, by decide⟩
    · unfold tS0
      split
      · exact ⟨by decide, by decide⟩
      · split <;> exact ⟨by decide, by decide⟩
  · obtain ⟨n, x, -, v2, -⟩ := zp_all hf hB hK (k := k) (i := i) h
    exact hD.2 n _ v2
end ZWL
