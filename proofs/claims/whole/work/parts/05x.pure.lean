/-! WHAT THE CLASS DOES, in whole numbers, and the bounds of its slots. -/
theorem zup_d {x : zSt} {k k' : Nat} {i i' j j' z : Int} : zup x k i j z k' i' j' = if k' = k ∧ i' = i ∧ j' = j then z else x k' i' j' := rfl
/-- bounds of the class's slots -/
def xI (x : zSt) : Prop :=
  (0 ≤ x 0 0 9 ∧ x 0 0 9 ≤ 11) ∧ (0 ≤ x 0 0 10 ∧ x 0 0 10 ≤ 3) ∧ (0 ≤ x 0 0 11 ∧ x 0 0 11 ≤ 20) ∧ (0 ≤ x 0 0 12 ∧ x 0 0 12 ≤ 5000) ∧
  (∀ v, 0 ≤ v → v ≤ 11 → (-1 ≤ x 3 0 v ∧ x 3 0 v < x 0 0 9) ∧ (-1 ≤ x 1 0 v ∧ x 1 0 v ≤ 999) ∧ (-1 ≤ x 2 0 v ∧ x 2 0 v ≤ 3)) ∧
  (∀ c, 0 ≤ c → c < x 0 0 9 → (0 ≤ x 9 c 1 ∧ x 9 c 1 ≤ 11) ∧ (-1 ≤ x 9 c 2 ∧ x 9 c 2 ≤ 11) ∧ (0 ≤ x 9 c 3 ∧ x 9 c 3 ≤ 99) ∧ (0 ≤ x 9 c 4 ∧ x 9 c 4 ≤ 11) ∧ (1 ≤ x 9 c 5 ∧ x 9 c 5 ≤ 5) ∧ (1 ≤ x 9 c 6 ∧ x 9 c 6 ≤ 9) ∧ (0 ≤ x 9 c 7 ∧ x 9 c 7 ≤ 50) ∧ (0 ≤ x 9 c 13 ∧ x 9 c 13 ≤ 1000000) ∧ (0 ≤ x 9 c 14 ∧ x 9 c 14 ≤ 1000000)) ∧
  (∀ c, 0 ≤ c → c < x 0 0 9 → (0 ≤ x 10 c 0 ∧ x 10 c 0 ≤ 65535) ∧ (0 ≤ x 10 c 2 ∧ x 10 c 2 ≤ 65535) ∧ (0 ≤ x 10 c 3 ∧ x 10 c 3 ≤ 1000000)) ∧
  (∀ c, 0 ≤ c → c < x 0 0 9 → (0 ≤ x 11 c 4 ∧ x 11 c 4 ≤ 4) ∧ (0 ≤ x 11 c 5 ∧ x 11 c 5 ≤ 3)) ∧
  (∀ k, 0 ≤ k → k ≤ 2 → (0 ≤ x 16 k 0 ∧ x 16 k 0 ≤ 20) ∧ (0 ≤ x 16 k 1 ∧ x 16 k 1 ≤ 20)) ∧
  (∀ k e, 0 ≤ k → k ≤ 2 → 0 ≤ e → e ≤ 9 → 0 ≤ x 17 k e ∧ x 17 k e ≤ 20) ∧
  (∀ c i, 0 ≤ c → c < x 0 0 9 → 0 ≤ i → i ≤ 3 → -1 ≤ x 15 c i ∧ x 15 c i ≤ 999)
def xLin (x : zSt) (v : Int) : Int := zor (zshl 1 v) (if x 3 0 v = -1 then 0 else x 9 (x 3 0 v) 8)
abbrev xAst (x : zSt) (v w S : Int) : Prop := x 1 0 v = w ∧ (x 3 0 v = -1 ∨ zand S (zshl 1 (x 3 0 v)) ≠ 0)
abbrev xUp (x : zSt) (c S : Int) : Prop := x 9 c 9 = 1 ∧ x 9 c 3 = x 9 c 12 ∧ xAst x (x 9 c 1) (x 9 c 10) S ∧ (x 9 c 2 = -1 ∨ xAst x (x 9 c 2) (x 9 c 11) S)
def xFr (x : zSt) : Nat → Int
  | 0 => 0
  | n + 1 => if xUp x n (xFr x n) then zor (xFr x n) (zshl 1 n) else xFr x n
def xFm (x : zSt) (k : Nat) (c : Int) : Int := if x k 0 (x 9 c 1) = -1 then x 9 c 1 else if x 9 c 2 ≠ -1 ∧ x k 0 (x 9 c 2) = -1 then x 9 c 2 else -1
def xVa (x : zSt) (k : Nat) (v : Int) : Int := if v = -1 then -1 else x k 0 v
def xRes (x : zSt) (c a b : Int) : Int :=
  if x 9 c 0 = 43 then (a + x 9 c 3 + (if x 9 c 2 ≠ -1 then b else 0)) % 1000
  else if x 9 c 0 = 42 then (a * x 9 c 3 * (if x 9 c 2 ≠ -1 then b else 1)) % 1000
  else if x 9 c 0 = 45 then (if a - (if x 9 c 2 ≠ -1 then b else x 9 c 3) < 0 then -(a - (if x 9 c 2 ≠ -1 then b else x 9 c 3)) else a - (if x 9 c 2 ≠ -1 then b else x 9 c 3)) % 1000
  else if (if x 9 c 2 ≠ -1 then b else x 9 c 3) = 0 then -1 else (a / (if x 9 c 2 ≠ -1 then b else x 9 c 3)) % 1000
def xLeft (x : zSt) (k : Int) : Int := x 16 k 0 - x 16 k 1
def xKf (x : zSt) (need : Int) : Nat → Int
  | 0 => -1
  | n + 1 => if need ≤ xLeft x n ∧ (xKf x need n = -1 ∨ xLeft x n < xLeft x (xKf x need n)) then n else xKf x need n
def xFnd (x : zSt) (c a b k : Int) : Nat → Int → Int
  | 0, _ => -1
  | n + 1, i => if x 12 c i = a ∧ x 13 c i = b ∧ x 14 c i = k then x 15 c i else xFnd x c a b k n (i + 1)
def xKeep (x : zSt) (c a b k r : Int) : zSt :=
  let u := zup (zup (zup (zup x 12 c (x 11 c 5) a) 13 c (x 11 c 5) b) 14 c (x 11 c 5) k) 15 c (x 11 c 5) r
  let w := zup u 11 c 5 (if x 11 c 5 + 1 < 4 then x 11 c 5 + 1 else 0)
  if x 11 c 4 < 4 then zup w 11 c 4 (x 11 c 4 + 1) else w
def xTake (x : zSt) (k need e : Int) : zSt := zup (zup x 16 k 1 (x 16 k 1 + need)) 17 k (e % 10) (x 17 k (e % 10) + need)
def xGive (x : zSt) (k t : Int) : zSt := zup (zup x 16 k 1 (x 16 k 1 - x 17 k (t % 10))) 17 k (t % 10) 0
def xSwc (x : zSt) (i c w : Int) : zSt := zup (zup (zup (zup x 10 i 0 w) 10 i 1 c) 10 i 2 w) 10 i 3 0
def xScb (x : zSt) (i j w : Int) : zSt := zup (zup (zup (zup x 10 i 0 w) 10 i 1 (x 10 j 1)) 10 i 2 (x 10 j 2)) 10 i 3 (x 10 j 3 + 1)
def xEnd (x : zSt) (c e v : Int) : zSt := zup (zup x 9 c 9 e) 1 0 (x 9 c 4) v
def xSuc (x : zSt) (c a b r : Int) : zSt := xEnd (zup (zup (zup x 9 c 10 a) 9 c 11 b) 9 c 12 (x 9 c 3)) c 1 r
def xFfm (x : zSt) (n c v : Int) : zSt := xEnd (if x 3 0 v ≠ -1 ∧ x 9 (x 3 0 v) 9 = 2 then xScb x c (x 3 0 v) 109 else xSwc x c n 109) c 2 (-1)
theorem zmul_b {a b A B : Int} (ha : 0 ≤ a ∧ a ≤ A) (hb : 0 ≤ b ∧ b ≤ B) : 0 ≤ a * b ∧ a * b ≤ A * B := ⟨Int.mul_nonneg ha.1 hb.1, Int.mul_le_mul ha.2 hb.2 hb.1 (Int.le_trans ha.1 ha.2)⟩
theorem zbit_R {a b : Int} : zR (zshl a b) ∧ zR (zor a b) ∧ zR (zand a b) := ⟨zR_of _, zR_of _, zR_of _⟩
theorem xScb_r {x : zSt} {i j w : Int} {k : Nat} (h : ¬ k = 10) {a b : Int} : xScb x i j w k a b = x k a b := by
  unfold xScb
  simp only [zup_d, h, false_and, if_false]
theorem xSwc_r {x : zSt} {i c w : Int} {k : Nat} (h : ¬ k = 10) {a b : Int} : xSwc x i c w k a b = x k a b := by
  unfold xSwc
  simp only [zup_d, h, false_and, if_false]
theorem xTake_r {x : zSt} {i a w : Int} {k : Nat} (h : ¬ k = 16) (h' : ¬ k = 17) {c b : Int} : xTake x i a w k c b = x k c b := by
  unfold xTake
  simp only [zup_d, h, h', false_and, if_false]
theorem xGive_r {x : zSt} {i w : Int} {k : Nat} (h : ¬ k = 16) (h' : ¬ k = 17) {c b : Int} : xGive x i w k c b = x k c b := by
  unfold xGive
  simp only [zup_d, h, h', false_and, if_false]
theorem xKeep_r {x : zSt} {c a b q r : Int} {k : Nat} (h : k < 11 ∨ 15 < k) {i j : Int} : xKeep x c a b q r k i j = x k i j := by
  have h1 : ¬ k = 11 := by omega
  have h2 : ¬ k = 12 := by omega
  have h3 : ¬ k = 13 := by omega
  have h4 : ¬ k = 14 := by omega
  have h5 : ¬ k = 15 := by omega
  simp only [xKeep]
  split <;> simp only [zup_d, h1, h2, h3, h4, h5, false_and, if_false]
/-- how many bits stand in a set of eleven -/
def zBit (S : Int) (j : Int) : Prop := zand S (zshl 1 j) ≠ 0
def zPop (S : Int) : Int :=
  (if zand S (zshl 1 0) ≠ 0 then 1 else 0) + (if zand S (zshl 1 1) ≠ 0 then 1 else 0) + (if zand S (zshl 1 2) ≠ 0 then 1 else 0) + (if zand S (zshl 1 3) ≠ 0 then 1 else 0) + (if zand S (zshl 1 4) ≠ 0 then 1 else 0) + (if zand S (zshl 1 5) ≠ 0 then 1 else 0) + (if zand S (zshl 1 6) ≠ 0 then 1 else 0) + (if zand S (zshl 1 7) ≠ 0 then 1 else 0) + (if zand S (zshl 1 8) ≠ 0 then 1 else 0) + (if zand S (zshl 1 9) ≠ 0 then 1 else 0) + (if zand S (zshl 1 10) ≠ 0 then 1 else 0)
def zBc (a : Int) : Int :=
  let b := a - zand (zshr a 1) 1431655765
  let c := zand b 858993459 + zand (zshr b 2) 858993459
  let d := zand (c + zshr c 4) 252645135
  let e := d + zshr d 8
  let f := e + zshr e 16
  zand f 63
set_option maxRecDepth 100000 in
theorem zBc_all : ∀ n : Fin 2048, zBc ((n : Nat) : Int) = zPop ((n : Nat) : Int) := by decide +kernel
theorem zBc_eq {a : Int} (h : 0 ≤ a ∧ a < 2048) : zBc a = zPop a := by
  have h1 := zBc_all ⟨a.toNat, by omega⟩
  have h2 : ((a.toNat : Nat) : Int) = a := by omega
  simpa only [h2] using h1
theorem xRes_b {x : zSt} {c a b : Int} : -1 ≤ xRes x c a b ∧ xRes x c a b ≤ 999 := by
  unfold xRes
  split
  · omega
  · split
    · omega
    · split
      · omega
      · split <;> omega
theorem xKf_b {x : zSt} {need : Int} : ∀ n : Nat, -1 ≤ xKf x need n ∧ xKf x need n < n := by
  intro n
  induction n with
  | zero => simp [xKf]
  | succ n ih =>
    simp only [xKf]
    split <;> omega
theorem xFnd_b {x : zSt} {c a b k : Int} (h : ∀ i, 0 ≤ i → i ≤ 3 → -1 ≤ x 15 c i ∧ x 15 c i ≤ 999) : ∀ (n : Nat) (i : Int), 0 ≤ i → i + n ≤ 4 → -1 ≤ xFnd x c a b k n i ∧ xFnd x c a b k n i ≤ 999 := by
  intro n
  induction n with
  | zero => intro i h1 h2; simp [xFnd]
  | succ n ih =>
    intro i h1 h2
    simp only [xFnd]
    split
    · exact h i h1 (by omega)
    · exact ih (i + 1) (by omega) (by omega)
def xA (x : zSt) (c : Int) : Int := x 1 0 (x 9 c 1)
def xB (x : zSt) (c : Int) : Int := xVa x 1 (x 9 c 2)
def xHit (x : zSt) (c : Int) : Int := xFnd x c (xA x c) (xB x c) (x 9 c 3) (x 11 c 4).toNat 0
def xKer (x : zSt) (c : Int) : Int := xKf x (x 9 c 5) (x 0 0 10).toNat
def xRun (x : zSt) (c k : Int) : zSt :=
  xSuc (xKeep (zup (zup (xTake x k (x 9 c 5) (x 0 0 12 + x 9 c 6)) 0 0 13 (x 0 0 13 + x 9 c 5 * x 9 c 6)) 9 c 13 (x 9 c 13 + 1)) c (xA x c) (xB x c) (x 9 c 3) (xRes x c (xA x c) (xB x c))) c (xA x c) (xB x c) (xRes x c (xA x c) (xB x c))
/-- what running cell c tells, and leaves -/
def xExeR (x : zSt) (c : Int) : Int :=
  if xFm x 1 c ≠ -1 then 109 else if xRes x c (xA x c) (xB x c) = -1 then 122 else if xHit x c ≠ -1 then 104 else if xKer x c = -1 then 119 else 114
def xExeS (x : zSt) (c : Int) : zSt :=
  if xFm x 1 c ≠ -1 then xFfm x c c (xFm x 1 c) else if xRes x c (xA x c) (xB x c) = -1 then xEnd (xSwc x c c 122) c 2 (-1) else if xHit x c ≠ -1 then xSuc (zup x 9 c 14 (x 9 c 14 + 1)) c (xA x c) (xB x c) (xHit x c) else if xKer x c = -1 then x else xRun x c (xKer x c)
theorem xExeR_b {x : zSt} {c : Int} : 0 ≤ xExeR x c ∧ xExeR x c ≤ 65535 := by
  unfold xExeR
  split
  · decide
  · split
    · decide
    · split
      · decide
      · split <;> decide
abbrev xCellOk (k a b q w n t : Int) : Prop := (k = 43 ∨ k = 42 ∨ k = 45 ∨ k = 47) ∧ (0 ≤ a ∧ a ≤ 11) ∧ (b = -1 ∨ (0 ≤ b ∧ b ≤ 11)) ∧ (0 ≤ q ∧ q ≤ 99) ∧ (0 ≤ w ∧ w ≤ 11) ∧ (1 ≤ n ∧ n ≤ 5) ∧ (1 ≤ t ∧ t ≤ 9)
abbrev xDef (x : zSt) (v : Int) : Prop := x 2 0 v ≠ -1 ∨ x 3 0 v ≠ -1
abbrev xCanAdd (x : zSt) (a b w : Int) : Prop := xDef x a ∧ (b = -1 ∨ xDef x b) ∧ ¬ xDef x w
def xAddCell (x : zSt) (k a b q w n t : Int) : zSt :=
  zup (zup (zup (zup (zup (zup (zup (zup (zup (zup x 9 (x 0 0 9) 0 k) 9 (x 0 0 9) 1 a) 9 (x 0 0 9) 2 b) 9 (x 0 0 9) 3 q) 9 (x 0 0 9) 4 w) 9 (x 0 0 9) 5 n) 9 (x 0 0 9) 6 t) 9 (x 0 0 9) 8 (zor (xLin x a) (if b = -1 then 0 else xLin x b))) 3 0 w (x 0 0 9)) 0 0 9 (x 0 0 9 + 1)
/-! bits of small sets -/
theorem zbv (a : Int) : (Int32.ofInt a).toBitVec = BitVec.ofInt 32 a := rfl
set_option maxRecDepth 100000 in
theorem zor_all : ∀ (a : Fin 2048) (j : Fin 11), (0 ≤ zor ((a : Nat) : Int) (zshl 1 ((j : Nat) : Int)) ∧ zor ((a : Nat) : Int) (zshl 1 ((j : Nat) : Int)) < 2048) := by decide +kernel
theorem zor_b {a j : Int} (ha : 0 ≤ a ∧ a < 2048) (hj : 0 ≤ j ∧ j ≤ 10) : 0 ≤ zor a (zshl 1 j) ∧ zor a (zshl 1 j) < 2048 := by
  have h := zor_all ⟨a.toNat, by omega⟩ ⟨j.toNat, by omega⟩
  have h1 : ((a.toNat : Nat) : Int) = a := by omega
  have h2 : ((j.toNat : Nat) : Int) = j := by omega
  simpa only [h1, h2] using h
theorem xFr_b {x : zSt} (hI : xI x) : ∀ n : Nat, (n : Int) ≤ 11 → 0 ≤ xFr x n ∧ xFr x n < 2048 := by
  intro n
  induction n with
  | zero => intro _; simp [xFr]
  | succ n ih =>
    intro h
    have h1 := ih (by omega)
    simp only [xFr]
    split
    · exact zor_b h1 ⟨by omega, by omega⟩
    · exact h1
