/-! the class's loops -/
def xOw (x : zSt) (c : Int) : Nat → Int
  | 0 => 0
  | n + 1 => if zand (x 9 c 8) (zshl 1 n) ≠ 0 ∧ x 2 0 n ≠ -1 then zor (xOw x c n) (zshl 1 (x 2 0 n)) else xOw x c n
def xDp (x : zSt) (v : Int) : Nat → Int
  | 0 => 0
  | n + 1 => if zand (x 9 n 8) (zshl 1 v) ≠ 0 then xDp x v n + 1 else xDp x v n
def xC0 (x : zSt) : Nat → zSt
  | 0 => x
  | n + 1 => zup (xC0 x n) 4 0 n (if x 2 0 n ≠ -1 then x 1 0 n else -1)
def xC1 (x : zSt) : Nat → zSt
  | 0 => x
  | n + 1 => if xFm (xC1 x n) 4 n = -1 then zup (xC1 x n) 4 0 ((xC1 x n) 9 n 4) (xRes (xC1 x n) n ((xC1 x n) 4 0 ((xC1 x n) 9 n 1)) (xVa (xC1 x n) 4 ((xC1 x n) 9 n 2))) else xC1 x n
def xCs (x : zSt) : zSt := xC1 (xC0 x 12) (x 0 0 9).toNat
/-- a walk over the cells: what is left, what is found fresh, how many succeeded; D tells which are due -/
def xWk (D : zSt → Int → Bool) (x : zSt) : Nat → zSt × Int × Int
  | 0 => (x, 0, 0)
  | n + 1 =>
    let u := (xWk D x n).1
    let S := (xWk D x n).2.1
    let r := decide (D u n = true ∧ ¬ xUp u n S)
    let u' := if r then xExeS u n else u
    (u', (if xUp u' n S then zor S (zshl 1 n) else S), (xWk D x n).2.2 + (if r ∧ (xExeR u n = 114 ∨ xExeR u n = 104) then 1 else 0))
def xAll : zSt → Int → Bool := fun _ _ => true
def xDue : zSt → Int → Bool := fun x c => decide (x 9 c 7 ≠ 0 ∧ x 0 0 12 % x 9 c 7 = 0)
def xWr (x : zSt) : Prop := ∀ c : Int, 0 ≤ c → c < x 0 0 9 → x 3 0 (x 9 c 1) < c ∧ (x 9 c 2 ≠ -1 → x 3 0 (x 9 c 2) < c)
def xOkW (D : zSt → Int → Bool) (x : zSt) : Prop := ∀ n : Nat, (n : Int) ≤ x 0 0 9 → xI (xWk D x n).1 ∧ xWr (xWk D x n).1 ∧ (xWk D x n).1 0 0 9 = x 0 0 9
def xGv (x : zSt) (t : Int) : Nat → zSt
  | 0 => x
  | n + 1 => xGive (xGv x t n) n t
def xTk (x : zSt) : zSt := xGv (zup x 0 0 12 (x 0 0 12 + 1)) (x 0 0 12 + 1) (x 0 0 10).toNat
def xPs (x : zSt) : Nat → zSt
  | 0 => x
  | n + 1 => (xWk xDue (xTk (xPs x n)) (x 0 0 9).toNat).1
def xPn (x : zSt) : Nat → Int
  | 0 => 0
  | n + 1 => xPn x n + (xWk xDue (xTk (xPs x n)) (x 0 0 9).toNat).2.2
def xOkT (x : zSt) : Prop := xI x ∧ x 0 0 12 ≤ 4999 ∧ (∀ n : Nat, (n : Int) ≤ x 0 0 10 → xI (xGv (zup x 0 0 12 (x 0 0 12 + 1)) (x 0 0 12 + 1) n)) ∧ xOkW xDue (xTk x)
def xOkP (x : zSt) (t : Int) : Prop := ∀ k : Nat, (k : Int) < t → xOkT (xPs x k) ∧ (xPs x k) 0 0 9 = x 0 0 9
def xSn (x : zSt) : Nat → Int
  | 0 => 0
  | n + 1 => xSn x n + x 16 n 0
def xLn (x : zSt) : Nat → Int
  | 0 => 0
  | n + 1 => xLn x n + x 16 n 1
def xVs (x : zSt) : Nat → Int
  | 0 => 0
  | n + 1 => if x 1 0 n = -1 then xVs x n else xVs x n + x 1 0 n
def xVn (x : zSt) : Nat → Int
  | 0 => 0
  | n + 1 => if x 1 0 n = -1 then xVn x n else xVn x n + 1
def xSndF (x : zSt) : Prop := ∀ c : Int, 0 ≤ c → c < x 0 0 9 → zand (xFr x (x 0 0 9).toNat) (zshl 1 c) ≠ 0 → x 1 0 (x 9 c 4) ≠ -1 ∧ x 1 0 (x 9 c 4) = x 4 0 (x 9 c 4)
def xSndK (x : zSt) : Prop := ∀ k : Int, 0 ≤ k → k < x 0 0 10 → 0 ≤ x 16 k 1 ∧ x 16 k 1 ≤ x 16 k 0
def xSndC (x : zSt) : Prop := ∀ c : Int, 0 ≤ c → c < x 0 0 9 → x 9 c 9 = 2 → x 10 c 3 ≤ c - x 10 c 1
theorem xI_c {x u : zSt} (h : ∀ k : Nat, k ≠ 4 → ∀ i j : Int, u k i j = x k i j) (hI : xI x) : xI u := by
  unfold xI at hI ⊢
  simp only [h 0 (by decide), h 1 (by decide), h 2 (by decide), h 3 (by decide), h 9 (by decide), h 10 (by decide), h 11 (by decide), h 15 (by decide), h 16 (by decide), h 17 (by decide)]
  exact hI
theorem xC0_r {x : zSt} {k : Nat} (hk : k ≠ 4) {i j : Int} : ∀ n : Nat, xC0 x n k i j = x k i j := by
  intro n
  induction n with
  | zero => rfl
  | succ n ih =>
    simp only [xC0, zup_d, hk, false_and, if_false]
    exact ih
theorem xC1_r {x : zSt} {k : Nat} (hk : k ≠ 4) {i j : Int} : ∀ n : Nat, xC1 x n k i j = x k i j := by
  intro n
  induction n with
  | zero => rfl
  | succ n ih =>
    simp only [xC1]
    split
    · simp only [zup_d, hk, false_and, if_false]
      exact ih
    · exact ih
theorem xCs_r {x : zSt} {k : Nat} (hk : k ≠ 4) {i j : Int} : xCs x k i j = x k i j := by
  unfold xCs
  rw [xC1_r hk, xC0_r hk]
/-- the anew row stays within bounds -/
abbrev xB4 (u : zSt) (n : Int) : Prop := ∀ v : Int, 0 ≤ v → v < n → -1 ≤ u 4 0 v ∧ u 4 0 v ≤ 999
theorem xC0_b {x : zSt} (hI : xI x) : ∀ n : Nat, n ≤ 12 → xB4 (xC0 x n) n := by
  intro n
  induction n with
  | zero => intro _ v h1 h2; omega
  | succ n ih =>
    intro h v h1 h2
    have hv := hI.2.2.2.2.1 n (by omega) (by omega)
    simp only [xC0, zup_d]
    by_cases hq : v = n
    · rw [if_pos ⟨trivial, trivial, hq⟩]
      split <;> omega
    · rw [if_neg (fun q => hq q.2.2)]
      exact ih (by omega) v h1 (by omega)
theorem xC1_b {x : zSt} (h : xB4 x 12) : ∀ n : Nat, xB4 (xC1 x n) 12 := by
  intro n
  induction n with
  | zero => exact h
  | succ n ih =>
    intro v h1 h2
    simp only [xC1]
    split
    · simp only [zup_d]
      split
      · have := xRes_b (x := xC1 x n) (c := n) (a := (xC1 x n) 4 0 ((xC1 x n) 9 n 1)) (b := xVa (xC1 x n) 4 ((xC1 x n) 9 n 2))
        exact this
      · exact ih v h1 h2
    · exact ih v h1 h2
theorem xWk_b {D : zSt → Int → Bool} {x : zSt} : ∀ n : Nat, n ≤ 11 → (0 ≤ (xWk D x n).2.1 ∧ (xWk D x n).2.1 < 2048) ∧ (0 ≤ (xWk D x n).2.2 ∧ (xWk D x n).2.2 ≤ n) := by
  intro n
  induction n with
  | zero => intro _; simp [xWk]
  | succ n ih =>
    intro h
    have h1 := ih (by omega)
    simp only [xWk]
    have key : ∀ (P : Prop) [Decidable P], 0 ≤ (if P then zor (xWk D x n).2.1 (zshl 1 n) else (xWk D x n).2.1) ∧ (if P then zor (xWk D x n).2.1 (zshl 1 n) else (xWk D x n).2.1) < 2048 := by
      intro P _
      split
      · exact zor_b h1.1 ⟨by omega, by omega⟩
      · exact h1.1
    have key2 : ∀ (P : Prop) [Decidable P], 0 ≤ (xWk D x n).2.2 + (if P then 1 else 0) ∧ (xWk D x n).2.2 + (if P then 1 else 0) ≤ ((n + 1 : Nat) : Int) := by
      intro P _
      split <;> omega
    exact ⟨key _, key2 _⟩
theorem xDp_b {x : zSt} {v : Int} : ∀ n : Nat, 0 ≤ xDp x v n ∧ xDp x v n ≤ n := by
  intro n
  induction n with
  | zero => simp [xDp]
  | succ n ih =>
    simp only [xDp]
    split <;> omega
theorem xSn_b {x : zSt} (hI : xI x) : ∀ n : Nat, n ≤ 3 → (0 ≤ xSn x n ∧ xSn x n ≤ 20 * n) ∧ (0 ≤ xLn x n ∧ xLn x n ≤ 20 * n) := by
  intro n
  induction n with
  | zero => intro _; simp [xSn, xLn]
  | succ n ih =>
    intro h
    have h1 := ih (by omega)
    have h2 := hI.2.2.2.2.2.2.2.2.1 n (by omega) (by omega)
    simp only [xSn, xLn]
    omega
theorem xVs_b {x : zSt} (hI : xI x) : ∀ n : Nat, n ≤ 12 → (0 ≤ xVs x n ∧ xVs x n ≤ 1000 * n) ∧ (0 ≤ xVn x n ∧ xVn x n ≤ n) := by
  intro n
  induction n with
  | zero => intro _; simp [xVs, xVn]
  | succ n ih =>
    intro h
    have h1 := ih (by omega)
    have h2 := hI.2.2.2.2.1 n (by omega) (by omega)
    simp only [xVs, xVn]
    split <;> omega
theorem xWk_y {D : zSt → Int → Bool} {x : zSt} {n : Nat} {S : Int} (e : S = (xWk D x n).2.1) (h : D (xWk D x n).1 n = true ∧ ¬ xUp (xWk D x n).1 n S) : xExeS (xWk D x n).1 n = (xWk D x (n + 1)).1 := by
  subst e
  simp only [xWk]
  rw [if_pos (decide_eq_true h)]
theorem xWk_n {D : zSt → Int → Bool} {x : zSt} {n : Nat} {S : Int} (e : S = (xWk D x n).2.1) (h : ¬ (D (xWk D x n).1 n = true ∧ ¬ xUp (xWk D x n).1 n S)) : (xWk D x n).1 = (xWk D x (n + 1)).1 := by
  subst e
  simp only [xWk]
  rw [if_neg (fun q => h (of_decide_eq_true q))]
theorem xWk_s {D : zSt → Int → Bool} {x : zSt} {n : Nat} : (xWk D x (n + 1)).2.1 = if xUp (xWk D x (n + 1)).1 n (xWk D x n).2.1 then zor (xWk D x n).2.1 (zshl 1 n) else (xWk D x n).2.1 := rfl
theorem xWk_c {D : zSt → Int → Bool} {x : zSt} {n : Nat} {S : Int} (e : S = (xWk D x n).2.1) : (xWk D x (n + 1)).2.2 = (xWk D x n).2.2 + (if (D (xWk D x n).1 n = true ∧ ¬ xUp (xWk D x n).1 n S) ∧ (xExeR (xWk D x n).1 n = 114 ∨ xExeR (xWk D x n).1 n = 104) then 1 else 0) := by
  subst e
  simp only [xWk, decide_eq_true_iff]
theorem xFm_m {x : zSt} {k : Nat} {c : Int} (h1 : 0 ≤ x 9 c 1) (h : xFm x k c = -1) : x k 0 (x 9 c 1) ≠ -1 ∧ (x 9 c 2 ≠ -1 → x k 0 (x 9 c 2) ≠ -1) := by
  unfold xFm at h
  split at h
  · omega
  · split at h
    · rename_i g
      exact absurd h g.1
    · rename_i g1 g2
      exact ⟨g1, fun q r => g2 ⟨q, r⟩⟩
theorem z_add_y {s : Int} {P : Prop} [Decidable P] (h : P) : s + 1 = s + (if P then 1 else 0) := by rw [if_pos h]
theorem z_add_n {s : Int} {P : Prop} [Decidable P] (h : ¬ P) : s = s + (if P then 1 else 0) := by
  rw [if_neg h]
  omega
