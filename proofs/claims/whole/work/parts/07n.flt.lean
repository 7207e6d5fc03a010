theorem zq64 {r : UInt64} (h : FP.dIsNaN r = false) : vf_n64 r := by
  have h1 : ¬ 9218868437227405312 < r.toNat % 2 ^ 63 := fun q => by
    have := (Jvm.FP.Core.isNaN_bits r).mpr q
    simp_all
  unfold vf_n64
  rw [UInt64.le_iff_toNat_le, UInt64.toNat_and]
  have e : (0x7fffffffffffffff : UInt64).toNat = 2 ^ 63 - 1 := by decide
  rw [e, Nat.and_two_pow_sub_one_eq_mod]
  have e2 : (0x7ff0000000000000 : UInt64).toNat = 9218868437227405312 := by decide
  omega
theorem zq32 {r : UInt32} (h : FP.fIsNaN r = false) : vf_n32 r := by
  have h1 : ¬ 2139095040 < r.toNat % 2 ^ 31 := fun q => by
    have := (Jvm.FP.Core.isNaN_bits32 r).mpr q
    simp_all
  unfold vf_n32
  rw [UInt32.le_iff_toNat_le, UInt32.toNat_and]
  have e : (0x7fffffff : UInt32).toNat = 2 ^ 31 - 1 := by decide
  rw [e, Nat.and_two_pow_sub_one_eq_mod]
  have e2 : (0x7f800000 : UInt32).toNat = 2139095040 := by decide
  omega
theorem zi_ne {b : Int} (hb : zR b) (h : b ≠ 0) : Int32.ofInt b ≠ 0 := by
  intro q
  have h1 := congrArg Int32.toInt q
  rw [Int32.toInt_ofInt_of_le (by omega) (by omega)] at h1
  exact h h1
/-- the answer of the load, of the mean -/
def zFq (a b : Int) : UInt32 := FP.fdiv (FP.i2f (Int32.ofInt a)) (FP.i2f (Int32.ofInt b))
def zDq (a b : Int) : UInt64 := FP.ddiv (FP.i2d (Int32.ofInt a)) (FP.i2d (Int32.ofInt b))
theorem zDq_n {a b : Int} (hb : zR b) (h : b ≠ 0) : FP.dIsNaN (zDq a b) = false :=
  Jvm.FP.Core.ddiv_out (Jvm.FP.Core.i2d_fin _).notNaN (Jvm.FP.Core.i2d_fin _) (fun q => Jvm.FP.Core.i2d_ne_zero (zi_ne hb h) ((Jvm.FP.Core.zero_bits2 _).mp q))
theorem zFq_n {a b : Int} (hb : zR b) (h : b ≠ 0) : FP.fIsNaN (zFq a b) = false := by
  have h0 : FP.fIsNaN (FP.i2f (Int32.ofInt a)) = false := by
    have := (Jvm.FP.Core.fin_bits32 (FP.i2f (Int32.ofInt a))).mp (Jvm.FP.Core.i2f_fin _)
    cases hh : FP.fIsNaN (FP.i2f (Int32.ofInt a))
    · rfl
    · have := (Jvm.FP.Core.isNaN_bits32 _).mp hh
      omega
  exact Jvm.FP.Core.fdiv_out h0 (Jvm.FP.Core.i2f_fin _) (fun q => Jvm.FP.Core.i2f_ne_zero (zi_ne hb h) ((Jvm.FP.Core.zero_bits232 _).mp q))
section ZFLT
variable {Γ : zG} {ad : Nat → Int → Nat} {cs ss MC MS : Nat} {x y : zSt} {pc : Nat} {L : List (Option Value)} {st : List Value} {own : String} {cc : ByteArray} {nL : Nat}
theorem zV_i2f (hX : zX Γ ad own cc nL) {a : Int} (d : decode cc pc = .ok (.i2f, 1)) (kk : zV Γ ad cs ss x y (pc + 1) L (.float (FP.i2f (Int32.ofInt a)) :: st)) : zV Γ ad cs ss x y pc L (zI a :: st) := by
  obtain ⟨p, l, e, R, s, m, args, below, meth, c, D, cA, A, Q⟩ := Γ
  intro H locs ls hW hS hL
  exact lv_i2f hX.1.1 hX.1.2.1 d (kk H locs ls hW hS hL)
theorem zV_i2d (hX : zX Γ ad own cc nL) {a : Int} (d : decode cc pc = .ok (.i2d, 1)) (kk : zV Γ ad cs ss x y (pc + 1) L (.double (FP.i2d (Int32.ofInt a)) :: st)) : zV Γ ad cs ss x y pc L (zI a :: st) := by
  obtain ⟨p, l, e, R, s, m, args, below, meth, c, D, cA, A, Q⟩ := Γ
  intro H locs ls hW hS hL
  exact lv_i2d hX.1.1 hX.1.2.1 d (kk H locs ls hW hS hL)
theorem zV_fdiv (hX : zX Γ ad own cc nL) {a b : Int} (hb : zR b) (h : b ≠ 0) (d : decode cc pc = .ok (.fdiv, 1)) (kk : zV Γ ad cs ss x y (pc + 1) L (.float (zFq a b) :: st)) : zV Γ ad cs ss x y pc L (.float (FP.i2f (Int32.ofInt b)) :: .float (FP.i2f (Int32.ofInt a)) :: st) := by
  obtain ⟨p, l, e, R, s, m, args, below, meth, c, D, cA, A, Q⟩ := Γ
  intro H locs ls hW hS hL
  exact lv_fdiv hX.1.1 hX.1.2.1 d (zq32 (zFq_n hb h)) (kk H locs ls hW hS hL)
theorem zV_ddiv (hX : zX Γ ad own cc nL) {a b : Int} (hb : zR b) (h : b ≠ 0) (d : decode cc pc = .ok (.ddiv, 1)) (kk : zV Γ ad cs ss x y (pc + 1) L (.double (zDq a b) :: st)) : zV Γ ad cs ss x y pc L (.double (FP.i2d (Int32.ofInt b)) :: .double (FP.i2d (Int32.ofInt a)) :: st) := by
  obtain ⟨p, l, e, R, s, m, args, below, meth, c, D, cA, A, Q⟩ := Γ
  intro H locs ls hW hS hL
  exact lv_ddiv hX.1.1 hX.1.2.1 d (zq64 (zDq_n hb h)) (kk H locs ls hW hS hL)
theorem zV_f2d (hX : zX Γ ad own cc nL) {r : UInt32} (h : FP.fIsNaN r = false) (d : decode cc pc = .ok (.f2d, 1)) (kk : zV Γ ad cs ss x y (pc + 1) L (.double (FP.f2d r) :: st)) : zV Γ ad cs ss x y pc L (.float r :: st) := by
  obtain ⟨p, l, e, R, s, m, args, below, meth, c, D, cA, A, Q⟩ := Γ
  intro H locs ls hW hS hL
  have h1 : FP.dIsNaN (FP.f2d r) = false := by
    unfold FP.f2d
    rw [if_neg (show ¬ (FP.Core.fIsNaN r = true) from fun q => by rw [show FP.Core.fIsNaN r = false from h] at q; cases q)]
    exact Jvm.FP.Core.f2d_out h
  exact lv_f2d hX.1.1 hX.1.2.1 d (zq64 h1) (kk H locs ls hW hS hL)
theorem zV_fconst0 (hX : zX Γ ad own cc nL) (d : decode cc pc = .ok (.fconst 0, 1)) (kk : zV Γ ad cs ss x y (pc + 1) L (.float FP.fconst0 :: st)) : zV Γ ad cs ss x y pc L st := by
  obtain ⟨p, l, e, R, s, m, args, below, meth, c, D, cA, A, Q⟩ := Γ
  intro H locs ls hW hS hL
  exact lv_fconst0 hX.1.1 hX.1.2.1 d (kk H locs ls hW hS hL)
theorem zV_dconst0 (hX : zX Γ ad own cc nL) (d : decode cc pc = .ok (.dconst 0, 1)) (kk : zV Γ ad cs ss x y (pc + 1) L (.double FP.dconst0 :: st)) : zV Γ ad cs ss x y pc L st := by
  obtain ⟨p, l, e, R, s, m, args, below, meth, c, D, cA, A, Q⟩ := Γ
  intro H locs ls hW hS hL
  exact lv_dconst0 hX.1.1 hX.1.2.1 d (kk H locs ls hW hS hL)
end ZFLT
def mSn (y : zSt) : Nat → Int
  | 0 => 0
  | n + 1 => mSn y n + y 49 0 n
def mLn (y : zSt) : Nat → Int
  | 0 => 0
  | n + 1 => mLn y n + mLeft y n
def mVs (y : zSt) : Nat → Int
  | 0 => 0
  | n + 1 => if y 23 0 n < 0 then mVs y n else mVs y n + y 23 0 n
def mVn (y : zSt) : Nat → Int
  | 0 => 0
  | n + 1 => if y 23 0 n < 0 then mVn y n else mVn y n + 1
theorem mSn_b {y : zSt} (hI : mI y) : ∀ n : Nat, n ≤ 3 → 0 ≤ mSn y n ∧ mSn y n ≤ 20 * n := by
  intro n
  induction n with
  | zero => intro _; simp [mSn]
  | succ n ih =>
    intro h
    have h1 := ih (by omega)
    have h2 := hI.2.2.2.2.1 n (by omega) (by omega)
    simp only [mSn]
    omega
theorem mLn_b {y : zSt} (hI : mI y) : ∀ n : Nat, n ≤ 3 → -300 * n ≤ mLn y n ∧ mLn y n ≤ 20 * n := by
  intro n
  induction n with
  | zero => intro _; simp [mLn]
  | succ n ih =>
    intro h
    have h1 := ih (by omega)
    have h2 := mLeft_b hI (k := n) ⟨by omega, by omega⟩
    simp only [mLn]
    omega
theorem mVs_b {y : zSt} (hI : mI y) : ∀ n : Nat, n ≤ 12 → (0 ≤ mVs y n ∧ mVs y n ≤ 1000 * n) ∧ (0 ≤ mVn y n ∧ mVn y n ≤ n) := by
  intro n
  induction n with
  | zero => intro _; simp [mVs, mVn]
  | succ n ih =>
    intro h
    have h1 := ih (by omega)
    have h2 := hI.2.1 n (by omega) (by omega)
    simp only [mVs, mVn]
    split <;> omega
