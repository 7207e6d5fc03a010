/-- the walk of what is due, on both sides -/
theorem JV_due {x t : zSt} {q : Int} (H : JV x t q) (hq : q + 11 < 1000000) : ∀ n : Nat, (n : Int) ≤ t 20 0 5 → JV (xWk xDue x n).1 (mTs t n) (q + n) ∧ (mTs t n) 20 0 5 = t 20 0 5 ∧ jSet (mTs t n) (xWk xDue x n).2.1 n ∧ (xWk xDue x n).2.2 = mTn t n := by
  have n5 := H.2.1.1.1
  intro n
  induction n with
  | zero =>
    intro _
    refine ⟨?_, rfl, ⟨?_, fun d g1 g2 => ⟨fun h => absurd h (zand_0 ⟨g1, g2⟩), fun h => by omega⟩⟩, rfl⟩
    · have e : q + ((0 : Nat) : Int) = q := by omega
      rw [e]
      exact H
    · exact ⟨Int.le_refl 0, show (0 : Int) < 2048 by decide⟩
  | succ n ih =>
    intro h
    obtain ⟨J, e5, s, ct⟩ := ih (by omega)
    have hn : 0 ≤ (n : Int) ∧ (n : Int) < (mTs t n) 20 0 5 := by omega
    have u := j_up (c := n) J.1 J.2.1 hn (S := (xWk xDue x n).2.1) (fun d g1 g2 => by rw [s.2 d g1 (by omega)]; exact ⟨fun p => p.2, fun p => ⟨g2, p⟩⟩)
    have eq1 : q + ((n + 1 : Nat) : Int) = q + n + 1 := by omega
    have key : ∀ (z w : zSt), JV z w (q + n + 1) → w 20 0 5 = t 20 0 5 → (∀ d : Int, 0 ≤ d → d < n → mFr w 11 d = mFr (mTs t n) 11 d) → jSet w (if xUp z n (xWk xDue x n).2.1 then zor (xWk xDue x n).2.1 (zshl 1 n) else (xWk xDue x n).2.1) (n + 1) := fun z w Z ew ef =>
      xUp_fr Z.1 Z.2.1 (by omega) ⟨s.1, fun d g1 g2 => by
        rw [s.2 d g1 g2]
        constructor
        · rintro ⟨a1, a2⟩
          exact ⟨a1, by rw [ef d g1 a1]; exact a2⟩
        · rintro ⟨a1, a2⟩
          exact ⟨a1, by rw [← ef d g1 a1]; exact a2⟩⟩
    have r7 := (J.1.2.2.2.1 n (by omega) (by omega)).1
    have r12 := J.1.1.2.2.2.2.1
    have b33 := (J.2.1.2.2.2.1 n (by omega) (by omega)).2.2.2.1
    have td : xDue (xWk xDue x n).1 n = true ↔ ¬ ((mTs t n) 33 0 n = 0 ∨ 0 < (mTs t n) 20 0 37 % (mTs t n) 33 0 n) := by
      have td0 : ∀ (y : zSt) (c : Int), xDue y c = true ↔ (y 9 c 7 ≠ 0 ∧ y 0 0 12 % y 9 c 7 = 0) := fun y c => by
        unfold xDue
        exact decide_eq_true_iff
      rw [td0, r7, r12]
      by_cases z : (mTs t n) 33 0 n = 0
      · simp [z]
      · have m0 := Int.emod_nonneg ((mTs t n) 20 0 37) z
        constructor
        · intro p
          omega
        · intro p
          exact ⟨z, by omega⟩
    rw [eq1, xWk_s, xWk_c (D := xDue) rfl, ct, j_exeR J.1 J.2.1 hn]
    by_cases g : (mTs t n) 33 0 n = 0 ∨ 0 < (mTs t n) 20 0 37 % (mTs t n) 33 0 n ∨ mFr (mTs t n) 11 n = true
    · have ng : ¬ (xDue (xWk xDue x n).1 n = true ∧ ¬ xUp (xWk xDue x n).1 n (xWk xDue x n).2.1) := fun p => by
        have a := td.mp p.1
        rcases g with g | g | g
        · exact a (Or.inl g)
        · exact a (Or.inr g)
        · exact p.2 (u.mpr g)
      have e1 : (xWk xDue x (n + 1)).1 = (xWk xDue x n).1 := (xWk_n (D := xDue) rfl ng).symm
      have e2 : mTs t (n + 1) = mTs t n := by
        simp only [mTs]
        rw [if_pos g]
      have e3 : mTn t (n + 1) = mTn t n := by
        simp only [mTn]
        rw [if_pos g]
      rw [e1, e2, e3]
      have Z := JV_up J (by omega)
      refine ⟨Z, e5, key _ _ Z e5 (fun _ _ _ => rfl), ?_⟩
      rw [if_neg (fun p => ng p.1)]
      exact Int.add_zero _
    · have yg : xDue (xWk xDue x n).1 n = true ∧ ¬ xUp (xWk xDue x n).1 n (xWk xDue x n).2.1 := ⟨td.mpr (fun p => g (p.elim Or.inl (fun p => Or.inr (Or.inl p)))), fun p => g (Or.inr (Or.inr (u.mp p)))⟩
      have e1 : (xWk xDue x (n + 1)).1 = xExeS (xWk xDue x n).1 n := (xWk_y (D := xDue) rfl yg).symm
      have e2 : mTs t (n + 1) = mDoS (mTs t n) n := by
        simp only [mTs]
        rw [if_neg g]
      have e3 : mTn t (n + 1) = mTn t n + (if mDoR (mTs t n) n = 114 ∨ mDoR (mTs t n) n = 104 then 1 else 0) := by
        simp only [mTn]
        rw [if_neg g]
      have Z := JV_ex J (by omega) hn
      have fr := mFrm_do (t := mTs t n) (c := n) (J.2.1.2.2.2.1 n (by omega) (by omega)).2.1.1
      have e6 : (mDoS (mTs t n) n) 20 0 5 = t 20 0 5 := by rw [fr.1 5 (by decide) (by decide)]; exact e5
      rw [e1, e2, e3]
      refine ⟨Z, e6, key _ _ Z e6 (fun d g1 g2 => mFr_k J.2.1 hn fr 11 d g1 g2), ?_⟩
      by_cases z : mDoR (mTs t n) n = 114 ∨ mDoR (mTs t n) n = 104
      · rw [if_pos ⟨yg, z⟩, if_pos z]
      · rw [if_neg (fun p => z p.2), if_neg z]
