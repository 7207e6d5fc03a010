abbrev jSet (t : zSt) (S : Int) (n : Nat) : Prop := (0 ≤ S ∧ S < 2048) ∧ ∀ d : Int, 0 ≤ d → d ≤ 11 → (zand S (zshl 1 d) ≠ 0 ↔ (d < n ∧ mFr t 11 d = true))
/-- runAll's walk, on both sides -/
theorem JV_ra {x t : zSt} {q : Int} (H : JV x t q) (hq : q + 11 < 1000000) : ∀ n : Nat, (n : Int) ≤ t 20 0 5 → JV (xWk xAll x n).1 (mRa t n) (q + n) ∧ (mRa t n) 20 0 5 = t 20 0 5 ∧ jSet (mRa t n) (xWk xAll x n).2.1 n := by
  have n5 := H.2.1.1.1
  intro n
  induction n with
  | zero =>
    intro _
    refine ⟨?_, rfl, ?_, fun d g1 g2 => ⟨fun h => absurd h (zand_0 ⟨g1, g2⟩), fun h => by omega⟩⟩
    · have e : q + ((0 : Nat) : Int) = q := by omega
      rw [e]
      exact H
    · exact ⟨Int.le_refl 0, show (0 : Int) < 2048 by decide⟩
  | succ n ih =>
    intro h
    obtain ⟨J, e5, s⟩ := ih (by omega)
    have hn : 0 ≤ (n : Int) ∧ (n : Int) < (mRa t n) 20 0 5 := by omega
    have u := j_up (c := n) J.1 J.2.1 hn (S := (xWk xAll x n).2.1) (fun d g1 g2 => by rw [s.2 d g1 (by omega)]; exact ⟨fun p => p.2, fun p => ⟨g2, p⟩⟩)
    have eq1 : q + ((n + 1 : Nat) : Int) = q + n + 1 := by omega
    have key : ∀ (z w : zSt), JV z w (q + n + 1) → w 20 0 5 = t 20 0 5 → (∀ d : Int, 0 ≤ d → d < n → mFr w 11 d = mFr (mRa t n) 11 d) → jSet w (if xUp z n (xWk xAll x n).2.1 then zor (xWk xAll x n).2.1 (zshl 1 n) else (xWk xAll x n).2.1) (n + 1) := fun z w Z ew ef =>
      xUp_fr Z.1 Z.2.1 (by omega) ⟨s.1, fun d g1 g2 => by
        rw [s.2 d g1 g2]
        constructor
        · rintro ⟨a1, a2⟩
          exact ⟨a1, by rw [ef d g1 a1]; exact a2⟩
        · rintro ⟨a1, a2⟩
          exact ⟨a1, by rw [← ef d g1 a1]; exact a2⟩⟩
    rw [eq1, xWk_s]
    by_cases g : mFr (mRa t n) 11 n = true
    · have e1 : (xWk xAll x (n + 1)).1 = (xWk xAll x n).1 := (xWk_n (D := xAll) rfl (fun p => p.2 (u.mpr g))).symm
      have e2 : mRa t (n + 1) = mRa t n := by
        simp only [mRa]
        rw [if_pos g]
      rw [e1, e2]
      have Z := JV_up J (by omega)
      exact ⟨Z, e5, key _ _ Z e5 (fun _ _ _ => rfl)⟩
    · have e1 : (xWk xAll x (n + 1)).1 = xExeS (xWk xAll x n).1 n := (xWk_y (D := xAll) rfl ⟨rfl, fun p => g (u.mp p)⟩).symm
      have e2 : mRa t (n + 1) = mDoS (mRa t n) n := by
        simp only [mRa]
        rw [if_neg g]
      rw [e1, e2]
      have Z := JV_ex J (by omega) hn
      have fr := mFrm_do (t := mRa t n) (c := n) (J.2.1.2.2.2.1 n (by omega) (by omega)).2.1.1
      have e6 : (mDoS (mRa t n) n) 20 0 5 = t 20 0 5 := by rw [fr.1 5 (by decide) (by decide)]; exact e5
      exact ⟨Z, e6, key _ _ Z e6 (fun d g1 g2 => mFr_k J.2.1 hn fr 11 d g1 g2)⟩
