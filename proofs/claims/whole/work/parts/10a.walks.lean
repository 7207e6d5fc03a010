/-! behind the walks: what the contracts of runAll and pass ask for -/
/-- more runs may be allowed -/
theorem JV_le {x t : zSt} {q q' : Int} (H : JV x t q) (h : q ≤ q') (hq : q' ≤ 1000000) : JV x t q' := by
  obtain ⟨J, V, S⟩ := H
  obtain ⟨hI, hV, hC, hR, hrest⟩ := V
  refine ⟨J, ⟨hI, hV, hC, ?_, hrest⟩, S⟩
  intro c g1 g2
  obtain ⟨b1, b2, b3, b4⟩ := hR c g1 g2
  exact ⟨b1, by omega, by omega, b4⟩
theorem JV_wr {x t : zSt} {q : Int} (H : JV x t q) : xWr x := by
  obtain ⟨J, V, S⟩ := H
  have n5 := V.1.1.1
  have e5 := J.1.2.1
  intro c g1 g2
  rw [e5] at g2
  have w := V.1.2.2.1 c g1 g2
  obtain ⟨e0, e1, e2, -⟩ := J.2.2.1 c g1 g2
  rw [e1, e2]
  refine ⟨?_, fun h => ?_⟩
  · rw [(J.2.1 _ w.1.1.1 w.1.1.2).2.1]
    exact w.1.2.2
  · have w2 := w.2.1.resolve_left h
    rw [(J.2.1 _ w2.1.1 w2.1.2).2.1]
    exact w2.2.2
theorem JV_okw {x t : zSt} {q : Int} (H : JV x t q) (hq : q + 11 < 1000000) : xOkW xAll x := by
  intro n hn
  have n5 := H.2.1.1.1
  have e5 := H.1.1.2.1
  obtain ⟨Z, e, -⟩ := JV_ra H hq n (by omega)
  refine ⟨JV_xI Z (by omega), JV_wr Z, ?_⟩
  rw [Z.1.1.2.1, e, e5]
theorem JV_okd {x t : zSt} {q : Int} (H : JV x t q) (hq : q + 11 < 1000000) : xOkW xDue x := by
  intro n hn
  have n5 := H.2.1.1.1
  have e5 := H.1.1.2.1
  obtain ⟨Z, e, -⟩ := JV_due H hq n (by omega)
  refine ⟨JV_xI Z (by omega), JV_wr Z, ?_⟩
  rw [Z.1.1.2.1, e, e5]
theorem JV_okr {x t : zSt} {q : Int} (H : JV x t q) (hq : q + 11 < 1000000) : mOkR t := by
  intro n hn
  obtain ⟨Z, e, -⟩ := JV_ra H hq n hn
  exact ⟨Z.2.1.1, fun h k => (v_room Z.2.1 ⟨by omega, by omega⟩ k).2.2, e⟩
theorem j_pops {t : zSt} {S : Int} {n : Nat} (hs : jSet t S n) (hn : n ≤ 11) : zPop S = mNf t n := by
  have h := hs.2
  unfold zPop
  simp only [h 0 (by decide) (by decide), h 1 (by decide) (by decide), h 2 (by decide) (by decide), h 3 (by decide) (by decide), h 4 (by decide) (by decide), h 5 (by decide) (by decide), h 6 (by decide) (by decide), h 7 (by decide) (by decide), h 8 (by decide) (by decide), h 9 (by decide) (by decide), h 10 (by decide) (by decide)]
  have c : n = 0 ∨ n = 1 ∨ n = 2 ∨ n = 3 ∨ n = 4 ∨ n = 5 ∨ n = 6 ∨ n = 7 ∨ n = 8 ∨ n = 9 ∨ n = 10 ∨ n = 11 := by omega
  rcases c with rfl | rfl | rfl | rfl | rfl | rfl | rfl | rfl | rfl | rfl | rfl | rfl <;> simp [mNf]
/-- runAll, on both sides -/
theorem JV_all {x t : zSt} {q : Int} (H : JV x t q) (hq : q + 11 < 1000000) : JV (xWk xAll x (x 0 0 9).toNat).1 (mRa t (t 20 0 5).toNat) (q + 11) ∧ zPop (xWk xAll x (x 0 0 9).toNat).2.1 = mNf (mRa t (t 20 0 5).toNat) (t 20 0 5).toNat := by
  have n5 := H.2.1.1.1
  have e5 := H.1.1.2.1
  rw [e5]
  obtain ⟨Z, e, s⟩ := JV_ra H hq (t 20 0 5).toNat (by omega)
  refine ⟨JV_le Z (by omega) (by omega), j_pops s (by omega)⟩
