/-! what is fresh has the result anew; soundness, on both sides -/
theorem mFr_an {t : zSt} {q : Int} (V : vI t q) : ∀ (n : Nat) (c : Int), 0 ≤ c → c < t 20 0 5 → c < n → mFr t 11 c = true → t 23 0 (t 30 0 c) = mAn t 11 c ∧ 0 ≤ t 23 0 (t 30 0 c) := by
  have hI := V.1
  have n5 := hI.1.1
  intro n
  induction n with
  | zero => intro c h1 h2 h3; omega
  | succ n ih =>
    intro c h1 h2 h3 hf
    have w := hI.2.2.1 c h1 h2
    obtain ⟨f1, f2, f3, f4, f5, f6⟩ := mFr_s.mp hf
    obtain ⟨d1, d2, d3, d4, d5, d6⟩ := (V.2.2.2.2.2.1 c h1 h2).1 f1
    rw [f3] at d1
    rw [f2, f3, f4, mCq_e] at d4
    have rd : ∀ v : Int, mIr t c v → (t 24 0 v < 0 ∨ mFr t 10 (t 24 0 v) = true) → mAo t 10 v = t 23 0 v := fun v hv hfr => by
      unfold mAo
      by_cases g : t 21 0 v ≠ 0
      · rw [if_pos g]
      · rw [if_neg g]
        have g24 : 0 ≤ t 24 0 v := by
          have := hv.2.1
          omega
        have hfr2 : mFr t 11 (t 24 0 v) = true := by
          rw [mFr_u hI 11 10 (t 24 0 v) g24 (by omega) (by omega) (by omega)]
          exact hfr.resolve_left (by omega)
        have e := (ih (t 24 0 v) g24 (by omega) (by omega) hfr2).1
        rw [(V.2.1 v hv.1.1 hv.1.2).2 g24] at e
        rw [mAn_u hI 10 11 (t 24 0 v) g24 (by omega) (by omega) (by omega), ← e]
    have ea : mAo t 10 (t 27 0 c) = mFst t c := rd _ w.1 f5
    have an : mAn t 11 c = if mAo t 10 (t 27 0 c) < 0 ∨ (if t 28 0 c < 0 then 0 else mAo t 10 (t 28 0 c)) < 0 then -1 else mCmp t c (mAo t 10 (t 27 0 c)) (if t 28 0 c < 0 then 0 else mAo t 10 (t 28 0 c)) := mAn_s
    refine ⟨?_, d5⟩
    by_cases g : t 28 0 c = -1
    · have l : t 28 0 c < 0 := by omega
      rw [an, if_pos l, ea, if_neg (show ¬ (mFst t c < 0 ∨ (0 : Int) < 0) by omega), d4]
      exact mCmp_o l
    · have hv2 := w.2.1.resolve_left g
      have l : ¬ t 28 0 c < 0 := by omega
      have es : mSec t c = t 23 0 (t 28 0 c) := by
        unfold mSec
        rw [if_neg l]
      have eb : mAo t 10 (t 28 0 c) = t 23 0 (t 28 0 c) := rd _ hv2 (f6.resolve_left l)
      have d2' := d2 g
      rw [f4, es] at d2'
      rw [an, if_neg l, ea, eb, if_neg (show ¬ (mFst t c < 0 ∨ t 23 0 (t 28 0 c) < 0) by omega), d4, es]
theorem JV_snd {x t : zSt} {q : Int} (H : JV x t q) : mSnd t := by
  have V := H.2.1
  have n5 := V.1.1.1
  have n28 := V.1.1.2.1
  refine ⟨fun c g1 g2 h => (mFr_an V 12 c g1 g2 (by omega) h).1, fun k g1 g2 => ?_⟩
  rw [mLeft_s]
  have := V.2.2.2.2.2.2.2.1 k g1 (by omega)
  omega
/-- the row of results anew is told by nothing else -/
theorem JV_c4 {x u t : zSt} {q : Int} (H : JV x t q) (h : ∀ k : Nat, k ≠ 4 → u k = x k) : JV u t q := by
  obtain ⟨J, V, S⟩ := H
  refine ⟨?_, V, ?_⟩
  · unfold J2 jCnt jVar jTol jRun jSaw jFai jMem jLin jKer
    rw [h 0 (by decide), h 1 (by decide), h 2 (by decide), h 3 (by decide), h 7 (by decide), h 8 (by decide), h 9 (by decide), h 10 (by decide), h 11 (by decide), h 12 (by decide), h 13 (by decide), h 14 (by decide), h 15 (by decide), h 16 (by decide), h 17 (by decide)]
    exact J
  · unfold xJ
    rw [h 10 (by decide), h 15 (by decide)]
    exact S
theorem xCs_f {x : zSt} {k : Nat} (h : k ≠ 4) : xCs x k = x k := by
  funext i j
  exact xCs_r h
theorem JV_xcs {x t : zSt} {q : Int} (H : JV x t q) : JV (xCs x) t q := JV_c4 H (fun _ h => xCs_f h)
theorem j_cs4 {x t : zSt} {q c : Int} (H : JV x t q) (hc : 0 ≤ c ∧ c < t 20 0 5) : xCs x 4 0 (x 9 c 4) = zNrm (mAn t 11 c) := by
  have V := H.2.1
  have n5 := V.1.1.1
  have e5 := H.1.1.2.1
  have w := V.1.2.2.1 c hc.1 hc.2
  have vc := V.2.2.1 c hc.1 hc.2
  have e4 := (H.1.2.2.1 c hc.1 hc.2).2.2.2.2.1
  have b := j_cs H (t 20 0 5).toNat (by omega) (t 30 0 c) w.2.2.2.1.1 w.2.2.2.1.2
  unfold xCs
  rw [e5, e4, b]
  unfold mNv
  rw [if_neg (show ¬ t 21 0 (t 30 0 c) ≠ 0 by omega), vc.1, if_pos (by omega)]
theorem JV_snx {x t : zSt} {q : Int} (H : JV x t q) : xSndF (xCs x) ∧ xSndK (xCs x) ∧ xSndC (xCs x) ∧ ∀ c : Int, 0 ≤ c → c < (xCs x) 0 0 9 → (xCs x) 9 c 9 = 2 → 0 ≤ (xCs x) 10 c 1 ∧ (xCs x) 10 c 1 ≤ 10 := by
  have Z := JV_xcs H
  have V := H.2.1
  have n5 := V.1.1.1
  have n28 := V.1.1.2.1
  have e5 := Z.1.1.2.1
  have e10 := Z.1.1.2.2.1
  have fa : ∀ c : Int, 0 ≤ c → c < (xCs x) 0 0 9 → (xCs x) 9 c 9 = 2 → (xCs x) 10 c 3 ≤ c - (xCs x) 10 c 1 ∧ 0 ≤ (xCs x) 10 c 1 ∧ (xCs x) 10 c 1 ≤ 10 := fun c g1 g2 h => by
    rw [e5] at g2
    have f := ((Z.1.2.2.2.1 c g1 (by omega)).2.2.2.2.2.1).mp h
    have j := Z.1.2.2.2.2.2.1 c g1 g2 f
    have v := (V.2.2.2.2.2.1 c g1 g2).2.1 f
    rw [j.2.1, j.2.2.2]
    omega
  refine ⟨fun c g1 g2 h => ?_, fun k g1 g2 => ?_, fun c g1 g2 h => (fa c g1 g2 h).1, fun c g1 g2 h => (fa c g1 g2 h).2⟩
  · rw [e5] at g2 h
    have f := (((j_fr Z.1 V (t 20 0 5).toNat (by omega)).2 c g1 (by omega)).mp h).2
    obtain ⟨a1, a2⟩ := mFr_an V 12 c g1 g2 (by omega) f
    have c4 := j_cs4 H ⟨g1, g2⟩
    have w := V.1.2.2.1 c g1 g2
    have e4 := (H.1.2.2.1 c g1 g2).2.2.2.2.1
    have b := (H.1.2.1 (t 30 0 c) w.2.2.2.1.1 w.2.2.2.1.2).1
    rw [xCs_f (k := 1) (by decide), xCs_f (k := 9) (by decide), c4, e4, b, ← a1]
    unfold zNrm
    rw [if_neg (by omega)]
    exact ⟨by omega, rfl⟩
  · rw [e10] at g2
    have b := Z.1.2.2.2.2.2.2.2.2.1 k g1 (by omega)
    have h := V.2.2.2.2.2.2.2.1 k g1 (by omega)
    have tk := V.2.2.2.2.2.2.1
    have z := mSm_n (t := t) (p := mOf t k) (t 20 0 30).toNat (fun j g3 g4 => by have := tk j g3 (by omega); omega)
    rw [b.1, b.2.1]
    omega
