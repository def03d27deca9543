/-! ===== the reference: what a leader sends ===== -/
theorem push_up {A row : Rw} {w j : Nat} {v : Int32} (hw : A 4510 = nI w) (hw60 : w < 60) (hj : j < 21) : up (qPush A row) (2570 + 21 * w + j) v = qPush A (up row j v) := by
  funext i
  unfold qPush
  rw [hw, nI_clamp (by omega)]
  by_cases hin : 2570 + 21 * w ≤ i ∧ i < 2570 + 21 * w + 21
  · obtain ⟨k, rfl⟩ : ∃ k, i = 2570 + 21 * w + k := ⟨i - (2570 + 21 * w), by omega⟩
    rw [if_pos hin, show 2570 + 21 * w + k - (2570 + 21 * w) = k by omega]
    unfold up
    by_cases hk : k = j
    · subst hk; simp
    · rw [if_neg (by omega), if_neg hk]
      dsimp only
      rw [if_pos hin, show 2570 + 21 * w + k - (2570 + 21 * w) = k by omega]
  · rw [if_neg hin]
    unfold up
    rw [if_neg (by omega)]
    dsimp only
    rw [if_neg hin]
theorem push_lo {A row : Rw} {i : Nat} (h : i < 2570) : qPush A row i = A i := by
  unfold qPush
  rw [if_neg (by omega), if_neg (by omega)]
theorem nad {n : Nat} (k : Nat) (x : Int32) (hx : x = nI k) : nI n + x = nI (n + k) := by rw [hx, nI_add]
def qPost (A : Rw) (f t : Nat) (row : Rw) : Rw := if f = t then A else if okS A f t then qPush A row else up A 4511 (A 4511 + 1)
def rowI (A : Rw) (s t : Nat) : Rw := up (up (fun k => if 9 ≤ k ∧ k < 13 then A (514 * s + 20 + (k - 9)) else rowS (nI s) (nI t) (A (514 * s + 1)) 4 (A (514 * s + 5)) (A (514 * s + 6)) (A (514 * s + 14)) k) 13 (A (514 * s + 9))) 14 (A (514 * s + 10))
/-- how many entries a leader tells a store -/
def mN (A : Rw) (s t : Nat) : Nat := min 3 ((A (514 * s + 4)).toNatClampNeg + 1 - (A (514 * s + 24 + t)).toNatClampNeg)
def rowT (A : Rw) (s t : Nat) : Rw := fun k => if 9 ≤ k ∧ k < 9 + 4 * mN A s t then A (514 * s + 34 + 4 * ((A (514 * s + 24 + t)).toNatClampNeg - 1) + (k - 9)) else
  up (up (rowS (nI s) (nI t) (A (514 * s + 1)) 2 (A (514 * s + 24 + t) - 1) (qTermAt A s (A (514 * s + 24 + t) - 1)) (A (514 * s + 14))) 6 (nI (mN A s t))) 7 (A (514 * s + 7)) k
def qFeed (A : Rw) (s t : Nat) : Rw := if A (514 * s + 24 + t) ≤ A (514 * s + 5) then qPost A s t (rowI A s t) else qPost A s t (rowT A s t)
set_option maxRecDepth 20000 in
def F_X12_feeds : FT := fun As S μ ρ k => match As with
  | [.ref a, .int s, .int t] => a = 2737 ∧ RS S ρ ∧ rg s 0 4 ∧ rg t 0 4 ∧ rg (μ 2738 4510) 0 60 ∧ rg (μ 2738 (514 * s.toNatClampNeg + 4)) 0 120 ∧ rg (μ 2738 (514 * s.toNatClampNeg + 5)) 0 120 ∧ rg (μ 2738 (514 * s.toNatClampNeg + 24 + t.toNatClampNeg)) 0 121 ∧ k none (upF μ 2738 (qFeed (μ 2738) s.toNatClampNeg t.toNatClampNeg))
  | _ => False
theorem r_X12_feeds {As S μ ρ k} (h : F_X12_feeds As S μ ρ k) : ∃ a As', As = Value.ref a :: As' ∧ S.2 a = (12, 27) := by
  unfold F_X12_feeds at h
  split at h
  · exact ⟨_, _, rfl, by rw [h.1]; exact h.2.1.1⟩
  · exact h.elim
set_option maxHeartbeats 1000000 in
theorem f_X12_feeds {Z : Zt} {d : Nat} {As : List Value} {S : Sh} {μ : Mi} {ρ : Mr} {Rp : RT} (h : F_X12_feeds As S μ ρ (fun r μ' => Rp r S μ' ρ)) : MS Z (d + 4) jX12_feeds As S μ ρ Rp := by
  unfold F_X12_feeds at h
  split at h
  · rename_i a s t
    obtain ⟨rfl, hS, h⟩ := h
    have hS0 := hS
    unfold RS at hS
    obtain ⟨h1, h2, h3, h5, h6, h7, h⟩ := h
    obtain ⟨s, rfl, hs0, -, hs⟩ := rg_ex h1
    obtain ⟨t, rfl, ht0, -, ht⟩ := rg_ex h2
    have hrs := rg_T (lo := 0) (hi := 4) (n := s) (by omega) (by omega) hs0
    have hrt := rg_T (lo := 0) (hi := 4) (n := t) (by omega) (by omega) ht0
    simp (disch := omega) only [nI_clamp] at h h5 h6 h7
    obtain ⟨w, hw, hw0, -, hw1⟩ := rg_ex h3
    obtain ⟨nx, hnx, hnx0, -, hnx1⟩ := rg_ex h7
    refine ms_X12_feeds _ _ _ (fun G g52 g207 => ?_)
    have e24 : (514 : Int32) * nI s + (24 + nI t) = nI (514 * s + 24 + t) := by rw [show (24 : Int32) = nI 24 from rfl, nI_add, ixs (24 + t) _ rfl, Nat.add_assoc]
    have hnone : okS (μ 2738) s t → ¬ nI (2570 + 21 * w) = -1 := by
      intro hok z
      have z2 := congrArg Int32.toInt z
      rw [nI_toInt (by omega), show Int32.toInt (-1) = -1 from by decide] at z2
      omega
    have hw60 : okS (μ 2738) s t → w < 60 := by
      intro hok
      rcases Nat.lt_or_ge w 60 with z | z
      · exact z
      · exact absurd (by rw [hw, show w = 60 by omega]; rfl) hok.2.1
    simp only [w_X12_feeds_0, w_X12_feeds_128, w_X12_feeds_49, tAload, tIload, nth, tGetI, tGetR, tConst, tLconst, tBin, tUn, tI2l, tAld, tAldR, tAlen, tIast, tBast, tZast, tAast, tIret, tZret, tVret, tAret, tIf, tIf2, tGoto, tIstore, tAstore, sset, tIinc, tDup, tDup2, tPop, tPutI, tPutZ, tPutR, tCallV, tCallS, popN, tFn, tCopy, tMax, tMin, tSw, swc, tRem, tObjI, Option.toList, List.nil_append, List.cons_append, okR, true_and, and_true, true_or, or_true, Nat.zero_le, ne_eq, not_false_eq_true, Nat.reduceEqDiff, F_X12_of, F_X12_sends, F_X12_termAt, hS0, hS, hrs, hrt, e24]
    simp (disch := omega) only [ixs 5 5 rfl, ixs 6 6 rfl, nI_clamp, nI_inb]
    refine ⟨by omega, by omega, fun c1 => ⟨h5, h6, h3, fun c2 => ?_, fun c2 => ?_⟩, fun c1 => ⟨by omega, by omega, h3, fun c2 => ?_, fun c2 => ?_⟩⟩
    · have c1' : ¬ μ 2738 (514 * s + 24 + t) ≤ μ 2738 (514 * s + 5) := Int32.not_le.mpr c1
      have hok : okS (μ 2738) s t := by
        by_cases z : okS (μ 2738) s t
        · exact z
        · exact absurd (by unfold vSend; rw [if_neg z]) c2
      have hst : ¬ s = t := hok.1
      have w60 := hw60 hok
      have ev : vSend (μ 2738) s t = nI (2570 + 21 * w) := by unfold vSend; rw [if_pos hok, hw, nI_clamp hw0]
      have ea : qSend (μ 2738) (μ 2744 8) s t 2 (μ 2738 (514 * s + 24 + t) - 1) (qTermAt (μ 2738) s (μ 2738 (514 * s + 24 + t) - 1)) = qPush (μ 2738) (rowS (nI s) (nI t) (μ 2738 (514 * s + 1)) 2 (μ 2738 (514 * s + 24 + t) - 1) (qTermAt (μ 2738) s (μ 2738 (514 * s + 24 + t) - 1)) (μ 2738 (514 * s + 14))) := by
        unfold qSend
        rw [if_neg hst, if_pos hok]
        rfl
      simp only [qFeed, c1', if_false, qPost, if_neg hst, if_pos hok] at h
      obtain ⟨l, hl, hl0, -, hl1⟩ := rg_ex h5
      obtain ⟨sn, hsn, hsn0, -, hsn1⟩ := rg_ex h6
      have hnx2 : sn < nx := by rw [hnx, hsn, nI_ltI hsn0 hnx0] at c1; exact c1
      rw [ev, ea]
      have hB : ∀ i, i < 2570 → ∀ row, qPush (μ 2738) row i = μ 2738 i := fun i hi row => push_lo hi
      simp only [w_X12_feeds_155, tAload, tIload, nth, tGetI, tGetR, tConst, tLconst, tBin, tUn, tI2l, tAld, tAldR, tAlen, tIast, tBast, tZast, tAast, tIret, tZret, tVret, tAret, tIf, tIf2, tGoto, tIstore, tAstore, sset, tIinc, tDup, tDup2, tPop, tPutI, tPutZ, tPutR, tCallV, tCallS, popN, tFn, tCopy, tMax, tMin, tSw, swc, tRem, tObjI, Option.toList, List.nil_append, List.cons_append, okR, true_and, and_true, true_or, or_true, Nat.zero_le, ne_eq, not_false_eq_true, Nat.reduceEqDiff, F_X12_of, F_X12_lesser, F_X12_greater, hS0, hS, upF_same, upI_upF, upF_upF]
      simp (disch := omega) only [ixs 4 4 rfl, ixs 7 7 rfl, nad 6 6 rfl, nad 7 7 rfl, nI_clamp, nI_inb, push_lo]
      rw [push_up hw w60 (by decide), push_lo (by omega), push_up hw w60 (by decide)]
      refine ⟨by omega, by omega, by omega, by omega, ?_⟩
      have hmN : mN (μ 2738) s t = min 3 (l + 1 - nx) := by unfold mN; rw [hl, hnx, nI_clamp hl0, nI_clamp hnx0]
      generalize hmm : mN (μ 2738) s t = mn at *
      have hmany : ∃ mI : Int32, (if 3 < μ 2738 (514 * s + 4) - μ 2738 (514 * s + 24 + t) + 1 then 3 else μ 2738 (514 * s + 4) - μ 2738 (514 * s + 24 + t) + 1) = mI ∧ (if mI < 0 then 0 else mI) = nI mn ∧ (∀ k : Nat, k < 100 → (4 * mI ≤ nI k ↔ 4 * mn ≤ k)) := by
        have d1 : (μ 2738 (514 * s + 4) - μ 2738 (514 * s + 24 + t) + 1).toInt = (l : Int) - nx + 1 := by
          rw [hl, hnx]
          have q1 : (nI l - nI nx).toInt = (l : Int) - nx := by rw [Jvm.Kit.i32_sub (by rw [nI_toInt hl0, nI_toInt hnx0]; omega) (by rw [nI_toInt hl0, nI_toInt hnx0]; omega), nI_toInt hl0, nI_toInt hnx0]
          rw [Jvm.Kit.i32_add (by rw [q1, show Int32.toInt 1 = 1 from by decide]; omega) (by rw [q1, show Int32.toInt 1 = 1 from by decide]; omega), q1, show Int32.toInt 1 = 1 from by decide]
        generalize μ 2738 (514 * s + 4) - μ 2738 (514 * s + 24 + t) + 1 = D at d1
        have c3 : Int32.toInt 3 = 3 := by decide
        have c4 : Int32.toInt 4 = 4 := by decide
        have c0 : Int32.toInt 0 = 0 := by decide
        obtain ⟨mI, hmI⟩ : ∃ mI : Int32, (if 3 < D then 3 else D) = mI := ⟨_, rfl⟩
        have hmt : mI.toInt = min 3 ((l : Int) - nx + 1) := by
          rw [← hmI]
          by_cases z : 3 < D
          · rw [if_pos z]; rw [Int32.lt_iff_toInt_lt, c3] at z; omega
          · rw [if_neg z]; rw [Int32.lt_iff_toInt_lt, c3] at z; omega
        refine ⟨mI, hmI, ?_, ?_⟩
        · apply Int32.toInt_inj.mp
          rw [nI_toInt (by omega)]
          by_cases z : mI < 0
          · rw [if_pos z]; rw [Int32.lt_iff_toInt_lt, c0] at z; omega
          · rw [if_neg z]; rw [Int32.lt_iff_toInt_lt, c0] at z; omega
        · intro k hk
          rw [Int32.le_iff_toInt_le, Jvm.Kit.i32_mul (by rw [c4]; omega) (by rw [c4]; omega), c4, nI_toInt (by omega)]
          omega
      obtain ⟨mI, hm1, hm2, hm3⟩ := hmany
      simp only [hm1, hm2]
      have hmn3 : mn ≤ 3 := by omega
      have loop : ∀ (n k : Nat), k + n = 4 * mn → G 207 [.ref 2737, .int (nI s), .int (nI t), .int (μ 2738 (514 * s + 24 + t)), .int (nI (2570 + 21 * w)), .int mI, .int (nI k)] [] S (0, 0)
          (upF μ 2738 (qPush (μ 2738) (fun q => if 9 ≤ q ∧ q < 9 + k then μ 2738 (514 * s + 34 + 4 * (nx - 1) + (q - 9)) else up (up (rowS (nI s) (nI t) (μ 2738 (514 * s + 1)) 2 (μ 2738 (514 * s + 24 + t) - 1) (qTermAt (μ 2738) s (μ 2738 (514 * s + 24 + t) - 1)) (μ 2738 (514 * s + 14))) 6 (nI mn)) 7 (μ 2738 (514 * s + 7)) q))) ρ := by
        intro n
        induction n with
        | zero =>
          intro k hk
          refine g207 _ _ _ _ _ _ ?_
          simp only [w_X12_feeds_207, w_X12_feeds_251, tAload, tIload, nth, tGetI, tGetR, tConst, tLconst, tBin, tUn, tI2l, tAld, tAldR, tAlen, tIast, tBast, tZast, tAast, tIret, tZret, tVret, tAret, tIf, tIf2, tGoto, tIstore, tAstore, sset, tIinc, tDup, tDup2, tPop, tPutI, tPutZ, tPutR, tCallV, tCallS, popN, tFn, tCopy, tMax, tMin, tSw, swc, tRem, tObjI, Option.toList, List.nil_append, List.cons_append, okR, true_and, and_true, true_or, or_true, Nat.zero_le, ne_eq, not_false_eq_true, Nat.reduceEqDiff]
          refine ⟨fun _ => ?_, fun z => absurd ((hm3 k (by omega)).mpr (by omega)) z⟩
          have hk : k = 4 * mn := by omega
          subst hk
          unfold rowT at h
          rw [hmm, hnx, nI_clamp hnx0, ← hnx] at h
          exact h
        | succ n ih =>
          intro k hk
          refine g207 _ _ _ _ _ _ ?_
          simp only [w_X12_feeds_207, w_X12_feeds_251, tAload, tIload, nth, tGetI, tGetR, tConst, tLconst, tBin, tUn, tI2l, tAld, tAldR, tAlen, tIast, tBast, tZast, tAast, tIret, tZret, tVret, tAret, tIf, tIf2, tGoto, tIstore, tAstore, sset, tIinc, tDup, tDup2, tPop, tPutI, tPutZ, tPutR, tCallV, tCallS, popN, tFn, tCopy, tMax, tMin, tSw, swc, tRem, tObjI, Option.toList, List.nil_append, List.cons_append, okR, true_and, and_true, true_or, or_true, Nat.zero_le, ne_eq, not_false_eq_true, Nat.reduceEqDiff, F_X12_of, hS0, hS, upF_same, upI_upF, upF_upF]
          refine ⟨fun z => ?_, fun _ => ?_⟩
          · have := (hm3 k (by omega)).mp z
            omega
          · have e1 : (514 : Int32) * nI s + (34 + 4 * (μ 2738 (514 * s + 24 + t) - 1) + nI k) = nI (514 * s + 34 + 4 * (nx - 1) + k) := by
              rw [hnx, show (1 : Int32) = nI 1 from rfl, pk_sub (by omega), show (4 : Int32) = nI 4 from rfl, pk_mul, show (34 : Int32) = nI 34 from rfl, nI_add, nI_add, ixs _ _ rfl]
              congr 1
              omega
            rw [e1]
            simp (disch := omega) only [nad 9 9 rfl, nI_add, nI_clamp, nI_inb, nI_1]
            rw [push_lo (by omega), show 2570 + 21 * w + 9 + k = 2570 + 21 * w + (9 + k) by omega, push_up hw w60 (by omega)]
            refine ⟨by omega, by omega, ?_⟩
            have e2 : up (fun q => if 9 ≤ q ∧ q < 9 + k then μ 2738 (514 * s + 34 + 4 * (nx - 1) + (q - 9)) else up (up (rowS (nI s) (nI t) (μ 2738 (514 * s + 1)) 2 (μ 2738 (514 * s + 24 + t) - 1) (qTermAt (μ 2738) s (μ 2738 (514 * s + 24 + t) - 1)) (μ 2738 (514 * s + 14))) 6 (nI mn)) 7 (μ 2738 (514 * s + 7)) q) (9 + k) (μ 2738 (514 * s + 34 + 4 * (nx - 1) + k)) = (fun q => if 9 ≤ q ∧ q < 9 + (k + 1) then μ 2738 (514 * s + 34 + 4 * (nx - 1) + (q - 9)) else up (up (rowS (nI s) (nI t) (μ 2738 (514 * s + 1)) 2 (μ 2738 (514 * s + 24 + t) - 1) (qTermAt (μ 2738) s (μ 2738 (514 * s + 24 + t) - 1)) (μ 2738 (514 * s + 14))) 6 (nI mn)) 7 (μ 2738 (514 * s + 7)) q) := by
              generalize up (up (rowS (nI s) (nI t) (μ 2738 (514 * s + 1)) 2 (μ 2738 (514 * s + 24 + t) - 1) (qTermAt (μ 2738) s (μ 2738 (514 * s + 24 + t) - 1)) (μ 2738 (514 * s + 14))) 6 (nI mn)) 7 (μ 2738 (514 * s + 7)) = f0
              funext q
              by_cases hq : q = 9 + k
              · subst hq
                rw [up_at, if_pos (by omega)]
                congr 1
                omega
              · rw [up_ne hq]
                by_cases hq2 : 9 ≤ q ∧ q < 9 + k
                · rw [if_pos hq2, if_pos (by omega)]
                · rw [if_neg hq2, if_neg (by omega)]
            rw [e2]
            exact ih (k + 1) (by omega)
      have l0 := loop (4 * mn) 0 (by omega)
      have ef : (fun q => if 9 ≤ q ∧ q < 9 + 0 then μ 2738 (514 * s + 34 + 4 * (nx - 1) + (q - 9)) else up (up (rowS (nI s) (nI t) (μ 2738 (514 * s + 1)) 2 (μ 2738 (514 * s + 24 + t) - 1) (qTermAt (μ 2738) s (μ 2738 (514 * s + 24 + t) - 1)) (μ 2738 (514 * s + 14))) 6 (nI mn)) 7 (μ 2738 (514 * s + 7)) q) = up (up (rowS (nI s) (nI t) (μ 2738 (514 * s + 1)) 2 (μ 2738 (514 * s + 24 + t) - 1) (qTermAt (μ 2738) s (μ 2738 (514 * s + 24 + t) - 1)) (μ 2738 (514 * s + 14))) 6 (nI mn)) 7 (μ 2738 (514 * s + 7)) := by
        funext q
        rw [if_neg (by omega)]
      rw [ef] at l0
      exact l0
    · have c1' : ¬ μ 2738 (514 * s + 24 + t) ≤ μ 2738 (514 * s + 5) := Int32.not_le.mpr c1
      have hok : ¬ okS (μ 2738) s t := by
        intro z
        simp only [Decidable.not_not] at c2
        unfold vSend at c2
        rw [if_pos z, hw, nI_clamp hw0] at c2
        exact hnone z c2
      simp only [qFeed, c1', if_false, qPost, if_neg hok] at h
      unfold qSend
      rw [if_neg hok]
      exact h
    · have c1' : μ 2738 (514 * s + 24 + t) ≤ μ 2738 (514 * s + 5) := Int32.not_lt.mp c1
      have hok : okS (μ 2738) s t := by
        by_cases z : okS (μ 2738) s t
        · exact z
        · exact absurd (by unfold vSend; rw [if_neg z]) c2
      have hst : ¬ s = t := hok.1
      have w60 := hw60 hok
      have ev : vSend (μ 2738) s t = nI (2570 + 21 * w) := by unfold vSend; rw [if_pos hok, hw, nI_clamp hw0]
      have ea : qSend (μ 2738) (μ 2744 8) s t 4 (μ 2738 (514 * s + 5)) (μ 2738 (514 * s + 6)) = qPush (μ 2738) (rowS (nI s) (nI t) (μ 2738 (514 * s + 1)) 4 (μ 2738 (514 * s + 5)) (μ 2738 (514 * s + 6)) (μ 2738 (514 * s + 14))) := by
        unfold qSend
        rw [if_neg hst, if_pos hok]
        rfl
      simp only [qFeed, c1', if_true, qPost, if_neg hst, if_pos hok] at h
      rw [ev, ea]
      have loop : ∀ (n k : Nat), k + n = 4 → G 52 [.ref 2737, .int (nI s), .int (nI t), .int (μ 2738 (514 * s + 24 + t)), .int (nI (2570 + 21 * w)), .int (nI k), .null] [] S (0, 0)
          (upF μ 2738 (qPush (μ 2738) (fun q => if 9 ≤ q ∧ q < 9 + k then μ 2738 (514 * s + 20 + (q - 9)) else rowS (nI s) (nI t) (μ 2738 (514 * s + 1)) 4 (μ 2738 (514 * s + 5)) (μ 2738 (514 * s + 6)) (μ 2738 (514 * s + 14)) q))) ρ := by
        intro n
        induction n with
        | zero =>
          intro k hk
          have hk : k = 4 := by omega
          subst hk
          refine g52 _ _ _ _ _ _ ?_
          simp only [w_X12_feeds_52, w_X12_feeds_87, tAload, tIload, nth, tGetI, tGetR, tConst, tLconst, tBin, tUn, tI2l, tAld, tAldR, tAlen, tIast, tBast, tZast, tAast, tIret, tZret, tVret, tAret, tIf, tIf2, tGoto, tIstore, tAstore, sset, tIinc, tDup, tDup2, tPop, tPutI, tPutZ, tPutR, tCallV, tCallS, popN, tFn, tCopy, tMax, tMin, tSw, swc, tRem, tObjI, Option.toList, List.nil_append, List.cons_append, okR, true_and, and_true, true_or, or_true, Nat.zero_le, ne_eq, not_false_eq_true, Nat.reduceEqDiff, F_X12_of, hS0, hS, upF_same, upI_upF, upF_upF]
          refine ⟨fun _ => ?_, fun z => absurd (by decide) z⟩
          simp (disch := omega) only [ixs 9 9 rfl, ixs 10 10 rfl, nad 9 9 rfl, nad 4 4 rfl, nad 1 1 rfl, nI_clamp, nI_inb]
          rw [push_lo (by omega), show 2570 + 21 * w + 9 + 4 = 2570 + 21 * w + 13 by omega, show 2570 + 21 * w + 13 + 1 = 2570 + 21 * w + 14 by omega, push_up hw w60 (by omega), push_lo (by omega), push_up hw w60 (by omega)]
          exact ⟨by omega, by omega, by omega, by omega, h⟩
        | succ n ih =>
          intro k hk
          refine g52 _ _ _ _ _ _ ?_
          simp only [w_X12_feeds_52, w_X12_feeds_87, tAload, tIload, nth, tGetI, tGetR, tConst, tLconst, tBin, tUn, tI2l, tAld, tAldR, tAlen, tIast, tBast, tZast, tAast, tIret, tZret, tVret, tAret, tIf, tIf2, tGoto, tIstore, tAstore, sset, tIinc, tDup, tDup2, tPop, tPutI, tPutZ, tPutR, tCallV, tCallS, popN, tFn, tCopy, tMax, tMin, tSw, swc, tRem, tObjI, Option.toList, List.nil_append, List.cons_append, okR, true_and, and_true, true_or, or_true, Nat.zero_le, ne_eq, not_false_eq_true, Nat.reduceEqDiff, F_X12_of, hS0, hS, upF_same, upI_upF, upF_upF]
          refine ⟨fun z => ?_, fun _ => ?_⟩
          · rw [show (4 : Int32) = nI 4 from rfl, nI_leI (by decide) (by omega)] at z
            omega
          · have e1 : (514 : Int32) * nI s + (20 + nI k) = nI (514 * s + 20 + k) := by rw [show (20 : Int32) = nI 20 from rfl, nI_add, ixs (20 + k) _ rfl, Nat.add_assoc]
            rw [e1]
            simp (disch := omega) only [nad 9 9 rfl, nI_add, nI_clamp, nI_inb, nI_1]
            rw [push_lo (by omega), show 2570 + 21 * w + 9 + k = 2570 + 21 * w + (9 + k) by omega, push_up hw w60 (by omega)]
            refine ⟨by omega, by omega, ?_⟩
            have e2 : up (fun q => if 9 ≤ q ∧ q < 9 + k then μ 2738 (514 * s + 20 + (q - 9)) else rowS (nI s) (nI t) (μ 2738 (514 * s + 1)) 4 (μ 2738 (514 * s + 5)) (μ 2738 (514 * s + 6)) (μ 2738 (514 * s + 14)) q) (9 + k) (μ 2738 (514 * s + 20 + k)) = (fun q => if 9 ≤ q ∧ q < 9 + (k + 1) then μ 2738 (514 * s + 20 + (q - 9)) else rowS (nI s) (nI t) (μ 2738 (514 * s + 1)) 4 (μ 2738 (514 * s + 5)) (μ 2738 (514 * s + 6)) (μ 2738 (514 * s + 14)) q) := by
              funext q
              by_cases hq : q = 9 + k
              · subst hq
                rw [up_at, if_pos (by omega)]
                congr 1
                omega
              · rw [up_ne hq]
                by_cases hq2 : 9 ≤ q ∧ q < 9 + k
                · rw [if_pos hq2, if_pos (by omega)]
                · rw [if_neg hq2, if_neg (by omega)]
            rw [e2]
            exact ih (k + 1) (by omega)
      have l0 := loop 4 0 (by omega)
      have ef : (fun q => if 9 ≤ q ∧ q < 9 + 0 then μ 2738 (514 * s + 20 + (q - 9)) else rowS (nI s) (nI t) (μ 2738 (514 * s + 1)) 4 (μ 2738 (514 * s + 5)) (μ 2738 (514 * s + 6)) (μ 2738 (514 * s + 14)) q) = rowS (nI s) (nI t) (μ 2738 (514 * s + 1)) 4 (μ 2738 (514 * s + 5)) (μ 2738 (514 * s + 6)) (μ 2738 (514 * s + 14)) := by
        funext q
        rw [if_neg (by omega)]
      rw [ef] at l0
      exact l0
    · have c1' : μ 2738 (514 * s + 24 + t) ≤ μ 2738 (514 * s + 5) := Int32.not_lt.mp c1
      have hok : ¬ okS (μ 2738) s t := by
        intro z
        simp only [Decidable.not_not] at c2
        unfold vSend at c2
        rw [if_pos z, hw, nI_clamp hw0] at c2
        exact hnone z c2
      simp only [qFeed, c1', if_true, qPost, if_neg hok] at h
      unfold qSend
      rw [if_neg hok]
      exact h
  · exact h.elim
