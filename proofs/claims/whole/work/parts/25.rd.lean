/-! ===== the reference: having, isMessage, ofMessage, isInLog ===== -/
def hv1 (A : Rw) (s : Nat) (p : Int32) (o : Nat) (acc : Int32) : Int32 := acc ||| (if ¬ o = s ∧ ¬ A (514 * s + 29 + o) < p then 1 <<< (nI o &&& 31) else 0)
def qHav (A : Rw) (s : Nat) (p : Int32) : Int32 := hv1 A s p 4 (hv1 A s p 3 (hv1 A s p 2 (hv1 A s p 1 (hv1 A s p 0 (1 <<< (nI s &&& 31))))))
def F_X12_having : FT := fun As S μ ρ k => match As with
  | [.ref a, .int s, .int p] => a = 2737 ∧ RS S ρ ∧ rg s 0 4 ∧ k (some (.int (qHav (μ 2738) s.toNatClampNeg p))) μ
  | _ => False
theorem r_X12_having {As S μ ρ k} (h : F_X12_having As S μ ρ k) : ∃ a As', As = Value.ref a :: As' ∧ S.2 a = (12, 27) := by
  unfold F_X12_having at h
  split at h
  · exact ⟨_, _, rfl, by rw [h.1]; exact h.2.1.1⟩
  · exact h.elim
set_option maxHeartbeats 1000000 in
theorem f_X12_having {Z : Zt} {d : Nat} {As : List Value} {S : Sh} {μ : Mi} {ρ : Mr} {Rp : RT} (h : F_X12_having As S μ ρ (fun r μ' => Rp r S μ' ρ)) : MS Z (d + 2) jX12_having As S μ ρ Rp := by
  unfold F_X12_having at h
  split at h
  · rename_i a s p
    obtain ⟨rfl, hS, h⟩ := h
    have hS0 := hS
    unfold RS at hS
    obtain ⟨h1, h⟩ := h
    obtain ⟨s, rfl, hs0, -, hs⟩ := rg_ex h1
    simp (disch := omega) only [nI_clamp] at h
    refine ms_X12_having _ _ _ (fun G g7 => ?_)
    simp only [w_X12_having_0, tAload, tIload, nth, tGetI, tGetR, tConst, tLconst, tBin, tUn, tI2l, tAld, tAldR, tAlen, tIast, tBast, tZast, tAast, tIret, tZret, tVret, tAret, tIf, tIf2, tGoto, tIstore, tAstore, sset, tIinc, tDup, tDup2, tPop, tPutI, tPutZ, tPutR, tCallV, tCallS, popN, tFn, tCopy, tMax, tMin, tSw, swc, tRem, tObjI, Option.toList, List.nil_append, List.cons_append, okR, true_and, and_true, true_or, or_true, Nat.zero_le, ne_eq, not_false_eq_true, Nat.reduceEqDiff]
    have step : ∀ (o : Nat) (v : Int32), o < 5 → G 7 [.ref 2737, .int (nI s), .int p, .int (hv1 (μ 2738) s p o v), .int (nI (o + 1))] [] S (0, 0) μ ρ → G 7 [.ref 2737, .int (nI s), .int p, .int v, .int (nI o)] [] S (0, 0) μ ρ := by
      intro o v ho hg
      refine g7 _ _ _ _ _ _ ?_
      simp only [w_X12_having_7, w_X12_having_41, w_X12_having_42, w_X12_having_50, tAload, tIload, nth, tGetI, tGetR, tConst, tLconst, tBin, tUn, tI2l, tAld, tAldR, tAlen, tIast, tBast, tZast, tAast, tIret, tZret, tVret, tAret, tIf, tIf2, tGoto, tIstore, tAstore, sset, tIinc, tDup, tDup2, tPop, tPutI, tPutZ, tPutR, tCallV, tCallS, popN, tFn, tCopy, tMax, tMin, tSw, swc, tRem, tObjI, Option.toList, List.nil_append, List.cons_append, okR, true_and, and_true, true_or, or_true, Nat.zero_le, ne_eq, not_false_eq_true, Nat.reduceEqDiff, F_X12_of, hS0]
      have ex : (514 : Int32) * nI s + (29 + nI o) = nI (514 * s + 29 + o) := by
        rw [show (29 : Int32) = nI 29 from rfl, nI_add, ixs (29 + o) _ rfl, Nat.add_assoc]
      rw [ex, nI_clamp (by omega), nI_1]
      refine ⟨fun hc => absurd hc (lt5' o ho), fun _ => ⟨fun hc => ?_, fun hc => ⟨inb_nI (by omega) (by decide), fun h3 => ?_, fun h3 => ?_⟩⟩⟩
      · rw [nI_eq (by omega) (by omega)] at hc
        simpa only [hv1, hc, not_true, false_and, if_false] using hg
      · simpa only [hv1, h3, not_true, and_false, if_false] using hg
      · rw [nI_eq (by omega) (by omega)] at hc
        simpa only [hv1, h3, hc, not_false_eq_true, and_self, if_true] using hg
    refine step 0 _ (by decide) (step 1 _ (by decide) (step 2 _ (by decide) (step 3 _ (by decide) (step 4 _ (by decide) ?_))))
    refine g7 _ _ _ _ _ _ ?_
    simp only [w_X12_having_7, w_X12_having_41, w_X12_having_42, w_X12_having_50, tAload, tIload, nth, tGetI, tGetR, tConst, tLconst, tBin, tUn, tI2l, tAld, tAldR, tAlen, tIast, tBast, tZast, tAast, tIret, tZret, tVret, tAret, tIf, tIf2, tGoto, tIstore, tAstore, sset, tIinc, tDup, tDup2, tPop, tPutI, tPutZ, tPutR, tCallV, tCallS, popN, tFn, tCopy, tMax, tMin, tSw, swc, tRem, tObjI, Option.toList, List.nil_append, List.cons_append, okR, true_and, and_true, true_or, or_true, Nat.zero_le, ne_eq, not_false_eq_true, Nat.reduceEqDiff]
    exact ⟨fun _ => h, fun hc => absurd (by decide) hc⟩
  · exact h.elim
def F_X12_isMessage : FT := fun As S μ ρ k => match As with
  | [.ref a, .int i] => a = 2737 ∧ RS S ρ ∧ rg (μ 2738 4510) 0 60 ∧ k (some (.int (b2 (0 ≤ i.toInt ∧ i.toInt < (μ 2738 4510).toInt)))) μ
  | _ => False
theorem r_X12_isMessage {As S μ ρ k} (h : F_X12_isMessage As S μ ρ k) : ∃ a As', As = Value.ref a :: As' ∧ S.2 a = (12, 27) := by
  unfold F_X12_isMessage at h
  split at h
  · exact ⟨_, _, rfl, by rw [h.1]; exact h.2.1.1⟩
  · exact h.elim
set_option maxHeartbeats 1000000 in
theorem f_X12_isMessage {Z : Zt} {d : Nat} {As : List Value} {S : Sh} {μ : Mi} {ρ : Mr} {Rp : RT} (h : F_X12_isMessage As S μ ρ (fun r μ' => Rp r S μ' ρ)) : MS Z (d + 2) jX12_isMessage As S μ ρ Rp := by
  unfold F_X12_isMessage at h
  split at h
  · rename_i a i
    obtain ⟨rfl, hS, h⟩ := h
    have hS0 := hS
    unfold RS at hS
    obtain ⟨h1, h⟩ := h
    obtain ⟨w, hw, hw0, -, hw1⟩ := rg_ex h1
    refine ms_X12_isMessage _ _ (fun G => ?_)
    simp only [w_X12_isMessage_0, tAload, tIload, nth, tGetI, tGetR, tConst, tLconst, tBin, tUn, tI2l, tAld, tAldR, tAlen, tIast, tBast, tZast, tAast, tIret, tZret, tVret, tAret, tIf, tIf2, tGoto, tIstore, tAstore, sset, tIinc, tDup, tDup2, tPop, tPutI, tPutZ, tPutR, tCallV, tCallS, popN, tFn, tCopy, tMax, tMin, tSw, swc, tRem, tObjI, Option.toList, List.nil_append, List.cons_append, okR, true_and, and_true, true_or, or_true, Nat.zero_le, ne_eq, not_false_eq_true, Nat.reduceEqDiff, F_X12_within, hS]
    refine ⟨inb_nI (k := 4510) (by decide) (by decide), b2_01 _, ?_⟩
    rw [show Int32.toNatClampNeg 4510 = 4510 from by decide]
    simp only [l_le, l_geC, Int32.toInt_toInt64]
    have e : (μ 2738 4510 - 1).toInt = (μ 2738 4510).toInt - 1 := by
      rw [hw]
      by_cases h0 : w = 0
      · subst h0; decide
      · rw [show (1 : Int32) = nI 1 from rfl, pk_sub (by omega), nI_toInt (by omega), nI_toInt hw0]; omega
    rw [e]
    have e2 : b2 (Int64.toInt 0 ≤ i.toInt ∧ i.toInt ≤ (μ 2738 4510).toInt - 1) = b2 (0 ≤ i.toInt ∧ i.toInt < (μ 2738 4510).toInt) := by
      unfold b2
      congr 1
      rw [show Int64.toInt 0 = 0 from by decide]
      exact propext ⟨fun z => by omega, fun z => by omega⟩
    rw [e2]
    exact h
  · exact h.elim
def F_X12_ofMessage : FT := fun As S μ ρ k => match As with
  | [.ref a, .int i, .int w] => a = 2737 ∧ RS S ρ ∧ rg i 0 59 ∧ rg w 0 20 ∧ k (some (.int (μ 2738 (2570 + 21 * i.toNatClampNeg + w.toNatClampNeg)))) μ
  | _ => False
theorem r_X12_ofMessage {As S μ ρ k} (h : F_X12_ofMessage As S μ ρ k) : ∃ a As', As = Value.ref a :: As' ∧ S.2 a = (12, 27) := by
  unfold F_X12_ofMessage at h
  split at h
  · exact ⟨_, _, rfl, by rw [h.1]; exact h.2.1.1⟩
  · exact h.elim
set_option maxHeartbeats 1000000 in
theorem f_X12_ofMessage {Z : Zt} {d : Nat} {As : List Value} {S : Sh} {μ : Mi} {ρ : Mr} {Rp : RT} (h : F_X12_ofMessage As S μ ρ (fun r μ' => Rp r S μ' ρ)) : MS Z (d + 1) jX12_ofMessage As S μ ρ Rp := by
  unfold F_X12_ofMessage at h
  split at h
  · rename_i a i w
    obtain ⟨rfl, hS, h⟩ := h
    have hS0 := hS
    unfold RS at hS
    obtain ⟨h1, h2, h⟩ := h
    obtain ⟨i, rfl, hi0, -, hi⟩ := rg_ex h1
    obtain ⟨w, rfl, hw0, -, hw⟩ := rg_ex h2
    simp (disch := omega) only [nI_clamp] at h
    refine ms_X12_ofMessage _ _ _ (fun G => ?_)
    simp only [w_X12_ofMessage_0, tAload, tIload, nth, tGetI, tGetR, tConst, tLconst, tBin, tUn, tI2l, tAld, tAldR, tAlen, tIast, tBast, tZast, tAast, tIret, tZret, tVret, tAret, tIf, tIf2, tGoto, tIstore, tAstore, sset, tIinc, tDup, tDup2, tPop, tPutI, tPutZ, tPutR, tCallV, tCallS, popN, tFn, tCopy, tMax, tMin, tSw, swc, tRem, tObjI, Option.toList, List.nil_append, List.cons_append, okR, true_and, and_true, true_or, or_true, Nat.zero_le, ne_eq, not_false_eq_true, Nat.reduceEqDiff, hS]
    rw [show (2570 : Int32) = nI 2570 from rfl, show (21 : Int32) = nI 21 from rfl, pk_mul, nI_add, nI_add, nI_clamp (by omega)]
    exact ⟨inb_nI (by omega) (by decide), h⟩
  · exact h.elim
/-- a place in a log -/
def inL (A : Rw) (s : Nat) (p : Int32) : Prop := (A (514 * s + 5)).toInt < p.toInt ∧ p.toInt ≤ (A (514 * s + 4)).toInt
theorem snap1 {x : Int32} (h : rg x 0 120) : (x + 1).toInt = x.toInt + 1 := by
  obtain ⟨n, rfl, hn, -, h2⟩ := rg_ex h
  rw [nI_1, nI_toInt (by omega), nI_toInt hn]
  omega
def F_X12_isInLog : FT := fun As S μ ρ k => match As with
  | [.ref a, .int s, .int p] => a = 2737 ∧ RS S ρ ∧ rg s 0 4 ∧ rg (μ 2738 (514 * s.toNatClampNeg + 5)) 0 120 ∧ k (some (.int (b2 ((μ 2738 (514 * s.toNatClampNeg + 5)).toInt < p.toInt ∧ p.toInt ≤ (μ 2738 (514 * s.toNatClampNeg + 4)).toInt)))) μ
  | _ => False
theorem r_X12_isInLog {As S μ ρ k} (h : F_X12_isInLog As S μ ρ k) : ∃ a As', As = Value.ref a :: As' ∧ S.2 a = (12, 27) := by
  unfold F_X12_isInLog at h
  split at h
  · exact ⟨_, _, rfl, by rw [h.1]; exact h.2.1.1⟩
  · exact h.elim
set_option maxHeartbeats 1000000 in
theorem f_X12_isInLog {Z : Zt} {d : Nat} {As : List Value} {S : Sh} {μ : Mi} {ρ : Mr} {Rp : RT} (h : F_X12_isInLog As S μ ρ (fun r μ' => Rp r S μ' ρ)) : MS Z (d + 2) jX12_isInLog As S μ ρ Rp := by
  unfold F_X12_isInLog at h
  split at h
  · rename_i a s p
    obtain ⟨rfl, hS, h⟩ := h
    have hS0 := hS
    unfold RS at hS
    obtain ⟨h1, h2, h⟩ := h
    obtain ⟨s, rfl, hs0, -, hs⟩ := rg_ex h1
    simp (disch := omega) only [nI_clamp] at h h2
    refine ms_X12_isInLog _ _ _ (fun G => ?_)
    simp only [w_X12_isInLog_0, tAload, tIload, nth, tGetI, tGetR, tConst, tLconst, tBin, tUn, tI2l, tAld, tAldR, tAlen, tIast, tBast, tZast, tAast, tIret, tZret, tVret, tAret, tIf, tIf2, tGoto, tIstore, tAstore, sset, tIinc, tDup, tDup2, tPop, tPutI, tPutZ, tPutR, tCallV, tCallS, popN, tFn, tCopy, tMax, tMin, tSw, swc, tRem, tObjI, Option.toList, List.nil_append, List.cons_append, okR, true_and, and_true, true_or, or_true, Nat.zero_le, ne_eq, not_false_eq_true, Nat.reduceEqDiff, F_X12_within, F_X12_of, hS0]
    simp (disch := omega) only [ixs 4 4 rfl, ixs 5 5 rfl, nI_clamp, nI_inb]
    refine ⟨by omega, by omega, b2_01 _, ?_⟩
    simp only [l_le]
    rw [snap1 h2]
    exact h
  · exact h.elim
