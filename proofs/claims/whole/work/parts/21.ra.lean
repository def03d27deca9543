/-! ===== the reference: its cells; the smallest methods ===== -/
def RS (S : Sh) (ρ : Mr) : Prop := S.2 2737 = (12, 27) ∧ S.2 2738 = (20, 13548) ∧ S.2 2739 = (20, 36128) ∧ S.2 2740 = (20, 4516) ∧ S.2 2741 = (20, 4516) ∧ S.2 2742 = (20, 18064) ∧ S.2 2743 = (22, 2) ∧ S.2 2744 = (20, 21) ∧ S.2 2745 = (21, 300) ∧ S.2 2746 = (21, 103) ∧ S.2 2747 = (20, 3) ∧
  ρ 2737 1 = 2738 ∧ ρ 2737 2 = 2739 ∧ ρ 2737 3 = 2740 ∧ ρ 2737 4 = 2741 ∧ ρ 2737 5 = 2742 ∧ ρ 2737 7 = 2743 ∧ ρ 2737 12 = 2744 ∧ ρ 2737 13 = 2745 ∧ ρ 2737 22 = 2746 ∧ ρ 2737 24 = 2747
def F_X12_of : FT := fun As S μ ρ k => match As with
  | [.ref a, .int s, .int w] => a = 2737 ∧ RS S ρ ∧ inb (514 * s + w) 13548 ∧ k (some (.int (μ 2738 (514 * s + w).toNatClampNeg))) μ
  | _ => False
theorem f_X12_of {Z : Zt} {d : Nat} {As : List Value} {S : Sh} {μ : Mi} {ρ : Mr} {Rp : RT} (h : F_X12_of As S μ ρ (fun r μ' => Rp r S μ' ρ)) : MS Z (d + 1) jX12_of As S μ ρ Rp := by
  unfold F_X12_of at h
  split at h
  · obtain ⟨rfl, hS, h1, h2⟩ := h
    unfold RS at hS
    refine ms_X12_of _ _ _ (fun G => ?_)
    simp only [w_X12_of_0, tAload, tIload, nth, tGetI, tGetR, tConst, tLconst, tBin, tUn, tI2l, tAld, tAldR, tAlen, tIast, tBast, tZast, tAast, tIret, tZret, tVret, tAret, tIf, tIf2, tGoto, tIstore, tAstore, sset, tIinc, tDup, tDup2, tPop, tPutI, tPutZ, tPutR, tCallV, tCallS, popN, tFn, tCopy, tMax, tMin, tSw, swc, tRem, tObjI, Option.toList, List.nil_append, List.cons_append, List.length_nil, List.length_cons, Nat.reduceAdd, Nat.reduceLeDiff, true_and, and_true, Nat.zero_le, ne_eq, hS]
    trace_state
    sorry
  · exact h.elim
