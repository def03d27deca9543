/-! ===== what is made: the tape and the program ===== -/
section Mk3
variable {Z : Zt} {d : Nat} {S : Sh} {μ : Mi} {ρ : Mr} {Rp : RT}
theorem f_X4_init {a : Nat} (h1 : S.1 = a + 1) (hS : S.2 a = (4, 10)) (h : ∀ S' μ' ρ', Grw 7 a S μ ρ S' μ' ρ' → (S'.2 (a + 1) = (20, 300) ∧ S'.2 (a + 2) = (20, 300) ∧ S'.2 (a + 3) = (20, 300) ∧ S'.2 (a + 4) = (20, 300) ∧ S'.2 (a + 5) = (20, 300) ∧ S'.2 (a + 6) = (20, 3) ∧ S'.2 (a + 7) = (20, 3)) → (ρ' a 0 = a + 1 ∧ ρ' a 1 = a + 2 ∧ ρ' a 2 = a + 3 ∧ ρ' a 3 = a + 4 ∧ ρ' a 4 = a + 5 ∧ ρ' a 5 = a + 6 ∧ ρ' a 6 = a + 7) →  Rp none S' μ' ρ') : MS Z (d + 1) jX4_init [.ref a] S μ ρ Rp := by
  obtain ⟨n, K⟩ := S
  dsimp only at h1 hS
  subst h1
  refine ms_X4_init _ (fun G => ?_)
  simp only [w_X4_init_0, tAload, tIload, nth, tGetI, tGetR, tConst, tLconst, tBin, tUn, tI2l, tAld, tAldR, tAlen, tIast, tBast, tZast, tAast, tIret, tZret, tVret, tAret, tIf, tIf2, tGoto, tIstore, tAstore, sset, tIinc, tDup, tDup2, tPop, tPutI, tPutZ, tPutR, tCallV, tCallS, popN, tFn, tCopy, tMax, tMin, tSw, swc, tRem, tObjI, Option.toList, List.nil_append, List.cons_append, okR, true_and, and_true, true_or, or_true, Nat.zero_le, ne_eq, not_false_eq_true, Nat.reduceEqDiff, tNew, tNewa, tAnew, tCallI, show Int32.toNatClampNeg 3 = 3 from by decide, show Int32.toNatClampNeg 300 = 300 from by decide]
  refine ⟨by decide, by decide, by decide, by decide, by rw [upK_ne (by omega)]; exact hS, by decide, by decide, by decide, by decide, by rw [upK_ne (by omega), upK_ne (by omega)]; exact hS, by decide, by decide, by decide, by decide, by rw [upK_ne (by omega), upK_ne (by omega), upK_ne (by omega)]; exact hS, by decide, by decide, by decide, by decide, by rw [upK_ne (by omega), upK_ne (by omega), upK_ne (by omega), upK_ne (by omega)]; exact hS, by decide, by decide, by decide, by decide, by rw [upK_ne (by omega), upK_ne (by omega), upK_ne (by omega), upK_ne (by omega), upK_ne (by omega)]; exact hS, by decide, by decide, by decide, by decide, by rw [upK_ne (by omega), upK_ne (by omega), upK_ne (by omega), upK_ne (by omega), upK_ne (by omega), upK_ne (by omega)]; exact hS, by decide, by decide, by decide, by decide, by rw [upK_ne (by omega), upK_ne (by omega), upK_ne (by omega), upK_ne (by omega), upK_ne (by omega), upK_ne (by omega), upK_ne (by omega)]; exact hS, by rw [upK_ne (by omega), upK_ne (by omega), upK_ne (by omega), upK_ne (by omega), upK_ne (by omega), upK_ne (by omega), upK_ne (by omega)]; exact hS, by rw [upK_ne (by omega), upK_ne (by omega), upK_ne (by omega), upK_ne (by omega), upK_ne (by omega), upK_ne (by omega), upK_ne (by omega)]; exact hS, by rw [upK_ne (by omega), upK_ne (by omega), upK_ne (by omega), upK_ne (by omega), upK_ne (by omega), upK_ne (by omega), upK_ne (by omega)]; exact hS, ?_⟩
  refine h _ _ _ ⟨?_, fun y hy => ?_, fun y hy hya => ?_, fun y hy hya => ?_⟩ ⟨?_, ?_, ?_, ?_, ?_, ?_, ?_⟩ ⟨?_, ?_, ?_, ?_, ?_, ?_, ?_⟩
  · show a + 1 + 1 + 1 + 1 + 1 + 1 + 1 + 1 = a + 1 + 7
    omega
  · dsimp only at hy ⊢
    rw [upK_ne (by omega), upK_ne (by omega), upK_ne (by omega), upK_ne (by omega), upK_ne (by omega), upK_ne (by omega), upK_ne (by omega)]
  · dsimp only at hy
    rw [upI_ne hya, upI_ne hya, upI_ne hya, upF_ne (by omega), upF_ne (by omega), upF_ne (by omega), upF_ne (by omega), upF_ne (by omega), upF_ne (by omega), upF_ne (by omega)]
  · dsimp only at hy
    rw [upR_ne hya, upFr_ne (by omega), upR_ne hya, upFr_ne (by omega), upR_ne hya, upFr_ne (by omega), upR_ne hya, upFr_ne (by omega), upR_ne hya, upFr_ne (by omega), upR_ne hya, upFr_ne (by omega), upR_ne hya, upFr_ne (by omega)]
  · dsimp only
    rw [upK_ne (by omega), upK_ne (by omega), upK_ne (by omega), upK_ne (by omega), upK_ne (by omega), upK_ne (by omega), upK_at]
  · dsimp only
    rw [upK_ne (by omega), upK_ne (by omega), upK_ne (by omega), upK_ne (by omega), upK_ne (by omega), upK_at]
  · dsimp only
    rw [upK_ne (by omega), upK_ne (by omega), upK_ne (by omega), upK_ne (by omega), upK_at]
  · dsimp only
    rw [upK_ne (by omega), upK_ne (by omega), upK_ne (by omega), upK_at]
  · dsimp only
    rw [upK_ne (by omega), upK_ne (by omega), upK_at]
  · dsimp only
    rw [upK_ne (by omega), upK_at]
  · dsimp only
    rw [upK_at]
  · rw [upR_k (by omega), upFr_ne (by omega), upR_k (by omega), upFr_ne (by omega), upR_k (by omega), upFr_ne (by omega), upR_k (by omega), upFr_ne (by omega), upR_k (by omega), upFr_ne (by omega), upR_k (by omega), upFr_ne (by omega), upR_at]
  · rw [upR_k (by omega), upFr_ne (by omega), upR_k (by omega), upFr_ne (by omega), upR_k (by omega), upFr_ne (by omega), upR_k (by omega), upFr_ne (by omega), upR_k (by omega), upFr_ne (by omega), upR_at]
  · rw [upR_k (by omega), upFr_ne (by omega), upR_k (by omega), upFr_ne (by omega), upR_k (by omega), upFr_ne (by omega), upR_k (by omega), upFr_ne (by omega), upR_at]
  · rw [upR_k (by omega), upFr_ne (by omega), upR_k (by omega), upFr_ne (by omega), upR_k (by omega), upFr_ne (by omega), upR_at]
  · rw [upR_k (by omega), upFr_ne (by omega), upR_k (by omega), upFr_ne (by omega), upR_at]
  · rw [upR_k (by omega), upFr_ne (by omega), upR_at]
  · rw [upR_at]
theorem f_X9_init {a : Nat} (h1 : S.1 = a + 1) (hS : S.2 a = (9, 7)) (h : ∀ S' μ' ρ', Grw 2 a S μ ρ S' μ' ρ' → (S'.2 (a + 1) = (20, 300) ∧ S'.2 (a + 2) = (20, 3)) → (ρ' a 0 = a + 1 ∧ ρ' a 1 = a + 2) → (μ' a 2 = 0 ∧ μ' a 3 = 0 ∧ μ' a 4 = -1) → Rp none S' μ' ρ') : MS Z (d + 1) jX9_init [.ref a] S μ ρ Rp := by
  obtain ⟨n, K⟩ := S
  dsimp only at h1 hS
  subst h1
  refine ms_X9_init _ (fun G => ?_)
  simp only [w_X9_init_0, tAload, tIload, nth, tGetI, tGetR, tConst, tLconst, tBin, tUn, tI2l, tAld, tAldR, tAlen, tIast, tBast, tZast, tAast, tIret, tZret, tVret, tAret, tIf, tIf2, tGoto, tIstore, tAstore, sset, tIinc, tDup, tDup2, tPop, tPutI, tPutZ, tPutR, tCallV, tCallS, popN, tFn, tCopy, tMax, tMin, tSw, swc, tRem, tObjI, Option.toList, List.nil_append, List.cons_append, okR, true_and, and_true, true_or, or_true, Nat.zero_le, ne_eq, not_false_eq_true, Nat.reduceEqDiff, tNew, tNewa, tAnew, tCallI, show Int32.toNatClampNeg 3 = 3 from by decide, show Int32.toNatClampNeg 300 = 300 from by decide]
  refine ⟨by decide, by decide, by decide, by decide, by rw [upK_ne (by omega)]; exact hS, by decide, by decide, by decide, by decide, by rw [upK_ne (by omega), upK_ne (by omega)]; exact hS, by rw [upK_ne (by omega), upK_ne (by omega)]; exact hS, by rw [upK_ne (by omega), upK_ne (by omega)]; exact hS, by rw [upK_ne (by omega), upK_ne (by omega)]; exact hS, by rw [upK_ne (by omega), upK_ne (by omega)]; exact hS, by rw [upK_ne (by omega), upK_ne (by omega)]; exact hS, ?_⟩
  refine h _ _ _ ⟨?_, fun y hy => ?_, fun y hy hya => ?_, fun y hy hya => ?_⟩ ⟨?_, ?_⟩ ⟨?_, ?_⟩ ?_
  · show a + 1 + 1 + 1 = a + 1 + 2
    omega
  · dsimp only at hy ⊢
    rw [upK_ne (by omega), upK_ne (by omega)]
  · dsimp only at hy
    rw [upI_ne hya, upI_ne hya, upI_ne hya, upI_ne hya, upI_ne hya, upF_ne (by omega), upF_ne (by omega)]
  · dsimp only at hy
    rw [upR_ne hya, upFr_ne (by omega), upR_ne hya, upFr_ne (by omega)]
  · dsimp only
    rw [upK_ne (by omega), upK_at]
  · dsimp only
    rw [upK_at]
  · rw [upR_k (by omega), upFr_ne (by omega), upR_at]
  · rw [upR_at]
  · simp (disch := omega) only [upI_k, upI_at, and_self]
end Mk3
