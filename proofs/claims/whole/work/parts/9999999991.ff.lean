/-! ===== what is made: the reference, whole ===== -/
def wT12 (M : CT) (G : Nat → PT) (Rp : RT) : PT := tDup <| tConst 0 <| tConst 116 <| tBast <| tDup <| tConst 1 <| tConst 105 <| tBast <| tDup <| tConst 2 <| tConst 109 <| tBast <| tDup <| tConst 3 <| tConst 101 <| tBast <| tDup <| tConst 4 <| tConst 111 <| tBast <| tDup <| tConst 5 <| tConst 117 <| tBast <| tDup <| tConst 6 <| tConst 116 <| w_X12_init_122 M G Rp
def wE12 (Rp : RT) : PT := tPutR 12 27 22 <| tAload 0 <| tConst 3 <| tNewa 20 10 77201 <| tPutR 12 27 24 <| tAload 0 <| tConst 31 <| tFn 2 F_X12_laysAll <| tVret Rp
theorem w012 {M : CT} {G : Nat → PT} {Rp : RT} : w_X12_init_0 M G Rp = (tAload 0 <| tObjI <| tAload 0 <| tConst 13548 <| tNewa 20 10 77201 <| tPutR 12 27 1 <| tAload 0 <| tConst 36128 <| tNewa 20 10 77201 <| tPutR 12 27 2 <| tAload 0 <| tConst 4516 <| tNewa 20 10 77201 <| tPutR 12 27 3 <| tAload 0 <| tConst 4516 <| tNewa 20 10 77201 <| tPutR 12 27 4 <| tAload 0 <| tConst 18064 <| tNewa 20 10 77201 <| tPutR 12 27 5 <| tAload 0 <| tConst 2 <| tNewa 22 10 77201 <| tPutR 12 27 7 <| tAload 0 <| tConst 21 <| tNewa 20 10 77201 <| tPutR 12 27 12 <| tAload 0 <| tConst 300 <| tNewa 21 10 77201 <| tPutR 12 27 13 <| tAload 0 <| tConst (-1) <| tPutI 12 27 18 <| tAload 0 <| tConst (-1) <| tPutI 12 27 20 <| tAload 0 <| tConst 103 <| tNewa 21 10 77201 <| wT12 M G Rp) := rfl
def Wk (n : Nat) (μ0 μ : Mi) : Prop := (∀ k, k < n → μ 2746 k = wr k) ∧ ∀ a, a ≠ 2746 → μ a = μ0 a
section Mk8
variable {Z : Zt} {d : Nat} {S : Sh} {μ : Mi} {ρ : Mr} {Rp : RT}
theorem byD {L st : List Value} {q : Nat × Nat} {t : PT} {i x : Int32} {μ0 : Mi} (n : Nat) (hi : i = nI n) (hx : x.toInt8.toInt32 = wr n) (hn : n < 103) (h2 : S.2 2746 = (21, 103)) (hW : Wk n μ0 μ) (h : ∀ μ', Wk (n + 1) μ0 μ' → t L (.ref 2746 :: st) S q μ' ρ) : tDup (tConst i (tConst x (tBast t))) L (.ref 2746 :: st) S q μ ρ := by
  refine byS (μ := μ) (st := .ref 2746 :: st) n hi hn h2 (h _ ⟨fun k hk => ?_, fun a ha => ?_⟩)
  · rw [hx]
    by_cases c : k = n
    · subst c; exact upI_at
    · rw [upI_k c]; exact hW.1 k (by omega)
  · rw [upI_ne ha]; exact hW.2 a ha
set_option maxHeartbeats 4000000 in
theorem x12_words {M : CT} {G : Nat → PT} {q : Nat × Nat} {L : List Value} {st : List Value} (h2 : S.2 2746 = (21, 103)) (h : ∀ μ', Wk 103 μ μ' → wE12 Rp L (.ref 2746 :: st) S q μ' ρ) : wT12 M G Rp L (.ref 2746 :: st) S q μ ρ := by
  have hW : Wk 0 μ μ := ⟨fun k hk => by omega, fun _ _ => rfl⟩
  unfold wT12
  refine byD 0 rfl rfl (by decide) h2 hW (fun μ1 hW => ?_)
  refine byD 1 rfl rfl (by decide) h2 hW (fun μ2 hW => ?_)
  refine byD 2 rfl rfl (by decide) h2 hW (fun μ3 hW => ?_)
  refine byD 3 rfl rfl (by decide) h2 hW (fun μ4 hW => ?_)
  refine byD 4 rfl rfl (by decide) h2 hW (fun μ5 hW => ?_)
  refine byD 5 rfl rfl (by decide) h2 hW (fun μ6 hW => ?_)
  refine byD 6 rfl rfl (by decide) h2 hW (fun μ7 hW => ?_)
  refine byD 7 rfl rfl (by decide) h2 hW (fun μ8 hW => ?_)
  refine byD 8 rfl rfl (by decide) h2 hW (fun μ9 hW => ?_)
  refine byD 9 rfl rfl (by decide) h2 hW (fun μ10 hW => ?_)
  refine byD 10 rfl rfl (by decide) h2 hW (fun μ11 hW => ?_)
  refine byD 11 rfl rfl (by decide) h2 hW (fun μ12 hW => ?_)
  refine byD 12 rfl rfl (by decide) h2 hW (fun μ13 hW => ?_)
  refine byD 13 rfl rfl (by decide) h2 hW (fun μ14 hW => ?_)
  refine byD 14 rfl rfl (by decide) h2 hW (fun μ15 hW => ?_)
  refine byD 15 rfl rfl (by decide) h2 hW (fun μ16 hW => ?_)
  refine byD 16 rfl rfl (by decide) h2 hW (fun μ17 hW => ?_)
  refine byD 17 rfl rfl (by decide) h2 hW (fun μ18 hW => ?_)
  refine byD 18 rfl rfl (by decide) h2 hW (fun μ19 hW => ?_)
  refine byD 19 rfl rfl (by decide) h2 hW (fun μ20 hW => ?_)
  refine byD 20 rfl rfl (by decide) h2 hW (fun μ21 hW => ?_)
  refine byD 21 rfl rfl (by decide) h2 hW (fun μ22 hW => ?_)
  refine byD 22 rfl rfl (by decide) h2 hW (fun μ23 hW => ?_)
  refine byD 23 rfl rfl (by decide) h2 hW (fun μ24 hW => ?_)
  refine byD 24 rfl rfl (by decide) h2 hW (fun μ25 hW => ?_)
  refine byD 25 rfl rfl (by decide) h2 hW (fun μ26 hW => ?_)
  refine byD 26 rfl rfl (by decide) h2 hW (fun μ27 hW => ?_)
  refine byD 27 rfl rfl (by decide) h2 hW (fun μ28 hW => ?_)
  refine byD 28 rfl rfl (by decide) h2 hW (fun μ29 hW => ?_)
  refine byD 29 rfl rfl (by decide) h2 hW (fun μ30 hW => ?_)
  refine byD 30 rfl rfl (by decide) h2 hW (fun μ31 hW => ?_)
  refine byD 31 rfl rfl (by decide) h2 hW (fun μ32 hW => ?_)
  refine byD 32 rfl rfl (by decide) h2 hW (fun μ33 hW => ?_)
  refine byD 33 rfl rfl (by decide) h2 hW (fun μ34 hW => ?_)
  refine byD 34 rfl rfl (by decide) h2 hW (fun μ35 hW => ?_)
  refine byD 35 rfl rfl (by decide) h2 hW (fun μ36 hW => ?_)
  refine byD 36 rfl rfl (by decide) h2 hW (fun μ37 hW => ?_)
  refine byD 37 rfl rfl (by decide) h2 hW (fun μ38 hW => ?_)
  refine byD 38 rfl rfl (by decide) h2 hW (fun μ39 hW => ?_)
  refine byD 39 rfl rfl (by decide) h2 hW (fun μ40 hW => ?_)
  refine byD 40 rfl rfl (by decide) h2 hW (fun μ41 hW => ?_)
  refine byD 41 rfl rfl (by decide) h2 hW (fun μ42 hW => ?_)
  refine byD 42 rfl rfl (by decide) h2 hW (fun μ43 hW => ?_)
  refine byD 43 rfl rfl (by decide) h2 hW (fun μ44 hW => ?_)
  refine byD 44 rfl rfl (by decide) h2 hW (fun μ45 hW => ?_)
  refine byD 45 rfl rfl (by decide) h2 hW (fun μ46 hW => ?_)
  refine byD 46 rfl rfl (by decide) h2 hW (fun μ47 hW => ?_)
  refine byD 47 rfl rfl (by decide) h2 hW (fun μ48 hW => ?_)
  refine byD 48 rfl rfl (by decide) h2 hW (fun μ49 hW => ?_)
  refine byD 49 rfl rfl (by decide) h2 hW (fun μ50 hW => ?_)
  refine byD 50 rfl rfl (by decide) h2 hW (fun μ51 hW => ?_)
  refine byD 51 rfl rfl (by decide) h2 hW (fun μ52 hW => ?_)
  refine byD 52 rfl rfl (by decide) h2 hW (fun μ53 hW => ?_)
  refine byD 53 rfl rfl (by decide) h2 hW (fun μ54 hW => ?_)
  refine byD 54 rfl rfl (by decide) h2 hW (fun μ55 hW => ?_)
  refine byD 55 rfl rfl (by decide) h2 hW (fun μ56 hW => ?_)
  refine byD 56 rfl rfl (by decide) h2 hW (fun μ57 hW => ?_)
  refine byD 57 rfl rfl (by decide) h2 hW (fun μ58 hW => ?_)
  refine byD 58 rfl rfl (by decide) h2 hW (fun μ59 hW => ?_)
  refine byD 59 rfl rfl (by decide) h2 hW (fun μ60 hW => ?_)
  refine byD 60 rfl rfl (by decide) h2 hW (fun μ61 hW => ?_)
  refine byD 61 rfl rfl (by decide) h2 hW (fun μ62 hW => ?_)
  refine byD 62 rfl rfl (by decide) h2 hW (fun μ63 hW => ?_)
  refine byD 63 rfl rfl (by decide) h2 hW (fun μ64 hW => ?_)
  refine byD 64 rfl rfl (by decide) h2 hW (fun μ65 hW => ?_)
  refine byD 65 rfl rfl (by decide) h2 hW (fun μ66 hW => ?_)
  refine byD 66 rfl rfl (by decide) h2 hW (fun μ67 hW => ?_)
  refine byD 67 rfl rfl (by decide) h2 hW (fun μ68 hW => ?_)
  refine byD 68 rfl rfl (by decide) h2 hW (fun μ69 hW => ?_)
  refine byD 69 rfl rfl (by decide) h2 hW (fun μ70 hW => ?_)
  refine byD 70 rfl rfl (by decide) h2 hW (fun μ71 hW => ?_)
  refine byD 71 rfl rfl (by decide) h2 hW (fun μ72 hW => ?_)
  refine byD 72 rfl rfl (by decide) h2 hW (fun μ73 hW => ?_)
  refine byD 73 rfl rfl (by decide) h2 hW (fun μ74 hW => ?_)
  refine byD 74 rfl rfl (by decide) h2 hW (fun μ75 hW => ?_)
  refine byD 75 rfl rfl (by decide) h2 hW (fun μ76 hW => ?_)
  refine byD 76 rfl rfl (by decide) h2 hW (fun μ77 hW => ?_)
  refine byD 77 rfl rfl (by decide) h2 hW (fun μ78 hW => ?_)
  refine byD 78 rfl rfl (by decide) h2 hW (fun μ79 hW => ?_)
  refine byD 79 rfl rfl (by decide) h2 hW (fun μ80 hW => ?_)
  refine byD 80 rfl rfl (by decide) h2 hW (fun μ81 hW => ?_)
  refine byD 81 rfl rfl (by decide) h2 hW (fun μ82 hW => ?_)
  refine byD 82 rfl rfl (by decide) h2 hW (fun μ83 hW => ?_)
  refine byD 83 rfl rfl (by decide) h2 hW (fun μ84 hW => ?_)
  refine byD 84 rfl rfl (by decide) h2 hW (fun μ85 hW => ?_)
  refine byD 85 rfl rfl (by decide) h2 hW (fun μ86 hW => ?_)
  refine byD 86 rfl rfl (by decide) h2 hW (fun μ87 hW => ?_)
  refine byD 87 rfl rfl (by decide) h2 hW (fun μ88 hW => ?_)
  refine byD 88 rfl rfl (by decide) h2 hW (fun μ89 hW => ?_)
  refine byD 89 rfl rfl (by decide) h2 hW (fun μ90 hW => ?_)
  refine byD 90 rfl rfl (by decide) h2 hW (fun μ91 hW => ?_)
  refine byD 91 rfl rfl (by decide) h2 hW (fun μ92 hW => ?_)
  refine byD 92 rfl rfl (by decide) h2 hW (fun μ93 hW => ?_)
  refine byD 93 rfl rfl (by decide) h2 hW (fun μ94 hW => ?_)
  refine byD 94 rfl rfl (by decide) h2 hW (fun μ95 hW => ?_)
  refine byD 95 rfl rfl (by decide) h2 hW (fun μ96 hW => ?_)
  refine byD 96 rfl rfl (by decide) h2 hW (fun μ97 hW => ?_)
  refine byD 97 rfl rfl (by decide) h2 hW (fun μ98 hW => ?_)
  refine byD 98 rfl rfl (by decide) h2 hW (fun μ99 hW => ?_)
  refine byD 99 rfl rfl (by decide) h2 hW (fun μ100 hW => ?_)
  refine byD 100 rfl rfl (by decide) h2 hW (fun μ101 hW => ?_)
  refine byD 101 rfl rfl (by decide) h2 hW (fun μ102 hW => ?_)
  refine byD 102 rfl rfl (by decide) h2 hW (fun μ103 hW => ?_)
  exact h _ hW
def I12 (S : Sh) (μ : Mi) (ρ : Mr) (S' : Sh) (μ' : Mi) (ρ' : Mr) : Prop := S'.1 = 2748 ∧ (∀ y, y < 2737 → S'.2 y = S.2 y ∧ μ' y = μ y ∧ ρ' y = ρ y) ∧ RS S' ρ' ∧ (∃ A, μ' 2738 = qInit A 31) ∧ (μ' 2737 6 = 0 ∧ μ' 2737 14 = 0 ∧ μ' 2737 17 = 0 ∧ μ' 2737 18 = -1 ∧ μ' 2737 19 = 0 ∧ μ' 2737 20 = -1) ∧ (∀ i, i < 2 → μ' 2743 i = 0) ∧ wdOK (μ' 2746)
theorem c12_1 : Int32.toNatClampNeg 13548 = 13548 := by decide
theorem c12_2 : Int32.toNatClampNeg 36128 = 36128 := by decide
theorem c12_3 : Int32.toNatClampNeg 4516 = 4516 := by decide
theorem c12_4 : Int32.toNatClampNeg 18064 = 18064 := by decide
theorem c12_5 : Int32.toNatClampNeg 2 = 2 := by decide
theorem c12_6 : Int32.toNatClampNeg 21 = 21 := by decide
theorem c12_7 : Int32.toNatClampNeg 300 = 300 := by decide
theorem c12_8 : Int32.toNatClampNeg 103 = 103 := by decide
theorem c12_9 : Int32.toNatClampNeg 3 = 3 := by decide
set_option maxHeartbeats 4000000 in
theorem f_X12_init (h1 : S.1 = 2738) (hS : S.2 2737 = (12, 27)) (h0 : μ 2737 = fun _ => 0) (h : ∀ S' μ' ρ', I12 S μ ρ S' μ' ρ' → Rp none S' μ' ρ') : MS Z (d + 3) jX12_init [.ref 2737] S μ ρ Rp := by
  obtain ⟨n, K⟩ := S
  dsimp only at h1 hS
  subst h1
  refine ms_X12_init _ (fun G => ?_)
  rw [w012]
  generalize hWT : wT12 (MS Z (d + 2)) G Rp = WT
  simp only [tAload, tIload, nth, tGetI, tGetR, tConst, tLconst, tBin, tUn, tI2l, tAld, tAldR, tAlen, tIast, tBast, tZast, tAast, tIret, tZret, tVret, tAret, tIf, tIf2, tGoto, tIstore, tAstore, sset, tIinc, tDup, tDup2, tPop, tPutI, tPutZ, tPutR, tCallV, tCallS, popN, tFn, tCopy, tMax, tMin, tSw, swc, tRem, tObjI, Option.toList, List.nil_append, List.cons_append, okR, true_and, and_true, true_or, or_true, Nat.zero_le, ne_eq, not_false_eq_true, Nat.reduceEqDiff, tNewa, c12_1, c12_2, c12_3, c12_4, c12_5, c12_6, c12_7, c12_8]
  repeat' (first | (refine ⟨by decide, ?_⟩) | (refine ⟨by simp [upK, hS], ?_⟩) | fail)
  rw [← hWT]
  refine x12_words (by simp [upK]) (fun μ4 hW => ?_)
  simp only [wE12, tAload, tIload, nth, tGetI, tGetR, tConst, tLconst, tBin, tUn, tI2l, tAld, tAldR, tAlen, tIast, tBast, tZast, tAast, tIret, tZret, tVret, tAret, tIf, tIf2, tGoto, tIstore, tAstore, sset, tIinc, tDup, tDup2, tPop, tPutI, tPutZ, tPutR, tCallV, tCallS, popN, tFn, tCopy, tMax, tMin, tSw, swc, tRem, tObjI, Option.toList, List.nil_append, List.cons_append, okR, true_and, and_true, true_or, or_true, Nat.zero_le, ne_eq, not_false_eq_true, Nat.reduceEqDiff, tNewa, c12_9, F_X12_laysAll]
  repeat' (first | (refine ⟨by decide, ?_⟩) | (refine ⟨by unfold RS; simp [upK, upR, upF, hS], ?_⟩) | (refine ⟨rfl, ?_⟩) | (refine ⟨by simp [upK, hS], ?_⟩) | fail)
  refine h _ _ _ ⟨rfl, fun y hy => ⟨?_, ?_, ?_⟩, by unfold RS; simp [upK, upR, upF, hS], ⟨_, upF_same⟩, ?_, fun i hi => ?_, fun i hi => ?_⟩
  · simp (disch := omega) only [upK_ne]
  · rw [upF_ne (by omega), upF_ne (by omega), hW.2 y (by omega)]
    simp (disch := omega) only [upF_ne, upI_ne]
  · simp (disch := omega) only [upFr_ne, upR_ne]
  · rw [upF_ne (by omega), upF_ne (by omega), hW.2 2737 (by omega), upF_ne (by omega)]
    simp (disch := omega) only [upI_k, upI_at, upF_ne, h0]
    simp
  · rw [upF_ne (by omega), upF_ne (by omega), hW.2 2743 (by omega), upF_ne (by omega), upI_ne (by omega), upI_ne (by omega)]
    simp (disch := omega) only [upF_ne, upF_same]
  · rw [upF_ne (by omega), upF_ne (by omega)]; exact hW.1 i hi
end Mk8
