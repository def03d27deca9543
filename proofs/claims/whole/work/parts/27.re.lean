/-! ===== the reference: roles, terms, members ===== -/
def qPlays (A : Rw) (s : Nat) (r : Int32) : Rw :=
  if A (514 * s + 3) = r then A else if A (514 * s + 11) = 1 then qReadsNothing (up (up A (514 * s + 3) r) (514 * s + 8) 0) s else up (up A (514 * s + 3) r) (514 * s + 8) 0
def F_X12_plays : FT := fun As S μ ρ k => match As with
  | [.ref a, .int s, .int r] => a = 2737 ∧ RS S ρ ∧ rg s 0 4 ∧ k none (upF μ 2738 (qPlays (μ 2738) s.toNatClampNeg r))
  | _ => False
theorem r_X12_plays {As S μ ρ k} (h : F_X12_plays As S μ ρ k) : ∃ a As', As = Value.ref a :: As' ∧ S.2 a = (12, 27) := by
  unfold F_X12_plays at h
  split at h
  · exact ⟨_, _, rfl, by rw [h.1]; exact h.2.1.1⟩
  · exact h.elim
set_option maxHeartbeats 1000000 in
theorem f_X12_plays {Z : Zt} {d : Nat} {As : List Value} {S : Sh} {μ : Mi} {ρ : Mr} {Rp : RT} (h : F_X12_plays As S μ ρ (fun r μ' => Rp r S μ' ρ)) : MS Z (d + 3) jX12_plays As S μ ρ Rp := by
  unfold F_X12_plays at h
  split at h
  · rename_i a s r
    obtain ⟨rfl, hS, h⟩ := h
    have hS0 := hS
    unfold RS at hS
    obtain ⟨h1, h⟩ := h
    obtain ⟨s, rfl, hs0, -, hs⟩ := rg_ex h1
    have h4 := rg_T (lo := 0) (hi := 4) (n := s) (by omega) (by omega) hs0
    simp (disch := omega) only [nI_clamp] at h
    refine ms_X12_plays _ _ _ (fun G => ?_)
    simp only [w_X12_plays_0, w_X12_plays_11, w_X12_plays_42, tAload, tIload, nth, tGetI, tGetR, tConst, tLconst, tBin, tUn, tI2l, tAld, tAldR, tAlen, tIast, tBast, tZast, tAast, tIret, tZret, tVret, tAret, tIf, tIf2, tGoto, tIstore, tAstore, sset, tIinc, tDup, tDup2, tPop, tPutI, tPutZ, tPutR, tCallV, tCallS, popN, tFn, tCopy, tMax, tMin, tSw, swc, tRem, tObjI, Option.toList, List.nil_append, List.cons_append, okR, true_and, and_true, true_or, or_true, Nat.zero_le, ne_eq, not_false_eq_true, Nat.reduceEqDiff, F_X12_of, F_X12_lays, F_X12_readsNothing, hS0, h4, upF_same, upF_upF]
    simp (disch := omega) only [ixs 3 3 rfl, ixs 8 8 rfl, ixs 11 11 rfl, nI_clamp, nI_inb]
    have e11 : up (up (μ 2738) (514 * s + 3) r) (514 * s + 8) 0 (514 * s + 11) = μ 2738 (514 * s + 11) := by unfold up; rw [if_neg (by omega), if_neg (by omega)]
    rw [e11]
    refine ⟨by omega, fun hc => ⟨by omega, by omega, by omega, fun h2 => ?_, fun h2 => ?_⟩, fun hc => ?_⟩
    · simpa only [qPlays, hc, h2, if_false] using h
    · simp only [Decidable.not_not] at h2
      simpa only [qPlays, hc, h2, if_false, if_true] using h
    · simp only [Decidable.not_not] at hc
      simp only [qPlays, hc, if_true, upF_id] at h
      exact h
  · exact h.elim
def qTermAt (A : Rw) (s : Nat) (p : Int32) : Int32 :=
  if p = A (514 * s + 5) then A (514 * s + 6) else if (A (514 * s + 5)).toInt < p.toInt ∧ p.toInt ≤ (A (514 * s + 4)).toInt then A (514 * s + 30 + 4 * p.toNatClampNeg) else -1
def F_X12_termAt : FT := fun As S μ ρ k => match As with
  | [.ref a, .int s, .int p] => a = 2737 ∧ RS S ρ ∧ rg s 0 4 ∧ rg (μ 2738 (514 * s.toNatClampNeg + 4)) 0 120 ∧ rg (μ 2738 (514 * s.toNatClampNeg + 5)) 0 120 ∧ k (some (.int (qTermAt (μ 2738) s.toNatClampNeg p))) μ
  | _ => False
theorem r_X12_termAt {As S μ ρ k} (h : F_X12_termAt As S μ ρ k) : ∃ a As', As = Value.ref a :: As' ∧ S.2 a = (12, 27) := by
  unfold F_X12_termAt at h
  split at h
  · exact ⟨_, _, rfl, by rw [h.1]; exact h.2.1.1⟩
  · exact h.elim
set_option maxHeartbeats 1000000 in
theorem f_X12_termAt {Z : Zt} {d : Nat} {As : List Value} {S : Sh} {μ : Mi} {ρ : Mr} {Rp : RT} (h : F_X12_termAt As S μ ρ (fun r μ' => Rp r S μ' ρ)) : MS Z (d + 3) jX12_termAt As S μ ρ Rp := by
  unfold F_X12_termAt at h
  split at h
  · rename_i a s p
    obtain ⟨rfl, hS, h⟩ := h
    have hS0 := hS
    unfold RS at hS
    obtain ⟨h1, h2, h3, h⟩ := h
    obtain ⟨s, rfl, hs0, -, hs⟩ := rg_ex h1
    have h4 := rg_T (lo := 0) (hi := 4) (n := s) (by omega) (by omega) hs0
    simp (disch := omega) only [nI_clamp] at h h2 h3
    refine ms_X12_termAt _ _ _ (fun G => ?_)
    simp only [w_X12_termAt_0, w_X12_termAt_18, w_X12_termAt_52, w_X12_termAt_53, tAload, tIload, nth, tGetI, tGetR, tConst, tLconst, tBin, tUn, tI2l, tAld, tAldR, tAlen, tIast, tBast, tZast, tAast, tIret, tZret, tVret, tAret, tIf, tIf2, tGoto, tIstore, tAstore, sset, tIinc, tDup, tDup2, tPop, tPutI, tPutZ, tPutR, tCallV, tCallS, popN, tFn, tCopy, tMax, tMin, tSw, swc, tRem, tObjI, Option.toList, List.nil_append, List.cons_append, okR, true_and, and_true, true_or, or_true, Nat.zero_le, ne_eq, not_false_eq_true, Nat.reduceEqDiff, F_X12_of, F_X12_within, F_X12_ofEntry, hS0, h4]
    simp (disch := omega) only [ixs 4 4 rfl, ixs 5 5 rfl, ixs 6 6 rfl, nI_clamp, nI_inb, l_le]
    rw [snap1 h3]
    refine ⟨by omega, fun hc => ⟨by omega, by omega, fun h5 => ?_, fun h5 => ?_⟩, fun hc => ⟨by omega, ?_⟩⟩
    · have h6 : ¬ ((μ 2738 (514 * s + 5)).toInt < p.toInt ∧ p.toInt ≤ (μ 2738 (514 * s + 4)).toInt) := by
        intro z
        have z2 : (μ 2738 (514 * s + 5)).toInt + 1 ≤ p.toInt ∧ p.toInt ≤ (μ 2738 (514 * s + 4)).toInt := by omega
        simp [b2, z2] at h5
      simpa only [qTermAt, hc, h6, if_false] using h
    · have h6 : (μ 2738 (514 * s + 5)).toInt < p.toInt ∧ p.toInt ≤ (μ 2738 (514 * s + 4)).toInt := by
        by_cases z2 : (μ 2738 (514 * s + 5)).toInt + 1 ≤ p.toInt ∧ p.toInt ≤ (μ 2738 (514 * s + 4)).toInt
        · omega
        · simp [b2, z2] at h5
      refine ⟨⟨?_, ?_⟩, ⟨by decide, by decide⟩, ?_⟩
      · have := h3.1; omega
      · have := h2.2; omega
      · simpa only [qTermAt, hc, h6, and_self, if_false, if_true, cl_0, Nat.add_zero] using h
    · simp only [Decidable.not_not] at hc
      simpa only [qTermAt, hc, if_true] using h
  · exact h.elim
/-- the members by a log up to a place: two sets (the second 0: none), kind and place of the entry that tells them -/
def qBase (A : Rw) (s : Nat) : Int32 × Int32 × Int32 × Int32 := (if A (514 * s + 9) = 0 then A 4514 else A (514 * s + 9), A (514 * s + 10), 0, 0)
def qCfg (A : Rw) (s : Nat) : Nat → Int32 × Int32 × Int32 × Int32 := fun p => match p with
  | 0 => qBase A s
  | p + 1 => if nI (p + 1) ≤ A (514 * s + 5) then qBase A s else if A (514 * s + 30 + 4 * (p + 1) + 1) = 3 ∨ A (514 * s + 30 + 4 * (p + 1) + 1) = 4 then
      (A (514 * s + 30 + 4 * (p + 1) + 2), if A (514 * s + 30 + 4 * (p + 1) + 1) = 3 then A (514 * s + 30 + 4 * (p + 1) + 3) else 0, A (514 * s + 30 + 4 * (p + 1) + 1), nI (p + 1)) else qCfg A s p
def setM (μ : Mi) (t : Int32 × Int32 × Int32 × Int32) : Mi := upF μ 2737 (fun i => if i = 8 then t.1 else if i = 9 then t.2.1 else if i = 10 then t.2.2.1 else if i = 11 then t.2.2.2 else μ 2737 i)
theorem upI_at {μ : Mi} {a k : Nat} {x : Int32} : upI μ a k x a k = x := by simp [upI]
theorem upI_upI {μ : Mi} {a k : Nat} {x y : Int32} : upI (upI μ a k x) a k y = upI μ a k y := by funext b i; unfold upI; by_cases h : b = a <;> by_cases h2 : i = k <;> simp [h, h2]
theorem upI_k {μ : Mi} {a k i : Nat} {x : Int32} (h : i ≠ k) : upI μ a k x a i = μ a i := by simp [upI, h]
theorem setM_up (μ : Mi) (a b c d : Int32) : upI (upI (upI (upI μ 2737 10 c) 2737 11 d) 2737 8 a) 2737 9 b = setM μ (a, b, c, d) := by
  funext x i
  unfold setM upF upI
  by_cases hx : x = 2737
  · subst hx
    by_cases i8 : i = 8
    · subst i8; simp
    · by_cases i9 : i = 9
      · subst i9; simp
      · by_cases i10 : i = 10
        · subst i10; simp
        · by_cases i11 : i = 11
          · subst i11; simp
          · simp [i8, i9, i10, i11]
  · simp [hx]
def F_X12_laysMembersUpTo : FT := fun As S μ ρ k => match As with
  | [.ref a, .int s, .int l] => a = 2737 ∧ RS S ρ ∧ rg s 0 4 ∧ rg l 0 120 ∧ rg (μ 2738 (514 * s.toNatClampNeg + 5)) 0 120 ∧ k none (setM μ (qCfg (μ 2738) s.toNatClampNeg l.toNatClampNeg))
  | _ => False
theorem r_X12_laysMembersUpTo {As S μ ρ k} (h : F_X12_laysMembersUpTo As S μ ρ k) : ∃ a As', As = Value.ref a :: As' ∧ S.2 a = (12, 27) := by
  unfold F_X12_laysMembersUpTo at h
  split at h
  · exact ⟨_, _, rfl, by rw [h.1]; exact h.2.1.1⟩
  · exact h.elim
set_option maxHeartbeats 1000000 in
theorem f_X12_laysMembersUpTo {Z : Zt} {d : Nat} {As : List Value} {S : Sh} {μ : Mi} {ρ : Mr} {Rp : RT} (h : F_X12_laysMembersUpTo As S μ ρ (fun r μ' => Rp r S μ' ρ)) : MS Z (d + 3) jX12_laysMembersUpTo As S μ ρ Rp := by
  unfold F_X12_laysMembersUpTo at h
  split at h
  · rename_i a s l
    obtain ⟨rfl, hS, h⟩ := h
    have hS0 := hS
    unfold RS at hS
    obtain ⟨h1, h2, h3, h⟩ := h
    obtain ⟨s, rfl, hs0, -, hs⟩ := rg_ex h1
    obtain ⟨l, rfl, hl0, -, hl⟩ := rg_ex h2
    have h4 := rg_T (lo := 0) (hi := 4) (n := s) (by omega) (by omega) hs0
    simp (disch := omega) only [nI_clamp] at h h3
    refine ms_X12_laysMembersUpTo _ _ _ (fun G g2 => ?_)
    simp only [w_X12_laysMembersUpTo_0, tAload, tIload, nth, tGetI, tGetR, tConst, tLconst, tBin, tUn, tI2l, tAld, tAldR, tAlen, tIast, tBast, tZast, tAast, tIret, tZret, tVret, tAret, tIf, tIf2, tGoto, tIstore, tAstore, sset, tIinc, tDup, tDup2, tPop, tPutI, tPutZ, tPutR, tCallV, tCallS, popN, tFn, tCopy, tMax, tMin, tSw, swc, tRem, tObjI, Option.toList, List.nil_append, List.cons_append, okR, true_and, and_true, true_or, or_true, Nat.zero_le, ne_eq, not_false_eq_true, Nat.reduceEqDiff]
    have ne8 : ∀ (ν : Mi) (k : Nat) (x : Int32), upI ν 2737 k x 2738 = ν 2738 := fun ν k x => upI_ne (by decide)
    have e0 : μ = upI μ 2737 10 (μ 2737 10) := by funext x i; unfold upI; by_cases hx : x = 2737 <;> by_cases hi : i = 10 <;> simp [hx, hi]
    have base : ∀ (p : Nat) (v : Int32), Rp none S (setM μ (qBase (μ 2738) s)) ρ → w_X12_laysMembersUpTo_88 (MS Z (d + 2)) G Rp [.ref 2737, .int (nI s), .int (nI l), .int (nI p)] [] S (0, 0) (upI μ 2737 10 v) ρ := by
      intro p v hQ
      simp only [w_X12_laysMembersUpTo_88, w_X12_laysMembersUpTo_120, w_X12_laysMembersUpTo_127, tAload, tIload, nth, tGetI, tGetR, tConst, tLconst, tBin, tUn, tI2l, tAld, tAldR, tAlen, tIast, tBast, tZast, tAast, tIret, tZret, tVret, tAret, tIf, tIf2, tGoto, tIstore, tAstore, sset, tIinc, tDup, tDup2, tPop, tPutI, tPutZ, tPutR, tCallV, tCallS, popN, tFn, tCopy, tMax, tMin, tSw, swc, tRem, tObjI, Option.toList, List.nil_append, List.cons_append, okR, true_and, and_true, true_or, or_true, Nat.zero_le, ne_eq, not_false_eq_true, Nat.reduceEqDiff, F_X12_of, hS0, hS, ne8]
      simp (disch := omega) only [ixs 9 9 rfl, ixs 10 10 rfl, nI_clamp, nI_inb, cl_4514]
      have b1 : inb 4514 13548 := inb_nI (k := 4514) (by decide) (by decide)
      refine ⟨by omega, fun hc => ⟨by omega, by omega, ?_⟩, fun hc => ⟨b1, by omega, ?_⟩⟩
      · unfold qBase at hQ
        rw [if_neg hc] at hQ
        rw [upI_upI, setM_up]
        exact hQ
      · simp only [Decidable.not_not] at hc
        unfold qBase at hQ
        rw [if_pos hc] at hQ
        rw [upI_upI, setM_up]
        exact hQ
    have loop : ∀ (p : Nat) (v : Int32), p ≤ l → Rp none S (setM μ (qCfg (μ 2738) s p)) ρ → G 2 [.ref 2737, .int (nI s), .int (nI l), .int (nI p)] [] S (0, 0) (upI μ 2737 10 v) ρ := by
      intro p
      induction p with
      | zero =>
        intro v hp hQ
        refine g2 _ _ _ _ _ _ ?_
        simp only [w_X12_laysMembersUpTo_2, tAload, tIload, nth, tGetI, tGetR, tConst, tLconst, tBin, tUn, tI2l, tAld, tAldR, tAlen, tIast, tBast, tZast, tAast, tIret, tZret, tVret, tAret, tIf, tIf2, tGoto, tIstore, tAstore, sset, tIinc, tDup, tDup2, tPop, tPutI, tPutZ, tPutR, tCallV, tCallS, popN, tFn, tCopy, tMax, tMin, tSw, swc, tRem, tObjI, Option.toList, List.nil_append, List.cons_append, okR, true_and, and_true, true_or, or_true, Nat.zero_le, ne_eq, not_false_eq_true, Nat.reduceEqDiff, F_X12_of, hS0, ne8]
        simp (disch := omega) only [ixs 5 5 rfl, nI_clamp, nI_inb]
        refine ⟨by omega, fun hc => base 0 v hQ, fun hc => absurd ?_ hc⟩
        rw [Int32.le_iff_toInt_le, nI_toInt (by decide)]
        exact h3.1
      | succ p ih =>
        intro v hp hQ
        refine g2 _ _ _ _ _ _ ?_
        have hr : rg (nI (p + 1)) 1 120 = True := rg_T (by omega) (by omega) (by omega)
        have hr1 : rg 1 0 3 = True := eq_true ⟨by decide, by decide⟩
        have hr2 : rg 2 0 3 = True := eq_true ⟨by decide, by decide⟩
        have hr3 : rg 3 0 3 = True := eq_true ⟨by decide, by decide⟩
        simp only [w_X12_laysMembersUpTo_2, w_X12_laysMembersUpTo_42, w_X12_laysMembersUpTo_77, w_X12_laysMembersUpTo_78, w_X12_laysMembersUpTo_82, tAload, tIload, nth, tGetI, tGetR, tConst, tLconst, tBin, tUn, tI2l, tAld, tAldR, tAlen, tIast, tBast, tZast, tAast, tIret, tZret, tVret, tAret, tIf, tIf2, tGoto, tIstore, tAstore, sset, tIinc, tDup, tDup2, tPop, tPutI, tPutZ, tPutR, tCallV, tCallS, popN, tFn, tCopy, tMax, tMin, tSw, swc, tRem, tObjI, Option.toList, List.nil_append, List.cons_append, okR, true_and, and_true, true_or, or_true, Nat.zero_le, ne_eq, not_false_eq_true, Nat.reduceEqDiff, F_X12_of, F_X12_ofEntry, hS0, hS, ne8, h4, hr, hr1, hr2, hr3, upI_at]
        simp (disch := omega) only [ixs 5 5 rfl, nI_clamp, nI_inb, cl_1, cl_2, cl_3, pk_m1]
        refine ⟨by omega, fun hc => base (p + 1) v ?_, fun hc => ⟨fun k3 => ?_, fun k3 => ⟨fun k4 => ?_, fun k4 => ?_⟩⟩⟩
        · simpa only [qCfg, hc, if_true] using hQ
        · have e10 : ∀ (x y : Int32), upI (upI (upI (upI μ 2737 10 v) 2737 10 (μ 2738 (514 * s + 30 + 4 * (p + 1) + 1))) 2737 11 x) 2737 8 y 2737 10 = μ 2738 (514 * s + 30 + 4 * (p + 1) + 1) := by
            intro x y; rw [upI_k (by decide), upI_k (by decide), upI_at]
          rw [e10, upI_upI, setM_up, setM_up]
          refine ⟨fun z => ?_, fun z => ?_⟩
          · exact absurd k3 z
          · simpa only [qCfg, hc, k3, true_or, if_true, if_false] using hQ
        · have e10 : ∀ (x y : Int32), upI (upI (upI (upI μ 2737 10 v) 2737 10 (μ 2738 (514 * s + 30 + 4 * (p + 1) + 1))) 2737 11 x) 2737 8 y 2737 10 = μ 2738 (514 * s + 30 + 4 * (p + 1) + 1) := by
            intro x y; rw [upI_k (by decide), upI_k (by decide), upI_at]
          rw [e10, upI_upI, setM_up, setM_up]
          refine ⟨fun z => ?_, fun z => ?_⟩
          · simpa only [qCfg, hc, k3, k4, or_true, if_true, if_false, show ¬ ((4 : Int32) = 3) from by decide] using hQ
          · exact absurd k3 z
        · rw [upI_upI]
          exact ih _ (by omega) (by simpa only [qCfg, hc, k3, k4, or_self, if_false] using hQ)
    rw [e0]
    exact loop l _ (Nat.le_refl _) h
  · exact h.elim
