/-! ===== the reference: agrees ===== -/
set_option maxHeartbeats 2000000 in
theorem agr_core {Z : Zt} {d : Nat} {S : Sh} {μ : Mi} {ρ : Mr} {Rp : RT} {s : Nat} (hs : s < 5) (hS0 : RS S ρ) (t0 : T4) (A : Rw) (ha : agOK A s)
    (rec : leaves A s → ∀ (t1 : T4) (Rq : RT), (∀ t : T4, Rq none S (M3 μ t (qAgr0 (qJoin A s) s)) ρ) → MS Z (d + 5) jX12_agrees [.ref 2737, .int (nI s)] S (M3 μ t1 (qJoin A s)) ρ Rq)
    (h : ∀ t : T4, Rp none S (M3 μ t (qAgr A s)) ρ) : MS Z (d + 6) jX12_agrees [.ref 2737, .int (nI s)] S (M3 μ t0 A) ρ Rp := by
  have hS := hS0
  unfold RS at hS
  have hrs := rg_T (lo := 0) (hi := 4) (n := s) (by omega) (by omega) (by omega)
  obtain ⟨⟨k1, k2, k3, k4⟩, hg, hop⟩ := id ha
  refine ms_X12_agrees _ _ (fun G g12 => ?_)
  simp only [w_X12_agrees_0, tAload, tIload, nth, tGetI, tGetR, tConst, tLconst, tBin, tUn, tI2l, tAld, tAldR, tAlen, tIast, tBast, tZast, tAast, tIret, tZret, tVret, tAret, tIf, tIf2, tGoto, tIstore, tAstore, sset, tIinc, tDup, tDup2, tPop, tPutI, tPutZ, tPutR, tCallV, tCallS, popN, tFn, tCopy, tMax, tMin, tSw, swc, tRem, tObjI, Option.toList, List.nil_append, List.cons_append, okR, true_and, and_true, true_or, or_true, Nat.zero_le, ne_eq, not_false_eq_true, Nat.reduceEqDiff, F_X12_laysMembers, F_X12_of, hS0, hrs, M3_row, M3_setM]
  simp (disch := omega) only [ixs 4 4 rfl, nI_clamp, nI_inb]
  refine ⟨k2, k3, by omega, ?_⟩
  -- the end: members anew, and it may step down
  have fin : ∀ (B : Rw) (t1 : T4) (v : Value), agOK B s → (∀ t : T4, Rp none S (M3 μ t (qFin B s)) ρ) → w_X12_agrees_123 (MS Z (d + 5)) G Rp [.ref 2737, .int (nI s), v] [] S (0, 0) (M3 μ t1 B) ρ := by
    intro B t1 v hB hQ
    simp only [w_X12_agrees_123, w_X12_agrees_166, tAload, tIload, nth, tGetI, tGetR, tConst, tLconst, tBin, tUn, tI2l, tAld, tAldR, tAlen, tIast, tBast, tZast, tAast, tIret, tZret, tVret, tAret, tIf, tIf2, tGoto, tIstore, tAstore, sset, tIinc, tDup, tDup2, tPop, tPutI, tPutZ, tPutR, tCallV, tCallS, popN, tFn, tCopy, tMax, tMin, tSw, swc, tRem, tObjI, Option.toList, List.nil_append, List.cons_append, okR, true_and, and_true, true_or, or_true, Nat.zero_le, ne_eq, not_false_eq_true, Nat.reduceEqDiff, F_X12_laysMembers, F_X12_of, F_X12_has, F_X12_plays, hS0, hS, hrs, M3_row, M3_setM, M3_8, M3_9, M3_11, M3_upF, b2_z, Decidable.not_not]
    simp (disch := omega) only [ixs 7 7 rfl, nI_clamp, nI_inb]
    refine ⟨hB.1.2.1, hB.1.2.2.1, fun c1 => ?_, fun c1 => ⟨by omega, fun c2 => ?_, fun c2 => ⟨fun c3 => ?_, fun c3 => ?_⟩⟩⟩
    · have := hQ (qMem B s); simpa only [qFin, c1, false_and, if_false] using this
    · have := hQ (qMem B s); simpa only [qFin, c2, not_true, false_and, and_false, if_false] using this
    · have := hQ (qMem B s); simpa only [qFin, c3, not_true, and_false, if_false] using this
    · have := hQ (qMem B s); simpa only [qFin, c1, c2, c3, not_false_eq_true, and_self, if_true] using this
  -- what is agreed is done
  have mid : w_X12_agrees_58 (MS Z (d + 5)) G Rp [.ref 2737, .int (nI s), .int (nI (qTop A s (A (514 * s + 4)).toNatClampNeg))] [] S (0, 0) (M3 μ (qMem A s) A) ρ := by
    have ht := top_ok ha
    have hrt : rg (nI (qTop A s (A (514 * s + 4)).toNatClampNeg)) 0 120 = True := eq_true ht.1
    have hb : qTop A s (A (514 * s + 4)).toNatClampNeg < 2 ^ 31 := by
      have := qTop_le (A := A) (s := s) (A (514 * s + 4)).toNatClampNeg
      obtain ⟨l, el, el0, -, el1⟩ := rg_ex k2
      rw [el, nI_clamp el0] at this ⊢
      omega
    have h1 := agOK_1 hs ha
    have hop2 : opOK A s (A (514 * s + 7)).toNatClampNeg (qTop A s (A (514 * s + 4)).toNatClampNeg) := fun p p1 p2 => hop p p1 (Nat.le_trans p2 (qTop_le _))
    simp only [w_X12_agrees_58, tAload, tIload, nth, tGetI, tGetR, tConst, tLconst, tBin, tUn, tI2l, tAld, tAldR, tAlen, tIast, tBast, tZast, tAast, tIret, tZret, tVret, tAret, tIf, tIf2, tGoto, tIstore, tAstore, sset, tIinc, tDup, tDup2, tPop, tPutI, tPutZ, tPutR, tCallV, tCallS, popN, tFn, tCopy, tMax, tMin, tSw, swc, tRem, tObjI, Option.toList, List.nil_append, List.cons_append, okR, true_and, and_true, true_or, or_true, Nat.zero_le, ne_eq, not_false_eq_true, Nat.reduceEqDiff, F_X12_does, F_X12_of, F_X12_comesToLog, F_X12_feedsAll, hS0, hS, hrs, hrt, M3_row, M3_setM, M3_upF, M3_9, M3_11]
    simp (disch := omega) only [ixs 7 7 rfl, ixs 4 4 rfl, ixs 1 1 rfl, nI_clamp, nI_inb]
    refine ⟨hg, hop2, ?_⟩
    show (_ → _) ∧ (_ → _)
    rw [show qDoes A s (nI (qTop A s (A (514 * s + 4)).toNatClampNeg)) = qAgr1 A s from rfl]
    have nl : ¬ leaves A s → ∀ v t1, w_X12_agrees_123 (MS Z (d + 5)) G Rp [.ref 2737, .int (nI s), v] [] S (0, 0) (M3 μ t1 (qAgr1 A s)) ρ := by
      intro hn v t1
      refine fin _ t1 v h1 (fun t => ?_)
      have := h t
      unfold qAgr at this
      rw [if_neg hn] at this
      exact this
    refine ⟨fun c1 => nl (fun z => z.1 c1) _ _, fun c1 => ⟨by omega, fun c2 => nl (fun z => z.2.1 c2) _ _, fun c2 => ⟨by omega, fun c3 => nl (fun z => absurd z.2.2 (Int32.not_lt.mpr c3)) _ _, fun c3 => ⟨by omega, ?_, ?_⟩⟩⟩⟩
    · obtain ⟨l, el, el0, -, el1⟩ := rg_ex h1.1.2.1
      have c4 := Int32.not_le.mp c3
      rw [el, show (120 : Int32) = nI 120 from rfl, nI_ltI el0 (by decide)] at c4
      rw [el, rg_nI el0]
      omega
    · have hlv : leaves A s := ⟨c1, c2, Int32.not_le.mp c3⟩
      have hj := agOK_join hs ha hlv.2.2
      have hput : sdOK (qPut (qAgr1 A s) s ((qAgr1 A s) (514 * s + 1)) 4 (qMem A s).2.1 0) s := by
        refine (agOK_put hs h1 ?_ (fun z => by rcases z with z | z <;> exact absurd z (by decide))).1
        obtain ⟨l, el, el0, -, el1⟩ := rg_ex h1.1.2.1
        have c4 := Int32.not_le.mp c3
        rw [el, show (120 : Int32) = nI 120 from rfl, nI_ltI el0 (by decide)] at c4
        rw [el, rg_nI el0]
        omega
      refine ⟨hput, ?_⟩
      refine rec hlv _ _ (fun t => ?_)
      simp only [tAload, tIload, nth, tGetI, tGetR, tConst, tLconst, tBin, tUn, tI2l, tAld, tAldR, tAlen, tIast, tBast, tZast, tAast, tIret, tZret, tVret, tAret, tIf, tIf2, tGoto, tIstore, tAstore, sset, tIinc, tDup, tDup2, tPop, tPutI, tPutZ, tPutR, tCallV, tCallS, popN, tFn, tCopy, tMax, tMin, tSw, swc, tRem, tObjI, Option.toList, List.nil_append, List.cons_append, okR, true_and, and_true, true_or, or_true, Nat.zero_le, ne_eq, not_false_eq_true, Nat.reduceEqDiff]
      refine fin _ t _ (agOK_0 hs hj) (fun t' => ?_)
      have := h t'
      unfold qAgr at this
      rw [if_pos hlv] at this
      exact this
  have loop : ∀ T : Nat, w_X12_agrees_58 (MS Z (d + 5)) G Rp [.ref 2737, .int (nI s), .int (nI T)] [] S (0, 0) (M3 μ (qMem A s) A) ρ → ∀ p, p ≤ 120 → qTop A s p = T → G 12 [.ref 2737, .int (nI s), .int (nI p)] [] S (0, 0) (M3 μ (qMem A s) A) ρ := by
    intro T mid p
    induction p with
    | zero =>
      intro _ hq
      refine g12 _ _ _ _ _ _ ?_
      simp only [w_X12_agrees_12, tAload, tIload, nth, tGetI, tGetR, tConst, tLconst, tBin, tUn, tI2l, tAld, tAldR, tAlen, tIast, tBast, tZast, tAast, tIret, tZret, tVret, tAret, tIf, tIf2, tGoto, tIstore, tAstore, sset, tIinc, tDup, tDup2, tPop, tPutI, tPutZ, tPutR, tCallV, tCallS, popN, tFn, tCopy, tMax, tMin, tSw, swc, tRem, tObjI, Option.toList, List.nil_append, List.cons_append, okR, true_and, and_true, true_or, or_true, Nat.zero_le, ne_eq, not_false_eq_true, Nat.reduceEqDiff, F_X12_of, hS0, M3_row]
      simp (disch := omega) only [ixs 7 7 rfl, nI_clamp, nI_inb]
      refine ⟨by omega, fun _ => ?_, fun z => absurd ?_ z⟩
      · rw [← hq] at mid
        exact mid
      · rw [Int32.le_iff_toInt_le, nI_toInt (by decide)]
        exact hg.1
    | succ p ih =>
      intro hp hq
      refine g12 _ _ _ _ _ _ ?_
      have hrp : rg (nI (p + 1)) 1 120 = True := rg_T (by omega) (by omega) (by omega)
      have hr0 : rg 0 0 3 = True := eq_true ⟨by decide, by decide⟩
      simp only [w_X12_agrees_12, w_X12_agrees_52, tAload, tIload, nth, tGetI, tGetR, tConst, tLconst, tBin, tUn, tI2l, tAld, tAldR, tAlen, tIast, tBast, tZast, tAast, tIret, tZret, tVret, tAret, tIf, tIf2, tGoto, tIstore, tAstore, sset, tIinc, tDup, tDup2, tPop, tPutI, tPutZ, tPutR, tCallV, tCallS, popN, tFn, tCopy, tMax, tMin, tSw, swc, tRem, tObjI, Option.toList, List.nil_append, List.cons_append, okR, true_and, and_true, true_or, or_true, Nat.zero_le, ne_eq, not_false_eq_true, Nat.reduceEqDiff, F_X12_of, F_X12_ofEntry, F_X12_having, F_X12_isMajority, hS0, hrs, hrp, hr0, M3_row, M3_8, M3_9, b2_z, Decidable.not_not]
      simp (disch := omega) only [ixs 7 7 rfl, ixs 1 1 rfl, nI_clamp, nI_inb, cl_0, Nat.add_zero, pk_m1]
      unfold qTop at hq
      refine ⟨by omega, fun c1 => ?_, fun c1 => ⟨by omega, fun c2 => ?_, fun c2 => ⟨fun c3 => ?_, fun c3 => ?_⟩⟩⟩
      · rw [if_pos (Int32.not_lt.mpr c1)] at hq
        rw [← hq] at mid
        exact mid
      · rw [if_neg (not_not_intro (Int32.not_le.mp c1)), if_neg (fun z => c2 z.1)] at hq
        exact ih (by omega) hq
      · rw [if_neg (not_not_intro (Int32.not_le.mp c1)), if_pos ⟨c2, c3⟩] at hq
        rw [← hq] at mid
        exact mid
      · rw [if_neg (not_not_intro (Int32.not_le.mp c1)), if_neg (fun z => c3 z.2)] at hq
        exact ih (by omega) hq
  obtain ⟨l, el, el0, -, el1⟩ := rg_ex k2
  have hl := loop _ mid l (by omega) (by rw [el, nI_clamp el0])
  rw [el]
  exact hl
/-- behind NEW it doesn't leave again -/
theorem join_stays {A : Rw} {s : Nat} (hs : s < 5) (ha : agOK A s) (hsl : (A (514 * s + 5)).toInt ≤ (A (514 * s + 4)).toInt) (hl : leaves A s) : ¬ leaves (qJoin A s) s := by
  intro z
  apply z.1
  have h1 := agOK_1 hs ha
  have ho : ∀ i, (i < 514 * s + 16 ∨ 514 * s + 20 ≤ i) → (i < 3830 ∨ 4310 ≤ i) → i ≠ 514 * s + 7 → qAgr1 A s i = A i := fun i q1 q2 q3 => qDoes_out hs ha (top_ok ha).1 (Or.inl (top_ok ha).2) q1 q2 q3
  obtain ⟨l, el, el0, -, el1⟩ := rg_ex ha.1.2.1
  have e4 : qAgr1 A s (514 * s + 4) = nI l := by rw [ho _ (by omega) (by omega) (by omega)]; exact el
  have e5 : qAgr1 A s (514 * s + 5) = A (514 * s + 5) := ho _ (by omega) (by omega) (by omega)
  have hl120 : l < 120 := by
    have := hl.2.2
    rw [e4, show (120 : Int32) = nI 120 from rfl, nI_ltI el0 (by decide)] at this
    exact this
  have hput : agOK (qPut (qAgr1 A s) s ((qAgr1 A s) (514 * s + 1)) 4 (qMem A s).2.1 0) s := agOK_put hs h1 (by rw [e4, rg_nI el0]; omega) (fun z => by rcases z with z | z <;> exact absurd z (by decide))
  have em : qMem (qJoin A s) s = qMem (qPut (qAgr1 A s) s ((qAgr1 A s) (514 * s + 1)) 4 (qMem A s).2.1 0) s := qMem_lo hs hput.1.2.1 (fun i _ hi => qFeedsAll_lo (by omega)) (qFeeds5_4514 hput.1.1)
  rw [em, qMem_new hs e4 hl120 (by rw [e5]; exact ha.1.2.2.1) (by rw [e5]; rw [el, nI_toInt el0] at hsl; exact hsl)]
def F_X12_agrees : FT := fun As S μ ρ k => match As with
  | [.ref a, .int s] => a = 2737 ∧ RS S ρ ∧ rg s 0 4 ∧ agOK (μ 2738) s.toNatClampNeg ∧ (μ 2738 (514 * s.toNatClampNeg + 5)).toInt ≤ (μ 2738 (514 * s.toNatClampNeg + 4)).toInt ∧ ∀ t : T4, k none (M3 μ t (qAgr (μ 2738) s.toNatClampNeg))
  | _ => False
theorem r_X12_agrees {As S μ ρ k} (h : F_X12_agrees As S μ ρ k) : ∃ a As', As = Value.ref a :: As' ∧ S.2 a = (12, 27) := by
  unfold F_X12_agrees at h
  split at h
  · exact ⟨_, _, rfl, by rw [h.1]; exact h.2.1.1⟩
  · exact h.elim
set_option maxHeartbeats 1000000 in
theorem f_X12_agrees {Z : Zt} {d : Nat} {As : List Value} {S : Sh} {μ : Mi} {ρ : Mr} {Rp : RT} (h : F_X12_agrees As S μ ρ (fun r μ' => Rp r S μ' ρ)) : MS Z (d + 7) jX12_agrees As S μ ρ Rp := by
  unfold F_X12_agrees at h
  split at h
  · rename_i a s
    obtain ⟨rfl, hS, h⟩ := h
    have hS0 := hS
    unfold RS at hS
    obtain ⟨h1, h2, h3, h⟩ := h
    obtain ⟨s, rfl, hs0, -, hs⟩ := rg_ex h1
    simp (disch := omega) only [nI_clamp] at h h2 h3
    have hs5 : s < 5 := by omega
    obtain ⟨t0, ht0⟩ := M3_self μ
    rw [ht0]
    generalize hA : μ 2738 = A at *
    refine agr_core (d := d + 1) hs5 hS0 t0 A h2 (fun hl t1 Rq hq => ?_) h
    have hj := agOK_join hs5 h2 hl.2.2
    have hns := join_stays hs5 h2 h3 hl
    refine agr_core hs5 hS0 t1 _ hj (fun z => absurd z hns) (fun t => ?_)
    unfold qAgr
    rw [if_neg hns]
    exact hq t
  · exact h.elim
