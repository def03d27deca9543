/-! ===== the reference: what is agreed is done; a message goes out ===== -/
def opOK (A : Rw) (s lo hi : Nat) : Prop := ∀ p, lo < p → p ≤ hi → (A (514 * s + 30 + 4 * p + 1) = 1 ∨ A (514 * s + 30 + 4 * p + 1) = 2) → rg (A (514 * s + 30 + 4 * p + 2)) 0 3
theorem cpF_out {f g : Rw} {sp dp n i : Nat} (h : i < dp ∨ dp + n ≤ i) : cpF f g sp dp n i = g i := by unfold cpF; rw [if_neg (by omega)]
theorem qDo1_out {A : Rw} {s p i : Nat} (hx : (A (514 * s + 30 + 4 * p + 1) = 1 ∨ A (514 * s + 30 + 4 * p + 1) = 2) → rg (A (514 * s + 30 + 4 * p + 2)) 0 3) (h : (i < 514 * s + 16 ∨ 514 * s + 20 ≤ i) ∧ (i < 3826 + 4 * p ∨ 3830 + 4 * p ≤ i)) : qDo1 A s p i = A i := by
  have key : ∀ v, (A (514 * s + 30 + 4 * p + 1) = 1 ∨ A (514 * s + 30 + 4 * p + 1) = 2) → up A (514 * s + 16 + (A (514 * s + 30 + 4 * p + 2)).toNatClampNeg) v i = A i := by
    intro v hk
    obtain ⟨c, hc, hc0, -, hc1⟩ := rg_ex (hx hk)
    rw [hc, nI_clamp hc0]
    exact up_ne (by omega)
  have fin : ∀ A1 : Rw, A1 i = A i → (if A1 (3826 + 4 * p) = 0 then cpF A1 A1 (514 * s + 30 + 4 * p) (3826 + 4 * p) 4 else A1) i = A i := by
    intro A1 h1
    by_cases z : A1 (3826 + 4 * p) = 0
    · rw [if_pos z, cpF_out (by omega)]; exact h1
    · rw [if_neg z]; exact h1
  unfold qDo1
  apply fin
  by_cases k1 : A (514 * s + 30 + 4 * p + 1) = 1
  · rw [if_pos k1]; exact key _ (Or.inl k1)
  · rw [if_neg k1]
    by_cases k2 : A (514 * s + 30 + 4 * p + 1) = 2
    · rw [if_pos k2]; exact key _ (Or.inr k2)
    · rw [if_neg k2]
def F_X12_does : FT := fun As S μ ρ k => match As with
  | [.ref a, .int s, .int t] => a = 2737 ∧ RS S ρ ∧ rg s 0 4 ∧ rg t 0 120 ∧ rg (μ 2738 (514 * s.toNatClampNeg + 7)) 0 120 ∧ opOK (μ 2738) s.toNatClampNeg (μ 2738 (514 * s.toNatClampNeg + 7)).toNatClampNeg t.toNatClampNeg ∧ k none (upF μ 2738 (qDoes (μ 2738) s.toNatClampNeg t))
  | _ => False
theorem r_X12_does {As S μ ρ k} (h : F_X12_does As S μ ρ k) : ∃ a As', As = Value.ref a :: As' ∧ S.2 a = (12, 27) := by
  unfold F_X12_does at h
  split at h
  · exact ⟨_, _, rfl, by rw [h.1]; exact h.2.1.1⟩
  · exact h.elim
set_option maxHeartbeats 1000000 in
theorem f_X12_does {Z : Zt} {d : Nat} {As : List Value} {S : Sh} {μ : Mi} {ρ : Mr} {Rp : RT} (h : F_X12_does As S μ ρ (fun r μ' => Rp r S μ' ρ)) : MS Z (d + 3) jX12_does As S μ ρ Rp := by
  unfold F_X12_does at h
  split at h
  · rename_i a s t
    obtain ⟨rfl, hS, h⟩ := h
    have hS0 := hS
    unfold RS at hS
    obtain ⟨h1, h2, h3, h4, h⟩ := h
    obtain ⟨s, rfl, hs0, -, hs⟩ := rg_ex h1
    have hrs := rg_T (lo := 0) (hi := 4) (n := s) (by omega) (by omega) hs0
    obtain ⟨t, rfl, ht0, -, ht⟩ := rg_ex h2
    simp (disch := omega) only [nI_clamp] at h h3 h4
    obtain ⟨ag, hag, hag0, -, hag1⟩ := rg_ex h3
    rw [hag, nI_clamp hag0] at h4
    refine ms_X12_does _ _ _ (fun G g10 => ?_)
    simp only [w_X12_does_0, tAload, tIload, nth, tGetI, tGetR, tConst, tLconst, tBin, tUn, tI2l, tAld, tAldR, tAlen, tIast, tBast, tZast, tAast, tIret, tZret, tVret, tAret, tIf, tIf2, tGoto, tIstore, tAstore, sset, tIinc, tDup, tDup2, tPop, tPutI, tPutZ, tPutR, tCallV, tCallS, popN, tFn, tCopy, tMax, tMin, tSw, swc, tRem, tObjI, Option.toList, List.nil_append, List.cons_append, okR, true_and, and_true, true_or, or_true, Nat.zero_le, ne_eq, not_false_eq_true, Nat.reduceEqDiff, F_X12_of, hS0]
    simp (disch := omega) only [ixs 7 7 rfl, nI_clamp, nI_inb]
    refine ⟨by omega, ?_⟩
    rw [hag, nI_1]
    have fin : ∀ (A : Rw) (p : Nat) (v1 v2 v3 : Value), A (514 * s + 7) = nI ag → qDoes (μ 2738) s (nI t) = up A (514 * s + 7) (if A (514 * s + 7) < nI t then nI t else A (514 * s + 7)) → w_X12_does_139 (MS Z (d + 2)) G Rp [.ref 2737, .int (nI s), .int (nI t), .int (nI p), v1, v2, v3] [] S (0, 0) (upF μ 2738 A) ρ := by
      intro A p v1 v2 v3 hA hq
      simp only [w_X12_does_139, tAload, tIload, nth, tGetI, tGetR, tConst, tLconst, tBin, tUn, tI2l, tAld, tAldR, tAlen, tIast, tBast, tZast, tAast, tIret, tZret, tVret, tAret, tIf, tIf2, tGoto, tIstore, tAstore, sset, tIinc, tDup, tDup2, tPop, tPutI, tPutZ, tPutR, tCallV, tCallS, popN, tFn, tCopy, tMax, tMin, tSw, swc, tRem, tObjI, Option.toList, List.nil_append, List.cons_append, okR, true_and, and_true, true_or, or_true, Nat.zero_le, ne_eq, not_false_eq_true, Nat.reduceEqDiff, F_X12_of, F_X12_greater, F_X12_lays, hS0, upF_same, upF_upF]
      simp (disch := omega) only [ixs 7 7 rfl, nI_clamp, nI_inb]
      rw [hq] at h
      exact ⟨by omega, by omega, h⟩
    have loop : ∀ (n p : Nat) (A : Rw) (v1 v2 v3 : Value), ag < p → p + n = max (t + 1) (ag + 1) → (∀ i, i < 514 * s + 16 ∨ (514 * s + 20 ≤ i ∧ i < 2570) → A i = μ 2738 i) → dosF s (t - ag) (ag + 1) (μ 2738) = dosF s (t + 1 - p) p A → G 10 [.ref 2737, .int (nI s), .int (nI t), .int (nI p), v1, v2, v3] [] S (0, 0) (upF μ 2738 A) ρ := by
      intro n
      induction n with
      | zero =>
        intro p A v1 v2 v3 hp hpn hA hd
        refine g10 _ _ _ _ _ _ ?_
        simp only [w_X12_does_10, tAload, tIload, nth, tGetI, tGetR, tConst, tLconst, tBin, tUn, tI2l, tAld, tAldR, tAlen, tIast, tBast, tZast, tAast, tIret, tZret, tVret, tAret, tIf, tIf2, tGoto, tIstore, tAstore, sset, tIinc, tDup, tDup2, tPop, tPutI, tPutZ, tPutR, tCallV, tCallS, popN, tFn, tCopy, tMax, tMin, tSw, swc, tRem, tObjI, Option.toList, List.nil_append, List.cons_append, okR, true_and, and_true, true_or, or_true, Nat.zero_le, ne_eq, not_false_eq_true, Nat.reduceEqDiff]
        refine ⟨fun _ => ?_, fun z => absurd (nI_lt (by omega) (by omega)) z⟩
        have e7 : A (514 * s + 7) = nI ag := by rw [hA _ (by omega)]; exact hag
        refine fin A p v1 v2 v3 e7 ?_
        unfold qDoes
        rw [hag, nI_clamp hag0, nI_clamp ht0, hd, show t + 1 - p = 0 by omega]
        rfl
      | succ n ih =>
        intro p A v1 v2 v3 hp hpn hA hd
        refine g10 _ _ _ _ _ _ ?_
        have hpt : p ≤ t := by omega
        have hrp : rg (nI p) 1 120 = True := rg_T (by omega) (by omega) (by omega)
        have hr1 : rg 1 0 3 = True := eq_true ⟨by decide, by decide⟩
        have hr2 : rg 2 0 3 = True := eq_true ⟨by decide, by decide⟩
        have hr3 : rg 3 0 3 = True := eq_true ⟨by decide, by decide⟩
        have hpn' : ¬ nI t < nI p := nI_nlt hpt ht0
        have eL : ∀ k, k < 4 → A (514 * s + 30 + 4 * p + k) = μ 2738 (514 * s + 30 + 4 * p + k) := fun k hk => hA _ (by omega)
        have hx := h4 p hp hpt
        rw [← eL 1 (by decide), ← eL 2 (by decide)] at hx
        have next : ∀ (v1 v2 : Value), ∀ A1 : Rw, (if A1 (3826 + 4 * p) = 0 then cpF A1 A1 (514 * s + 30 + 4 * p) (3826 + 4 * p) 4 else A1) = qDo1 A s p → w_X12_does_84 (MS Z (d + 2)) G Rp [.ref 2737, .int (nI s), .int (nI t), .int (nI p), v1, v2, v3] [] S (0, 0) (upF μ 2738 A1) ρ := by
          intro v1 v2 A1 hq
          have go : ∀ v3 : Value, G 10 [.ref 2737, .int (nI s), .int (nI t), .int (nI (p + 1)), v1, v2, v3] [] S (0, 0) (upF μ 2738 (qDo1 A s p)) ρ := by
            intro v3
            refine ih (p + 1) _ v1 v2 v3 (by omega) (by omega) (fun i hi => ?_) ?_
            · rw [qDo1_out hx (by omega)]; exact hA i hi
            · rw [hd, show t + 1 - p = (t + 1 - (p + 1)) + 1 by omega]
              rfl
          simp only [w_X12_does_84, w_X12_does_133, tAload, tIload, nth, tGetI, tGetR, tConst, tLconst, tBin, tUn, tI2l, tAld, tAldR, tAlen, tIast, tBast, tZast, tAast, tIret, tZret, tVret, tAret, tIf, tIf2, tGoto, tIstore, tAstore, sset, tIinc, tDup, tDup2, tPop, tPutI, tPutZ, tPutR, tCallV, tCallS, popN, tFn, tCopy, tMax, tMin, tSw, swc, tRem, tObjI, Option.toList, List.nil_append, List.cons_append, okR, true_and, and_true, true_or, or_true, Nat.zero_le, ne_eq, not_false_eq_true, Nat.reduceEqDiff, F_X12_copies, hS, upF_same, upF_upF, nI_1]
          have e1 : (3830 : Int32) + 4 * (nI p - 1) = nI (3826 + 4 * p) := by
            rw [show (1 : Int32) = nI 1 from rfl, pk_sub (by omega), show (4 : Int32) = nI 4 from rfl, pk_mul, show (3830 : Int32) = nI 3830 from rfl, nI_add]
            congr 1
            omega
          have e2 : (514 : Int32) * nI s + 34 + 4 * (nI p - 1) = nI (514 * s + 30 + 4 * p) := by
            rw [show (1 : Int32) = nI 1 from rfl, pk_sub (by omega), show (4 : Int32) = nI 4 from rfl, pk_mul, ixs 34 34 rfl, nI_add]
            congr 1
            omega
          rw [e1, e2]
          simp (disch := omega) only [nI_clamp, nI_inb, nI_toInt, cl_4]
          refine ⟨by omega, fun c => ?_, fun c => ⟨by omega, by omega, by decide, by omega, by omega, by decide, by decide, Or.inr (by omega), ?_⟩⟩
          · rw [if_neg c] at hq
            rw [hq]
            exact go _
          · simp only [Decidable.not_not] at c
            rw [if_pos c] at hq
            rw [hq]
            exact go _
        simp only [w_X12_does_10, w_X12_does_56, tAload, tIload, nth, tGetI, tGetR, tConst, tLconst, tBin, tUn, tI2l, tAld, tAldR, tAlen, tIast, tBast, tZast, tAast, tIret, tZret, tVret, tAret, tIf, tIf2, tGoto, tIstore, tAstore, sset, tIinc, tDup, tDup2, tPop, tPutI, tPutZ, tPutR, tCallV, tCallS, popN, tFn, tCopy, tMax, tMin, tSw, swc, tRem, tObjI, Option.toList, List.nil_append, List.cons_append, okR, true_and, and_true, true_or, or_true, Nat.zero_le, ne_eq, not_false_eq_true, Nat.reduceEqDiff, F_X12_of, F_X12_ofEntry, F_X12_lays, hS0, hrs, hrp, hr1, hr2, hr3, upF_same, upF_upF]
        simp (disch := omega) only [nI_clamp, cl_1, cl_2, cl_3]
        refine ⟨fun z => absurd z hpn', fun _ => ⟨fun k1 => ⟨fun k2 => next _ _ A ?_, fun k2 => ?_⟩, fun k1 => ?_⟩⟩
        · unfold qDo1
          dsimp only
          rw [if_neg k1, if_neg k2]
        · simp only [Decidable.not_not] at k2
          obtain ⟨c, hc, hc0, -, hc1⟩ := rg_ex (hx (Or.inr k2))
          have e3 : (514 : Int32) * nI s + (16 + A (514 * s + 30 + 4 * p + 2)) = nI (514 * s + 16 + c) := by
            rw [hc, show (16 : Int32) = nI 16 from rfl, nI_add, ixs _ _ rfl, Nat.add_assoc]
          rw [e3]
          simp (disch := omega) only [nI_clamp, nI_inb]
          refine ⟨by omega, by omega, next _ _ _ ?_⟩
          unfold qDo1
          dsimp only
          rw [if_neg k1, if_pos k2, hc, nI_clamp hc0]
        · simp only [Decidable.not_not] at k1
          obtain ⟨c, hc, hc0, -, hc1⟩ := rg_ex (hx (Or.inl k1))
          have e3 : (514 : Int32) * nI s + (16 + A (514 * s + 30 + 4 * p + 2)) = nI (514 * s + 16 + c) := by
            rw [hc, show (16 : Int32) = nI 16 from rfl, nI_add, ixs _ _ rfl, Nat.add_assoc]
          rw [e3]
          simp (disch := omega) only [nI_clamp, nI_inb]
          refine ⟨by omega, fun k2 => next _ _ _ ?_, fun k2 => absurd (by rw [k1]; decide) k2⟩
          unfold qDo1
          dsimp only
          rw [if_pos k1, hc, nI_clamp hc0]
    have := loop (max (t + 1) (ag + 1) - (ag + 1)) (ag + 1) (μ 2738) .null .null .null (by omega) (by omega) (fun _ _ => rfl) (by rw [show t + 1 - (ag + 1) = t - ag by omega])
    rw [upF_id] at this
    exact this
  · exact h.elim
def F_X12_goesOut : FT := fun As S μ ρ k => match As with
  | [.ref a, .int i] => a = 2737 ∧ RS S ρ ∧ rg i 0 59 ∧ rg (μ 2738 4510) 0 60 ∧ i.toInt < (μ 2738 4510).toInt ∧ k none (upF (upF μ 2744 (cpF (μ 2738) (μ 2744) (2570 + 21 * i.toNatClampNeg) 0 21)) 2738 (qOut (μ 2738) i.toNatClampNeg))
  | _ => False
theorem r_X12_goesOut {As S μ ρ k} (h : F_X12_goesOut As S μ ρ k) : ∃ a As', As = Value.ref a :: As' ∧ S.2 a = (12, 27) := by
  unfold F_X12_goesOut at h
  split at h
  · exact ⟨_, _, rfl, by rw [h.1]; exact h.2.1.1⟩
  · exact h.elim
set_option maxHeartbeats 1000000 in
theorem f_X12_goesOut {Z : Zt} {d : Nat} {As : List Value} {S : Sh} {μ : Mi} {ρ : Mr} {Rp : RT} (h : F_X12_goesOut As S μ ρ (fun r μ' => Rp r S μ' ρ)) : MS Z (d + 2) jX12_goesOut As S μ ρ Rp := by
  unfold F_X12_goesOut at h
  split at h
  · rename_i a i
    obtain ⟨rfl, hS, h⟩ := h
    have hS0 := hS
    unfold RS at hS
    obtain ⟨h1, h2, h3, h⟩ := h
    obtain ⟨i, rfl, hi0, -, hi⟩ := rg_ex h1
    obtain ⟨w, hw, hw0, -, hw1⟩ := rg_ex h2
    rw [hw, nI_toInt hi0, nI_toInt hw0] at h3
    simp (disch := omega) only [nI_clamp] at h
    refine ms_X12_goesOut _ _ (fun G => ?_)
    have i10 : inb 4510 13548 := inb_nI (k := 4510) (by decide) (by decide)
    have n1 : (2738 : Nat) ≠ 2744 := by decide
    simp only [w_X12_goesOut_0, tAload, tIload, nth, tGetI, tGetR, tConst, tLconst, tBin, tUn, tI2l, tAld, tAldR, tAlen, tIast, tBast, tZast, tAast, tIret, tZret, tVret, tAret, tIf, tIf2, tGoto, tIstore, tAstore, sset, tIinc, tDup, tDup2, tPop, tPutI, tPutZ, tPutR, tCallV, tCallS, popN, tFn, tCopy, tMax, tMin, tSw, swc, tRem, tObjI, Option.toList, List.nil_append, List.cons_append, okR, true_and, and_true, true_or, or_true, Nat.zero_le, ne_eq, not_false_eq_true, Nat.reduceEqDiff, F_X12_copies, hS, i10, cl_4510, upF_same, upF_upF, upF_ne n1, hw, upI_upF]
    have e1 : (2570 : Int32) + 21 * nI i = nI (2570 + 21 * i) := by rw [show (2570 : Int32) = nI 2570 from rfl, show (21 : Int32) = nI 21 from rfl, pk_mul, nI_add]
    have e2 : (21 : Int32) * (nI w - 1 - nI i) = nI (21 * (w - 1 - i)) := by rw [show (1 : Int32) = nI 1 from rfl, pk_sub (by omega), pk_sub (by omega), show (21 : Int32) = nI 21 from rfl, pk_mul]
    rw [e1, e2]
    simp (disch := omega) only [nad 21 21 rfl, nI_clamp, nI_toInt, cl_0, cl_21]
    refine ⟨by omega, by decide, by decide, by omega, by decide, by decide, by decide, by omega, by omega, by omega, by omega, by omega, by decide, by decide, Or.inr (Or.inl (by omega)), ?_⟩
    unfold qOut at h
    rw [hw, nI_clamp hw0] at h
    have e3 : cpF (μ 2738) (μ 2738) (2570 + 21 * i + 21) (2570 + 21 * i) (21 * (w - 1 - i)) 4510 = nI w := by rw [cpF_out (by omega)]; exact hw
    rw [e3]
    exact h
  · exact h.elim
