/-! ===== the reference, second layer ===== -/
def rg (x : Int32) (lo hi : Int) : Prop := lo ≤ x.toInt ∧ x.toInt ≤ hi
theorem rg_nI {n : Nat} {lo hi : Int} (h : n < 2 ^ 31) : rg (nI n) lo hi ↔ lo ≤ (n : Int) ∧ (n : Int) ≤ hi := by unfold rg; rw [nI_toInt h]
theorem rg_T {n : Nat} {lo hi : Int} (h1 : lo ≤ (n : Int)) (h2 : (n : Int) ≤ hi) (h : n < 2 ^ 31) : rg (nI n) lo hi = True := eq_true ((rg_nI h).mpr ⟨h1, h2⟩)
theorem rg_ex {x : Int32} {lo hi : Int} (h : rg x lo hi) (h0 : 0 ≤ lo := by decide) : ∃ n : Nat, x = nI n ∧ n < 2 ^ 31 ∧ lo ≤ (n : Int) ∧ (n : Int) ≤ hi := by
  obtain ⟨h1, h2⟩ := h
  refine ⟨x.toNatClampNeg, nI_self (by omega), ?_⟩
  have h3 : x.toInt = (x.toNatClampNeg : Int) := by show x.toInt = ((x.toInt.toNat : Nat) : Int); omega
  have h4 : x.toInt < 2 ^ 31 := Int32.toInt_lt x
  omega
theorem ixs {s : Nat} (k : Nat) (x : Int32) (hx : x = nI k) : (514 : Int32) * nI s + x = nI (514 * s + k) := by rw [hx, show (514 : Int32) = nI 514 from rfl, pk_mul, nI_add]
theorem cl_0 : Int32.toNatClampNeg 0 = 0 := by decide
theorem cl_1 : Int32.toNatClampNeg 1 = 1 := by decide
theorem cl_2 : Int32.toNatClampNeg 2 = 2 := by decide
theorem cl_3 : Int32.toNatClampNeg 3 = 3 := by decide
theorem cl_4 : Int32.toNatClampNeg 4 = 4 := by decide
theorem cl_5 : Int32.toNatClampNeg 5 = 5 := by decide
theorem cl_6 : Int32.toNatClampNeg 6 = 6 := by decide
theorem cl_7 : Int32.toNatClampNeg 7 = 7 := by decide
theorem cl_8 : Int32.toNatClampNeg 8 = 8 := by decide
theorem cl_9 : Int32.toNatClampNeg 9 = 9 := by decide
theorem cl_10 : Int32.toNatClampNeg 10 = 10 := by decide
theorem cl_11 : Int32.toNatClampNeg 11 = 11 := by decide
theorem cl_12 : Int32.toNatClampNeg 12 = 12 := by decide
theorem cl_13 : Int32.toNatClampNeg 13 = 13 := by decide
theorem cl_14 : Int32.toNatClampNeg 14 = 14 := by decide
theorem cl_15 : Int32.toNatClampNeg 15 = 15 := by decide
theorem cl_16 : Int32.toNatClampNeg 16 = 16 := by decide
theorem cl_17 : Int32.toNatClampNeg 17 = 17 := by decide
theorem cl_18 : Int32.toNatClampNeg 18 = 18 := by decide
theorem cl_19 : Int32.toNatClampNeg 19 = 19 := by decide
theorem cl_20 : Int32.toNatClampNeg 20 = 20 := by decide
theorem cl_21 : Int32.toNatClampNeg 21 = 21 := by decide
theorem cl_22 : Int32.toNatClampNeg 22 = 22 := by decide
theorem cl_23 : Int32.toNatClampNeg 23 = 23 := by decide
theorem cl_24 : Int32.toNatClampNeg 24 = 24 := by decide
theorem cl_25 : Int32.toNatClampNeg 25 = 25 := by decide
theorem cl_26 : Int32.toNatClampNeg 26 = 26 := by decide
theorem cl_27 : Int32.toNatClampNeg 27 = 27 := by decide
theorem cl_28 : Int32.toNatClampNeg 28 = 28 := by decide
theorem cl_29 : Int32.toNatClampNeg 29 = 29 := by decide
theorem cl_30 : Int32.toNatClampNeg 30 = 30 := by decide
theorem cl_31 : Int32.toNatClampNeg 31 = 31 := by decide
theorem cl_32 : Int32.toNatClampNeg 32 = 32 := by decide
theorem cl_33 : Int32.toNatClampNeg 33 = 33 := by decide
theorem cl_34 : Int32.toNatClampNeg 34 = 34 := by decide
theorem cl_35 : Int32.toNatClampNeg 35 = 35 := by decide
theorem cl_36 : Int32.toNatClampNeg 36 = 36 := by decide
theorem cl_37 : Int32.toNatClampNeg 37 = 37 := by decide
theorem cl_38 : Int32.toNatClampNeg 38 = 38 := by decide
theorem cl_39 : Int32.toNatClampNeg 39 = 39 := by decide
theorem cl_2570 : Int32.toNatClampNeg 2570 = 2570 := by decide
theorem cl_3830 : Int32.toNatClampNeg 3830 = 3830 := by decide
theorem cl_4310 : Int32.toNatClampNeg 4310 = 4310 := by decide
theorem cl_4510 : Int32.toNatClampNeg 4510 = 4510 := by decide
theorem cl_4511 : Int32.toNatClampNeg 4511 = 4511 := by decide
theorem cl_4512 : Int32.toNatClampNeg 4512 = 4512 := by decide
theorem cl_4513 : Int32.toNatClampNeg 4513 = 4513 := by decide
theorem cl_4514 : Int32.toNatClampNeg 4514 = 4514 := by decide
theorem cl_4515 : Int32.toNatClampNeg 4515 = 4515 := by decide
theorem cl_4516 : Int32.toNatClampNeg 4516 = 4516 := by decide
def F_X12_ofEntry : FT := fun As S μ ρ k => match As with
  | [.ref a, .int s, .int p, .int w] => a = 2737 ∧ RS S ρ ∧ rg s 0 4 ∧ rg p 1 120 ∧ rg w 0 3 ∧ k (some (.int (μ 2738 (514 * s.toNatClampNeg + 30 + 4 * p.toNatClampNeg + w.toNatClampNeg)))) μ
  | _ => False
theorem r_X12_ofEntry {As S μ ρ k} (h : F_X12_ofEntry As S μ ρ k) : ∃ a As', As = Value.ref a :: As' ∧ S.2 a = (12, 27) := by
  unfold F_X12_ofEntry at h
  split at h
  · exact ⟨_, _, rfl, by rw [h.1]; exact h.2.1.1⟩
  · exact h.elim
set_option maxHeartbeats 1000000 in
theorem f_X12_ofEntry {Z : Zt} {d : Nat} {As : List Value} {S : Sh} {μ : Mi} {ρ : Mr} {Rp : RT} (h : F_X12_ofEntry As S μ ρ (fun r μ' => Rp r S μ' ρ)) : MS Z (d + 2) jX12_ofEntry As S μ ρ Rp := by
  unfold F_X12_ofEntry at h
  split at h
  · rename_i a s p w
    obtain ⟨rfl, hS, h⟩ := h
    have hS0 := hS
    unfold RS at hS
    obtain ⟨h1, h2, h3, h⟩ := h
    obtain ⟨s, rfl, hs0, -, hs⟩ := rg_ex h1
    obtain ⟨p, rfl, hp0, hp1, hp⟩ := rg_ex h2
    obtain ⟨w, rfl, hw0, -, hw⟩ := rg_ex h3
    simp (disch := omega) only [nI_clamp] at h
    refine ms_X12_ofEntry _ _ _ _ (fun G => ?_)
    simp only [w_X12_ofEntry_0, tAload, tIload, nth, tGetI, tGetR, tConst, tLconst, tBin, tUn, tI2l, tAld, tAldR, tAlen, tIast, tBast, tZast, tAast, tIret, tZret, tVret, tAret, tIf, tIf2, tGoto, tIstore, tAstore, sset, tIinc, tDup, tDup2, tPop, tPutI, tPutZ, tPutR, tCallV, tCallS, popN, tFn, tCopy, tMax, tMin, tSw, swc, tRem, tObjI, Option.toList, List.nil_append, List.cons_append, okR, true_and, and_true, true_or, or_true, Nat.zero_le, ne_eq, not_false_eq_true, Nat.reduceEqDiff, F_X12_of, hS0]
    simp (disch := omega) only [lit, pk_mul, nI_add, pk_sub, nI_clamp, nI_inb, nI_ltI, nI_leI, nI_eq]
    rw [show 514 * s + (34 + 4 * (p - 1) + w) = 514 * s + 30 + 4 * p + w by omega]
    exact ⟨by omega, h⟩
  · exact h.elim
def F_X12_isStore : FT := fun As S μ ρ k => match As with
  | [.int s] => k (some (.int (b2 (0 ≤ s.toInt ∧ s.toInt ≤ 4)))) μ
  | _ => False
set_option maxHeartbeats 1000000 in
theorem f_X12_isStore {Z : Zt} {d : Nat} {As : List Value} {S : Sh} {μ : Mi} {ρ : Mr} {Rp : RT} (h : F_X12_isStore As S μ ρ (fun r μ' => Rp r S μ' ρ)) : MS Z (d + 2) jX12_isStore As S μ ρ Rp := by
  unfold F_X12_isStore at h
  split at h
  · rename_i s
    refine ms_X12_isStore _ (fun G => ?_)
    simp only [w_X12_isStore_0, tAload, tIload, nth, tGetI, tGetR, tConst, tLconst, tBin, tUn, tI2l, tAld, tAldR, tAlen, tIast, tBast, tZast, tAast, tIret, tZret, tVret, tAret, tIf, tIf2, tGoto, tIstore, tAstore, sset, tIinc, tDup, tDup2, tPop, tPutI, tPutZ, tPutR, tCallV, tCallS, popN, tFn, tCopy, tMax, tMin, tSw, swc, tRem, tObjI, Option.toList, List.nil_append, List.cons_append, okR, true_and, and_true, true_or, or_true, Nat.zero_le, ne_eq, not_false_eq_true, Nat.reduceEqDiff, F_X12_within]
    refine ⟨b2_01 _, ?_⟩
    simp only [l_leC, l_geC]
    exact h
  · exact h.elim
def F_X12_isCell : FT := fun As S μ ρ k => match As with
  | [.int s] => k (some (.int (b2 (0 ≤ s.toInt ∧ s.toInt ≤ 3)))) μ
  | _ => False
set_option maxHeartbeats 1000000 in
theorem f_X12_isCell {Z : Zt} {d : Nat} {As : List Value} {S : Sh} {μ : Mi} {ρ : Mr} {Rp : RT} (h : F_X12_isCell As S μ ρ (fun r μ' => Rp r S μ' ρ)) : MS Z (d + 2) jX12_isCell As S μ ρ Rp := by
  unfold F_X12_isCell at h
  split at h
  · rename_i s
    refine ms_X12_isCell _ (fun G => ?_)
    simp only [w_X12_isCell_0, tAload, tIload, nth, tGetI, tGetR, tConst, tLconst, tBin, tUn, tI2l, tAld, tAldR, tAlen, tIast, tBast, tZast, tAast, tIret, tZret, tVret, tAret, tIf, tIf2, tGoto, tIstore, tAstore, sset, tIinc, tDup, tDup2, tPop, tPutI, tPutZ, tPutR, tCallV, tCallS, popN, tFn, tCopy, tMax, tMin, tSw, swc, tRem, tObjI, Option.toList, List.nil_append, List.cons_append, okR, true_and, and_true, true_or, or_true, Nat.zero_le, ne_eq, not_false_eq_true, Nat.reduceEqDiff, F_X12_within]
    refine ⟨b2_01 _, ?_⟩
    simp only [l_leC, l_geC]
    exact h
  · exact h.elim
def F_X12_isUp : FT := fun As S μ ρ k => match As with
  | [.ref a, .int s] => a = 2737 ∧ RS S ρ ∧ rg s 0 4 ∧ k (some (.int (b2 (μ 2738 (514 * s.toNatClampNeg) = 1)))) μ
  | _ => False
theorem r_X12_isUp {As S μ ρ k} (h : F_X12_isUp As S μ ρ k) : ∃ a As', As = Value.ref a :: As' ∧ S.2 a = (12, 27) := by
  unfold F_X12_isUp at h
  split at h
  · exact ⟨_, _, rfl, by rw [h.1]; exact h.2.1.1⟩
  · exact h.elim
set_option maxHeartbeats 1000000 in
theorem f_X12_isUp {Z : Zt} {d : Nat} {As : List Value} {S : Sh} {μ : Mi} {ρ : Mr} {Rp : RT} (h : F_X12_isUp As S μ ρ (fun r μ' => Rp r S μ' ρ)) : MS Z (d + 2) jX12_isUp As S μ ρ Rp := by
  unfold F_X12_isUp at h
  split at h
  · rename_i a s
    obtain ⟨rfl, hS, h⟩ := h
    have hS0 := hS
    unfold RS at hS
    obtain ⟨h1, h⟩ := h
    obtain ⟨s, rfl, hs0, -, hs⟩ := rg_ex h1
    simp (disch := omega) only [nI_clamp] at h
    refine ms_X12_isUp _ _ (fun G => ?_)
    simp only [w_X12_isUp_0, w_X12_isUp_14, w_X12_isUp_15, tAload, tIload, nth, tGetI, tGetR, tConst, tLconst, tBin, tUn, tI2l, tAld, tAldR, tAlen, tIast, tBast, tZast, tAast, tIret, tZret, tVret, tAret, tIf, tIf2, tGoto, tIstore, tAstore, sset, tIinc, tDup, tDup2, tPop, tPutI, tPutZ, tPutR, tCallV, tCallS, popN, tFn, tCopy, tMax, tMin, tSw, swc, tRem, tObjI, Option.toList, List.nil_append, List.cons_append, okR, true_and, and_true, true_or, or_true, Nat.zero_le, ne_eq, not_false_eq_true, Nat.reduceEqDiff, F_X12_of, hS0]
    rw [ixs 0 0 rfl]
    simp (disch := omega) only [nI_clamp, nI_inb, Nat.add_zero]
    refine ⟨by omega, fun hc => ?_, fun hc => ?_⟩
    · simpa only [b2, hc, if_false] using h
    · simp only [Decidable.not_not] at hc
      simpa only [b2, hc, if_true] using h
  · exact h.elim
def F_X12_isLeader : FT := fun As S μ ρ k => match As with
  | [.ref a, .int s] => a = 2737 ∧ RS S ρ ∧ rg s 0 4 ∧ k (some (.int (b2 (μ 2738 (514 * s.toNatClampNeg + 3) = 2)))) μ
  | _ => False
theorem r_X12_isLeader {As S μ ρ k} (h : F_X12_isLeader As S μ ρ k) : ∃ a As', As = Value.ref a :: As' ∧ S.2 a = (12, 27) := by
  unfold F_X12_isLeader at h
  split at h
  · exact ⟨_, _, rfl, by rw [h.1]; exact h.2.1.1⟩
  · exact h.elim
set_option maxHeartbeats 1000000 in
theorem f_X12_isLeader {Z : Zt} {d : Nat} {As : List Value} {S : Sh} {μ : Mi} {ρ : Mr} {Rp : RT} (h : F_X12_isLeader As S μ ρ (fun r μ' => Rp r S μ' ρ)) : MS Z (d + 2) jX12_isLeader As S μ ρ Rp := by
  unfold F_X12_isLeader at h
  split at h
  · rename_i a s
    obtain ⟨rfl, hS, h⟩ := h
    have hS0 := hS
    unfold RS at hS
    obtain ⟨h1, h⟩ := h
    obtain ⟨s, rfl, hs0, -, hs⟩ := rg_ex h1
    simp (disch := omega) only [nI_clamp] at h
    refine ms_X12_isLeader _ _ (fun G => ?_)
    simp only [w_X12_isLeader_0, w_X12_isLeader_14, w_X12_isLeader_15, tAload, tIload, nth, tGetI, tGetR, tConst, tLconst, tBin, tUn, tI2l, tAld, tAldR, tAlen, tIast, tBast, tZast, tAast, tIret, tZret, tVret, tAret, tIf, tIf2, tGoto, tIstore, tAstore, sset, tIinc, tDup, tDup2, tPop, tPutI, tPutZ, tPutR, tCallV, tCallS, popN, tFn, tCopy, tMax, tMin, tSw, swc, tRem, tObjI, Option.toList, List.nil_append, List.cons_append, okR, true_and, and_true, true_or, or_true, Nat.zero_le, ne_eq, not_false_eq_true, Nat.reduceEqDiff, F_X12_of, hS0]
    rw [show (514 : Int32) * nI s + 3 = nI (514 * s + 3) by rw [show (514 : Int32) = nI 514 from rfl, show (3 : Int32) = nI 3 from rfl, pk_mul, nI_add]]
    simp (disch := omega) only [nI_clamp, nI_inb]
    refine ⟨by omega, fun hc => ?_, fun hc => ?_⟩
    · simpa only [b2, hc, if_false] using h
    · simp only [Decidable.not_not] at hc
      simpa only [b2, hc, if_true] using h
  · exact h.elim
def lkd (A : Rw) (a b : Int32) : Prop := (A 4513 >>> ((5 * a + b) &&& 31)) &&& 1 = 1
def F_X12_isLinked : FT := fun As S μ ρ k => match As with
  | [.ref a, .int x, .int y] => a = 2737 ∧ RS S ρ ∧ k (some (.int (b2 ((μ 2738 4513 >>> ((5 * x + y) &&& 31)) &&& 1 = 1)))) μ
  | _ => False
theorem r_X12_isLinked {As S μ ρ k} (h : F_X12_isLinked As S μ ρ k) : ∃ a As', As = Value.ref a :: As' ∧ S.2 a = (12, 27) := by
  unfold F_X12_isLinked at h
  split at h
  · exact ⟨_, _, rfl, by rw [h.1]; exact h.2.1.1⟩
  · exact h.elim
set_option maxHeartbeats 1000000 in
theorem f_X12_isLinked {Z : Zt} {d : Nat} {As : List Value} {S : Sh} {μ : Mi} {ρ : Mr} {Rp : RT} (h : F_X12_isLinked As S μ ρ (fun r μ' => Rp r S μ' ρ)) : MS Z (d + 2) jX12_isLinked As S μ ρ Rp := by
  unfold F_X12_isLinked at h
  split at h
  · rename_i a x y
    obtain ⟨rfl, hS, h⟩ := h
    have hS0 := hS
    unfold RS at hS
    refine ms_X12_isLinked _ _ _ (fun G => ?_)
    simp only [w_X12_isLinked_0, tAload, tIload, nth, tGetI, tGetR, tConst, tLconst, tBin, tUn, tI2l, tAld, tAldR, tAlen, tIast, tBast, tZast, tAast, tIret, tZret, tVret, tAret, tIf, tIf2, tGoto, tIstore, tAstore, sset, tIinc, tDup, tDup2, tPop, tPutI, tPutZ, tPutR, tCallV, tCallS, popN, tFn, tCopy, tMax, tMin, tSw, swc, tRem, tObjI, Option.toList, List.nil_append, List.cons_append, okR, true_and, and_true, true_or, or_true, Nat.zero_le, ne_eq, not_false_eq_true, Nat.reduceEqDiff, F_X12_has, hS]
    refine ⟨inb_nI (k := 4513) (by decide) (by decide), b2_01 _, ?_⟩
    rw [show Int32.toNatClampNeg 4513 = 4513 from by decide]
    exact h
  · exact h.elim
def maj (one two set : Int32) : Prop := cnt5 one < 2 * cnt5 (set &&& one) ∧ (two = 0 ∨ cnt5 two < 2 * cnt5 (set &&& two))
def F_X12_isMajority : FT := fun As S μ ρ k => match As with
  | [.ref a, .int x] => a = 2737 ∧ RS S ρ ∧ k (some (.int (b2 (cnt5 (μ 2737 8) < 2 * cnt5 (x &&& μ 2737 8) ∧ (μ 2737 9 = 0 ∨ cnt5 (μ 2737 9) < 2 * cnt5 (x &&& μ 2737 9)))))) μ
  | _ => False
theorem r_X12_isMajority {As S μ ρ k} (h : F_X12_isMajority As S μ ρ k) : ∃ a As', As = Value.ref a :: As' ∧ S.2 a = (12, 27) := by
  unfold F_X12_isMajority at h
  split at h
  · exact ⟨_, _, rfl, by rw [h.1]; exact h.2.1.1⟩
  · exact h.elim
set_option maxHeartbeats 1000000 in
theorem f_X12_isMajority {Z : Zt} {d : Nat} {As : List Value} {S : Sh} {μ : Mi} {ρ : Mr} {Rp : RT} (h : F_X12_isMajority As S μ ρ (fun r μ' => Rp r S μ' ρ)) : MS Z (d + 2) jX12_isMajority As S μ ρ Rp := by
  unfold F_X12_isMajority at h
  split at h
  · rename_i a x
    obtain ⟨rfl, hS, h⟩ := h
    have hS0 := hS
    unfold RS at hS
    refine ms_X12_isMajority _ _ (fun G => ?_)
    simp only [w_X12_isMajority_0, w_X12_isMajority_23, w_X12_isMajority_51, w_X12_isMajority_55, w_X12_isMajority_56, tAload, tIload, nth, tGetI, tGetR, tConst, tLconst, tBin, tUn, tI2l, tAld, tAldR, tAlen, tIast, tBast, tZast, tAast, tIret, tZret, tVret, tAret, tIf, tIf2, tGoto, tIstore, tAstore, sset, tIinc, tDup, tDup2, tPop, tPutI, tPutZ, tPutR, tCallV, tCallS, popN, tFn, tCopy, tMax, tMin, tSw, swc, tRem, tObjI, Option.toList, List.nil_append, List.cons_append, okR, true_and, and_true, true_or, or_true, Nat.zero_le, ne_eq, not_false_eq_true, Nat.reduceEqDiff, F_X12_bits, hS]
    refine ⟨fun hc => ⟨fun h2 => ?_, fun h2 => ⟨fun h3 => ?_, fun h3 => ?_⟩⟩, fun hc => ?_⟩
    · simpa only [b2, hc, h2, true_or, and_self, if_true] using h
    · simpa only [b2, hc, h2, Int32.not_lt.mpr h3, or_self, and_false, if_false] using h
    · simpa only [b2, hc, Int32.not_le.mp h3, or_true, and_self, if_true] using h
    · simpa only [b2, hc, false_and, if_false] using h
  · exact h.elim
def qReadsNothing (A : Rw) (s : Nat) : Rw := up (up (up (up A (514 * s + 11) 0) (514 * s + 12) 0) (514 * s + 13) 0) (514 * s + 15) 0
def F_X12_readsNothing : FT := fun As S μ ρ k => match As with
  | [.ref a, .int s] => a = 2737 ∧ RS S ρ ∧ rg s 0 4 ∧ k none (upF μ 2738 (qReadsNothing (μ 2738) s.toNatClampNeg))
  | _ => False
theorem r_X12_readsNothing {As S μ ρ k} (h : F_X12_readsNothing As S μ ρ k) : ∃ a As', As = Value.ref a :: As' ∧ S.2 a = (12, 27) := by
  unfold F_X12_readsNothing at h
  split at h
  · exact ⟨_, _, rfl, by rw [h.1]; exact h.2.1.1⟩
  · exact h.elim
set_option maxHeartbeats 1000000 in
theorem f_X12_readsNothing {Z : Zt} {d : Nat} {As : List Value} {S : Sh} {μ : Mi} {ρ : Mr} {Rp : RT} (h : F_X12_readsNothing As S μ ρ (fun r μ' => Rp r S μ' ρ)) : MS Z (d + 2) jX12_readsNothing As S μ ρ Rp := by
  unfold F_X12_readsNothing at h
  split at h
  · rename_i a s
    obtain ⟨rfl, hS, h⟩ := h
    have hS0 := hS
    unfold RS at hS
    obtain ⟨h1, h⟩ := h
    obtain ⟨s, rfl, hs0, -, hs⟩ := rg_ex h1
    simp (disch := omega) only [nI_clamp] at h
    refine ms_X12_readsNothing _ _ (fun G => ?_)
    simp only [w_X12_readsNothing_0, tAload, tIload, nth, tGetI, tGetR, tConst, tLconst, tBin, tUn, tI2l, tAld, tAldR, tAlen, tIast, tBast, tZast, tAast, tIret, tZret, tVret, tAret, tIf, tIf2, tGoto, tIstore, tAstore, sset, tIinc, tDup, tDup2, tPop, tPutI, tPutZ, tPutR, tCallV, tCallS, popN, tFn, tCopy, tMax, tMin, tSw, swc, tRem, tObjI, Option.toList, List.nil_append, List.cons_append, okR, true_and, and_true, true_or, or_true, Nat.zero_le, ne_eq, not_false_eq_true, Nat.reduceEqDiff, F_X12_lays, hS0, upF_same, upF_upF]
    simp (disch := omega) only [ixs 11 11 rfl, ixs 12 12 rfl, ixs 13 13 rfl, ixs 15 15 rfl, nI_clamp, nI_inb]
    exact ⟨by omega, by omega, by omega, by omega, h⟩
  · exact h.elim
/-- an entry behind the last of a log -/
def qPut (A : Rw) (s : Nat) (t kd x y : Int32) : Rw :=
  let l := (A (514 * s + 4)).toNatClampNeg
  up (up (up (up (up A (514 * s + 34 + 4 * l) t) (514 * s + 34 + 4 * l + 1) kd) (514 * s + 34 + 4 * l + 2) x) (514 * s + 34 + 4 * l + 3) y) (514 * s + 4) (A (514 * s + 4) + 1)
def F_X12_comesToLog : FT := fun As S μ ρ k => match As with
  | [.ref a, .int s, .int t, .int kd, .int x, .int y] => a = 2737 ∧ RS S ρ ∧ rg s 0 4 ∧ rg (μ 2738 (514 * s.toNatClampNeg + 4)) 0 119 ∧ k none (upF μ 2738 (qPut (μ 2738) s.toNatClampNeg t kd x y))
  | _ => False
theorem r_X12_comesToLog {As S μ ρ k} (h : F_X12_comesToLog As S μ ρ k) : ∃ a As', As = Value.ref a :: As' ∧ S.2 a = (12, 27) := by
  unfold F_X12_comesToLog at h
  split at h
  · exact ⟨_, _, rfl, by rw [h.1]; exact h.2.1.1⟩
  · exact h.elim
set_option maxHeartbeats 1000000 in
theorem f_X12_comesToLog {Z : Zt} {d : Nat} {As : List Value} {S : Sh} {μ : Mi} {ρ : Mr} {Rp : RT} (h : F_X12_comesToLog As S μ ρ (fun r μ' => Rp r S μ' ρ)) : MS Z (d + 2) jX12_comesToLog As S μ ρ Rp := by
  unfold F_X12_comesToLog at h
  split at h
  · rename_i a s t kd x y
    obtain ⟨rfl, hS, h⟩ := h
    have hS0 := hS
    unfold RS at hS
    obtain ⟨h1, h2, h⟩ := h
    obtain ⟨s, rfl, hs0, -, hs⟩ := rg_ex h1
    simp (disch := omega) only [nI_clamp] at h h2
    obtain ⟨l, hl, hl0, -, hl1⟩ := rg_ex h2
    refine ms_X12_comesToLog _ _ _ _ _ _ (fun G => ?_)
    simp only [w_X12_comesToLog_0, tAload, tIload, nth, tGetI, tGetR, tConst, tLconst, tBin, tUn, tI2l, tAld, tAldR, tAlen, tIast, tBast, tZast, tAast, tIret, tZret, tVret, tAret, tIf, tIf2, tGoto, tIstore, tAstore, sset, tIinc, tDup, tDup2, tPop, tPutI, tPutZ, tPutR, tCallV, tCallS, popN, tFn, tCopy, tMax, tMin, tSw, swc, tRem, tObjI, Option.toList, List.nil_append, List.cons_append, okR, true_and, and_true, true_or, or_true, Nat.zero_le, ne_eq, not_false_eq_true, Nat.reduceEqDiff, F_X12_lays, F_X12_of, hS0, upF_same, upF_upF]
    have e4 : ((514 : Int32) * nI s + 4).toNatClampNeg = 514 * s + 4 := by rw [ixs 4 4 rfl, nI_clamp (by omega)]
    have b4 : inb ((514 : Int32) * nI s + 4) 13548 := by rw [ixs 4 4 rfl, nI_inb (by omega)]; omega
    simp only [e4, b4, hl, true_and]
    have eL : (34 : Int32) + 4 * nI l = nI (34 + 4 * l) := by rw [show (34 : Int32) = nI 34 from rfl, show (4 : Int32) = nI 4 from rfl, pk_mul, nI_add]
    rw [eL]
    simp (disch := omega) only [lit, nI_add, pk_mul, nI_clamp, nI_inb]
    refine ⟨by omega, by omega, by omega, by omega, ?_⟩
    unfold qPut at h
    simp only [hl] at h
    rw [nI_clamp hl0] at h
    have key : ∀ A : Rw, A (514 * s + 4) = nI l → up (up (up (up A (514 * s + (34 + 4 * l)) t) (514 * s + (34 + 4 * l + 1)) kd) (514 * s + (34 + 4 * l + 2)) x) (514 * s + (34 + 4 * l + 3)) y (514 * s + 4) = nI l := by
      intro A hA
      unfold up
      rw [if_neg (by omega), if_neg (by omega), if_neg (by omega), if_neg (by omega)]
      exact hA
    rw [key _ hl]
    rw [show (nI l + 1 : Int32) = nI (l + 1) from nI_1 l] at h
    simpa only [Nat.add_assoc, nI_add] using h
  · exact h.elim
