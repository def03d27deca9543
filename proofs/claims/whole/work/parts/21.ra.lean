/-! ===== numbers ===== -/
theorem lit (n : Nat) : (OfNat.ofNat n : Int32) = nI n := rfl
theorem inb_nI {k n : Nat} (h : k < n) (hn : n < 2 ^ 31) : inb (nI k) n := nI_in h hn
theorem nI_inb {k n : Nat} (hk : k < 2 ^ 31) : inb (nI k) n ↔ k < n := by
  unfold inb vp_in
  rw [nI_clamp hk]
  have := nI_pos hk
  constructor
  · intro h; exact Nat.not_le.mp (fun z => h (Or.inr z))
  · rintro h (z | z)
    · exact this z
    · omega
theorem nI_self {x : Int32} (h : 0 ≤ x.toInt) : x = nI x.toNatClampNeg := by
  obtain ⟨k, hk, rfl⟩ := nI_of (x := x) (by rw [Int32.lt_iff_toInt_lt]; simpa using h)
  rw [nI_clamp hk]
theorem nI_lt0 {n : Nat} (h : n < 2 ^ 31) : (nI n < 0) = False := eq_false (nI_pos h)
theorem nI_e0 {n : Nat} (h : n < 2 ^ 31) : (nI n = 0) ↔ n = 0 := by
  rw [show (0 : Int32) = nI 0 from rfl, nI_eq h (by decide)]
/-! ===== memory ===== -/
theorem upF_same {α : Type} {μ : Nat → Nat → α} {a : Nat} {f : Nat → α} : upF μ a f a = f := by simp [upF]
theorem upF_ne {α : Type} {μ : Nat → Nat → α} {a b : Nat} {f : Nat → α} (h : b ≠ a) : upF μ a f b = μ b := by simp [upF, h]
theorem upF_upF {α : Type} {μ : Nat → Nat → α} {a : Nat} {f g : Nat → α} : upF (upF μ a f) a g = upF μ a g := by funext b; by_cases h : b = a <;> simp [upF, h]
theorem upF_id {α : Type} {μ : Nat → Nat → α} {a : Nat} : upF μ a (μ a) = μ := by funext b; by_cases h : b = a <;> simp [upF, h]
abbrev Rw : Type := Nat → Int32
def up (A : Rw) (i : Nat) (v : Int32) : Rw := fun j => if j = i then v else A j
theorem upI_upF {μ : Mi} {a k : Nat} {x : Int32} : upI μ a k x = upF μ a (up (μ a) k x) := by
  funext b i
  by_cases h : b = a
  · subst h; simp [upI, upF, up]
  · simp [upI, upF, h]
/-! ===== the reference: its cells; the smallest methods ===== -/
def RS (S : Sh) (ρ : Mr) : Prop := S.2 2737 = (12, 27) ∧ S.2 2738 = (20, 13548) ∧ S.2 2739 = (20, 36128) ∧ S.2 2740 = (20, 4516) ∧ S.2 2741 = (20, 4516) ∧ S.2 2742 = (20, 18064) ∧ S.2 2743 = (22, 2) ∧ S.2 2744 = (20, 21) ∧ S.2 2745 = (21, 300) ∧ S.2 2746 = (21, 103) ∧ S.2 2747 = (20, 3) ∧
  ρ 2737 1 = 2738 ∧ ρ 2737 2 = 2739 ∧ ρ 2737 3 = 2740 ∧ ρ 2737 4 = 2741 ∧ ρ 2737 5 = 2742 ∧ ρ 2737 7 = 2743 ∧ ρ 2737 12 = 2744 ∧ ρ 2737 13 = 2745 ∧ ρ 2737 22 = 2746 ∧ ρ 2737 24 = 2747
def b2 (p : Prop) [Decidable p] : Int32 := if p then 1 else 0
theorem b2_01 (p : Prop) [Decidable p] : b2 p = 0 ∨ b2 p = 1 := by unfold b2; split <;> simp
def F_X12_of : FT := fun As S μ ρ k => match As with
  | [.ref a, .int s, .int w] => a = 2737 ∧ RS S ρ ∧ inb (514 * s + w) 13548 ∧ k (some (.int (μ 2738 (514 * s + w).toNatClampNeg))) μ
  | _ => False
theorem r_X12_of {As S μ ρ k} (h : F_X12_of As S μ ρ k) : ∃ a As', As = Value.ref a :: As' ∧ S.2 a = (12, 27) := by
  unfold F_X12_of at h
  split at h
  · exact ⟨_, _, rfl, by rw [h.1]; exact h.2.1.1⟩
  · exact h.elim
theorem f_X12_of {Z : Zt} {d : Nat} {As : List Value} {S : Sh} {μ : Mi} {ρ : Mr} {Rp : RT} (h : F_X12_of As S μ ρ (fun r μ' => Rp r S μ' ρ)) : MS Z (d + 1) jX12_of As S μ ρ Rp := by
  unfold F_X12_of at h
  split at h
  · obtain ⟨rfl, hS, h1, h2⟩ := h
    unfold RS at hS
    refine ms_X12_of _ _ _ (fun G => ?_)
    simp only [w_X12_of_0, tAload, tIload, nth, tGetI, tGetR, tConst, tLconst, tBin, tUn, tI2l, tAld, tAldR, tAlen, tIast, tBast, tZast, tAast, tIret, tZret, tVret, tAret, tIf, tIf2, tGoto, tIstore, tAstore, sset, tIinc, tDup, tDup2, tPop, tPutI, tPutZ, tPutR, tCallV, tCallS, popN, tFn, tCopy, tMax, tMin, tSw, swc, tRem, tObjI, Option.toList, List.nil_append, List.cons_append, okR, true_and, and_true, true_or, or_true, Nat.zero_le, ne_eq, not_false_eq_true, Nat.reduceEqDiff, hS]
    exact ⟨h1, h2⟩
  · exact h.elim
def F_X12_lays : FT := fun As S μ ρ k => match As with
  | [.ref a, .int s, .int w, .int v] => a = 2737 ∧ RS S ρ ∧ inb (514 * s + w) 13548 ∧ k none (upF μ 2738 (up (μ 2738) (514 * s + w).toNatClampNeg v))
  | _ => False
theorem r_X12_lays {As S μ ρ k} (h : F_X12_lays As S μ ρ k) : ∃ a As', As = Value.ref a :: As' ∧ S.2 a = (12, 27) := by
  unfold F_X12_lays at h
  split at h
  · exact ⟨_, _, rfl, by rw [h.1]; exact h.2.1.1⟩
  · exact h.elim
theorem f_X12_lays {Z : Zt} {d : Nat} {As : List Value} {S : Sh} {μ : Mi} {ρ : Mr} {Rp : RT} (h : F_X12_lays As S μ ρ (fun r μ' => Rp r S μ' ρ)) : MS Z (d + 1) jX12_lays As S μ ρ Rp := by
  unfold F_X12_lays at h
  split at h
  · obtain ⟨rfl, hS, h1, h2⟩ := h
    unfold RS at hS
    refine ms_X12_lays _ _ _ _ (fun G => ?_)
    simp only [w_X12_lays_0, tAload, tIload, nth, tGetI, tGetR, tConst, tLconst, tBin, tUn, tI2l, tAld, tAldR, tAlen, tIast, tBast, tZast, tAast, tIret, tZret, tVret, tAret, tIf, tIf2, tGoto, tIstore, tAstore, sset, tIinc, tDup, tDup2, tPop, tPutI, tPutZ, tPutR, tCallV, tCallS, popN, tFn, tCopy, tMax, tMin, tSw, swc, tRem, tObjI, Option.toList, List.nil_append, List.cons_append, okR, true_and, and_true, true_or, or_true, Nat.zero_le, ne_eq, not_false_eq_true, Nat.reduceEqDiff, hS, upI_upF]
    exact ⟨h1, h2⟩
  · exact h.elim
def F_X12_has : FT := fun As _ μ _ k => match As with
  | [.int s, .int w] => k (some (.int (b2 ((s >>> (w &&& 31)) &&& 1 = 1)))) μ
  | _ => False
theorem f_X12_has {Z : Zt} {d : Nat} {As : List Value} {S : Sh} {μ : Mi} {ρ : Mr} {Rp : RT} (h : F_X12_has As S μ ρ (fun r μ' => Rp r S μ' ρ)) : MS Z (d + 1) jX12_has As S μ ρ Rp := by
  unfold F_X12_has at h
  split at h
  · refine ms_X12_has _ _ (fun G => ?_)
    simp only [w_X12_has_0, w_X12_has_13, w_X12_has_14, tAload, tIload, nth, tGetI, tGetR, tConst, tLconst, tBin, tUn, tI2l, tAld, tAldR, tAlen, tIast, tBast, tZast, tAast, tIret, tZret, tVret, tAret, tIf, tIf2, tGoto, tIstore, tAstore, sset, tIinc, tDup, tDup2, tPop, tPutI, tPutZ, tPutR, tCallV, tCallS, popN, tFn, tCopy, tMax, tMin, tSw, swc, tRem, tObjI, Option.toList, List.nil_append, List.cons_append, okR, true_and, and_true, true_or, or_true, Nat.zero_le, ne_eq, not_false_eq_true, Nat.reduceEqDiff]
    refine ⟨fun hc => ?_, fun hc => ?_⟩
    · simp only [b2, hc, if_false] at h
      exact h
    · simp only [Decidable.not_not] at hc
      simp only [b2, hc, if_true] at h
      exact h
  · exact h.elim
def F_X12_greater : FT := fun As _ μ _ k => match As with
  | [.int x, .int y] => k (some (.int (if y < x then x else y))) μ
  | _ => False
theorem f_X12_greater {Z : Zt} {d : Nat} {As : List Value} {S : Sh} {μ : Mi} {ρ : Mr} {Rp : RT} (h : F_X12_greater As S μ ρ (fun r μ' => Rp r S μ' ρ)) : MS Z (d + 1) jX12_greater As S μ ρ Rp := by
  unfold F_X12_greater at h
  split at h
  · refine ms_X12_greater _ _ (fun G => ?_)
    simp only [w_X12_greater_0, w_X12_greater_9, w_X12_greater_10, tAload, tIload, nth, tGetI, tGetR, tConst, tLconst, tBin, tUn, tI2l, tAld, tAldR, tAlen, tIast, tBast, tZast, tAast, tIret, tZret, tVret, tAret, tIf, tIf2, tGoto, tIstore, tAstore, sset, tIinc, tDup, tDup2, tPop, tPutI, tPutZ, tPutR, tCallV, tCallS, popN, tFn, tCopy, tMax, tMin, tSw, swc, tRem, tObjI, Option.toList, List.nil_append, List.cons_append, okR, true_and, and_true, true_or, or_true, Nat.zero_le, ne_eq, not_false_eq_true, Nat.reduceEqDiff]
    refine ⟨fun hc => ?_, fun hc => ?_⟩
    · rw [if_neg (Int32.not_lt.mpr hc)] at h
      exact h
    · rw [if_pos (Int32.not_le.mp hc)] at h
      exact h
  · exact h.elim
def F_X12_lesser : FT := fun As _ μ _ k => match As with
  | [.int x, .int y] => k (some (.int (if x < y then x else y))) μ
  | _ => False
theorem f_X12_lesser {Z : Zt} {d : Nat} {As : List Value} {S : Sh} {μ : Mi} {ρ : Mr} {Rp : RT} (h : F_X12_lesser As S μ ρ (fun r μ' => Rp r S μ' ρ)) : MS Z (d + 1) jX12_lesser As S μ ρ Rp := by
  unfold F_X12_lesser at h
  split at h
  · refine ms_X12_lesser _ _ (fun G => ?_)
    simp only [w_X12_lesser_0, w_X12_lesser_9, w_X12_lesser_10, tAload, tIload, nth, tGetI, tGetR, tConst, tLconst, tBin, tUn, tI2l, tAld, tAldR, tAlen, tIast, tBast, tZast, tAast, tIret, tZret, tVret, tAret, tIf, tIf2, tGoto, tIstore, tAstore, sset, tIinc, tDup, tDup2, tPop, tPutI, tPutZ, tPutR, tCallV, tCallS, popN, tFn, tCopy, tMax, tMin, tSw, swc, tRem, tObjI, Option.toList, List.nil_append, List.cons_append, okR, true_and, and_true, true_or, or_true, Nat.zero_le, ne_eq, not_false_eq_true, Nat.reduceEqDiff]
    refine ⟨fun hc => ?_, fun hc => ?_⟩
    · rw [if_neg (Int32.not_lt.mpr hc)] at h
      exact h
    · rw [if_pos (Int32.not_le.mp hc)] at h
      exact h
  · exact h.elim
/-- how many of the five -/
def cnt5 (x : Int32) : Int32 := (x &&& 1) + (x >>> (1 : Int32) &&& 1) + (x >>> (2 : Int32) &&& 1) + (x >>> (3 : Int32) &&& 1) + (x >>> (4 : Int32) &&& 1)
def F_X12_bits : FT := fun As _ μ _ k => match As with
  | [.int x] => k (some (.int (cnt5 x))) μ
  | _ => False
theorem f_X12_bits {Z : Zt} {d : Nat} {As : List Value} {S : Sh} {μ : Mi} {ρ : Mr} {Rp : RT} (h : F_X12_bits As S μ ρ (fun r μ' => Rp r S μ' ρ)) : MS Z (d + 1) jX12_bits As S μ ρ Rp := by
  unfold F_X12_bits at h
  split at h
  · rename_i x
    refine ms_X12_bits _ (fun G g1 => ?_)
    simp only [w_X12_bits_0, tAload, tIload, nth, tGetI, tGetR, tConst, tLconst, tBin, tUn, tI2l, tAld, tAldR, tAlen, tIast, tBast, tZast, tAast, tIret, tZret, tVret, tAret, tIf, tIf2, tGoto, tIstore, tAstore, sset, tIinc, tDup, tDup2, tPop, tPutI, tPutZ, tPutR, tCallV, tCallS, popN, tFn, tCopy, tMax, tMin, tSw, swc, tRem, tObjI, Option.toList, List.nil_append, List.cons_append, okR, true_and, and_true, true_or, or_true, Nat.zero_le, ne_eq, not_false_eq_true, Nat.reduceEqDiff]
    have step : ∀ (k : Nat) (v : Int32), k < 5 → G 4 [.int x, .int (v + (x >>> (nI k &&& 31) &&& 1)), .int (nI (k + 1))] [] S (0, 0) μ ρ → G 4 [.int x, .int v, .int (nI k)] [] S (0, 0) μ ρ := by
      intro k v hk hg
      refine g1 _ _ _ _ _ _ ?_
      simp only [w_X12_bits_4, w_X12_bits_23, tAload, tIload, nth, tGetI, tGetR, tConst, tLconst, tBin, tUn, tI2l, tAld, tAldR, tAlen, tIast, tBast, tZast, tAast, tIret, tZret, tVret, tAret, tIf, tIf2, tGoto, tIstore, tAstore, sset, tIinc, tDup, tDup2, tPop, tPutI, tPutZ, tPutR, tCallV, tCallS, popN, tFn, tCopy, tMax, tMin, tSw, swc, tRem, tObjI, Option.toList, List.nil_append, List.cons_append, okR, true_and, and_true, true_or, or_true, Nat.zero_le, ne_eq, not_false_eq_true, Nat.reduceEqDiff]
      refine ⟨fun hc => ?_, fun hc => ?_⟩
      · exact absurd hc (lt5' k hk)
      · rw [nI_1]; exact hg
    have e0 : x >>> (nI 0 &&& 31) &&& 1 = x &&& 1 := by rw [show nI 0 &&& 31 = 0 from by decide]; congr 1; exact Int32.shiftRight_zero
    refine step 0 _ (by decide) (step 1 _ (by decide) (step 2 _ (by decide) (step 3 _ (by decide) (step 4 _ (by decide) ?_))))
    refine g1 _ _ _ _ _ _ ?_
    simp only [w_X12_bits_4, w_X12_bits_23, tAload, tIload, nth, tGetI, tGetR, tConst, tLconst, tBin, tUn, tI2l, tAld, tAldR, tAlen, tIast, tBast, tZast, tAast, tIret, tZret, tVret, tAret, tIf, tIf2, tGoto, tIstore, tAstore, sset, tIinc, tDup, tDup2, tPop, tPutI, tPutZ, tPutR, tCallV, tCallS, popN, tFn, tCopy, tMax, tMin, tSw, swc, tRem, tObjI, Option.toList, List.nil_append, List.cons_append, okR, true_and, and_true, true_or, or_true, Nat.zero_le, ne_eq, not_false_eq_true, Nat.reduceEqDiff]
    refine ⟨fun _ => ?_, fun hc => absurd (by decide) hc⟩
    rw [e0, show (0 : Int32) + (x &&& 1) = x &&& 1 from Int32.zero_add _]
    rw [show nI 1 &&& 31 = 1 from by decide, show nI 2 &&& 31 = 2 from by decide, show nI 3 &&& 31 = 3 from by decide, show nI 4 &&& 31 = 4 from by decide]
    exact h
  · exact h.elim
/-- a row of cells, copied -/
def cpF (f g : Rw) (sp dp n : Nat) : Rw := fun k => if dp ≤ k ∧ k < dp + n then f (sp + (k - dp)) else g k
def F_X12_copies : FT := fun As S μ ρ k => match As with
  | [.ref a, .int f, .ref b, .int t, .int n] => (S.2 a).1 = 20 ∧ (S.2 b).1 = 20 ∧ 0 ≤ f.toInt ∧ 0 ≤ t.toInt ∧ 0 ≤ n.toInt ∧ f.toNatClampNeg + n.toNatClampNeg ≤ (S.2 a).2 ∧ t.toNatClampNeg + n.toNatClampNeg ≤ (S.2 b).2 ∧ (S.2 a).2 ≤ 100000 ∧ (S.2 b).2 ≤ 100000 ∧
      (a ≠ b ∨ t.toNatClampNeg ≤ f.toNatClampNeg ∨ f.toNatClampNeg + n.toNatClampNeg ≤ t.toNatClampNeg) ∧ k none (upF μ b (cpF (μ a) (μ b) f.toNatClampNeg t.toNatClampNeg n.toNatClampNeg))
  | _ => False
theorem f_X12_copies {Z : Zt} {d : Nat} {As : List Value} {S : Sh} {μ : Mi} {ρ : Mr} {Rp : RT} (h : F_X12_copies As S μ ρ (fun r μ' => Rp r S μ' ρ)) : MS Z (d + 1) jX12_copies As S μ ρ Rp := by
  unfold F_X12_copies at h
  split at h
  · rename_i a f b t n
    obtain ⟨h1, h2, h3, h4, h5, h6, h7, h8, h9, h10, hQ⟩ := h
    rw [nI_self h3, nI_self h4, nI_self h5]
    generalize f.toNatClampNeg = f at *
    generalize t.toNatClampNeg = t at *
    generalize n.toNatClampNeg = n at *
    refine ms_X12_copies _ _ _ _ _ (fun G g1 => ?_)
    simp only [w_X12_copies_0, tAload, tIload, nth, tGetI, tGetR, tConst, tLconst, tBin, tUn, tI2l, tAld, tAldR, tAlen, tIast, tBast, tZast, tAast, tIret, tZret, tVret, tAret, tIf, tIf2, tGoto, tIstore, tAstore, sset, tIinc, tDup, tDup2, tPop, tPutI, tPutZ, tPutR, tCallV, tCallS, popN, tFn, tCopy, tMax, tMin, tSw, swc, tRem, tObjI, Option.toList, List.nil_append, List.cons_append, okR, true_and, and_true, true_or, or_true, Nat.zero_le, ne_eq, not_false_eq_true, Nat.reduceEqDiff]
    have loop : ∀ (m k : Nat), k + m = n → G 3 [.ref a, .int (nI f), .ref b, .int (nI t), .int (nI n), .int (nI k)] [] S (0, 0) (upF μ b (cpF (μ a) (μ b) f t k)) ρ := by
      intro m
      induction m with
      | zero =>
        intro k hk
        refine g1 _ _ _ _ _ _ ?_
        simp only [w_X12_copies_3, w_X12_copies_28, tAload, tIload, nth, tGetI, tGetR, tConst, tLconst, tBin, tUn, tI2l, tAld, tAldR, tAlen, tIast, tBast, tZast, tAast, tIret, tZret, tVret, tAret, tIf, tIf2, tGoto, tIstore, tAstore, sset, tIinc, tDup, tDup2, tPop, tPutI, tPutZ, tPutR, tCallV, tCallS, popN, tFn, tCopy, tMax, tMin, tSw, swc, tRem, tObjI, Option.toList, List.nil_append, List.cons_append, okR, true_and, and_true, true_or, or_true, Nat.zero_le, ne_eq, not_false_eq_true, Nat.reduceEqDiff]
        refine ⟨fun _ => ?_, fun hc => absurd (nI_le (by omega) (by omega)) hc⟩
        rw [show k = n by omega]
        exact hQ
      | succ m ih =>
        intro k hk
        refine g1 _ _ _ _ _ _ ?_
        simp only [w_X12_copies_3, w_X12_copies_28, tAload, tIload, nth, tGetI, tGetR, tConst, tLconst, tBin, tUn, tI2l, tAld, tAldR, tAlen, tIast, tBast, tZast, tAast, tIret, tZret, tVret, tAret, tIf, tIf2, tGoto, tIstore, tAstore, sset, tIinc, tDup, tDup2, tPop, tPutI, tPutZ, tPutR, tCallV, tCallS, popN, tFn, tCopy, tMax, tMin, tSw, swc, tRem, tObjI, Option.toList, List.nil_append, List.cons_append, okR, true_and, and_true, true_or, or_true, Nat.zero_le, ne_eq, not_false_eq_true, Nat.reduceEqDiff]
        refine ⟨fun hc => absurd hc (nI_ge (by omega) (by omega)), fun hc => ?_⟩
        simp only [nI_add, nI_1]
        rw [nI_clamp (by omega), nI_clamp (by omega)]
        refine ⟨h1, inb_nI (by omega) (by omega), h2, inb_nI (by omega) (by omega), ?_⟩
        have key : upI (upF μ b (cpF (μ a) (μ b) f t k)) b (t + k) (upF μ b (cpF (μ a) (μ b) f t k) a (f + k)) = upF μ b (cpF (μ a) (μ b) f t (k + 1)) := by
          rw [upI_upF, upF_same, upF_upF]
          congr 1
          funext i
          have e1 : upF μ b (cpF (μ a) (μ b) f t k) a (f + k) = μ a (f + k) := by
            by_cases hab : a = b
            · subst hab
              rw [upF_same]
              unfold cpF
              rw [if_neg]
              rintro ⟨q1, q2⟩
              rcases h10 with z | z | z
              · exact z rfl
              · omega
              · omega
            · rw [upF_ne hab]
          rw [e1]
          unfold up cpF
          by_cases hi : i = t + k
          · subst hi
            rw [if_pos rfl, if_pos (by omega)]
            congr 1
            omega
          · rw [if_neg hi]
            by_cases hj : t ≤ i ∧ i < t + k
            · rw [if_pos hj, if_pos (by omega)]
            · rw [if_neg hj, if_neg (by omega)]
        rw [key]
        exact ih (k + 1) (by omega)
    have e0 : upF μ b (cpF (μ a) (μ b) f t 0) = μ := by
      have : cpF (μ a) (μ b) f t 0 = μ b := by funext i; unfold cpF; rw [if_neg (by omega)]
      rw [this, upF_id]
    have := loop n 0 (by omega)
    rw [e0] at this
    exact this
  · exact h.elim
