/-! ===== the class: a store's acts, held against the row ===== -/
theorem clr_ne {μ : Mi} {r y : Nat} (h : y ≠ r) : clr μ r y = μ y := by unfold clr; rw [upI_ne h, upI_ne h, upI_ne h, upI_ne h]
theorem clr_0 {μ : Mi} {r i : Nat} (h : i < 4) : clr μ r r i = 0 := by
  unfold clr upI
  rcases (by omega : i = 0 ∨ i = 1 ∨ i = 2 ∨ i = 3) with z | z | z | z <;> subst z <;> simp
theorem cBec_ne {μ : Mi} {x y : Nat} {o : Int32} (h : y ≠ x) (h7 : y ≠ x + 7) : cBec μ x o y = μ y := by
  unfold cBec
  split
  · rfl
  · split
    · rw [clr_ne h7, upI_ne h, upI_ne h]
    · rw [upI_ne h, upI_ne h]
theorem qCfg_c {A B : Rw} {s : Nat} (h5 : B (514 * s + 5) = A (514 * s + 5)) (h9 : B (514 * s + 9) = A (514 * s + 9)) (h10 : B (514 * s + 10) = A (514 * s + 10)) (h4 : B 4514 = A 4514) :
    ∀ n, (∀ i, 514 * s + 34 ≤ i → i < 514 * s + 34 + 4 * n → B i = A i) → qCfg B s n = qCfg A s n := by
  intro n
  have hb : qBase B s = qBase A s := by unfold qBase; rw [h9, h10, h4]
  induction n with
  | zero => intro _; exact hb
  | succ n ih =>
    intro h
    show (if nI (n + 1) ≤ B (514 * s + 5) then qBase B s else _) = (if nI (n + 1) ≤ A (514 * s + 5) then qBase A s else _)
    rw [h5, hb, ih (fun i i1 i2 => h i i1 (by omega)), h _ (by omega) (by omega), h _ (by omega) (by omega), h _ (by omega) (by omega)]
theorem cCfg_q {A : Rw} {s x : Nat} {μ : Mi} (h0 : μ (x + 5) 0 = A (514 * s + 5)) (h2 : μ (x + 5) 2 = fst1 (A 4514) (A (514 * s + 9))) (h3 : μ (x + 5) 3 = A (514 * s + 10)) :
    ∀ n, n < 2 ^ 31 → 0 ≤ (A (514 * s + 5)).toInt → (∀ p, (A (514 * s + 5)).toNatClampNeg < p → p ≤ n → enR (μ (x + 1) p) A (514 * s + 30 + 4 * p)) → cCfg μ x n = ((qCfg A s n).1, (qCfg A s n).2.1, (qCfg A s n).2.2.2) := by
  intro n hn hz
  have hb : (μ (x + 5) 2, μ (x + 5) 3, (0 : Int32)) = ((qBase A s).1, (qBase A s).2.1, (qBase A s).2.2.2) := by
    rw [h2, h3]; unfold qBase fst1; rfl
  induction n with
  | zero => intro _; exact hb
  | succ n ih =>
    intro h
    have e := ih (by omega) (fun p p1 p2 => h p p1 (by omega))
    rw [cCfg_s, hb, h0]
    have eq : qCfg A s (n + 1) = if nI (n + 1) ≤ A (514 * s + 5) then qBase A s else if A (514 * s + 30 + 4 * (n + 1) + 1) = 3 ∨ A (514 * s + 30 + 4 * (n + 1) + 1) = 4 then
      (A (514 * s + 30 + 4 * (n + 1) + 2), if A (514 * s + 30 + 4 * (n + 1) + 1) = 3 then A (514 * s + 30 + 4 * (n + 1) + 3) else 0, A (514 * s + 30 + 4 * (n + 1) + 1), nI (n + 1)) else qCfg A s n := rfl
    rw [eq]
    by_cases c : nI (n + 1) ≤ A (514 * s + 5)
    · rw [if_pos c, if_pos c]
    · rw [if_neg c, if_neg c]
      have c' := c
      rw [Int32.le_iff_toInt_le, nI_toInt hn] at c'
      have hp : (A (514 * s + 5)).toNatClampNeg < n + 1 := by
        have : (A (514 * s + 5)).toNatClampNeg = (A (514 * s + 5)).toInt.toNat := rfl
        omega
      obtain ⟨⟨-, q1, q2, q3⟩, k0, k1, k2, k3, -⟩ := h (n + 1) hp (Nat.le_refl _)
      by_cases c3 : eKd (μ (x + 1) (n + 1)) < 3
      · rw [if_neg (not_not_intro c3), e, if_neg]
        rw [← q1]
        intro z
        rcases z with z | z <;> rw [z] at c3 <;> exact absurd c3 (by decide)
      · rw [if_pos c3]
        have c4 : eKd (μ (x + 1) (n + 1)) = 3 ∨ eKd (μ (x + 1) (n + 1)) = 4 := by
          obtain ⟨m, m1, m2, -, m3⟩ := rg_ex k1
          rw [m1, Int32.lt_iff_toInt_lt, nI_toInt m2] at c3
          have : (3 : Int32).toInt = 3 := rfl
          rw [m1]
          rcases (by omega : m = 3 ∨ m = 4) with z | z <;> subst z
          · exact Or.inl rfl
          · exact Or.inr rfl
        rw [← q1, if_pos c4, q2]
        rcases c4 with z | z
        · rw [if_pos z, q3]
        · rw [if_neg (by rw [z]; decide), k2 z]
theorem St_rg {A : Rw} {s x : Nat} {μ : Mi} (h : St A s x μ) : rg (A (514 * s + 4)) 0 120 ∧ rg (A (514 * s + 5)) 0 120 ∧ (A (514 * s + 5)).toInt ≤ (A (514 * s + 4)).toInt := ⟨h.2.1.2.1, h.2.1.2.2.1, h.2.1.2.2.2.1⟩
theorem qRN_out {A : Rw} {s i : Nat} (h : i ≠ 514 * s + 11 ∧ i ≠ 514 * s + 12 ∧ i ≠ 514 * s + 13 ∧ i ≠ 514 * s + 15) : qReadsNothing A s i = A i := by
  unfold qReadsNothing
  rw [up_ne (by omega), up_ne (by omega), up_ne (by omega), up_ne (by omega)]
/-- only what a store notes of itself changes: neither log nor snapshot nor cells -/
theorem St_note {A A' : Rw} {s x : Nat} {μ μ' : Mi} (hs : s < 5) (h : St A s x μ) (hA : ∀ i, (i < 514 * s ∨ 514 * s + 4 ≤ i) → i ≠ 514 * s + 7 → i ≠ 514 * s + 8 → (i < 514 * s + 11 ∨ 514 * s + 16 ≤ i) → A' i = A i) (hu : A' (514 * s) = 0 ∨ A' (514 * s) = 1)
    (hμ : ∀ y, x ≤ y → y < x + 8 → y ≠ x → y ≠ x + 7 → y ≠ x + 3 → y ≠ x + 4 → μ' y = μ y) (h9 : μ' x 9 = μ x 9 ∧ μ' x 10 = μ x 10 ∧ μ' x 11 = μ x 11) (hn : StA A' s x μ') : St A' s x μ' := by
  obtain ⟨h1, h2, h3, h5, h6⟩ := h
  have hm : qMem A' s = qMem A s := by
    unfold qMem
    rw [hA _ (by omega) (by omega) (by omega) (by omega)]
    obtain ⟨l, e1, e2, -, e3⟩ := rg_ex h2.2.1
    rw [e1, nI_clamp e2]
    exact qCfg_c (hA _ (by omega) (by omega) (by omega) (by omega)) (hA _ (by omega) (by omega) (by omega) (by omega)) (hA _ (by omega) (by omega) (by omega) (by omega)) (hA _ (by omega) (by omega) (by omega) (by omega)) l (fun i i1 i2 => hA _ (by omega) (by omega) (by omega) (by omega))
  refine ⟨hn, ?_, ⟨?_, ?_, ?_⟩, ?_, ?_⟩
  · unfold StB at *
    refine ⟨hu, ?_⟩
    simp (disch := omega) only [hA]
    exact h2.2
  · intro i hi
    rw [hμ (x + 2) (by omega) (by omega) (by omega) (by omega) (by omega) (by omega), hA _ (by omega) (by omega) (by omega) (by omega)]
    exact h3.1 i hi
  · intro i hi
    rw [hμ (x + 6) (by omega) (by omega) (by omega) (by omega) (by omega) (by omega), hA _ (by omega) (by omega) (by omega) (by omega)]
    exact h3.2.1 i hi
  · rw [hμ (x + 5) (by omega) (by omega) (by omega) (by omega) (by omega) (by omega), hA _ (by omega) (by omega) (by omega) (by omega), hA _ (by omega) (by omega) (by omega) (by omega)]
    exact h3.2.2
  · intro p p1 p2
    rw [hA _ (by omega) (by omega) (by omega) (by omega)] at p1 p2
    rw [hμ (x + 1) (by omega) (by omega) (by omega) (by omega) (by omega) (by omega)]
    exact enR_congr (h5 p p1 p2) (hA _ (by omega) (by omega) (by omega) (by omega)) (hA _ (by omega) (by omega) (by omega) (by omega)) (hA _ (by omega) (by omega) (by omega) (by omega)) (hA _ (by omega) (by omega) (by omega) (by omega))
  · unfold StQ at *
    rw [hm, h9.1, h9.2.1, h9.2.2]
    exact h6
theorem St_bec {A : Rw} {s x : Nat} {μ : Mi} {o : Int32} (hs : s < 5) (h : St A s x μ) : St (qPlays A s o) s x (cBec μ x o) := by
  have hA := h.1
  unfold StA at hA
  unfold qPlays cBec
  rw [hA.2.2.2.2.1, hA.2.2.2.2.2.2.2.2.2.2.2.2.1]
  by_cases c : A (514 * s + 3) = o
  · rw [if_pos c, if_pos c]; exact h
  · rw [if_neg c, if_neg c]
    by_cases c2 : A (514 * s + 11) = 1
    · rw [if_pos c2, if_pos c2]
      refine St_note hs h (fun i i1 i2 i3 i4 => ?_) ?_ (fun y y1 y2 y3 y4 y5 y6 => ?_) ?_ ?_
      · rw [qRN_out (by omega), up_ne (by omega), up_ne (by omega)]
      · rw [qRN_out (by omega), up_ne (by omega), up_ne (by omega)]; exact h.2.1.1
      · rw [clr_ne (by omega), upI_ne (by omega), upI_ne (by omega)]
      · rw [clr_ne (by omega)]; simp (disch := omega) only [upI_k, and_self]
      · unfold StA
        simp (disch := omega) only [clr_ne, clr_0, upI_ne, upI_k, upI_at, qReadsNothing, up_at, up_ne, hA, and_self]
    · rw [if_neg c2, if_neg c2]
      refine St_note hs h (fun i i1 i2 i3 i4 => ?_) ?_ (fun y y1 y2 y3 y4 y5 y6 => ?_) ?_ ?_
      · rw [up_ne (by omega), up_ne (by omega)]
      · rw [up_ne (by omega), up_ne (by omega)]; exact h.2.1.1
      · rw [upI_ne (by omega), upI_ne (by omega)]
      · simp (disch := omega) only [upI_k, and_self]
      · unfold StA
        simp (disch := omega) only [upI_ne, upI_k, upI_at, up_at, up_ne, hA, and_self]
