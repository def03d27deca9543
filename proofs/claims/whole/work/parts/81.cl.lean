/-! ===== the class: a snapshot is made, installed ===== -/
theorem cpF_in {f g : Rw} {sp dp n i : Nat} (h : i < n) : cpF f g sp dp n (dp + i) = f (sp + i) := by
  unfold cpF
  rw [if_pos (by omega), show sp + (dp + i - dp) = sp + i by omega]
theorem cCfg_told {A : Rw} {s n : Nat} (hn : n < 2 ^ 31) : ((qCfg A s n).2.2.2 = 0 ∧ qCfg A s n = qBase A s) ∨ (¬ (qCfg A s n).2.2.2 = 0 ∧ ∃ p : Nat, (A (514 * s + 5)).toInt < p ∧ p ≤ n ∧ (A (514 * s + 30 + 4 * p + 1) = 3 ∨ A (514 * s + 30 + 4 * p + 1) = 4) ∧ (qCfg A s n).1 = A (514 * s + 30 + 4 * p + 2) ∧ (qCfg A s n).2.1 = (if A (514 * s + 30 + 4 * p + 1) = 3 then A (514 * s + 30 + 4 * p + 3) else 0) ∧ (qCfg A s n).2.2.2 = nI p) := by
  induction n with
  | zero => exact Or.inl ⟨rfl, rfl⟩
  | succ n ih =>
    have eq : qCfg A s (n + 1) = if nI (n + 1) ≤ A (514 * s + 5) then qBase A s else if A (514 * s + 30 + 4 * (n + 1) + 1) = 3 ∨ A (514 * s + 30 + 4 * (n + 1) + 1) = 4 then
      (A (514 * s + 30 + 4 * (n + 1) + 2), if A (514 * s + 30 + 4 * (n + 1) + 1) = 3 then A (514 * s + 30 + 4 * (n + 1) + 3) else 0, A (514 * s + 30 + 4 * (n + 1) + 1), nI (n + 1)) else qCfg A s n := rfl
    rw [eq]
    by_cases c : nI (n + 1) ≤ A (514 * s + 5)
    · rw [if_pos c]; exact Or.inl ⟨rfl, rfl⟩
    · rw [if_neg c]
      rw [Int32.le_iff_toInt_le, nI_toInt hn] at c
      by_cases c2 : A (514 * s + 30 + 4 * (n + 1) + 1) = 3 ∨ A (514 * s + 30 + 4 * (n + 1) + 1) = 4
      · rw [if_pos c2]
        refine Or.inr ⟨?_, n + 1, by omega, Nat.le_refl _, c2, rfl, rfl, rfl⟩
        show ¬ nI (n + 1) = nI 0
        rw [nI_eq hn (by decide)]
        omega
      · rw [if_neg c2]
        rcases ih (by omega) with z | ⟨z1, p, z2⟩
        · exact Or.inl z
        · exact Or.inr ⟨z1, p, z2.1, by omega, z2.2.2⟩
theorem St_snap {A : Rw} {s x : Nat} {μ : Mi} (hs : s < 5) (h : St A s x μ) (h57 : (A (514 * s + 5)).toInt ≤ (A (514 * s + 7)).toInt) (h74 : (A (514 * s + 7)).toInt ≤ (A (514 * s + 4)).toInt) : St (qCompact A s) s x (cSnap μ x) := by
  have hT := fun p => St_termAt (p := p) h
  obtain ⟨h1, h2, h3, h5, h6⟩ := h
  have hA := h1
  unfold StA at hA
  obtain ⟨l, l1, l2, -, l3⟩ := rg_ex h2.2.1
  obtain ⟨sn, s1, s2, -, s3⟩ := rg_ex h2.2.2.1
  have hr7 : rg (A (514 * s + 7)) 0 120 := ⟨by have := h2.2.2.1.1; omega, by have := h2.2.1.2; omega⟩
  obtain ⟨ag, a1, a2, -, a3⟩ := rg_ex hr7
  rw [s1, nI_toInt s2, a1, nI_toInt a2] at h57
  rw [l1, nI_toInt l2, a1, nI_toInt a2] at h74
  have e7 : μ x 7 = nI l := hA.2.2.2.2.2.2.2.1.trans l1
  have e8 : μ x 8 = nI ag := hA.2.2.2.2.2.2.2.2.1.trans a1
  have hc : cCfg μ x ag = ((qCfg A s ag).1, (qCfg A s ag).2.1, (qCfg A s ag).2.2.2) :=
    cCfg_q hA.2.2.2.2.2.2.2.2.2.1 h3.2.2 hA.2.2.2.2.2.2.2.2.2.2.2.1 ag a2 h2.2.2.1.1 (fun p p1 p2 => h5 p p1 (by rw [l1, nI_clamp l2]; omega))
  have hcs := cCfg_told (A := A) (s := s) a2
  generalize hcc : qCfg A s ag = c at hc hcs
  have hk : ∀ p : Nat, (A (514 * s + 5)).toInt < (p : Int) → p ≤ ag → enR (μ (x + 1) p) A (514 * s + 30 + 4 * p) := by
    intro p p1 p2
    rw [s1, nI_toInt s2] at p1
    exact h5 p (by rw [s1, nI_clamp s2]; omega) (by rw [l1, nI_clamp l2]; omega)
  -- the sets of the snapshot
  have k9 : rg (if c.2.2.2 = 0 ∧ A (514 * s + 9) = 0 then 0 else c.1) 0 31 ∧ rg (if c.2.2.2 = 0 ∧ A (514 * s + 9) = 0 then 0 else c.2.1) 0 31 ∧ ((if c.2.2.2 = 0 ∧ A (514 * s + 9) = 0 then 0 else c.1) = 0 → (if c.2.2.2 = 0 ∧ A (514 * s + 9) = 0 then 0 else c.2.1) = 0) ∧ fst1 (A 4514) (if c.2.2.2 = 0 ∧ A (514 * s + 9) = 0 then 0 else c.1) = c.1 ∧ c.2.1 = (if c.2.2.2 = 0 ∧ A (514 * s + 9) = 0 then 0 else c.2.1) := by
    unfold StB at h2
    rcases hcs with ⟨z1, z2⟩ | ⟨z1, p, p1, p2, p3, p4, p5, p6⟩
    · have b1 : c.1 = fst1 (A 4514) (A (514 * s + 9)) := by rw [z2]; rfl
      have b2 : c.2.1 = A (514 * s + 10) := by rw [z2]; rfl
      by_cases z9 : A (514 * s + 9) = 0
      · rw [if_pos ⟨z1, z9⟩, if_pos ⟨z1, z9⟩]
        refine ⟨⟨by decide, by decide⟩, ⟨by decide, by decide⟩, fun _ => rfl, ?_, ?_⟩
        · rw [b1, z9]
        · rw [b2]; exact h2.2.2.2.2.2.2.1 z9
      · rw [if_neg (fun z => z9 z.2), if_neg (fun z => z9 z.2), b1, b2]
        have : fst1 (A 4514) (A (514 * s + 9)) = A (514 * s + 9) := by unfold fst1; rw [if_neg z9]
        rw [this]
        exact ⟨h2.2.2.2.2.1, h2.2.2.2.2.2.1, h2.2.2.2.2.2.2.1, this, rfl⟩
    · rw [if_neg (fun z => z1 z.1), if_neg (fun z => z1 z.1), p4, p5]
      obtain ⟨⟨q0, q1, q2, q3⟩, o1, o2, o3, o4, o5, o6⟩ := hk p p1 p2
      rw [← q1] at p3
      have hx := o5 p3
      rw [q2] at hx
      refine ⟨?_, ?_, fun z => absurd z hx, ?_, rfl⟩
      · rw [← q2]; exact rg_and (by exact ⟨by decide, by decide⟩)
      · rw [← q1, ← q3]
        rcases p3 with z | z
        · rw [if_pos z]; have := o4 z; exact ⟨by have := this.1; omega, this.2⟩
        · rw [if_neg (by rw [z]; decide)]; exact ⟨by decide, by decide⟩
      · unfold fst1; rw [if_neg hx]
  have hcm : qCompact0 A s = up (up (up (up A (514 * s + 9) (if c.2.2.2 = 0 ∧ A (514 * s + 9) = 0 then 0 else c.1)) (514 * s + 10) (if c.2.2.2 = 0 ∧ A (514 * s + 9) = 0 then 0 else c.2.1)) (514 * s + 6) (qTermAt A s (nI ag))) (514 * s + 5) (nI ag) := by
    unfold qCompact0
    simp only [a1, nI_clamp a2, hcc]
    congr 2
    unfold qTermAt
    simp (disch := omega) only [up_ne]
  obtain ⟨r9, r10, r90, f9, t10⟩ := k9
  generalize (if c.2.2.2 = 0 ∧ A (514 * s + 9) = 0 then 0 else c.1) = v9 at *
  generalize (if c.2.2.2 = 0 ∧ A (514 * s + 9) = 0 then 0 else c.2.1) = v10 at *
  have o : ∀ i, (i < 514 * s + 20 ∨ 514 * s + 24 ≤ i) → i ≠ 514 * s + 9 → i ≠ 514 * s + 10 → i ≠ 514 * s + 6 → i ≠ 514 * s + 5 → qCompact A s i = A i := by
    intro i i1 i2 i3 i4 i5
    unfold qCompact
    rw [cpF_out (by omega), hcm, up_ne i5, up_ne i4, up_ne i3, up_ne i2]
  have o5 : qCompact A s (514 * s + 5) = nI ag := by unfold qCompact; rw [cpF_out (by omega), hcm, up_at]
  have o6 : qCompact A s (514 * s + 6) = qTermAt A s (nI ag) := by unfold qCompact; rw [cpF_out (by omega), hcm, up_ne (by omega), up_at]
  have o10 : qCompact A s (514 * s + 10) = v10 := by unfold qCompact; rw [cpF_out (by omega), hcm, up_ne (by omega), up_ne (by omega), up_at]
  have o9 : qCompact A s (514 * s + 9) = v9 := by unfold qCompact; rw [cpF_out (by omega), hcm, up_ne (by omega), up_ne (by omega), up_ne (by omega), up_at]
  have o20 : ∀ i, i < 4 → qCompact A s (514 * s + 20 + i) = A (514 * s + 16 + i) := by
    intro i hi
    unfold qCompact
    rw [cpF_in hi, hcm, up_ne (by omega), up_ne (by omega), up_ne (by omega), up_ne (by omega)]
  have m1 : ∀ y, y ≠ x + 5 → y ≠ x + 6 → cSn2 μ (cSn1 μ x (cCfg μ x ag)) x y = μ y := by
    intro y y5 y6
    unfold cSn2 cSn1
    rw [upF_ne y6, upI_ne y5, upI_ne y5, upI_ne y5, upI_ne y5]
  have ht : cTermAt (cSn1 μ x (cCfg μ x ag)) x (nI ag) = qTermAt A s (nI ag) := by
    rw [← hT (nI ag)]
    unfold cSn1 cTermAt cHolds
    simp (disch := omega) only [upI_ne, upI_k]
  unfold cSnap
  rw [e8, nI_clamp a2, e7, nI_clamp l2]
  refine St_find ?_ ?_ ⟨?_, ?_, ?_⟩ ?_ ?_
  · have f0 : cSn2 μ (cSn1 μ x (cCfg μ x ag)) x (x + 5) 0 = nI ag := by unfold cSn2; rw [upF_ne (by omega), upI_at, e8]
    have f1 : cSn2 μ (cSn1 μ x (cCfg μ x ag)) x (x + 5) 1 = qTermAt A s (nI ag) := by unfold cSn2; rw [upF_ne (by omega), upI_k (by omega), upI_at, e8, ht]
    have f3 : cSn2 μ (cSn1 μ x (cCfg μ x ag)) x (x + 5) 3 = v10 := by unfold cSn2 cSn1; rw [upF_ne (by omega), upI_k (by omega), upI_k (by omega), upI_at, hc, ← t10]
    unfold StA
    rw [f0, f1, f3, o5, o6, o10, m1 x (by omega) (by omega), m1 (x + 7) (by omega) (by omega)]
    simp (disch := omega) only [o]
    simp only [hA, and_self]
  · unfold StB at *
    rw [o5, o9, o10]
    simp (disch := omega) only [o]
    refine ⟨h2.1, h2.2.1, (rg_nI a2).mpr ⟨by omega, by omega⟩, ?_, r9, r10, r90, h2.2.2.2.2.2.2.2⟩
    rw [nI_toInt a2, l1, nI_toInt l2]
    omega
  · intro i hi
    rw [m1 _ (by omega) (by omega), o _ (by omega) (by omega) (by omega) (by omega) (by omega)]
    exact h3.1 i hi
  · intro i hi
    rw [o20 i hi]
    unfold cSn2
    rw [upF_same, cpy_in hi]
    exact h3.1 i hi
  · unfold cSn2 cSn1
    rw [o9, o _ (by omega) (by omega) (by omega) (by omega) (by omega), f9, upF_ne (by omega), upI_k (by omega), upI_k (by omega), upI_k (by omega), upI_at, hc]
  · intro p p1 p2
    rw [o5, nI_clamp a2] at p1
    rw [o _ (by omega) (by omega) (by omega) (by omega) (by omega)] at p2
    rw [m1 _ (by omega) (by omega)]
    refine enR_congr (h5 p (by rw [s1, nI_clamp s2]; omega) p2) ?_ ?_ ?_ ?_ <;> exact o _ (by omega) (by omega) (by omega) (by omega) (by omega)
  · rw [o _ (by omega) (by omega) (by omega) (by omega) (by omega), l1, nI_clamp l2]
theorem cSnap_ne {μ : Mi} {x y : Nat} (h : y ≠ x) (h5 : y ≠ x + 5) (h6 : y ≠ x + 6) : cSnap μ x y = μ y := by
  unfold cSnap cSn2 cSn1
  rw [cSet_ne h, upF_ne h6, upI_ne h5, upI_ne h5, upI_ne h5, upI_ne h5]
theorem qSnapIn_out {A g : Rw} {s i : Nat} {p t : Int32} (h : i ≠ 514 * s + 4 ∧ i ≠ 514 * s + 5 ∧ i ≠ 514 * s + 6 ∧ i ≠ 514 * s + 7 ∧ i ≠ 514 * s + 9 ∧ i ≠ 514 * s + 10 ∧ (i < 514 * s + 16 ∨ 514 * s + 24 ≤ i)) : qSnapIn A g s p t i = A i := by
  unfold qSnapIn
  rw [up_ne (by omega), up_ne (by omega), if_neg (by omega), if_neg (by omega), up_ne (by omega), up_ne (by omega), up_ne (by omega)]
  split
  · rfl
  · rw [up_ne (by omega)]
theorem St_inst {A g : Rw} {s x q : Nat} {μ : Mi} {f : Int32} (hs : s < 5) (h : St A s x μ) (hM : MsR g f q μ) (hf : f = A 4514) (k4 : g 3 = 4) (r4 : rg (g 4) 0 120) (r5 : 0 ≤ (g 5).toInt) (hp : (A (514 * s + 5)).toInt ≤ (g 4).toInt) (ha : apt q x) : St (qSnapIn A g s (g 4) (g 5)) s x (cInst μ x q) := by
  have hT := St_termAt (p := g 4) h
  obtain ⟨h1, h2, h3, h5, h6⟩ := h
  have hA := h1
  unfold StA at hA
  unfold apt at ha
  obtain ⟨l, l1, l2, -, l3⟩ := rg_ex h2.2.1
  obtain ⟨sn, s1, s2, -, s3⟩ := rg_ex h2.2.2.1
  obtain ⟨p, p1, p2, -, p3⟩ := rg_ex r4
  obtain ⟨mc, m4, m5, r13, r14, m0⟩ := hM.2.2.2 k4
  have e4 : μ q 4 = nI p := hM.1.2.2.2.2.1.trans p1
  have e5 : μ q 5 = g 5 := hM.1.2.2.2.2.2.1
  have hsp := hp
  rw [s1, nI_toInt s2, p1, nI_toInt p2] at hsp
  -- the last place
  have o4 : qSnapIn A g s (g 4) (g 5) (514 * s + 4) = if qTermAt A s (g 4) = g 5 then A (514 * s + 4) else nI p := by
    unfold qSnapIn
    rw [up_ne (by omega), up_ne (by omega), if_neg (by omega), if_neg (by omega), up_ne (by omega), up_ne (by omega), up_ne (by omega)]
    split
    · rfl
    · rw [up_at, p1]
  have o5 : qSnapIn A g s (g 4) (g 5) (514 * s + 5) = nI p := by
    unfold qSnapIn
    rw [up_ne (by omega), up_ne (by omega), if_neg (by omega), if_neg (by omega), up_ne (by omega), up_ne (by omega), up_at, p1]
  have o6 : qSnapIn A g s (g 4) (g 5) (514 * s + 6) = g 5 := by
    unfold qSnapIn
    rw [up_ne (by omega), up_ne (by omega), if_neg (by omega), if_neg (by omega), up_ne (by omega), up_at]
  have o7 : qSnapIn A g s (g 4) (g 5) (514 * s + 7) = nI p := by
    unfold qSnapIn
    rw [up_ne (by omega), up_ne (by omega), if_neg (by omega), if_neg (by omega), up_at, p1]
  have o9 : qSnapIn A g s (g 4) (g 5) (514 * s + 9) = g 13 := by
    unfold qSnapIn
    rw [up_ne (by omega), up_at]
  have o10 : qSnapIn A g s (g 4) (g 5) (514 * s + 10) = g 14 := by
    unfold qSnapIn
    rw [up_at]
  have o16 : ∀ i, i < 4 → qSnapIn A g s (g 4) (g 5) (514 * s + 16 + i) = g (9 + i) := by
    intro i hi
    unfold qSnapIn
    rw [up_ne (by omega), up_ne (by omega), if_pos (by omega), show 9 + (514 * s + 16 + i - (514 * s + 16)) = 9 + i by omega]
  have o20 : ∀ i, i < 4 → qSnapIn A g s (g 4) (g 5) (514 * s + 20 + i) = g (9 + i) := by
    intro i hi
    unfold qSnapIn
    rw [up_ne (by omega), up_ne (by omega), if_neg (by omega), if_pos (by omega), show 9 + (514 * s + 20 + i - (514 * s + 20)) = 9 + i by omega]
  have o := fun i a => qSnapIn_out (A := A) (g := g) (s := s) (i := i) (p := g 4) (t := g 5) a
  -- the class
  have hl : ∃ m, m ≤ 120 ∧ p ≤ m ∧ qSnapIn A g s (g 4) (g 5) (514 * s + 4) = nI m ∧ cIn1 μ x q x 7 = nI m ∧ (p < m → m = l) := by
    rw [o4]
    unfold cIn1
    rw [e4, e5, ← p1, hT]
    by_cases c : qTermAt A s (g 4) = g 5
    · rw [if_pos c, if_pos c]
      refine ⟨l, by omega, ?_, l1, hA.2.2.2.2.2.2.2.1.trans l1, fun _ => rfl⟩
      unfold qTermAt at c
      have hsl := h2.2.2.2.1
      rw [s1, nI_toInt s2, l1, nI_toInt l2] at hsl
      by_cases c1 : g 4 = A (514 * s + 5)
      · rw [p1, s1, nI_eq p2 s2] at c1
        omega
      · rw [if_neg c1] at c
        by_cases c2 : (A (514 * s + 5)).toInt < (g 4).toInt ∧ (g 4).toInt ≤ (A (514 * s + 4)).toInt
        · have := c2.2
          rw [p1, nI_toInt p2, l1, nI_toInt l2] at this
          omega
        · rw [if_neg c2] at c
          rw [← c] at r5
          exact absurd r5 (by decide)
    · rw [if_neg c, if_neg c]
      exact ⟨p, by omega, Nat.le_refl _, p1, by rw [upI_at, p1], fun z => absurd z (by omega)⟩
  obtain ⟨m, m1, m2, m3, m4', m6⟩ := hl
  have n0 : ∀ y, y ≠ x → cIn1 μ x q y = μ y := by
    intro y hy
    unfold cIn1
    split
    · rfl
    · rw [upI_ne hy]
  have n1 : ∀ i, i ≠ 7 → cIn1 μ x q x i = μ x i := by
    intro i hi
    unfold cIn1
    split
    · rfl
    · rw [upI_k hi]
  unfold cInst
  generalize cIn1 μ x q = ν at *
  rw [m4', nI_clamp (by omega)]
  have q4 : ν q 4 = nI p := by rw [n0 q (by omega)]; exact e4
  have q5 : ν q 5 = g 5 := by rw [n0 q (by omega)]; exact e5
  have qq : ν (q + 1) = μ (q + 1) := n0 (q + 1) (by omega)
  have c3 : ∀ y, y ≠ x → y ≠ x + 2 → y ≠ x + 5 → y ≠ x + 6 → cIn3 ν x q y = ν y := by
    intro y y1 y2 y3 y4
    unfold cIn3 cIn2
    rw [upI_ne y1, upF_ne y2, upF_ne y4, upI_ne y3, upI_ne y3, upI_ne y3, upI_ne y3]
  have d0 : cIn3 ν x q (x + 5) 0 = nI p := by unfold cIn3 cIn2; rw [upI_ne (by omega), upF_ne (by omega), upF_ne (by omega), upI_k (by omega), upI_k (by omega), upI_k (by omega), upI_at, q4]
  have d1 : cIn3 ν x q (x + 5) 1 = g 5 := by unfold cIn3 cIn2; rw [upI_ne (by omega), upF_ne (by omega), upF_ne (by omega), upI_k (by omega), upI_k (by omega), upI_at, q5]
  have d2 : cIn3 ν x q (x + 5) 2 = fst1 f (g 13) := by unfold cIn3 cIn2; rw [upI_ne (by omega), upF_ne (by omega), upF_ne (by omega), upI_k (by omega), upI_at, qq, m4]
  have d3 : cIn3 ν x q (x + 5) 3 = g 14 := by unfold cIn3 cIn2; rw [upI_ne (by omega), upF_ne (by omega), upF_ne (by omega), upI_at, qq, m5]
  have d8 : cIn3 ν x q x 8 = nI p := by unfold cIn3; rw [upI_at, q4]
  have dx : ∀ i, i ≠ 8 → cIn3 ν x q x i = ν x i := by
    intro i hi
    unfold cIn3 cIn2
    rw [upI_k hi, upF_ne (by omega), upF_ne (by omega), upI_ne (by omega), upI_ne (by omega), upI_ne (by omega), upI_ne (by omega)]
  refine St_find ?_ ?_ ⟨?_, ?_, ?_⟩ ?_ ?_
  · unfold StA
    rw [d0, d1, d3, d8, m3, o5, o6, o7, o10, c3 (x + 7) (by omega) (by omega) (by omega) (by omega), n0 (x + 7) (by omega), dx 7 (by decide), m4']
    simp (disch := omega) only [dx, n1, o]
    simp only [hA, and_self]
  · unfold StB at *
    rw [m3, o5, o9, o10]
    simp (disch := omega) only [o]
    refine ⟨h2.1, (rg_nI (by omega)).mpr ⟨by omega, by omega⟩, (rg_nI (by omega)).mpr ⟨by omega, by omega⟩, ?_, r13, r14, m0, h2.2.2.2.2.2.2.2⟩
    rw [nI_toInt (by omega), nI_toInt (by omega)]
    omega
  · intro i hi
    rw [o16 i hi]
    unfold cIn3
    rw [upI_ne (by omega), upF_same, cpy_in hi, qq]
    exact mc i hi
  · intro i hi
    rw [o20 i hi]
    unfold cIn3
    rw [upI_ne (by omega), upF_ne (by omega), upF_same, cpy_in hi, qq]
    exact mc i hi
  · rw [d2, o9, o _ (by omega), hf]
  · intro k k1 k2
    rw [o5, nI_clamp (by omega)] at k1
    rw [m3, nI_clamp (by omega)] at k2
    have := m6 (by omega)
    rw [c3 _ (by omega) (by omega) (by omega) (by omega), n0 _ (by omega)]
    refine enR_congr (h5 k (by rw [s1, nI_clamp s2]; omega) (by rw [l1, nI_clamp l2]; omega)) ?_ ?_ ?_ ?_ <;> exact o _ (by omega)
  · rw [m3, nI_clamp (by omega)]
theorem cInst_ne {μ : Mi} {x q y : Nat} (h : y ≠ x) (h2 : y ≠ x + 2) (h5 : y ≠ x + 5) (h6 : y ≠ x + 6) : cInst μ x q y = μ y := by
  unfold cInst cIn3 cIn2 cIn1
  rw [cSet_ne h, upI_ne h, upF_ne h2, upF_ne h6, upI_ne h5, upI_ne h5, upI_ne h5, upI_ne h5]
  split
  · rfl
  · rw [upI_ne h]
