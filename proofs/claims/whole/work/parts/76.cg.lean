/-! ===== the class: a log grows and is cut ===== -/
theorem cApp_ne {μ : Mi} {x y : Nat} {e : Int32} (h : y ≠ x) (h1 : y ≠ x + 1) : cApp μ x e y = μ y := by
  unfold cApp
  split
  · split
    · rw [upI_ne h, upI_ne h, upI_ne h, upI_ne h1, upI_ne h]
    · rw [upI_ne h1, upI_ne h]
  · rfl
theorem St_put {A : Rw} {s x l : Nat} {μ : Mi} {e t kd u v : Int32} (hs : s < 5) (h : St A s x μ) (hl : A (514 * s + 4) = nI l) (hl1 : l < 120) (he : eTm e = t ∧ eKd e = kd ∧ eX e = u ∧ eY e = v) (ho : entOK e) : St (qPut A s t kd u v) s x (cApp μ x e) := by
  obtain ⟨h1, h2, h3, h5, h6⟩ := h
  have hA := h1
  unfold StA at hA
  have e7 : μ x 7 = nI l := hA.2.2.2.2.2.2.2.1.trans hl
  have c : μ x 7 < 120 := by rw [e7, Int32.lt_iff_toInt_lt, nI_toInt (by omega)]; show (l : Int) < 120; omega
  have o := fun i a b => qPut_out (A := A) (s := s) (l := l) (tm := t) (kd := kd) (x := u) (y := v) (i := i) hl (by omega) a b
  have o4 := qPut_4 (A := A) (s := s) (tm := t) (kd := kd) (x := u) (y := v) hl
  have oe := qPut_e (A := A) (s := s) (tm := t) (kd := kd) (x := u) (y := v) hl (by omega)
  have hsn := h2.2.2.2.1
  rw [hl, nI_toInt (by omega)] at hsn
  obtain ⟨n, n1, n2, -, n3⟩ := rg_ex h2.2.2.1
  have hm : qMem (qPut A s t kd u v) s = if kd = 3 ∨ kd = 4 then (u, if kd = 3 then v else 0, kd, nI (l + 1)) else qMem A s := by
    unfold qMem
    rw [o4, nI_clamp (by omega), hl, nI_clamp (by omega)]
    show (if nI (l + 1) ≤ qPut A s t kd u v (514 * s + 5) then qBase (qPut A s t kd u v) s else _) = _
    rw [o _ (by omega) (by omega), if_neg (by rw [Int32.le_iff_toInt_le, nI_toInt (by omega)]; omega)]
    have i1 : 514 * s + 30 + 4 * (l + 1) + 1 = 514 * s + 34 + 4 * l + 1 := by omega
    have i2 : 514 * s + 30 + 4 * (l + 1) + 2 = 514 * s + 34 + 4 * l + 2 := by omega
    have i3 : 514 * s + 30 + 4 * (l + 1) + 3 = 514 * s + 34 + 4 * l + 3 := by omega
    rw [i1, i2, i3, oe.2.1, oe.2.2.1, oe.2.2.2]
    rw [qCfg_c (o _ (by omega) (by omega)) (o _ (by omega) (by omega)) (o _ (by omega) (by omega)) (o _ (by omega) (by omega)) l (fun i a b => o _ (by omega) (by omega))]
  have hk : (¬ eKd e < 3) ↔ (kd = 3 ∨ kd = 4) := by
    rw [← he.2.1]
    obtain ⟨m, m1, m2, -, m3⟩ := rg_ex ho.2.1
    rw [m1, Int32.lt_iff_toInt_lt, nI_toInt m2]
    show ¬ (m : Int) < 3 ↔ nI m = nI 3 ∨ nI m = nI 4
    rw [nI_eq m2 (by decide), nI_eq m2 (by decide)]
    omega
  have key : ∀ μ', (∀ y, y ≠ x → y ≠ x + 1 → μ' y = μ y) → (∀ i, i < 9 → i ≠ 7 → μ' x i = μ x i) → μ' x 7 = nI (l + 1) → (∀ i, i ≠ l + 1 → μ' (x + 1) i = μ (x + 1) i) → μ' (x + 1) (l + 1) = e → (μ' x 9 = (qMem (qPut A s t kd u v) s).2.2.2 ∧ μ' x 10 = (qMem (qPut A s t kd u v) s).1 ∧ μ' x 11 = (qMem (qPut A s t kd u v) s).2.1) → St (qPut A s t kd u v) s x μ' := by
    intro μ' k1 k2 k3 k4 k5 k6
    refine ⟨?_, ?_, ⟨?_, ?_, ?_⟩, ?_, k6⟩
    · unfold StA
      simp (disch := omega) only [k1, k2, k3, o, o4, hA, and_self]
    · unfold StB at *
      rw [o4]
      simp (disch := omega) only [o]
      refine ⟨h2.1, (rg_nI (by omega)).mpr ⟨by omega, by omega⟩, h2.2.2.1, ?_, h2.2.2.2.2⟩
      rw [nI_toInt (by omega)]
      omega
    · intro i hi
      rw [k1 _ (by omega) (by omega), o _ (by omega) (by omega)]
      exact h3.1 i hi
    · intro i hi
      rw [k1 _ (by omega) (by omega), o _ (by omega) (by omega)]
      exact h3.2.1 i hi
    · rw [k1 _ (by omega) (by omega), o _ (by omega) (by omega), o _ (by omega) (by omega)]
      exact h3.2.2
    · intro p p1 p2
      rw [o4, nI_clamp (by omega)] at p2
      rw [o _ (by omega) (by omega)] at p1
      by_cases hp : p = l + 1
      · subst hp
        rw [k5]
        refine ⟨⟨?_, ?_, ?_, ?_⟩, ho⟩
        · rw [show 514 * s + 30 + 4 * (l + 1) = 514 * s + 34 + 4 * l by omega, oe.1]; exact he.1
        · rw [show 514 * s + 30 + 4 * (l + 1) + 1 = 514 * s + 34 + 4 * l + 1 by omega, oe.2.1]; exact he.2.1
        · rw [show 514 * s + 30 + 4 * (l + 1) + 2 = 514 * s + 34 + 4 * l + 2 by omega, oe.2.2.1]; exact he.2.2.1
        · rw [show 514 * s + 30 + 4 * (l + 1) + 3 = 514 * s + 34 + 4 * l + 3 by omega, oe.2.2.2]; exact he.2.2.2
      · rw [k4 p hp]
        refine enR_congr (h5 p p1 (by rw [hl, nI_clamp (by omega)]; omega)) ?_ ?_ ?_ ?_ <;> exact o _ (by omega) (by omega)
  unfold cApp
  rw [if_pos c, e7, nI_s1, nI_clamp (by omega)]
  by_cases c2 : eKd e < 3
  · rw [if_neg (not_not_intro c2)]
    have c3 : ¬ (kd = 3 ∨ kd = 4) := fun z => (hk.mpr z) c2
    refine key _ ?_ ?_ ?_ ?_ ?_ ?_
    · intro y y1 y2; rw [upI_ne y2, upI_ne y1]
    · intro i i1 i2; rw [upI_ne (by omega), upI_k i2]
    · rw [upI_ne (by omega), upI_at]
    · intro i i1; rw [upI_k i1, upI_ne (by omega)]
    · rw [upI_at]
    · rw [hm, if_neg c3]
      simp (disch := omega) only [upI_ne, upI_k]
      exact h6
  · rw [if_pos c2]
    have c3 : kd = 3 ∨ kd = 4 := hk.mp c2
    refine key _ ?_ ?_ ?_ ?_ ?_ ?_
    · intro y y1 y2; rw [upI_ne y1, upI_ne y1, upI_ne y1, upI_ne y2, upI_ne y1]
    · intro i i1 i2; rw [upI_k (by omega), upI_k (by omega), upI_k (by omega), upI_ne (by omega), upI_k i2]
    · rw [upI_k (by omega), upI_k (by omega), upI_k (by omega), upI_ne (by omega), upI_at]
    · intro i i1; rw [upI_ne (by omega), upI_ne (by omega), upI_ne (by omega), upI_k i1, upI_ne (by omega)]
    · rw [upI_ne (by omega), upI_ne (by omega), upI_ne (by omega), upI_at]
    · rw [hm, if_pos c3]
      simp (disch := omega) only [upI_ne, upI_k, upI_at]
      refine ⟨trivial, he.2.2.1, ?_⟩
      rw [he.2.2.2]
      rcases c3 with z | z
      · rw [if_pos z]
      · rw [if_neg (by rw [z]; decide), ← he.2.2.2]
        exact ho.2.2.1 (by rw [he.2.1, z])
/-- a log is cut behind a place, and who belongs is found anew -/
theorem St_cut {A : Rw} {s x n : Nat} {μ μ' : Mi} (hs : s < 5) (h : St A s x μ) (hn : (A (514 * s + 5)).toInt ≤ n) (hn2 : (n : Int) ≤ (A (514 * s + 4)).toInt) (e0 : μ' = cSet (upI μ x 7 (nI n)) x (cCfg (upI μ x 7 (nI n)) x n)) : St (up A (514 * s + 4) (nI n)) s x μ' := by
  obtain ⟨h1, h2, h3, h5, h6⟩ := h
  have hA := h1
  unfold StA at hA
  obtain ⟨l, l1, l2, -, l3⟩ := rg_ex h2.2.1
  have hn3 := hn2
  rw [l1, nI_toInt l2] at hn3
  obtain ⟨sn, s1, s2, -, s3⟩ := rg_ex h2.2.2.1
  have hc : cCfg (upI μ x 7 (nI n)) x n = ((qCfg A s n).1, (qCfg A s n).2.1, (qCfg A s n).2.2.2) := by
    refine cCfg_q ?_ ?_ ?_ n (by omega) h2.2.2.1.1 (fun p p1 p2 => ?_)
    · rw [upI_ne (by omega)]; exact hA.2.2.2.2.2.2.2.2.2.1
    · rw [upI_ne (by omega)]; exact h3.2.2
    · rw [upI_ne (by omega)]; exact hA.2.2.2.2.2.2.2.2.2.2.2.1
    · rw [upI_ne (by omega)]
      exact h5 p p1 (by rw [l1, nI_clamp l2]; omega)
  have hm : qMem (up A (514 * s + 4) (nI n)) s = qCfg A s n := by
    unfold qMem
    rw [up_at, nI_clamp (by omega)]
    exact qCfg_c (up_ne (by omega)) (up_ne (by omega)) (up_ne (by omega)) (up_ne (by omega)) n (fun i a b => up_ne (by omega))
  subst e0
  rw [hc]
  refine ⟨?_, ?_, ⟨?_, ?_, ?_⟩, ?_, ?_⟩
  · unfold StA
    simp (disch := omega) only [cSet_ne, cSet_k, upI_ne, upI_k, upI_at, up_at, up_ne, hA, and_self]
  · unfold StB at *
    rw [up_at]
    simp (disch := omega) only [up_ne]
    refine ⟨h2.1, (rg_nI (by omega)).mpr ⟨by omega, by omega⟩, h2.2.2.1, ?_, h2.2.2.2.2⟩
    rw [nI_toInt (by omega)]
    exact hn
  · intro i hi
    rw [cSet_ne (by omega), upI_ne (by omega), up_ne (by omega)]
    exact h3.1 i hi
  · intro i hi
    rw [cSet_ne (by omega), upI_ne (by omega), up_ne (by omega)]
    exact h3.2.1 i hi
  · rw [cSet_ne (by omega), upI_ne (by omega), up_ne (by omega), up_ne (by omega)]
    exact h3.2.2
  · intro p p1 p2
    rw [up_at, nI_clamp (by omega)] at p2
    rw [up_ne (by omega)] at p1
    rw [cSet_ne (by omega), upI_ne (by omega)]
    refine enR_congr (h5 p p1 (by rw [l1, nI_clamp l2]; omega)) ?_ ?_ ?_ ?_ <;> exact up_ne (by omega)
  · unfold StQ
    rw [hm]
    unfold cSet
    simp (disch := omega) only [upI_k, upI_at, and_self]
