/-! ===== the class: snapshots and reads, held against the row ===== -/
theorem St_set15 {A : Rw} {s x : Nat} {μ : Mi} {v : Int32} (hs : s < 5) (h : St A s x μ) : St (up A (514 * s + 15) v) s x (upI μ (x + 7) 3 v) := by
  have hA := h.1
  unfold StA at hA
  refine St_note hs h (fun i i1 i2 i3 i4 => up_ne (by omega)) (by rw [up_ne (by omega)]; exact h.2.1.1) (fun y y1 y2 y3 y4 y5 y6 => upI_ne (by omega)) (by simp (disch := omega) only [upI_ne, and_self]) ?_
  unfold StA
  simp (disch := omega) only [upI_ne, upI_k, upI_at, up_at, up_ne, hA, and_self]
theorem St_ans {A : Rw} {s x : Nat} {μ : Mi} (hs : s < 5) (h : St A s x μ) (hc : rg (A (514 * s + 12)) 0 3) : St (up (up (up A (514 * s + 11) 2) (514 * s + 13) (A (514 * s + 16 + (A (514 * s + 12)).toNatClampNeg))) (514 * s + 15) 0) s x (cAns μ x) := by
  have hA := h.1
  unfold StA at hA
  have e1 : μ (x + 7) 1 = A (514 * s + 12) := hA.2.2.2.2.2.2.2.2.2.2.2.2.2.1
  have e2 : μ (x + 2) (A (514 * s + 12)).toNatClampNeg = A (514 * s + 16 + (A (514 * s + 12)).toNatClampNeg) := by
    obtain ⟨n, n1, n2, -, n3⟩ := rg_ex hc
    rw [n1, nI_clamp n2]
    exact h.2.2.1.1 n (by omega)
  refine St_note hs h (fun i i1 i2 i3 i4 => ?_) ?_ (fun y y1 y2 y3 y4 y5 y6 => ?_) ?_ ?_
  · rw [up_ne (by omega), up_ne (by omega), up_ne (by omega)]
  · rw [up_ne (by omega), up_ne (by omega), up_ne (by omega)]; exact h.2.1.1
  · unfold cAns; rw [upI_ne (by omega), upI_ne (by omega), upI_ne (by omega)]
  · unfold cAns; simp (disch := omega) only [upI_ne, and_self]
  · unfold StA cAns
    rw [e1, e2]
    simp (disch := omega) only [upI_ne, upI_k, upI_at, up_at, up_ne, hA, and_self]
theorem cAns_ne {μ : Mi} {x y : Nat} (h : y ≠ x + 7) : cAns μ x y = μ y := by unfold cAns; rw [upI_ne h, upI_ne h, upI_ne h]
theorem St_follow {A : Rw} {s x : Nat} {μ : Mi} {t : Int32} (hs : s < 5) (h : St A s x μ) : St (qFollow A s t) s x (cBec (upI (upI μ x 2 t) x 3 (-1)) x 0) := by
  have hA := h.1
  unfold StA at hA
  unfold qFollow
  refine St_bec hs (St_note hs h (fun i i1 i2 i3 i4 => ?_) ?_ (fun y y1 y2 y3 y4 y5 y6 => ?_) ?_ ?_)
  · rw [up_ne (by omega), up_ne (by omega)]
  · rw [up_ne (by omega), up_ne (by omega)]; exact h.2.1.1
  · rw [upI_ne (by omega), upI_ne (by omega)]
  · simp (disch := omega) only [upI_k, and_self]
  · unfold StA
    simp (disch := omega) only [upI_ne, upI_k, upI_at, up_at, up_ne, hA, and_self]
theorem St_clr {A : Rw} {s x : Nat} {μ : Mi} (hs : s < 5) (h : St A s x μ) : St (qReadsNothing A s) s x (clr μ (x + 7)) := by
  have hA := h.1
  unfold StA at hA
  refine St_note hs h (fun i i1 i2 i3 i4 => qRN_out (by omega)) (by rw [qRN_out (by omega)]; exact h.2.1.1) (fun y y1 y2 y3 y4 y5 y6 => clr_ne (by omega)) (by simp (disch := omega) only [clr_ne, and_self]) ?_
  unfold StA
  simp (disch := omega) only [clr_ne, clr_0, qReadsNothing, up_at, up_ne, hA, and_self]
/-- cells change, and how far was agreed -/
theorem St_cells {A A' : Rw} {s x : Nat} {μ μ' : Mi} (hs : s < 5) (h : St A s x μ) (hA : ∀ i, i ≠ 514 * s + 7 → (i < 514 * s + 16 ∨ 514 * s + 20 ≤ i) → A' i = A i)
    (hμ : ∀ y, y ≠ x → y ≠ x + 2 → μ' y = μ y) (h8 : ∀ i, i ≠ 8 → μ' x i = μ x i) (h7 : μ' x 8 = A' (514 * s + 7)) (hc : ∀ i, i < 4 → μ' (x + 2) i = A' (514 * s + 16 + i)) : St A' s x μ' := by
  obtain ⟨h1, h2, h3, h5, h6⟩ := h
  have hA1 := h1
  unfold StA at hA1
  have hm : qMem A' s = qMem A s := by
    unfold qMem
    rw [hA _ (by omega) (by omega)]
    obtain ⟨l, e1, e2, -, e3⟩ := rg_ex h2.2.1
    rw [e1, nI_clamp e2]
    exact qCfg_c (hA _ (by omega) (by omega)) (hA _ (by omega) (by omega)) (hA _ (by omega) (by omega)) (hA _ (by omega) (by omega)) l (fun i i1 i2 => hA _ (by omega) (by omega))
  refine ⟨?_, ?_, ⟨hc, ?_, ?_⟩, ?_, ?_⟩
  · unfold StA
    rw [hμ (x + 5) (by omega) (by omega), hμ (x + 7) (by omega) (by omega), h7]
    simp (disch := omega) only [hA, h8, hA1, and_self]
  · unfold StB at *
    simp (disch := omega) only [hA]
    exact h2
  · intro i hi
    rw [hμ (x + 6) (by omega) (by omega), hA _ (by omega) (by omega)]
    exact h3.2.1 i hi
  · rw [hμ (x + 5) (by omega) (by omega), hA _ (by omega) (by omega), hA _ (by omega) (by omega)]
    exact h3.2.2
  · intro p p1 p2
    rw [hA _ (by omega) (by omega)] at p1 p2
    rw [hμ (x + 1) (by omega) (by omega)]
    exact enR_congr (h5 p p1 p2) (hA _ (by omega) (by omega)) (hA _ (by omega) (by omega)) (hA _ (by omega) (by omega)) (hA _ (by omega) (by omega))
  · unfold StQ at *
    rw [hm, h8 _ (by omega), h8 _ (by omega), h8 _ (by omega)]
    exact h6
theorem St_up {A : Rw} {s x : Nat} {μ : Mi} {v : Int32} (hs : s < 5) (h : St A s x μ) (hv : v = 0 ∨ v = 1) : St (up A (514 * s) v) s x (upI μ x 1 v) := by
  have hA := h.1
  unfold StA at hA
  by_cases hz : (514 * s = 514 * s + 4); · omega
  obtain ⟨h1, h2, h3, h5, h6⟩ := h
  have hm : qMem (up A (514 * s) v) s = qMem A s := by
    unfold qMem
    rw [up_ne (by omega)]
    obtain ⟨l, e1, e2, -, e3⟩ := rg_ex h2.2.1
    rw [e1, nI_clamp e2]
    exact qCfg_c (up_ne (by omega)) (up_ne (by omega)) (up_ne (by omega)) (up_ne (by omega)) l (fun i i1 i2 => up_ne (by omega))
  refine ⟨?_, ?_, ⟨fun i hi => ?_, fun i hi => ?_, ?_⟩, fun p p1 p2 => ?_, ?_⟩
  · unfold StA
    simp (disch := omega) only [upI_ne, upI_k, upI_at, up_at, up_ne, hA, and_self]
  · unfold StB at *
    simp (disch := omega) only [up_at, up_ne]
    exact ⟨hv, h2.2⟩
  · rw [upI_ne (by omega), up_ne (by omega)]; exact h3.1 i hi
  · rw [upI_ne (by omega), up_ne (by omega)]; exact h3.2.1 i hi
  · rw [upI_ne (by omega), up_ne (by omega), up_ne (by omega)]; exact h3.2.2
  · rw [up_ne (by omega)] at p1 p2
    rw [upI_ne (by omega)]
    exact enR_congr (h5 p p1 p2) (up_ne (by omega)) (up_ne (by omega)) (up_ne (by omega)) (up_ne (by omega))
  · unfold StQ at *
    rw [hm]
    simp (disch := omega) only [upI_k]
    exact h6
theorem St_stop {A : Rw} {s x : Nat} {μ : Mi} (hs : s < 5) (h : St A s x μ) : St (qStop A s) s x (cDown μ x) := by
  have h1 : St (qReadsNothing (qPlays (up A (514 * s) 0) s 0) s) s x (cDown1 μ x) := St_clr hs (St_bec hs (St_up hs h (Or.inl rfl)))
  unfold qStop qStop0 cDown
  simp only []
  generalize qReadsNothing (qPlays (up A (514 * s) 0) s 0) s = B at *
  generalize cDown1 μ x = ν at *
  refine St_cells hs h1 (fun i i1 i2 => ?_) (fun y y1 y2 => ?_) (fun i hi => ?_) ?_ (fun i hi => ?_)
  · rw [cpF_out (by omega), up_ne (by omega)]
  · rw [upF_ne y2, upI_ne y1]
  · rw [upF_ne (by omega), upI_k hi]
  · rw [upF_ne (by omega), upI_at, cpF_out (by omega), up_at]
    exact h1.1.2.2.2.2.2.2.2.2.2.1
  · rw [upF_same, cpy_in hi]
    unfold cpF
    rw [if_pos (by omega), up_ne (by omega), show 514 * s + 20 + (514 * s + 16 + i - (514 * s + 16)) = 514 * s + 20 + i by omega]
    exact h1.2.2.1.2.1 i hi
theorem cDown_ne {μ : Mi} {x y : Nat} (h : y ≠ x) (h2 : y ≠ x + 2) (h7 : y ≠ x + 7) : cDown μ x y = μ y := by
  unfold cDown cDown1
  rw [upF_ne h2, upI_ne h, clr_ne h7, cBec_ne h h7, upI_ne h]
