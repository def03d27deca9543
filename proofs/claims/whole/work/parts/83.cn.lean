/-! ===== the class: what is sent, held against the row ===== -/
theorem qPush_out {A row : Rw} {i : Nat} (h1 : i < 2570 + 21 * (A 4510).toNatClampNeg ∨ 2570 + 21 * (A 4510).toNatClampNeg + 21 ≤ i) (h2 : i ≠ 4510) : qPush A row i = A i := by
  unfold qPush
  rw [if_neg (by omega), if_neg h2]
theorem qPush_at {A row : Rw} {k : Nat} (h : k < 21) : qPush A row (2570 + 21 * (A 4510).toNatClampNeg + k) = row k := by
  unfold qPush
  rw [if_pos (by omega)]
  congr 1
  omega
theorem qPush_w {A row : Rw} (h : (A 4510).toNatClampNeg < 60) : qPush A row 4510 = A 4510 + 1 := by
  unfold qPush
  rw [if_neg (by omega), if_pos rfl]
/-- only the mail changes -/
theorem R0_mail {A A' : Rw} {w : Nat} {S : Sh} {μ μ' : Mi} {ρ ρ' : Mr} (h : R0 A w S μ ρ) (hW : WOK w S ρ') (hA : ∀ i, (i < 2570 ∨ 3830 ≤ i) → (i < 4510 ∨ 4513 ≤ i) → A' i = A i) (hμ : ∀ y, (y < w + 2 ∨ w + 128 ≤ y) → μ' y = μ y) (hn : Ml A' w μ' ρ') : R0 A' w S μ' ρ' := by
  obtain ⟨h1, h2, h3, h4, h5⟩ := h
  refine ⟨hW, fun t ht => ?_, hn, ⟨fun p p1 p2 => ?_, fun t t1 t2 => ?_⟩, ?_⟩
  · exact St_congr ht (h2 t ht) (fun i i1 i2 => hA i (by omega) (by omega)) (hA _ (by omega) (by omega)) (fun y y1 y2 => hμ y (by omega))
  · rw [hμ _ (by omega)]
    rcases h4.1 p p1 p2 with z | z
    · exact Or.inl ⟨z.1, by rw [hA _ (by omega) (by omega)]; exact z.2⟩
    · exact Or.inr (enR_congr z (hA _ (by omega) (by omega)) (hA _ (by omega) (by omega)) (hA _ (by omega) (by omega)) (hA _ (by omega) (by omega)))
  · rw [hμ _ (by omega), hA _ (by omega) (by omega)]
    exact h4.2 t t1 t2
  · unfold Wd at *
    rw [hμ _ (by omega), hA _ (by omega) (by omega), hA _ (by omega) (by omega)]
    exact h5
theorem Nx_mail {A A' : Rw} {w : Nat} {μ μ' : Mi} (h : Nx A w μ) (hA : ∀ i, i < 2570 → A' i = A i) (hμ : ∀ y, (y < w + 2 ∨ w + 128 ≤ y) → μ' y = μ y) : Nx A' w μ' := by
  intro s hs hr t ht
  rw [hA _ (by omega)] at hr
  rw [hμ _ (by omega), hμ _ (by omega), hA _ (by omega), hA _ (by omega)]
  exact h s hs hr t ht
theorem R0_sent {A : Rw} {w s t q : Nat} {S : Sh} {μ μ1 μ' : Mi} {ρ : Mr} {row : Rw} (h : R0 A w S μ ρ) (hs : s < 5) (ht : t < 5) (hst : ¬ s = t) (hp : PostD A w μ ρ s t q μ1) (hq : msgAt w q S ρ) (hμ : ∀ y : Nat, y ≠ q → y ≠ q + 1 → μ' y = μ1 y) (hm : MsR row (A 4514) q μ') :
    R0 (qPost A s t row) w S μ' ρ ∧ ∀ y, (y < w + 2 ∨ w + 128 ≤ y) → μ' y = μ y := by
  obtain ⟨j, j1, j2, -⟩ := hq
  have hf : ∀ y, (y < w + 2 ∨ w + 128 ≤ y) → μ' y = μ y := by
    intro y hy
    rw [hμ y (by omega) (by omega), hp.1 y (by omega) (by omega)]
  refine ⟨?_, hf⟩
  obtain ⟨wn, w1, w2, -, w3⟩ := rg_ex h.2.2.1.2.1.1
  have hM := h.2.2.1
  unfold qPost
  rw [if_neg hst]
  rcases hp.2 with ⟨ok, q1, q2⟩ | ⟨ok, q1, q2⟩
  · rw [if_pos ok]
    have hwn : wn < 60 := by
      have := ok.2.1
      rw [w1, show (60 : Int32) = nI 60 from rfl, nI_eq w2 (by decide)] at this
      omega
    have ec : (A 4510).toNatClampNeg = wn := by rw [w1, nI_clamp w2]
    have e2 : μ' (w + 2) = up (μ (w + 2)) 2 (A 4510 + 1) := by rw [hμ _ (by omega) (by omega), q2]
    refine R0_mail h h.1 (fun i i1 i2 => qPush_out (by omega) (by omega)) hf ⟨?_, ?_, ?_⟩
    · rw [e2, qPush_w (by omega), qPush_out (by omega) (by omega), qPush_out (by omega) (by omega), qPush_out (by omega) (by omega), up_at, up_ne (by omega), up_ne (by omega), up_ne (by omega)]
      exact ⟨rfl, hM.1.2⟩
    · rw [qPush_w (by omega), qPush_out (by omega) (by omega), w1, nI_s1]
      exact ⟨(rg_nI (by omega)).mpr ⟨by omega, by omega⟩, hM.2.1.2⟩
    · intro i hi
      rw [qPush_w (by omega), w1, nI_s1, nI_clamp (by omega)] at hi
      by_cases c : i = wn
      · subst c
        rw [← ec, ← q1]
        refine MsR_congr hm (fun k hk => ?_) (qPush_out (by omega) (by omega)) rfl rfl
        show qPush A row (2570 + 21 * (A 4510).toNatClampNeg + k) = _
        exact qPush_at hk
      · obtain ⟨j', k1, k2, -⟩ := WOK_box h.1 (i := i) (by omega)
        have hne : ρ (w + 3) i ≠ q := by
          rw [q1, ec]
          intro z
          exact c (h.1.2.2.2.2.2.2 i wn (by omega) (by omega) z)
        refine MsR_congr (hM.2.2 i (by omega)) (fun k hk => ?_) (qPush_out (by omega) (by omega)) ?_ ?_
        · show qPush A row (2570 + 21 * i + k) = A (2570 + 21 * i + k)
          exact qPush_out (by omega) (by omega)
        · rw [hμ _ hne (by omega), hp.1 _ (by omega) hne]
        · rw [hμ _ (by omega) (by omega), hp.1 _ (by omega) (by omega)]
  · rw [if_neg ok]
    have e2 : μ' (w + 2) = up (μ (w + 2)) 3 (A 4511 + 1) := by rw [hμ _ (by omega) (by omega), q2]
    have o : ∀ i, i ≠ 4511 → up A 4511 (A 4511 + 1) i = A i := fun i hi => up_ne hi
    refine R0_mail h h.1 (fun i i1 i2 => o i (by omega)) hf ⟨?_, ?_, ?_⟩
    · rw [e2]
      simp (disch := omega) only [up_at, up_ne]
      exact ⟨hM.1.1, trivial, hM.1.2.2⟩
    · rw [o _ (by omega), o _ (by omega)]
      exact hM.2.1
    · intro i hi
      rw [o _ (by omega), w1, nI_clamp w2] at hi
      obtain ⟨j', k1, k2, -⟩ := WOK_box h.1 (i := i) (by omega)
      refine MsR_congr (hM.2.2 i (by rw [w1, nI_clamp w2]; omega)) (fun k hk => o _ (by omega)) (o _ (by omega)) ?_ ?_
      · rw [hμ _ (by omega) (by omega), hp.1 _ (by omega) (by omega)]
      · rw [hμ _ (by omega) (by omega), hp.1 _ (by omega) (by omega)]
/-- what is done when a message was sent -/
theorem RR_sent {A : Rw} {w s t q : Nat} {S : Sh} {μ μ1 μ' : Mi} {ρ : Mr} {row : Rw} (h : RR A w S μ ρ) (hs : s < 5) (ht : t < 5) (hst : ¬ s = t) (hp : PostD A w μ ρ s t q μ1) (hq : msgAt w q S ρ) (hμ : ∀ y : Nat, y ≠ q → y ≠ q + 1 → μ' y = μ1 y) (hm : MsR row (A 4514) q μ') :
    RR (qPost A s t row) w S μ' ρ ∧ ∀ y, (y < w + 2 ∨ w + 128 ≤ y) → μ' y = μ y := by
  obtain ⟨h1, h2⟩ := R0_sent h.1 hs ht hst hp hq hμ hm
  exact ⟨⟨h1, Nx_mail h.2 (fun i hi => qPost_lo hi) h2⟩, h2⟩
theorem RR_st {A : Rw} {w s : Nat} {S : Sh} {μ : Mi} {ρ : Mr} (h : RR A w S μ ρ) (hs : s < 5) : St A s (w + 130 + 8 * s) μ := h.1.2.1 s hs
theorem RR_W {A : Rw} {w : Nat} {S : Sh} {μ : Mi} {ρ : Mr} (h : RR A w S μ ρ) : WOK w S ρ := h.1.1
theorem W_st {w s : Nat} {S : Sh} {ρ : Mr} (h : WOK w S ρ) (hs : s < 5) : S.2 (w + 130 + 8 * s) = (7, 18) ∧ StS S ρ (w + 130 + 8 * s) ∧ ρ (w + 1) s = w + 130 + 8 * s := h.2.2.2.1 s hs
/-- a message with two numbers and no load -/
theorem MsR_S {f t tm kd x y rd F : Int32} {q : Nat} {μ : Mi} (h : μ q 0 = f ∧ μ q 1 = t ∧ μ q 2 = kd ∧ μ q 3 = tm ∧ μ q 4 = x ∧ μ q 5 = y ∧ μ q 6 = 0 ∧ μ q 7 = 0 ∧ μ q 8 = rd) (hf : rg f 0 4) (ht : rg t 0 4) (hn : ¬ f = t) (hk : ¬ kd = 4) : MsR (rowS f t tm kd x y rd) F q μ := by
  refine ⟨h, ⟨hf, ht, hn⟩, fun _ k k1 => ?_, fun z => absurd z hk⟩
  exact absurd k1 (by show ¬ k < (0 : Int32).toNatClampNeg; exact Nat.not_lt_zero _)
