/-! ===== agreement: what a row tells of its logs ===== -/
theorem nA_r {A : Rw} {i : Nat} {hi : Int} (h : rg (A i) 0 hi) : A i = nI (nA A i) ∧ (nA A i : Int) ≤ hi ∧ nA A i < 2 ^ 31 := by
  obtain ⟨n, z, z0, -, z1⟩ := rg_ex h
  have e : nA A i = n := by unfold nA; rw [z, nI_clamp z0]
  rw [e]
  exact ⟨z, z1, z0⟩
theorem nA_at {A : Rw} {i n : Nat} (h : A i = nI n) (h0 : n < 2 ^ 31) : nA A i = n := by unfold nA; rw [h, nI_clamp h0]
theorem enV_n {e : En} (h : enV e) : e.1 = nI (tmE e) ∧ 1 ≤ tmE e ∧ tmE e ≤ 200 := by
  obtain ⟨n, z, z0, z2, z1⟩ := rg_ex h.1
  have e1 : tmE e = n := by unfold tmE; rw [z, nI_clamp z0]
  rw [e1]
  exact ⟨z, by omega, by omega⟩
section PGl
variable {H : Gh} {F : Nat → Lg} {A : Rw} {s : Nat}
theorem PG_d (h : PG H F A) (hs : s < 5) : dS H s (vX A F s) := (h.2.2.2.1 s hs).1
theorem PG_k (h : PG H F A) (hs : s < 5) : Lk A (F s) s := (h.2.2.2.1 s hs).2
theorem PG_al (h : PG H F A) (hs : s < 5) : nA A (514 * s + 5) ≤ nA A (514 * s + 7) ∧ nA A (514 * s + 7) ≤ nA A (514 * s + 4) ∧ nA A (514 * s + 4) ≤ 120 := by
  have a := (PG_k h hs).1.2.2.2.1
  have b : nA A (514 * s + 7) ≤ nA A (514 * s + 4) := (PG_d h hs).2.2.2.2.2.1.1
  have c := (nA_r (PG_k h hs).1.1.2.1).2.1
  exact ⟨a, b, by omega⟩
theorem PG_v (h : PG H F A) (hs : s < 5) {p : Nat} (p1 : 1 ≤ p) (p2 : p ≤ nA A (514 * s + 4)) : enV (F s p) := by
  obtain ⟨a, b, c⟩ := (PG_d h hs).1.1 p p1 p2
  have e : F s p = gL H (tmE (F s p)) p := c p p1 (Nat.le_refl _)
  have := (h.2.1 _ a).2.2 p p1 b
  rw [e]
  exact this
theorem PG_ltm (h : PG H F A) (hs : s < 5) {p : Nat} (p2 : p ≤ nA A (514 * s + 4)) : ltm (F s) p ≤ 200 := by
  unfold ltm
  split
  · omega
  · exact (enV_n (PG_v h hs (by omega) p2)).2.2
theorem PG_tm (h : PG H F A) (hs : s < 5) {p : Nat} (p1 : nA A (514 * s + 5) ≤ p) (p2 : p ≤ nA A (514 * s + 4)) : qTermAt A s (nI p) = nI (ltm (F s) p) := by
  obtain ⟨⟨⟨r1, r4, r5, r6, r7⟩, r12, rn, r57, r9⟩, hn, hS, hE⟩ := PG_k h hs
  obtain ⟨e4, b4, c4⟩ := nA_r r4
  obtain ⟨e5, b5, c5⟩ := nA_r r5
  obtain ⟨e6, b6, c6⟩ := nA_r r6
  unfold qTermAt
  by_cases c : p = nA A (514 * s + 5)
  · rw [if_pos (by rw [e5, c]), e6, hS.1, c]
  · rw [if_neg (by rw [e5, nI_eq (by omega) (by omega)]; exact c), if_pos (by rw [e5, nI_toInt (by omega), nI_toInt (by omega), e4, nI_toInt (by omega)]; omega), nI_clamp (by omega)]
    have := hE p (by omega) p2
    have e1 : A (514 * s + 30 + 4 * p) = (F s p).1 := by rw [← this]; rfl
    rw [e1, (enV_n (PG_v h hs (by omega) p2)).1]
    unfold ltm
    rw [if_neg (by omega)]
theorem PG_cfg (h : PG H F A) (hs : s < 5) : ∀ p, nA A (514 * s + 5) ≤ p → p ≤ nA A (514 * s + 4) → ((qCfg A s p).1, (qCfg A s p).2.1) = cfg (A 4514) (F s) p ∧ (qCfg A s p).2.2.2 = nI (if nA A (514 * s + 5) < lcp (F s) p then lcp (F s) p else 0) := by
  obtain ⟨⟨⟨r1, r4, r5, r6, r7⟩, r12, rn, r57, r9⟩, hn, hS, hE⟩ := PG_k h hs
  obtain ⟨e4, b4, c4⟩ := nA_r r4
  obtain ⟨e5, b5, c5⟩ := nA_r r5
  have base : ∀ p, p = nA A (514 * s + 5) → ((qBase A s).1, (qBase A s).2.1) = cfg (A 4514) (F s) p ∧ (qBase A s).2.2.2 = nI (if nA A (514 * s + 5) < lcp (F s) p then lcp (F s) p else 0) := by
    intro p hp
    have := lcp_le (f := F s) (n := p)
    rw [if_neg (by omega), hp, ← hS.2]
    exact ⟨rfl, rfl⟩
  intro p
  induction p with
  | zero => intro h1 _; exact base 0 (by omega)
  | succ p ih =>
    intro h1 h2
    have eq : qCfg A s (p + 1) = if nI (p + 1) ≤ A (514 * s + 5) then qBase A s else if A (514 * s + 30 + 4 * (p + 1) + 1) = 3 ∨ A (514 * s + 30 + 4 * (p + 1) + 1) = 4 then
      (A (514 * s + 30 + 4 * (p + 1) + 2), if A (514 * s + 30 + 4 * (p + 1) + 1) = 3 then A (514 * s + 30 + 4 * (p + 1) + 3) else 0, A (514 * s + 30 + 4 * (p + 1) + 1), nI (p + 1)) else qCfg A s p := rfl
    rw [eq]
    by_cases c : p + 1 = nA A (514 * s + 5)
    · rw [if_pos (by rw [e5, nI_leI (by omega) (by omega)]; omega)]
      exact base _ c
    · rw [if_neg (by rw [e5, nI_leI (by omega) (by omega)]; omega)]
      have en := hE (p + 1) (by omega) h2
      have x1 : A (514 * s + 30 + 4 * (p + 1) + 1) = (F s (p + 1)).2.1 := by rw [← en]; rfl
      have x2 : A (514 * s + 30 + 4 * (p + 1) + 2) = (F s (p + 1)).2.2.1 := by rw [← en]; rfl
      have x3 : A (514 * s + 30 + 4 * (p + 1) + 3) = (F s (p + 1)).2.2.2 := by rw [← en]; rfl
      rw [x1, x2, x3, cfg_s, lcp_s]
      by_cases c2 : (F s (p + 1)).2.1 = 3 ∨ (F s (p + 1)).2.1 = 4
      · rw [if_pos c2, if_pos c2, if_pos c2, if_pos (show nA A (514 * s + 5) < p + 1 by omega)]
        exact ⟨rfl, rfl⟩
      · rw [if_neg c2, if_neg c2, if_neg c2]
        exact ih (by omega) (by omega)
theorem PG_mem (h : PG H F A) (hs : s < 5) : ((qMem A s).1, (qMem A s).2.1) = cfg (gX H) (F s) (nA A (514 * s + 4)) ∧ (qMem A s).2.2.2 = nI (if nA A (514 * s + 5) < lcp (F s) (nA A (514 * s + 4)) then lcp (F s) (nA A (514 * s + 4)) else 0) := by
  obtain ⟨a, b, c⟩ := PG_al h hs
  have := PG_cfg h hs (nA A (514 * s + 4)) (by omega) (Nat.le_refl _)
  rw [h.2.2.1.1]
  exact this
/-- of a leader -/
theorem PG_ld (h : PG H F A) (hs : s < 5) (hr : A (514 * s + 3) = 2) : gI H (nA A (514 * s + 1)) = s + 1 ∧ gN H (nA A (514 * s + 1)) = nA A (514 * s + 4) ∧ Eqp (F s) (gL H (nA A (514 * s + 1))) (nA A (514 * s + 4)) ∧ gK H (nA A (514 * s + 1)) s = nA A (514 * s + 4) ∧ ∀ v, v < 5 → v ≠ s → nA A (514 * s + 29 + v) ≤ gK H (nA A (514 * s + 1)) v := by
  obtain ⟨a, b, c, d, e⟩ := (PG_d h hs).2.2.2.1 hr
  refine ⟨a, b, c, d, fun v v1 v2 => ?_⟩
  have e1 : (if v < 5 then nA A (514 * s + 29 + v) else 0) ≤ gK H (nA A (514 * s + 1)) v := e v v1 v2
  rw [if_pos v1] at e1
  exact e1
end PGl
/-! what a leader sends -/
theorem rowT_lo {A : Rw} {s t k : Nat} (h : k < 9) : rowT A s t k = up (up (rowS (nI s) (nI t) (A (514 * s + 1)) 2 (A (514 * s + 24 + t) - 1) (qTermAt A s (A (514 * s + 24 + t) - 1)) (A (514 * s + 14))) 6 (nI (mN A s t))) 7 (A (514 * s + 7)) k := by unfold rowT; rw [if_neg (by omega)]
theorem rg5 {s : Nat} (h : s < 5) : rg (nI s) 0 4 := (rg_nI (by omega)).mpr (by omega)
theorem PG_feed {H : Gh} {F : Nat → Lg} {A : Rw} {s t : Nat} (h : PG H F A) (hs : s < 5) (ht : t < 5) (hst : ¬ t = s) (hr : A (514 * s + 3) = 2) : PG H F (qFeed A s t) := by
  obtain ⟨l1, l2, l3, l4, l5⟩ := PG_ld h hs hr
  obtain ⟨a1, a2, a3⟩ := PG_al h hs
  obtain ⟨⟨⟨r1, r4, r5, r6, r7⟩, r12, rn, r57, r9⟩, hn, hS, hE⟩ := PG_k h hs
  obtain ⟨e1, b1, c1⟩ := nA_r r1
  obtain ⟨e4, b4, c4⟩ := nA_r r4
  obtain ⟨e5, b5, c5⟩ := nA_r r5
  obtain ⟨e6, b6, c6⟩ := nA_r r6
  obtain ⟨e7, b7, c7⟩ := nA_r r7
  obtain ⟨n1, n2⟩ := hn hr t ht
  obtain ⟨e24, b24, c24⟩ := nA_r (rn t ht).1
  have hne : ¬ nI s = nI t := fun z => hst ((nI_eq (by omega) (by omega)).mp z).symm
  have hcov : ∀ q, 1 ≤ q → q ≤ nA A (514 * s + 7) → ∃ i, i < gM H ∧ cov H (gL H (nA A (514 * s + 1))) q (nA A (514 * s + 1)) i := by
    intro q q1 q2
    have g := (PG_d h hs).2.2.2.2.2.1.2
    obtain ⟨i, i1, i2, i3, i4⟩ := g (show 1 ≤ nA A (514 * s + 7) by omega)
    have i3 : nA A (514 * s + 7) ≤ (gE H i).2.1 := i3
    have i4 : Eqp (F s) (gL H (gE H i).1) (nA A (514 * s + 7)) := i4
    exact ⟨i, i1, i2, by omega, (l3.mono (by omega)).symm.trans (i4.mono q2)⟩
  unfold qFeed
  split
  · rename_i hle
    rw [e24, e5, nI_leI (by omega) (by omega)] at hle
    refine PG_post h ⟨⟨rg5 hs, rg5 ht, hne, r1, (show rg (4 : Int32) 0 8 from ⟨by decide, by decide⟩)⟩, fun z => absurd z (by show ¬ (4 : Int32) = 0; decide), fun z => absurd z (by show ¬ (4 : Int32) = 1; decide), fun z => absurd z (by show ¬ (4 : Int32) = 2; decide), fun z => absurd z (by show ¬ (4 : Int32) = 3; decide), fun _ => ?_, fun z => absurd z (by show ¬ (4 : Int32) = 5; decide), fun z => absurd z (by show ¬ (4 : Int32) = 8; decide)⟩
    have f0 : nA (rowI A s t) 0 = s := nA_at rfl (by omega)
    have f2 : nA (rowI A s t) 2 = nA A (514 * s + 1) := rfl
    have f4 : nA (rowI A s t) 4 = nA A (514 * s + 5) := rfl
    have f5 : nA (rowI A s t) 5 = nA A (514 * s + 6) := rfl
    have f13 : rowI A s t 13 = A (514 * s + 9) := rfl
    have f14 : rowI A s t 14 = A (514 * s + 10) := rfl
    unfold m4
    rw [f0, f2, f4, f5, f13, f14]
    refine ⟨l1, ⟨r5, r6, by omega⟩, by omega, ?_, r9, ?_, hcov _ (by omega) (by omega)⟩
    · rw [hS.1]; exact ltm_eq (l3.mono (by omega))
    · rw [h.2.2.1.1, hS.2]; exact cfg_eq (l3.mono (by omega))
  · rename_i hle
    rw [e24, e5, nI_leI (by omega) (by omega)] at hle
    have en : A (514 * s + 24 + t) - 1 = nI (nA A (514 * s + 24 + t) - 1) := by rw [e24, show (1 : Int32) = nI 1 from rfl, pk_sub (by omega)]
    have et : qTermAt A s (A (514 * s + 24 + t) - 1) = nI (ltm (F s) (nA A (514 * s + 24 + t) - 1)) := by rw [en]; exact PG_tm h hs (by omega) (by omega)
    have lt := PG_ltm h hs (p := nA A (514 * s + 24 + t) - 1) (by omega)
    have hmN : mN A s t = min 3 (nA A (514 * s + 4) + 1 - nA A (514 * s + 24 + t)) := rfl
    have g0 : rowT A s t 0 = nI s := by rw [rowT_lo (by omega)]; rfl
    have g1 : rowT A s t 1 = nI t := by rw [rowT_lo (by omega)]; rfl
    have g2 : rowT A s t 2 = A (514 * s + 1) := by rw [rowT_lo (by omega)]; rfl
    have g3 : rowT A s t 3 = 2 := by rw [rowT_lo (by omega)]; rfl
    have g4 : rowT A s t 4 = nI (nA A (514 * s + 24 + t) - 1) := by rw [rowT_lo (by omega), ← en]; rfl
    have g5 : rowT A s t 5 = nI (ltm (F s) (nA A (514 * s + 24 + t) - 1)) := by rw [rowT_lo (by omega), ← et]; rfl
    have g6 : rowT A s t 6 = nI (mN A s t) := by rw [rowT_lo (by omega)]; rfl
    have g7 : rowT A s t 7 = A (514 * s + 7) := by rw [rowT_lo (by omega)]; rfl
    refine PG_post h ⟨⟨by rw [g0]; exact rg5 hs, by rw [g1]; exact rg5 ht, by rw [g0, g1]; exact hne, by rw [g2]; exact r1, by rw [g3]; exact ⟨by decide, by decide⟩⟩, fun z => absurd (g3.symm.trans z) (by decide), fun z => absurd (g3.symm.trans z) (by decide), fun _ => ?_, fun z => absurd (g3.symm.trans z) (by decide), fun z => absurd (g3.symm.trans z) (by decide), fun z => absurd (g3.symm.trans z) (by decide), fun z => absurd (g3.symm.trans z) (by decide)⟩
    have f0 : nA (rowT A s t) 0 = s := nA_at g0 (by omega)
    have f2 : nA (rowT A s t) 2 = nA A (514 * s + 1) := by unfold nA; rw [g2]
    have f4 : nA (rowT A s t) 4 = nA A (514 * s + 24 + t) - 1 := nA_at g4 (by omega)
    have f5 : nA (rowT A s t) 5 = ltm (F s) (nA A (514 * s + 24 + t) - 1) := nA_at g5 (by omega)
    have f6 : nA (rowT A s t) 6 = mN A s t := nA_at g6 (by omega)
    have f7 : nA (rowT A s t) 7 = nA A (514 * s + 7) := by unfold nA; rw [g7]
    unfold m2
    rw [f0, f2, f4, f5, f6, f7]
    refine ⟨l1, ⟨by rw [g4, rg_nI (by omega)]; omega, by rw [g5, rg_nI (by omega)]; omega, by rw [g6, rg_nI (by omega)]; omega, by rw [g7]; exact r7⟩, by omega, ltm_eq (l3.mono (by omega)), fun k k1 k2 => ?_, by omega, fun z => hcov _ z (Nat.le_refl _)⟩
    have ex : ∀ c, c < 4 → rowT A s t (9 + 4 * k + c) = A (514 * s + 30 + 4 * (nA A (514 * s + 24 + t) + k) + c) := by
      intro c hc
      unfold rowT
      rw [if_pos (by omega)]
      show A (514 * s + 34 + 4 * (nA A (514 * s + 24 + t) - 1) + (9 + 4 * k + c - 9)) = _
      congr 1
      omega
    have e0 := ex 0 (by omega)
    rw [Nat.add_zero, Nat.add_zero] at e0
    rw [show nA A (514 * s + 24 + t) - 1 + 1 + k = nA A (514 * s + 24 + t) + k by omega, ← l3 _ (by omega) (by omega), ← hE _ (by omega) (by omega)]
    unfold enA
    rw [ex 1 (by omega), ex 2 (by omega), ex 3 (by omega), e0]
theorem qFeed_3 {A : Rw} {s t u : Nat} (hs : u < 5) : qFeed A s t (514 * u + 3) = A (514 * u + 3) := qFeed_lo (by omega)
theorem PG_ff {H : Gh} {F : Nat → Lg} {A : Rw} {s t : Nat} {set : Int32} (h : PG H F A ∧ A (514 * s + 3) = 2) (hs : s < 5) (ht : t < 5) : PG H F (ff s set A t) ∧ ff s set A t (514 * s + 3) = 2 := by
  refine ⟨?_, by rw [ff_lo (by omega)]; exact h.2⟩
  unfold ff
  split
  · rename_i c; exact PG_feed h.1 hs ht c.2 h.2
  · exact h.1
theorem PG_feeds {H : Gh} {F : Nat → Lg} {A : Rw} {s : Nat} (h : PG H F A) (hs : s < 5) (hr : A (514 * s + 3) = 2) : PG H F (qFeedsAll A s) :=
  (PG_ff (PG_ff (PG_ff (PG_ff (PG_ff ⟨h, hr⟩ hs (by decide)) hs (by decide)) hs (by decide)) hs (by decide)) hs (by decide)).1
/-! what one that stands sends -/
theorem PG_as1 {H : Gh} {F : Nat → Lg} {A : Rw} {s t : Nat} {set kd : Int32} (h : PG H F A) (hs : s < 5) (ht : t < 5) (hk : (kd = 0 ∧ A (514 * s + 3) = 1) ∨ (kd = 7 ∧ nA A (514 * s + 1) < 200)) : PG H F (as1 s set kd A t) := by
  obtain ⟨a1, a2, a3⟩ := PG_al h hs
  obtain ⟨⟨⟨r1, r4, r5, r6, r7⟩, r12, rn, r57, r9⟩, hn, hS, hE⟩ := PG_k h hs
  obtain ⟨e1, b1, c1⟩ := nA_r r1
  obtain ⟨e4, b4, c4⟩ := nA_r r4
  have lt := PG_ltm h hs (p := nA A (514 * s + 4)) (Nat.le_refl _)
  have et : qTermAt A s (A (514 * s + 4)) = nI (ltm (F s) (nA A (514 * s + 4))) := by
    have := PG_tm h hs (p := nA A (514 * s + 4)) (by omega) (Nat.le_refl _)
    rw [← e4] at this
    exact this
  unfold as1
  split
  · by_cases hst : s = t
    · unfold qPost
      rw [if_pos hst]
      exact h
    · have hne : ¬ nI s = nI t := fun z => hst ((nI_eq (by omega) (by omega)).mp z)
      rcases hk with ⟨rfl, hr⟩ | ⟨rfl, hr⟩
      · rw [if_neg (by decide)]
        refine PG_post h ⟨⟨rg5 hs, rg5 ht, hne, r1, (show rg (0 : Int32) 0 8 from ⟨by decide, by decide⟩)⟩, fun _ => ?_, fun z => absurd z (by show ¬ (0 : Int32) = 1; decide), fun z => absurd z (by show ¬ (0 : Int32) = 2; decide), fun z => absurd z (by show ¬ (0 : Int32) = 3; decide), fun z => absurd z (by show ¬ (0 : Int32) = 4; decide), fun z => absurd z (by show ¬ (0 : Int32) = 5; decide), fun z => absurd z (by show ¬ (0 : Int32) = 8; decide)⟩
        have f0 : nA (rowS (nI s) (nI t) (A (514 * s + 1)) 0 (A (514 * s + 4)) (qTermAt A s (A (514 * s + 4))) 0) 0 = s := nA_at rfl (by omega)
        have f2 : nA (rowS (nI s) (nI t) (A (514 * s + 1)) 0 (A (514 * s + 4)) (qTermAt A s (A (514 * s + 4))) 0) 2 = nA A (514 * s + 1) := rfl
        have f4 : nA (rowS (nI s) (nI t) (A (514 * s + 1)) 0 (A (514 * s + 4)) (qTermAt A s (A (514 * s + 4))) 0) 4 = nA A (514 * s + 4) := rfl
        have f5 : nA (rowS (nI s) (nI t) (A (514 * s + 1)) 0 (A (514 * s + 4)) (qTermAt A s (A (514 * s + 4))) 0) 5 = ltm (F s) (nA A (514 * s + 4)) := nA_at et (by omega)
        unfold m0
        rw [f0, f2, f4, f5]
        obtain ⟨d1, d2⟩ := (PG_d h hs).1.2.2 hr
        have d1 : 1 ≤ nA A (514 * s + 1) := d1
        refine ⟨r4, ?_, Nat.le_refl _, ?_, fun _ _ => ⟨rfl, rfl⟩⟩
        · show rg (qTermAt A s (A (514 * s + 4))) 0 200
          rw [et, rg_nI (by omega)]; omega
        · unfold ltm
          split
          · omega
          · exact d2 _ (by omega) (Nat.le_refl _)
      · rw [if_pos rfl]
        refine PG_post h ⟨⟨rg5 hs, rg5 ht, hne, ?_, (show rg (7 : Int32) 0 8 from ⟨by decide, by decide⟩)⟩, fun z => absurd z (by show ¬ (7 : Int32) = 0; decide), fun z => absurd z (by show ¬ (7 : Int32) = 1; decide), fun z => absurd z (by show ¬ (7 : Int32) = 2; decide), fun z => absurd z (by show ¬ (7 : Int32) = 3; decide), fun z => absurd z (by show ¬ (7 : Int32) = 4; decide), fun z => absurd z (by show ¬ (7 : Int32) = 5; decide), fun z => absurd z (by show ¬ (7 : Int32) = 8; decide)⟩
        show rg (A (514 * s + 1) + 1) 0 200
        rw [e1, nI_s1, rg_nI (by omega)]; omega
  · exact h
theorem PG_asks {H : Gh} {F : Nat → Lg} {A : Rw} {s : Nat} {kd : Int32} (h : PG H F A) (hs : s < 5) (hk : (kd = 0 ∧ A (514 * s + 3) = 1) ∨ (kd = 7 ∧ nA A (514 * s + 1) < 200)) : PG H F (qAsksAll A s kd) := by
  have step : ∀ (t : Nat) (set : Int32) (B : Rw), t < 5 → (PG H F B ∧ ((kd = 0 ∧ B (514 * s + 3) = 1) ∨ (kd = 7 ∧ nA B (514 * s + 1) < 200))) → (PG H F (as1 s set kd B t) ∧ ((kd = 0 ∧ as1 s set kd B t (514 * s + 3) = 1) ∨ (kd = 7 ∧ nA (as1 s set kd B t) (514 * s + 1) < 200))) := by
    intro t set B ht hB
    refine ⟨PG_as1 hB.1 hs ht hB.2, ?_⟩
    rw [as1_lo (by omega), nA_c (as1_lo (A := B) (i := 514 * s + 1) (by omega))]
    exact hB.2
  exact (step 4 _ _ (by decide) (step 3 _ _ (by decide) (step 2 _ _ (by decide) (step 1 _ _ (by decide) (step 0 _ _ (by decide) ⟨h, hk⟩))))).1
