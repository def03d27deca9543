/-! ===== agreement: snapshots come ===== -/
section In
variable {H : Gh} {F : Nat → Lg} {A : Rw} {s : Nat}
theorem snapIn_o {g : Rw} {p t : Int32} {i : Nat} (h : i ≠ 514 * s + 4) (h5 : i ≠ 514 * s + 5) (h6 : i ≠ 514 * s + 6) (h7 : i ≠ 514 * s + 7) (h9 : i ≠ 514 * s + 9) (h10 : i ≠ 514 * s + 10) (hc : i < 514 * s + 16 ∨ 514 * s + 24 ≤ i) : qSnapIn A g s p t i = A i := by
  unfold qSnapIn
  rw [up_ne h10, up_ne h9, if_neg (by omega), if_neg (by omega), up_ne h7, up_ne h6, up_ne h5]
  split
  · rfl
  · rw [up_ne h]
theorem snapIn_v {g : Rw} {p t : Int32} : qSnapIn A g s p t (514 * s + 5) = p ∧ qSnapIn A g s p t (514 * s + 6) = t ∧ qSnapIn A g s p t (514 * s + 7) = p ∧ qSnapIn A g s p t (514 * s + 9) = g 13 ∧ qSnapIn A g s p t (514 * s + 10) = g 14 := by
  unfold qSnapIn
  refine ⟨?_, ?_, ?_, ?_, up_at⟩
  · rw [up_ne (by omega), up_ne (by omega), if_neg (by omega), if_neg (by omega), up_ne (by omega), up_ne (by omega), up_at]
  · rw [up_ne (by omega), up_ne (by omega), if_neg (by omega), if_neg (by omega), up_ne (by omega), up_at]
  · rw [up_ne (by omega), up_ne (by omega), if_neg (by omega), if_neg (by omega), up_at]
  · rw [up_ne (by omega), up_at]
theorem snapIn_4 {g : Rw} {p t : Int32} : qSnapIn A g s p t (514 * s + 4) = if qTermAt A s p = t then A (514 * s + 4) else p := by
  unfold qSnapIn
  rw [up_ne (by omega), up_ne (by omega), if_neg (by omega), if_neg (by omega), up_ne (by omega), up_ne (by omega), up_ne (by omega)]
  split
  · rfl
  · rw [up_at]
theorem PG_snapIn {g : Rw} (h : PG H F A) (hs : s < 5) (hm : m4 H g) (e1 : nA A (514 * s + 1) = nA g 2) (hr : A (514 * s + 3) = 0) (hlt : nA A (514 * s + 7) < nA g 4) :
    ∃ f, PG H (upG F s f) (qSnapIn A g s (g 4) (g 5)) ∧ nA g 4 ≤ nA (qSnapIn A g s (g 4) (g 5)) (514 * s + 4) ∧ Eqp f (gL H (nA g 2)) (nA g 4) := by
  obtain ⟨c1, ⟨q4, q5, q6⟩, c3, c4, c5, c6, c7⟩ := hm
  obtain ⟨g4, x4, y4⟩ := nA_r q4
  obtain ⟨g5, x5, y5⟩ := nA_r q5
  have hr1 : ¬ A (514 * s + 3) = 1 := by rw [hr]; decide
  have hr2 : ¬ A (514 * s + 3) = 2 := by rw [hr]; decide
  have hT : 1 ≤ gI H (nA g 2) := by omega
  obtain ⟨a1, a2, a3⟩ := PG_al h hs
  obtain ⟨⟨⟨r1, r4, r5, r6, r7⟩, r12, rn, r57, r9⟩, hN, hS, hE⟩ := PG_k h hs
  obtain ⟨e4, b4, k4⟩ := nA_r r4
  obtain ⟨e5, b5, k5⟩ := nA_r r5
  obtain ⟨v5, v6, v7, v9, v10⟩ := snapIn_v (A := A) (s := s) (g := g) (p := g 4) (t := g 5)
  have vo := fun i => snapIn_o (A := A) (s := s) (g := g) (p := g 4) (t := g 5) (i := i)
  have v4 := snapIn_4 (A := A) (s := s) (g := g) (p := g 4) (t := g 5)
  have d := PG_d h hs
  have main : ∀ (f : Lg) (l : Nat), qSnapIn A g s (g 4) (g 5) (514 * s + 4) = nI l → l ≤ 120 → nA g 4 ≤ l → Eqp f (gL H (nA g 2)) (nA g 4) → dS H s (mkX (nA A (514 * s + 1)) (A (514 * s + 2)) (A (514 * s + 3)) l (nA g 4) (A (514 * s + 8)) (xH (vX A F s)) f) → (∀ p, nA g 4 < p → p ≤ l → enA A (514 * s + 30 + 4 * p) = f p) → ∃ f, PG H (upG F s f) (qSnapIn A g s (g 4) (g 5)) ∧ nA g 4 ≤ nA (qSnapIn A g s (g 4) (g 5)) (514 * s + 4) ∧ Eqp f (gL H (nA g 2)) (nA g 4) := by
    intro f l w4 wl wp we wd wE
    have ev : vX (qSnapIn A g s (g 4) (g 5)) (upG F s f) s = mkX (nA A (514 * s + 1)) (A (514 * s + 2)) (A (514 * s + 3)) l (nA g 4) (A (514 * s + 8)) (xH (vX A F s)) f := by
      unfold vX
      rw [nA_c (vo (514 * s + 1) (by omega) (by omega) (by omega) (by omega) (by omega) (by omega) (by omega)), vo (514 * s + 2) (by omega) (by omega) (by omega) (by omega) (by omega) (by omega) (by omega), vo (514 * s + 3) (by omega) (by omega) (by omega) (by omega) (by omega) (by omega) (by omega), nA_at w4 (by omega), vo (514 * s + 8) (by omega) (by omega) (by omega) (by omega) (by omega) (by omega) (by omega), upG_at]
      have e7 : nA (qSnapIn A g s (g 4) (g 5)) (514 * s + 7) = nA g 4 := by unfold nA; rw [v7]
      rw [e7]
      congr 1
      funext t
      show (if t < 5 then nA (qSnapIn A g s (g 4) (g 5)) (514 * s + 29 + t) else 0) = if t < 5 then nA A (514 * s + 29 + t) else 0
      split
      · exact nA_c (vo _ (by omega) (by omega) (by omega) (by omega) (by omega) (by omega) (by omega))
      · rfl
    have n5 : nA (qSnapIn A g s (g 4) (g 5)) (514 * s + 5) = nA g 4 := by unfold nA; rw [v5]
    have n6 : nA (qSnapIn A g s (g 4) (g 5)) (514 * s + 6) = nA g 5 := by unfold nA; rw [v6]
    have n7 : nA (qSnapIn A g s (g 4) (g 5)) (514 * s + 7) = nA g 4 := by unfold nA; rw [v7]
    refine ⟨f, PG_st h hs Hle_refl h.1 h.2.1 (fun k k1 k2 => vo k (by omega) (by omega) (by omega) (by omega) (by omega) (by omega) (by omega)) (fun t ht _ => PG_d h ht) (by rw [ev]; exact wd) ⟨⟨⟨?_, ?_, ?_, ?_, ?_⟩, ?_, fun t ht => ?_, ?_, ?_⟩, fun z => ?_, ⟨?_, ?_⟩, fun q z1 z2 => ?_⟩ (by rw [ev]; exact ⟨Nat.le_refl _, fun z => absurd z hr1⟩), by rw [nA_at w4 (by omega)]; exact wp, we⟩
    · rw [vo _ (by omega) (by omega) (by omega) (by omega) (by omega) (by omega) (by omega)]; exact r1
    · rw [w4, rg_nI (by omega)]; omega
    · rw [v5]; exact q4
    · rw [v6]; exact q5
    · rw [v7]; exact q4
    · rw [vo _ (by omega) (by omega) (by omega) (by omega) (by omega) (by omega) (by omega)]; exact r12
    · rw [vo _ (by omega) (by omega) (by omega) (by omega) (by omega) (by omega) (by omega), vo (514 * s + 29 + t) (by omega) (by omega) (by omega) (by omega) (by omega) (by omega) (by omega)]; exact rn t ht
    · rw [n5, n7]; exact Nat.le_refl _
    · rw [v9, v10]; exact c5
    · rw [vo _ (by omega) (by omega) (by omega) (by omega) (by omega) (by omega) (by omega)] at z; exact absurd z hr2
    · rw [n5, n6, c4]; exact (ltm_eq we).symm
    · rw [n5, v9, v10, vo 4514 (by omega) (by omega) (by omega) (by omega) (by omega) (by omega) (by omega), ← h.2.2.1.1, c6]; exact (cfg_eq we).symm
    · rw [n5] at z1
      rw [nA_at w4 (by omega)] at z2
      rw [← wE q z1 z2]
      unfold enA
      rw [vo _ (by omega) (by omega) (by omega) (by omega) (by omega) (by omega) (by omega), vo (514 * s + 30 + 4 * q + 1) (by omega) (by omega) (by omega) (by omega) (by omega) (by omega) (by omega), vo (514 * s + 30 + 4 * q + 2) (by omega) (by omega) (by omega) (by omega) (by omega) (by omega) (by omega), vo (514 * s + 30 + 4 * q + 3) (by omega) (by omega) (by omega) (by omega) (by omega) (by omega) (by omega)]
  have tms : nA g 4 ≤ nA A (514 * s + 4) → (qTermAt A s (g 4) = g 5 ↔ tmE (F s (nA g 4)) = tmE (gL H (nA g 2) (nA g 4))) := by
    intro hl
    rw [g4, PG_tm h hs (by omega) hl, g5, c4]
    have lb := PG_ltm h hs (p := nA g 4) hl
    rw [nI_eq (by omega) (by omega)]
    unfold ltm
    rw [if_neg (by omega), if_neg (by omega)]
  by_cases ct : qTermAt A s (g 4) = g 5
  · rw [if_pos ct] at v4
    have hl : nA g 4 ≤ nA A (514 * s + 4) := by
      apply Classical.byContradiction
      intro hn
      unfold qTermAt at ct
      rw [if_neg (by rw [g4, e5, nI_eq (by omega) (by omega)]; omega), if_neg (by rw [g4, e5, e4, nI_toInt (by omega), nI_toInt (by omega), nI_toInt (by omega)]; omega), g5] at ct
      exact nI_nm1 (by omega) ct.symm
    have eqF : Eqp (F s) (gL H (nA g 2)) (nA g 4) := same_tm d.1.1 (h.1.2.1 _ hT) q6 hl c3 ((tms hl).mp ct)
    obtain ⟨i, i1, i2, i3, i4⟩ := c7
    refine main (F s) (nA A (514 * s + 4)) (by rw [v4]; exact e4) (by omega) hl eqF ?_ (fun p p1 p2 => hE p (by omega) p2)
    exact dS_agree (x := vX A F s) d hl (fun _ => ⟨i, i1, by show (gE H i).1 ≤ nA A (514 * s + 1); omega, i3, eqF.trans i4⟩)
  · rw [if_neg ct] at v4
    refine main (gL H (nA g 2)) (nA g 4) (by rw [v4]; exact g4) (by omega) (Nat.le_refl _) Eqp.refl ?_ (fun p p1 p2 => by omega)
    have := dS_inst (p := nA g 4) h.1 d (by show 1 ≤ gI H (nA A (514 * s + 1)); rw [e1]; exact hT) hr1 hr2 q6 (by show nA g 4 ≤ gN H (nA A (514 * s + 1)); rw [e1]; exact c3) (fun hl q => ct ((tms hl).mpr (by
      have q : tmE (F s (nA g 4)) = tmE (gL H (nA A (514 * s + 1)) (nA g 4)) := q
      rw [e1] at q
      exact q))) (by show ∃ i, i < gM H ∧ cov H (gL H (nA A (514 * s + 1))) (nA g 4) (nA A (514 * s + 1)) i; rw [e1]; exact c7)
    have this : dS H s (mkX (nA A (514 * s + 1)) (A (514 * s + 2)) (A (514 * s + 3)) (nA g 4) (nA g 4) (A (514 * s + 8)) (xH (vX A F s)) (gL H (nA A (514 * s + 1)))) := this
    rw [e1] at this ⊢
    exact this
theorem PG_inst0 {f p : Nat} {m8 : Int32} (h : PG H F A) (hs : s < 5) (hf : f < 5) (hfs : ¬ f = s) (hp : p ≤ 120) (hk : p ≤ gK H (nA A (514 * s + 1)) s) : PG H F (qPost A s f (rowS (nI s) (nI f) (A (514 * s + 1)) 5 (nI p) 0 m8)) := by
  refine PG_post h ⟨⟨rg5 hs, rg5 hf, fun z => hfs ((nI_eq (by omega) (by omega)).mp z).symm, (PG_k h hs).1.1.1, (show rg (5 : Int32) 0 8 from ⟨by decide, by decide⟩)⟩, fun z => absurd z (by show ¬ (5 : Int32) = 0; decide), fun z => absurd z (by show ¬ (5 : Int32) = 1; decide), fun z => absurd z (by show ¬ (5 : Int32) = 2; decide), fun z => absurd z (by show ¬ (5 : Int32) = 3; decide), fun z => absurd z (by show ¬ (5 : Int32) = 4; decide), fun _ => ⟨?_, ?_⟩, fun z => absurd z (by show ¬ (5 : Int32) = 8; decide)⟩
  · show rg (nI p) 0 120
    rw [rg_nI (by omega)]; omega
  · have f0 : nA (rowS (nI s) (nI f) (A (514 * s + 1)) 5 (nI p) 0 m8) 0 = s := nA_at rfl (by omega)
    have f2 : nA (rowS (nI s) (nI f) (A (514 * s + 1)) 5 (nI p) 0 m8) 2 = nA A (514 * s + 1) := rfl
    have f4 : nA (rowS (nI s) (nI f) (A (514 * s + 1)) 5 (nI p) 0 m8) 4 = p := nA_at rfl (by omega)
    rw [f0, f2, f4]
    exact hk
theorem PG_installs {g : Rw} {f : Nat} (h : PG H F A) (hs : s < 5) (hf : f < 5) (hfs : ¬ f = s) (hm : m4 H g) : PI (qInstalls A g s f (g 2 = A (514 * s + 1))) := by
  obtain ⟨c1, ⟨q4, q5, q6⟩, c3, c4, c5, c6, c7⟩ := id hm
  obtain ⟨g4, x4, y4⟩ := nA_r q4
  unfold qInstalls
  by_cases cT : g 2 = A (514 * s + 1)
  · rw [if_pos cT, if_pos cT]
    have eT : nA g 2 = nA A (514 * s + 1) := by unfold nA; rw [cT]
    have hT : 1 ≤ gI H (nA g 2) := by omega
    have h1 : PG H F (qPlays A s 0) := PG_plays h hs (by decide) (by decide)
    have e1 : nA (qPlays A s 0) (514 * s + 1) = nA g 2 := by rw [nA_c (qPlays_out (A := A) (s := s) (r := 0) (i := 514 * s + 1) (by omega)), eT]
    have e3 : qPlays A s 0 (514 * s + 3) = 0 := qPlays_3
    generalize qPlays A s 0 = B at h1 e1 e3
    have r7 := (PG_k h1 hs).1.1.2.2.2.2
    obtain ⟨e7, b7, k7⟩ := nA_r r7
    obtain ⟨a1, a2, a3⟩ := PG_al h1 hs
    by_cases c : nA B (514 * s + 7) < nA g 4
    · rw [if_pos (by rw [e7, g4, nI_ltI (by omega) (by omega)]; exact c)]
      obtain ⟨f', h2, n4, he⟩ := PG_snapIn h1 hs hm e1 e3 c
      have o1 : qSnapIn B g s (g 4) (g 5) (514 * s + 1) = B (514 * s + 1) := snapIn_o (by omega) (by omega) (by omega) (by omega) (by omega) (by omega) (by omega)
      have o3 : qSnapIn B g s (g 4) (g 5) (514 * s + 3) = B (514 * s + 3) := snapIn_o (by omega) (by omega) (by omega) (by omega) (by omega) (by omega) (by omega)
      have h3 := PG_ack (p := nA g 4) (T := nA g 2) h2 hs (by rw [o3, e3]; decide) (by rw [nA_c o1]; exact e1) hT c3 n4 (by rw [upG_at]; exact he)
      dsimp only
      rw [g4]
      rw [g4] at h3 o1
      have e1' : nA (qSnapIn B g s (nI (nA g 4)) (g 5)) (514 * s + 1) = nA g 2 := by rw [nA_c o1]; exact e1
      exact ⟨_, _, PG_inst0 h3 hs hf hfs (by omega) (by rw [e1', gAck_K1]; omega)⟩
    · rw [if_neg (by rw [e7, g4, nI_ltI (by omega) (by omega)]; exact c)]
      obtain ⟨z1, z2⟩ := ag_ld h1.1 (PG_d h1 hs).2.2.2.2.2.1 hT (by show nA B (514 * s + 1) ≤ _; omega)
      have z2 : Eqp (F s) (gL H (nA g 2)) (nA B (514 * s + 7)) := z2
      have h3 := PG_ack (p := nA g 4) (T := nA g 2) h1 hs (by rw [e3]; decide) e1 hT c3 (by omega) (z2.mono (by omega))
      dsimp only
      rw [g4]
      exact ⟨_, _, PG_inst0 h3 hs hf hfs (by omega) (by rw [e1, gAck_K1]; omega)⟩
  · rw [if_neg cT, if_neg cT]
    exact ⟨_, _, PG_inst0 (p := 0) h hs hf hfs (by omega) (by omega)⟩
end In
/-! what a leader hears -/
section Hear
variable {H : Gh} {F : Nat → Lg} {A : Rw} {s : Nat}
theorem PG_hears {f : Nat} {m8 : Int32} (h : PG H F A) (hs : s < 5) : PG H F (qHears A m8 s f) := by
  refine PG_idle h (fun t ht => ⟨fun j j1 j2 j3 j4 => qHears_out (by omega), ?_⟩) (fun k k1 k2 => qHears_out (by omega)) (qHears_out (by omega)) (qHears_out (by omega))
  rw [qHears_out (by omega)]
  exact (PG_k h ht).1.2.1
theorem gt_n {a b : Nat} (ha : a < 2 ^ 31) (hb : b < 2 ^ 31) : gt (nI a) (nI b) = nI (max a b) := by
  unfold gt
  by_cases c : b < a
  · rw [if_pos (by rw [nI_ltI hb ha]; exact c), Nat.max_eq_left (by omega)]
  · rw [if_neg (by rw [nI_ltI hb ha]; exact c), Nat.max_eq_right (by omega)]
theorem ls_n {a b : Nat} (ha : a < 2 ^ 31) (hb : b < 2 ^ 31) : ls (nI a) (nI b) = nI (min a b) := by
  unfold ls
  by_cases c : a < b
  · rw [if_pos (by rw [nI_ltI ha hb]; exact c), Nat.min_eq_left (by omega)]
  · rw [if_neg (by rw [nI_ltI ha hb]; exact c), Nat.min_eq_right (by omega)]
/-- what a leader knows of one changes -/
theorem PG_nh {f a b : Nat} (h : PG H F A) (hs : s < 5) (hf : f < 5) (hfs : ¬ f = s) (hr : A (514 * s + 3) = 2) (ha : 1 ≤ a) (ha2 : a ≤ nA A (514 * s + 4) + 1) (hb : b ≤ gK H (nA A (514 * s + 1)) f) : PG H F (up (up A (514 * s + 29 + f) (nI b)) (514 * s + 24 + f) (nI a)) := by
  obtain ⟨l1, l2, l3, l4, l5⟩ := PG_ld h hs hr
  obtain ⟨a1, a2, a3⟩ := PG_al h hs
  obtain ⟨⟨⟨r1, r4, r5, r6, r7⟩, r12, rn, r57, r9⟩, hN, hS, hE⟩ := PG_k h hs
  have kn := (h.1.2.2.2.2.2.1 (nA A (514 * s + 1)) f).1
  have o : ∀ k, (k < 514 * s + 24 ∨ 514 * s + 34 ≤ k) → up (up A (514 * s + 29 + f) (nI b)) (514 * s + 24 + f) (nI a) k = A k := fun k hk => by rw [up_ne (by omega), up_ne (by omega)]
  have x24 : ∀ t, t < 5 → up (up A (514 * s + 29 + f) (nI b)) (514 * s + 24 + f) (nI a) (514 * s + 24 + t) = if t = f then nI a else A (514 * s + 24 + t) := fun t ht => by
    split
    · rename_i e; rw [e, up_at]
    · rw [up_ne (by omega), up_ne (by omega)]
  have x29 : ∀ t, t < 5 → up (up A (514 * s + 29 + f) (nI b)) (514 * s + 24 + f) (nI a) (514 * s + 29 + t) = if t = f then nI b else A (514 * s + 29 + t) := fun t ht => by
    split
    · rename_i e; rw [e, up_ne (by omega), up_at]
    · rw [up_ne (by omega), up_ne (by omega)]
  have ev : vX (up (up A (514 * s + 29 + f) (nI b)) (514 * s + 24 + f) (nI a)) F s = mkX (nA A (514 * s + 1)) (A (514 * s + 2)) (A (514 * s + 3)) (nA A (514 * s + 4)) (nA A (514 * s + 7)) (A (514 * s + 8)) (fun v => if v < 5 then (if v = f then b else nA A (514 * s + 29 + v)) else 0) (F s) := by
    unfold vX
    rw [nA_c (o (514 * s + 1) (by omega)), o (514 * s + 2) (by omega), o (514 * s + 3) (by omega), nA_c (o (514 * s + 4) (by omega)), nA_c (o (514 * s + 7) (by omega)), o (514 * s + 8) (by omega)]
    congr 1
    funext v
    by_cases hv : v < 5
    · rw [if_pos hv, if_pos hv]
      have := x29 v hv
      by_cases c : v = f
      · rw [if_pos c] at this ⊢
        exact nA_at this (by omega)
      · rw [if_neg c] at this ⊢
        exact nA_c this
    · rw [if_neg hv, if_neg hv]
  refine PG_soft h hs Hle_refl h.1 h.2.1 (fun k k1 k2 => o k (by omega)) (by rw [o _ (by omega)]; exact r1) (by rw [o _ (by omega)]; exact r12) (fun t ht => ?_) (fun _ t ht => ?_) (fun t ht _ => PG_d h ht) ?_ (by rw [ev]; exact ⟨Nat.le_refl _, fun z _ => ⟨z, rfl, rfl⟩⟩)
  · rw [x24 t ht, x29 t ht]
    by_cases c : t = f
    · rw [if_pos c, if_pos c, rg_nI (by omega), rg_nI (by omega)]; omega
    · rw [if_neg c, if_neg c]; exact rn t ht
  · rw [nA_c (o (514 * s + 4) (by omega))]
    have := x24 t ht
    by_cases c : t = f
    · rw [if_pos c] at this
      rw [nA_at this (by omega)]
      omega
    · rw [if_neg c] at this
      rw [nA_c this]
      exact hN hr t ht
  · rw [ev]
    refine dS_has (x := vX A F s) (PG_d h hs) (fun _ v hv hvs => ?_)
    show (if v < 5 then (if v = f then b else nA A (514 * s + 29 + v)) else 0) ≤ gK H (nA A (514 * s + 1)) v
    rw [if_pos hv]
    split
    · rename_i c; rw [c]; exact hb
    · exact l5 v hv hvs
theorem PI_goesOn {A : Rw} {s f : Nat} (h : PI A) (hs : s < 5) (hf : f < 5) (hfs : ¬ f = s) (hr : A (514 * s + 3) = 2) : PI (qGoesOn A s f) := by
  have h1 := PI_agr h hs hr
  unfold qGoesOn
  dsimp only
  split
  · rename_i c
    obtain ⟨H, F, h2⟩ := h1
    exact ⟨H, F, PG_feed h2 hs hf hfs c.1⟩
  · exact h1
theorem PG_took {f : Nat} {m8 v : Int32} {is : Prop} [Decidable is] (h : PG H F A) (hs : s < 5) (hf : f < 5) (hfs : ¬ f = s) (hr : A (514 * s + 3) = 2) (hv : rg v (-1) 120) (hk : is → v.toNatClampNeg ≤ gK H (nA A (514 * s + 1)) f) (h0 : is → 0 ≤ v.toInt) : PI (qTook A m8 s f is v) := by
  have h1 := PG_hears (f := f) (m8 := m8) h hs
  have o : ∀ i, (i ≠ 514 * s + 11 ∧ i ≠ 514 * s + 13 ∧ i ≠ 514 * s + 15) → qHears A m8 s f i = A i := fun i hi => qHears_out hi
  have e3 : qHears A m8 s f (514 * s + 3) = 2 := by rw [o _ (by omega)]; exact hr
  have e1 : nA (qHears A m8 s f) (514 * s + 1) = nA A (514 * s + 1) := nA_c (o _ (by omega))
  unfold qTook
  dsimp only
  generalize qHears A m8 s f = B at h1 e3 e1
  clear o
  obtain ⟨l1, l2, l3, l4, l5⟩ := PG_ld h1 hs e3
  obtain ⟨⟨⟨r1, r4, r5, r6, r7⟩, r12, rn, r57, r9⟩, hN, hS, hE⟩ := PG_k h1 hs
  obtain ⟨e24, b24, k24⟩ := nA_r (rn f hf).1
  obtain ⟨e29, b29, k29⟩ := nA_r (rn f hf).2
  have kn := (h1.1.2.2.2.2.2.1 (nA B (514 * s + 1)) f).1
  obtain ⟨n1, n2⟩ := hN e3 f hf
  have l5f := l5 f hf hfs
  have hself : up B (514 * s + 29 + f) (nI (nA B (514 * s + 29 + f))) = B := by
    funext i
    by_cases c : i = 514 * s + 29 + f
    · rw [c, up_at]; exact e29.symm
    · exact up_ne c
  by_cases c : is
  · rw [if_neg (fun z => z c)]
    obtain ⟨p, hp, hp0, hp1⟩ : ∃ p : Nat, v = nI p ∧ p ≤ 120 ∧ p ≤ gK H (nA A (514 * s + 1)) f := by
      obtain ⟨n, z, z0, -, z1⟩ := rg_ex (lo := 0) (hi := 120) ⟨h0 c, hv.2⟩
      have := hk c
      rw [z, nI_clamp z0] at this
      exact ⟨n, z, by omega, this⟩
    have eh : gt (B (514 * s + 29 + f)) v = nI (max (nA B (514 * s + 29 + f)) p) := by rw [e29, hp, gt_n (by omega) (by omega)]
    rw [eh, up_at, nI_s1]
    rw [e1] at l5f kn
    have h2 := PG_nh (a := max (nA B (514 * s + 29 + f)) p + 1) (b := max (nA B (514 * s + 29 + f)) p) h1 hs hf hfs e3 (by omega) (by rw [e1] at l2; omega) (by rw [e1]; omega)
    refine PI_goesOn ⟨_, _, h2⟩ hs hf hfs ?_
    rw [up_ne (by omega), up_ne (by omega)]
    exact e3
  · rw [if_pos c]
    obtain ⟨q, hq, hq1⟩ : ∃ q : Nat, v + 1 = nI q ∧ q ≤ 121 := by
      have := rg_1 hv (by decide) (by decide)
      obtain ⟨n, z, z0, -, z1⟩ := rg_ex (lo := 0) (hi := 121) this
      exact ⟨n, z, by omega⟩
    have en : gt (ls (B (514 * s + 24 + f)) (v + 1)) (B (514 * s + 29 + f) + 1) = nI (max (min (nA B (514 * s + 24 + f)) q) (nA B (514 * s + 29 + f) + 1)) := by
      rw [hq, e24, e29, nI_s1, ls_n (by omega) (by omega), gt_n (by omega) (by omega)]
    rw [en]
    have h2 := PG_nh (a := max (min (nA B (514 * s + 24 + f)) q) (nA B (514 * s + 29 + f) + 1)) (b := nA B (514 * s + 29 + f)) h1 hs hf hfs e3 (by omega) (by omega) l5f
    rw [hself] at h2
    refine ⟨_, _, PG_feed h2 hs hf hfs ?_⟩
    rw [up_ne (by omega)]
    exact e3
theorem PG_installed {f : Nat} {m8 v : Int32} (h : PG H F A) (hs : s < 5) (hf : f < 5) (hfs : ¬ f = s) (hr : A (514 * s + 3) = 2) (hv : rg v 0 120) (hk : v.toNatClampNeg ≤ gK H (nA A (514 * s + 1)) f) : PI (qInstalled A m8 s f v) := by
  have h1 := PG_hears (f := f) (m8 := m8) h hs
  have o : ∀ i, (i ≠ 514 * s + 11 ∧ i ≠ 514 * s + 13 ∧ i ≠ 514 * s + 15) → qHears A m8 s f i = A i := fun i hi => qHears_out hi
  have e3 : qHears A m8 s f (514 * s + 3) = 2 := by rw [o _ (by omega)]; exact hr
  have e1 : nA (qHears A m8 s f) (514 * s + 1) = nA A (514 * s + 1) := nA_c (o _ (by omega))
  unfold qInstalled
  dsimp only
  generalize qHears A m8 s f = B at h1 e3 e1
  clear o
  split
  · exact ⟨_, _, h1⟩
  · obtain ⟨l1, l2, l3, l4, l5⟩ := PG_ld h1 hs e3
    obtain ⟨⟨⟨r1, r4, r5, r6, r7⟩, r12, rn, r57, r9⟩, hN, hS, hE⟩ := PG_k h1 hs
    obtain ⟨e24, b24, k24⟩ := nA_r (rn f hf).1
    obtain ⟨e29, b29, k29⟩ := nA_r (rn f hf).2
    have kn := (h1.1.2.2.2.2.2.1 (nA B (514 * s + 1)) f).1
    obtain ⟨n1, n2⟩ := hN e3 f hf
    have l5f := l5 f hf hfs
    obtain ⟨p, hp, hp0, hp1⟩ : ∃ p : Nat, v = nI p ∧ p ≤ 120 ∧ p ≤ gK H (nA A (514 * s + 1)) f := by
      obtain ⟨n, z, z0, -, z1⟩ := rg_ex hv
      rw [z, nI_clamp z0] at hk
      exact ⟨n, z, by omega, hk⟩
    have eh : gt (B (514 * s + 29 + f)) v = nI (max (nA B (514 * s + 29 + f)) p) := by rw [e29, hp, gt_n (by omega) (by omega)]
    have e24' : up B (514 * s + 29 + f) (nI (max (nA B (514 * s + 29 + f)) p)) (514 * s + 24 + f) = nI (nA B (514 * s + 24 + f)) := by rw [up_ne (by omega)]; exact e24
    rw [eh, up_at, nI_s1, e24', gt_n (by omega) (by omega)]
    rw [e1] at l5f kn
    have h2 := PG_nh (a := max (nA B (514 * s + 24 + f)) (max (nA B (514 * s + 29 + f)) p + 1)) (b := max (nA B (514 * s + 29 + f)) p) h1 hs hf hfs e3 (by omega) (by rw [e1] at l2; omega) (by rw [e1]; omega)
    refine PI_goesOn ⟨_, _, h2⟩ hs hf hfs ?_
    rw [up_ne (by omega), up_ne (by omega)]
    exact e3
end Hear
