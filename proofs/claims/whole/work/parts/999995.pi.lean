/-! ===== agreement: what is taken ===== -/
theorem same_tm {H : Gh} {f g : Lg} {n m a : Nat} (hf : LM H f n) (hg : LM H g m) (h0 : 1 ≤ a) (h1 : a ≤ n) (h2 : a ≤ m) (ht : tmE (f a) = tmE (g a)) : Eqp f g a := by
  obtain ⟨-, -, f3⟩ := hf a h0 h1
  obtain ⟨-, -, g3⟩ := hg a h0 h2
  rw [ht] at f3
  exact f3.trans g3.symm
section Tk
variable {H : Gh} {F : Nat → Lg} {A B : Rw} {s : Nat}
/-- an entry of the leader's is put at a place -/
theorem PG_tkput {p : Nat} (h : PG H F A) (hs : s < 5) (hT : 1 ≤ gI H (nA A (514 * s + 1))) (hr1 : ¬ A (514 * s + 3) = 1) (hr2 : ¬ A (514 * s + 3) = 2) (p0 : nA A (514 * s + 5) < p) (p2 : p ≤ gN H (nA A (514 * s + 1))) (p3 : p ≤ nA A (514 * s + 4) + 1)
    (he : Eqp (F s) (gL H (nA A (514 * s + 1))) (p - 1)) (hd : p ≤ nA A (514 * s + 4) → ¬ tmE (F s p) = tmE (gL H (nA A (514 * s + 1)) p)) (b4 : B (514 * s + 4) = nI p) (be : enA B (514 * s + 30 + 4 * p) = gL H (nA A (514 * s + 1)) p) (bo : ∀ k, k ≠ 514 * s + 4 → (k < 514 * s + 30 + 4 * p ∨ 514 * s + 34 + 4 * p ≤ k) → B k = A k) :
    PG H (upG F s (updL (F s) p (gL H (nA A (514 * s + 1)) p))) B := by
  obtain ⟨a1, a2, a3⟩ := PG_al h hs
  obtain ⟨⟨⟨r1, r4, r5, r6, r7⟩, r12, rn, r57, r9⟩, hN, hS, hE⟩ := PG_k h hs
  have hp := (h.2.1 _ hT).2.1
  obtain ⟨g1, g2⟩ := dS_put h.1 (PG_d h hs) hT hr1 hr2 (by omega) p2 p3 he hd
  have ev : vX B (upG F s (updL (F s) p (gL H (nA A (514 * s + 1)) p))) s = mkX (nA A (514 * s + 1)) (A (514 * s + 2)) (A (514 * s + 3)) p (nA A (514 * s + 7)) (A (514 * s + 8)) (xH (vX A F s)) (updL (F s) p (gL H (nA A (514 * s + 1)) p)) := by
    unfold vX
    rw [nA_c (bo (514 * s + 1) (by omega) (by omega)), bo (514 * s + 2) (by omega) (by omega), bo (514 * s + 3) (by omega) (by omega), nA_at b4 (by omega), nA_c (bo (514 * s + 7) (by omega) (by omega)), bo (514 * s + 8) (by omega) (by omega), upG_at]
    congr 1
    funext t
    show (if t < 5 then nA B (514 * s + 29 + t) else 0) = if t < 5 then nA A (514 * s + 29 + t) else 0
    split
    · exact nA_c (bo _ (by omega) (by omega))
    · rfl
  have q5 : B (514 * s + 5) = A (514 * s + 5) := bo _ (by omega) (by omega)
  have eqS : Eqp (updL (F s) p (gL H (nA A (514 * s + 1)) p)) (F s) (nA A (514 * s + 5)) := updL_eqp Eqp.refl (by omega)
  refine PG_st h hs Hle_refl h.1 h.2.1 (fun k k1 k2 => bo k (by omega) (by omega)) (fun t ht _ => PG_d h ht) (by rw [ev]; exact g2) ⟨⟨⟨?_, ?_, ?_, ?_, ?_⟩, ?_, fun t ht => ?_, ?_, ?_⟩, fun z => ?_, ⟨?_, ?_⟩, fun q q1 q2 => ?_⟩ (by rw [ev]; exact ⟨Nat.le_refl _, fun z => absurd z hr1⟩)
  · rw [bo _ (by omega) (by omega)]; exact r1
  · rw [b4, rg_nI (by omega)]; omega
  · rw [q5]; exact r5
  · rw [bo _ (by omega) (by omega)]; exact r6
  · rw [bo _ (by omega) (by omega)]; exact r7
  · rw [bo _ (by omega) (by omega)]; exact r12
  · rw [bo _ (by omega) (by omega), bo (514 * s + 29 + t) (by omega) (by omega)]; exact rn t ht
  · rw [nA_c q5, nA_c (bo (514 * s + 7) (by omega) (by omega))]; exact r57
  · rw [bo _ (by omega) (by omega), bo (514 * s + 10) (by omega) (by omega)]; exact r9
  · rw [bo _ (by omega) (by omega)] at z; exact absurd z hr2
  · rw [nA_c q5, nA_c (bo (514 * s + 6) (by omega) (by omega)), hS.1]; exact (ltm_eq eqS).symm
  · rw [nA_c q5, bo (514 * s + 9) (by omega) (by omega), bo (514 * s + 10) (by omega) (by omega), bo 4514 (by omega) (by omega), hS.2]; exact (cfg_eq eqS).symm
  · rw [nA_c q5] at q1
    rw [nA_at b4 (by omega)] at q2
    by_cases c : q = p
    · rw [c, updL_at]; exact be
    · rw [updL_ne c, ← hE q q1 (by omega)]
      unfold enA
      rw [bo _ (by omega) (by omega), bo (514 * s + 30 + 4 * q + 1) (by omega) (by omega), bo (514 * s + 30 + 4 * q + 2) (by omega) (by omega), bo (514 * s + 30 + 4 * q + 3) (by omega) (by omega)]
/-- while entries of g are taken, k of them by now -/
def Tk (H : Gh) (F : Nat → Lg) (A : Rw) (s T n : Nat) : Prop := PG H F A ∧ nA A (514 * s + 1) = T ∧ A (514 * s + 3) = 0 ∧ Eqp (F s) (gL H T) n ∧ n ≤ nA A (514 * s + 4)
theorem PG_tk1 {g : Rw} {k T : Nat} (hs : s < 5) (hT : 1 ≤ gI H T) (h : Tk H F A s T (nA g 4 + k)) (hk : nA g 4 + 1 + k ≤ gN H T) (hg : enA g (9 + 4 * k) = gL H T (nA g 4 + 1 + k)) : ∃ f, Tk H (upG F s f) (qTk1 A g s k) s T (nA g 4 + (k + 1)) := by
  obtain ⟨h, e1, hr, he, hn⟩ := h
  have hr1 : ¬ A (514 * s + 3) = 1 := by rw [hr]; decide
  have hr2 : ¬ A (514 * s + 3) = 2 := by rw [hr]; decide
  obtain ⟨a1, a2, a3⟩ := PG_al h hs
  obtain ⟨⟨⟨r1, r4, r5, r6, r7⟩, r12, rn, r57, r9⟩, hN, hS, hE⟩ := PG_k h hs
  obtain ⟨e4, b4, c4⟩ := nA_r r4
  obtain ⟨e5, b5, c5⟩ := nA_r r5
  have hp := (h.2.1 _ hT).2.1
  obtain ⟨p, hpd⟩ : ∃ p, p = nA g 4 + 1 + k := ⟨_, rfl⟩
  have keep : Eqp (F s) (gL H T) p → p ≤ nA A (514 * s + 4) → ∃ f, Tk H (upG F s f) A s T (nA g 4 + (k + 1)) := by
    intro k1 k2
    refine ⟨F s, ?_⟩
    rw [upG_self]
    exact ⟨h, e1, hr, by rw [show nA g 4 + (k + 1) = p by omega]; exact k1, by omega⟩
  have eg0 : (gL H T p).1 = g (9 + 4 * k) := by rw [hpd, ← hg]; rfl
  have vg := (h.2.1 _ hT).2.2 p (by omega) (by omega)
  have put : ∀ B : Rw, nA A (514 * s + 5) < p → p ≤ nA A (514 * s + 4) + 1 → (p ≤ nA A (514 * s + 4) → ¬ tmE (F s p) = tmE (gL H T p)) → B (514 * s + 4) = nI p → enA B (514 * s + 30 + 4 * p) = gL H T p → (∀ i, i ≠ 514 * s + 4 → (i < 514 * s + 30 + 4 * p ∨ 514 * s + 34 + 4 * p ≤ i) → B i = A i) → ∃ f, Tk H (upG F s f) B s T (nA g 4 + (k + 1)) := by
    intro B q0 q1 q2 q3 q4 q5
    have := PG_tkput (B := B) (p := p) h hs (by rw [e1]; exact hT) hr1 hr2 q0 (by rw [e1]; omega) q1 (by rw [e1, show p - 1 = nA g 4 + k by omega]; exact he) (by rw [e1]; exact q2) q3 (by rw [e1]; exact q4) q5
    rw [e1] at this
    refine ⟨_, this, by rw [nA_c (q5 (514 * s + 1) (by omega) (by omega))]; exact e1, by rw [q5 _ (by omega) (by omega)]; exact hr, ?_, by rw [nA_at q3 (by omega)]; omega⟩
    rw [upG_at]
    intro i i1 i2
    by_cases c : i = p
    · rw [c, updL_at]
    · rw [updL_ne c]; exact he i i1 (by omega)
  unfold qTk1
  dsimp only
  have ep : (g 4).toNatClampNeg + 1 + k = p := by rw [hpd]; rfl
  rw [ep]
  split
  · rename_i c
    rw [e5, nI_leI (by omega) (by omega)] at c
    obtain ⟨g1, g2⟩ := ag_ld h.1 (PG_d h hs).2.2.2.2.2.1 hT (by show nA A (514 * s + 1) ≤ T; omega)
    have g2 : Eqp (F s) (gL H T) (nA A (514 * s + 7)) := g2
    exact keep (g2.mono (by omega)) (by omega)
  · rename_i c
    rw [e5, nI_leI (by omega) (by omega)] at c
    have eF : p ≤ nA A (514 * s + 4) → A (514 * s + 30 + 4 * p) = (F s p).1 := fun q => by rw [← hE p (by omega) q]; rfl
    by_cases z : nI p ≤ A (514 * s + 4) ∧ ¬ A (514 * s + 30 + 4 * p) = g (9 + 4 * k)
    · rw [if_pos z]
      have x4 : up A (514 * s + 4) (nI (p - 1)) (514 * s + 4) = nI (p - 1) := up_at
      rw [if_pos (by rw [x4, nI_ltI (by omega) (by omega)]; omega)]
      obtain ⟨z1, z2⟩ := z
      rw [e4, nI_leI (by omega) (by omega)] at z1
      obtain ⟨q1, q2, q3, q4⟩ := qPut_e (A := up A (514 * s + 4) (nI (p - 1))) (s := s) (l := p - 1) (tm := g (9 + 4 * k)) (kd := g (9 + 4 * k + 1)) (x := g (9 + 4 * k + 2)) (y := g (9 + 4 * k + 3)) x4 (by omega)
      refine put _ (by omega) (by omega) (fun _ q => ?_) (by rw [qPut_4 x4]; congr 1; omega) ?_ (fun i i1 i2 => by rw [qPut_out x4 (by omega) i1 (by omega), up_ne i1])
      · have v1 := (enV_n (PG_v h hs (p := p) (by omega) z1)).1
        have v2 := (enV_n vg).1
        exact z2 (by rw [eF z1, ← eg0, v1, v2, q])
      · unfold enA
        rw [show 514 * s + 30 + 4 * p = 514 * s + 34 + 4 * (p - 1) by omega, q1, q2, q3, q4, hpd, ← hg]
        rfl
    · rw [if_neg z]
      by_cases c2 : nA A (514 * s + 4) < p
      · rw [if_pos (by rw [e4, nI_ltI (by omega) (by omega)]; exact c2)]
        obtain ⟨q1, q2, q3, q4⟩ := qPut_e (tm := g (9 + 4 * k)) (kd := g (9 + 4 * k + 1)) (x := g (9 + 4 * k + 2)) (y := g (9 + 4 * k + 3)) e4 c4
        have hpl : p = nA A (514 * s + 4) + 1 := by omega
        refine put _ (by omega) (by omega) (fun q => by omega) (by rw [qPut_4 e4, hpl]) ?_ (fun i i1 i2 => qPut_out e4 c4 i1 (by omega))
        unfold enA
        rw [show 514 * s + 30 + 4 * p = 514 * s + 34 + 4 * nA A (514 * s + 4) by omega, q1, q2, q3, q4, hpd, ← hg]
        rfl
      · rw [if_neg (by rw [e4, nI_ltI (by omega) (by omega)]; exact c2)]
        have hpl : p ≤ nA A (514 * s + 4) := by omega
        have z2 : A (514 * s + 30 + 4 * p) = g (9 + 4 * k) := Classical.not_not.mp (fun q => z ⟨by rw [e4, nI_leI (by omega) (by omega)]; exact hpl, q⟩)
        rw [eF hpl, ← eg0] at z2
        refine keep (same_tm (PG_d h hs).1.1 (h.1.2.1 T hT) (by omega) hpl (by omega) ?_) hpl
        show (F s p).1.toNatClampNeg = (gL H T p).1.toNatClampNeg
        rw [z2]
theorem PG_tks {g : Rw} {T many : Nat} (hs : s < 5) (hT : 1 ≤ gI H T) (hm : many ≤ 3) (hN : nA g 4 + many ≤ gN H T) (hg : ∀ k, k < many → k < 3 → enA g (9 + 4 * k) = gL H T (nA g 4 + 1 + k)) : ∀ (n k : Nat) (F : Nat → Lg) (A : Rw), n + k = many → Tk H F A s T (nA g 4 + k) → ∃ f, Tk H (upG F s f) (tksF g s n k A) s T (nA g 4 + many) := by
  intro n
  induction n with
  | zero =>
    intro k F A e h
    refine ⟨F s, ?_⟩
    rw [upG_self]
    show Tk H F A s T _
    rw [show many = k by omega]
    exact h
  | succ n ih =>
    intro k F A e h
    obtain ⟨f, h1⟩ := PG_tk1 (g := g) (k := k) hs hT h (by omega) (hg k (by omega) (by omega))
    obtain ⟨f', h2⟩ := ih (k + 1) (upG F s f) (qTk1 A g s k) (by omega) h1
    refine ⟨f', ?_⟩
    have e : upG (upG F s f) s f' = upG F s f' := by
      funext t
      unfold upG
      split <;> rfl
    rw [e] at h2
    exact h2
/-- what a store has taken is noted -/
theorem PG_ack {p T : Nat} (h : PG H F A) (hs : s < 5) (hr : ¬ A (514 * s + 3) = 2) (e1 : nA A (514 * s + 1) = T) (hT : 1 ≤ gI H T) (h1 : p ≤ gN H T) (h2 : p ≤ nA A (514 * s + 4)) (h3 : Eqp (F s) (gL H T) p) : PG (gAck H T s p) F A := by
  have d := PG_d h hs
  have key : PG (gAck H T s p) (upG F s (F s)) A := by
    refine PG_st h hs Hle_ack (Hst_ack h.1 hT h1 (fun T2 hT2 => d.2.1.1 T2 (by show nA A (514 * s + 1) < T2; omega))) h.2.1 (fun _ _ _ => rfl) (fun t ht hts => dS_ack_o (PG_d h ht) hts) ?_ (PG_k h hs) ?_
    · rw [upG_self]; exact dS_ack_s d hr e1.symm h2 h3
    · rw [upG_self]; exact Xle_refl
  rw [upG_self] at key
  exact key
theorem PG_took0 {f : Nat} {m8 v : Int32} (h : PG H F A) (hs : s < 5) (hf : f < 5) (hfs : ¬ f = s) (hv : rg v (-1) 120) : PG H F (qAnsTook A m8 s f 0 v) := by
  unfold qAnsTook
  exact PG_post h ⟨⟨rg5 hs, rg5 hf, fun z => hfs ((nI_eq (by omega) (by omega)).mp z).symm, (PG_k h hs).1.1.1, (show rg (3 : Int32) 0 8 from ⟨by decide, by decide⟩)⟩, fun z => absurd z (by show ¬ (3 : Int32) = 0; decide), fun z => absurd z (by show ¬ (3 : Int32) = 1; decide), fun z => absurd z (by show ¬ (3 : Int32) = 2; decide), fun _ => ⟨hv, fun z => absurd z (by show ¬ (0 : Int32) = 1; decide)⟩, fun z => absurd z (by show ¬ (3 : Int32) = 4; decide), fun z => absurd z (by show ¬ (3 : Int32) = 5; decide), fun z => absurd z (by show ¬ (3 : Int32) = 8; decide)⟩
theorem PG_takes {g : Rw} {f : Nat} (h : PG H F A) (hs : s < 5) (hf : f < 5) (hfs : ¬ f = s) (h0 : nA g 0 = f) (hm : m2 H g) (hg2 : rg (g 2) 0 200) : PI (qTakes A g s f (g 2 = A (514 * s + 1))) := by
  obtain ⟨c1, ⟨q4, q5, q6, q7⟩, c3, c4, c5, c6, c7⟩ := hm
  obtain ⟨g4, x4, y4⟩ := nA_r q4
  obtain ⟨g5, x5, y5⟩ := nA_r q5
  obtain ⟨g6, x6, y6⟩ := nA_r q6
  obtain ⟨g7, x7, y7⟩ := nA_r q7
  have r4 := (PG_k h hs).1.1.2.1
  unfold qTakes
  by_cases cT : g 2 = A (514 * s + 1)
  · rw [if_neg (fun z => z cT)]
    have eT : nA g 2 = nA A (514 * s + 1) := by unfold nA; rw [cT]
    have hT : 1 ≤ gI H (nA g 2) := by omega
    have hr2 : ¬ A (514 * s + 3) = 2 := fun z => by
      have := (PG_ld h hs z).1
      rw [← eT, c1] at this
      omega
    rw [if_neg hr2]
    have h1 : PG H F (qPlays A s 0) := PG_plays h hs (by decide) (by decide)
    have o : ∀ i, (i ≠ 514 * s + 3 ∧ i ≠ 514 * s + 8 ∧ i ≠ 514 * s + 11 ∧ i ≠ 514 * s + 12 ∧ i ≠ 514 * s + 13 ∧ i ≠ 514 * s + 15) → qPlays A s 0 i = A i := fun i hi => qPlays_out hi
    have e1 : nA (qPlays A s 0) (514 * s + 1) = nA g 2 := by rw [nA_c (o (514 * s + 1) (by omega)), eT]
    have e3 : qPlays A s 0 (514 * s + 3) = 0 := qPlays_3
    generalize qPlays A s 0 = B at h1 e1 e3
    clear o
    have r4 := (PG_k h1 hs).1.1.2.1
    obtain ⟨e4, b4, k4⟩ := nA_r r4
    obtain ⟨e5, b5, k5⟩ := nA_r (PG_k h1 hs).1.1.2.2.1
    obtain ⟨a1, a2, a3⟩ := PG_al h1 hs
    dsimp only
    split
    · exact ⟨_, _, PG_took0 h1 hs hf hfs (rg_w r4 (by decide) (by decide))⟩
    · rename_i n1
      rw [e4, g4, nI_ltI (by omega) (by omega)] at n1
      split
      · refine ⟨_, _, PG_took0 h1 hs hf hfs ?_⟩
        rw [g4]
        rcases Nat.eq_zero_or_pos (nA g 4) with z | z
        · rw [z]; exact ⟨by decide, by decide⟩
        · rw [show (1 : Int32) = nI 1 from rfl, pk_sub (by omega), rg_nI (by omega)]; omega
      · rename_i n2
        have hst0 : Eqp (F s) (gL H (nA g 2)) (nA g 4) := by
          by_cases cs : nA g 4 < nA B (514 * s + 5)
          · obtain ⟨z1, z2⟩ := ag_ld h1.1 (PG_d h1 hs).2.2.2.2.2.1 hT (by show nA B (514 * s + 1) ≤ _; omega)
            have z2 : Eqp (F s) (gL H (nA g 2)) (nA B (514 * s + 7)) := z2
            exact z2.mono (by omega)
          · rcases Nat.eq_zero_or_pos (nA g 4) with z | z
            · rw [z]; exact Eqp.zero
            · have n3 : qTermAt B s (g 4) = g 5 := Classical.not_not.mp (fun q => n2 ⟨by rw [g4, e5, nI_ltI (by omega) (by omega)]; exact cs, q⟩)
              rw [g4, PG_tm h1 hs (by omega) (by omega), g5, c4] at n3
              have lb := PG_ltm h1 hs (p := nA g 4) (by omega)
              have n4 := (nI_eq (by omega) (by omega)).mp n3
              unfold ltm at n4
              rw [if_neg (by omega), if_neg (by omega)] at n4
              exact same_tm (PG_d h1 hs).1.1 (h1.1.2.1 _ hT) z (by show nA g 4 ≤ nA B (514 * s + 4); omega) (by omega) n4
        obtain ⟨f', h2, e1', e3', he', hn'⟩ := PG_tks (g := g) (many := nA g 6) hs hT (by omega) c3 c5 (nA g 6) 0 F B (by omega) ⟨h1, e1, e3, hst0, by omega⟩
        show PI (qAnsTook (qDoes (tksF g s (nA g 6) 0 B) s (if g 7 < g 4 + g 6 then g 7 else g 4 + g 6)) (g 8) s f 1 (g 4 + g 6))
        generalize tksF g s (nA g 6) 0 B = C at h2 e1' e3' hn'
        have es : g 4 + g 6 = nI (nA g 4 + nA g 6) := by rw [g4, g6, nI_add]
        have eto : (if g 7 < g 4 + g 6 then g 7 else g 4 + g 6) = nI (min (nA g 7) (nA g 4 + nA g 6)) := by
          rw [es]
          by_cases c : nA g 7 < nA g 4 + nA g 6
          · rw [if_pos (by rw [g7, nI_ltI (by omega) (by omega)]; exact c), Nat.min_eq_left (by omega)]; exact g7
          · rw [if_neg (by rw [g7, nI_ltI (by omega) (by omega)]; exact c), Nat.min_eq_right (by omega)]
        rw [eto, es]
        rw [upG_at] at he'
        have h3 : PG H (upG F s f') (qDoes C s (nI (min (nA g 7) (nA g 4 + nA g 6)))) := by
          refine PG_does h2 hs (by omega) Hle_refl h2.1 h2.2.1 (fun t ht _ => PG_d h2 ht) ?_
          by_cases c : min (nA g 7) (nA g 4 + nA g 6) ≤ nA C (514 * s + 7)
          · rw [Nat.max_eq_left c]
            exact PG_d h2 hs
          · rw [Nat.max_eq_right (by omega)]
            refine dS_agree (x := vX C (upG F s f') s) (PG_d h2 hs) (by show _ ≤ nA C (514 * s + 4); omega) (fun _ => ?_)
            obtain ⟨i, i1, i2, i3, i4⟩ := c7 (by omega)
            refine ⟨i, i1, ?_, by omega, ?_⟩
            · show (gE H i).1 ≤ nA C (514 * s + 1); omega
            · show Eqp (upG F s f' s) (gL H (gE H i).1) _
              rw [upG_at]
              exact (he'.mono (by omega)).trans (i4.mono (by omega))
        have ha2 := PG_ag h2 hs
        have o3 : ∀ i, (i < 514 * s + 16) → i ≠ 514 * s + 7 → qDoes C s (nI (min (nA g 7) (nA g 4 + nA g 6))) i = C i := fun i i1 i2 => by
          obtain ⟨z4, z5, z6⟩ := nA_r (PG_k h2 hs).1.1.2.1
          refine qDoes_out hs ha2 (by rw [rg_nI (by omega)]; omega) (Or.inl ?_) (Or.inl i1) (Or.inl (by omega)) i2
          rw [z4, nI_toInt z6, nI_toInt (by omega)]
          omega
        have h4 := PG_ack (p := nA g 4 + nA g 6) (T := nA g 2) h3 hs (by rw [o3 _ (by omega) (by omega), e3']; decide) (by rw [nA_c (o3 (514 * s + 1) (by omega) (by omega))]; exact e1') hT c3 (by rw [nA_c (o3 (514 * s + 4) (by omega) (by omega))]; omega) (by rw [upG_at]; exact he')
        generalize qDoes C s (nI (min (nA g 7) (nA g 4 + nA g 6))) = D at h3 h4 o3
        refine ⟨_, _, PG_post h4 ⟨⟨rg5 hs, rg5 hf, fun z => hfs ((nI_eq (by omega) (by omega)).mp z).symm, (PG_k h4 hs).1.1.1, (show rg (3 : Int32) 0 8 from ⟨by decide, by decide⟩)⟩, fun z => absurd z (by show ¬ (3 : Int32) = 0; decide), fun z => absurd z (by show ¬ (3 : Int32) = 1; decide), fun z => absurd z (by show ¬ (3 : Int32) = 2; decide), fun _ => ⟨?_, fun _ => ?_⟩, fun z => absurd z (by show ¬ (3 : Int32) = 4; decide), fun z => absurd z (by show ¬ (3 : Int32) = 5; decide), fun z => absurd z (by show ¬ (3 : Int32) = 8; decide)⟩⟩
        · show rg (nI (nA g 4 + nA g 6)) (-1) 120
          have := (h.2.1 _ hT).2.1
          rw [rg_nI (by omega)]; omega
        · have f0 : nA (rowS (nI s) (nI f) (D (514 * s + 1)) 3 1 (nI (nA g 4 + nA g 6)) (g 8)) 0 = s := nA_at rfl (by omega)
          have f2 : nA (rowS (nI s) (nI f) (D (514 * s + 1)) 3 1 (nI (nA g 4 + nA g 6)) (g 8)) 2 = nA g 2 := by
            show nA D (514 * s + 1) = nA g 2
            rw [nA_c (o3 (514 * s + 1) (by omega) (by omega))]; exact e1'
          have f5 : nA (rowS (nI s) (nI f) (D (514 * s + 1)) 3 1 (nI (nA g 4 + nA g 6)) (g 8)) 5 = nA g 4 + nA g 6 := nA_at rfl (by omega)
          rw [f0, f2, f5, gAck_K1]
          refine ⟨?_, by omega⟩
          show 0 ≤ (nI (nA g 4 + nA g 6)).toInt
          rw [nI_toInt (by omega)]
          omega
  · rw [if_pos cT]
    exact ⟨_, _, PG_took0 h hs hf hfs (rg_w r4 (by decide) (by decide))⟩
end Tk
