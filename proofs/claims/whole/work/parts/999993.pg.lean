/-! ===== agreement: steps of a row ===== -/
theorem PG_soft {H H' : Gh} {F : Nat → Lg} {A B : Rw} {s : Nat} (h : PG H F A) (hs : s < 5) (le : Hle H H') (h1 : Hst H') (h2 : EV H')
    (hB : ∀ k, (k < 514 * s ∨ 514 * s + 34 ≤ k ∨ k = 514 * s + 4 ∨ k = 514 * s + 5 ∨ k = 514 * s + 6 ∨ k = 514 * s + 7 ∨ k = 514 * s + 9 ∨ k = 514 * s + 10) → (k < 3830 ∨ k = 4510 ∨ k = 4514) → B k = A k)
    (r1 : rg (B (514 * s + 1)) 0 200) (r12 : rg (B (514 * s + 12)) 0 3) (rn : ∀ t, t < 5 → rg (B (514 * s + 24 + t)) 0 121 ∧ rg (B (514 * s + 29 + t)) 0 120) (hN : LkN B s)
    (ho : ∀ t, t < 5 → ¬ t = s → dS H' t (vX A F t)) (hd : dS H' s (vX B F s)) (hx : Xle (vX A F s) (vX B F s)) : PG H' F B := by
  obtain ⟨⟨⟨_, r4, r5, r6, r7⟩, _, _, r57, r9⟩, _, hS, hE⟩ := PG_k h hs
  have key : PG H' (upG F s (F s)) B := by
    have b4 : B (514 * s + 4) = A (514 * s + 4) := hB _ (by omega) (by omega)
    have b5 : B (514 * s + 5) = A (514 * s + 5) := hB _ (by omega) (by omega)
    have b6 : B (514 * s + 6) = A (514 * s + 6) := hB _ (by omega) (by omega)
    have b7 : B (514 * s + 7) = A (514 * s + 7) := hB _ (by omega) (by omega)
    have b9 : B (514 * s + 9) = A (514 * s + 9) := hB _ (by omega) (by omega)
    have b10 : B (514 * s + 10) = A (514 * s + 10) := hB _ (by omega) (by omega)
    refine PG_st h hs le h1 h2 (fun k k1 k2 => hB k (by omega) k2) ho (by rw [upG_self]; exact hd) ⟨⟨⟨r1, by rw [b4]; exact r4, by rw [b5]; exact r5, by rw [b6]; exact r6, by rw [b7]; exact r7⟩, r12, rn, by rw [nA_c b5, nA_c b7]; exact r57, by rw [b9, b10]; exact r9⟩, hN, ⟨by rw [nA_c b5, nA_c b6]; exact hS.1, by rw [nA_c b5, b9, b10, hB 4514 (by omega) (by omega)]; exact hS.2⟩, fun p p1 p2 => ?_⟩ (by rw [upG_self]; exact hx)
    rw [nA_c b5] at p1
    rw [nA_c b4] at p2
    have hp := (nA_r r4).2.1
    rw [← hE p p1 p2]
    unfold enA
    rw [hB _ (by omega) (by omega), hB (514 * s + 30 + 4 * p + 1) (by omega) (by omega), hB (514 * s + 30 + 4 * p + 2) (by omega) (by omega), hB (514 * s + 30 + 4 * p + 3) (by omega) (by omega)]
  rw [upG_self] at key
  exact key
/-- when what others have and where they go on isn't touched -/
theorem PG_soft2 {H H' : Gh} {F : Nat → Lg} {A B : Rw} {s : Nat} {T : Nat} {v r q : Int32} (h : PG H F A) (hs : s < 5) (le : Hle H H') (h1 : Hst H') (h2 : EV H')
    (hB : ∀ k, k ≠ 514 * s + 1 → k ≠ 514 * s + 2 → k ≠ 514 * s + 3 → k ≠ 514 * s + 8 → (k < 514 * s + 11 ∨ 514 * s + 16 ≤ k) → (k < 3830 ∨ k = 4510 ∨ k = 4514) → B k = A k)
    (v1 : B (514 * s + 1) = nI T) (v2 : B (514 * s + 2) = v) (v3 : B (514 * s + 3) = r) (v8 : B (514 * s + 8) = q) (hT : T ≤ 200) (r12 : rg (B (514 * s + 12)) 0 3) (hr : r = 2 → A (514 * s + 3) = 2)
    (ho : ∀ t, t < 5 → ¬ t = s → dS H' t (vX A F t)) (hd : dS H' s (mkX T v r (nA A (514 * s + 4)) (nA A (514 * s + 7)) q (xH (vX A F s)) (F s))) (hx : nA A (514 * s + 1) ≤ T) (hx1 : r = 1 → T = nA A (514 * s + 1) → A (514 * s + 3) = 1) : PG H' F B := by
  obtain ⟨⟨⟨_, r4, r5, r6, r7⟩, _, rn, r57, r9⟩, hN, hS, hE⟩ := PG_k h hs
  have e : vX B F s = mkX T v r (nA A (514 * s + 4)) (nA A (514 * s + 7)) q (xH (vX A F s)) (F s) := by
    unfold vX
    rw [nA_at v1 (by omega), v2, v3, v8, nA_c (hB (514 * s + 4) (by omega) (by omega) (by omega) (by omega) (by omega) (by omega)), nA_c (hB (514 * s + 7) (by omega) (by omega) (by omega) (by omega) (by omega) (by omega))]
    congr 1
    funext t
    show (if t < 5 then nA B (514 * s + 29 + t) else 0) = if t < 5 then nA A (514 * s + 29 + t) else 0
    split
    · exact nA_c (hB _ (by omega) (by omega) (by omega) (by omega) (by omega) (by omega))
    · rfl
  have ne : ∀ t, t < 5 → B (514 * s + 24 + t) = A (514 * s + 24 + t) := fun t ht => hB _ (by omega) (by omega) (by omega) (by omega) (by omega) (by omega)
  refine PG_soft h hs le h1 h2 (fun k k1 k2 => hB k (by omega) (by omega) (by omega) (by omega) (by omega) k2) (by rw [v1, rg_nI (by omega)]; omega) r12 (fun t ht => ?_) (fun z t ht => ?_) ho (by rw [e]; exact hd) ⟨by rw [e]; exact hx, fun z1 z2 => ?_⟩
  · rw [ne t ht, hB (514 * s + 29 + t) (by omega) (by omega) (by omega) (by omega) (by omega) (by omega)]
    exact rn t ht
  · rw [nA_c (ne t ht), nA_c (hB (514 * s + 4) (by omega) (by omega) (by omega) (by omega) (by omega) (by omega))]
    exact hN (hr (v3.symm.trans z)) t ht
  · rw [e] at z1 z2 ⊢
    exact ⟨hx1 z1 z2, rfl, rfl⟩
theorem qPlays_8 {A : Rw} {s : Nat} {r : Int32} (h : ¬ A (514 * s + 3) = r) : qPlays A s r (514 * s + 8) = 0 := by
  unfold qPlays
  rw [if_neg h]
  split
  · rw [qReads_out (by omega), up_at]
  · rw [up_at]
theorem qPlays_same {A : Rw} {s : Nat} {r : Int32} (h : A (514 * s + 3) = r) : qPlays A s r = A := by unfold qPlays; rw [if_pos h]
theorem PG_plays {H : Gh} {F : Nat → Lg} {A : Rw} {s : Nat} {r : Int32} (h : PG H F A) (hs : s < 5) (h1 : ¬ r = 1) (h2 : ¬ r = 2) : PG H F (qPlays A s r) := by
  by_cases c : A (514 * s + 3) = r
  · rw [qPlays_same c]; exact h
  · have r1 := (PG_k h hs).1.1.1
    obtain ⟨e1, b1, c1⟩ := nA_r r1
    refine PG_soft2 (T := nA A (514 * s + 1)) (v := A (514 * s + 2)) (r := r) (q := 0) h hs Hle_refl h.1 h.2.1 (fun k k1 k2 k3 k4 k5 k6 => qPlays_out (by omega)) (by rw [qPlays_out (by omega)]; exact e1) (qPlays_out (by omega)) qPlays_3 (qPlays_8 c) (by omega) (qPlays_12 (PG_k h hs).1.2.1) (fun z => absurd z h2) (fun t ht _ => PG_d h ht) (dS_role (PG_d h hs) h1 h2) (Nat.le_refl _) (fun z => absurd z h1)
theorem PG_follow {H : Gh} {F : Nat → Lg} {A : Rw} {s T : Nat} (h : PG H F A) (hs : s < 5) (h1 : nA A (514 * s + 1) < T) (h2 : T ≤ 200) : PG H F (qFollow A s (nI T)) := by
  unfold qFollow
  refine PG_soft2 (T := T) (v := -1) (r := 0) (q := qPlays (up (up A (514 * s + 1) (nI T)) (514 * s + 2) (-1)) s 0 (514 * s + 8)) h hs Hle_refl h.1 h.2.1 (fun k k1 k2 k3 k4 k5 k6 => by rw [qPlays_out (by omega), up_ne k2, up_ne k1]) (by rw [qPlays_out (by omega), up_ne (by omega), up_at]) (by rw [qPlays_out (by omega), up_at]) qPlays_3 rfl h2 (qPlays_12 (by rw [up_ne (by omega), up_ne (by omega)]; exact (PG_k h hs).1.2.1)) (fun z => absurd z (by decide)) (fun t ht _ => PG_d h ht) (dS_term (PG_d h hs) h1 (by decide) (by decide)) (Nat.le_of_lt h1) (fun z => absurd z (by decide))
theorem EV_same {H H' : Gh} (h : EV H) (h1 : gI H' = gI H) (h2 : gN H' = gN H) (h3 : gL H' = gL H) : EV H' := by
  unfold EV at *
  rw [h1, h2, h3]
  exact h
/-- a vote is given -/
theorem PG_vote {H : Gh} {F : Nat → Lg} {A : Rw} {s f : Nat} (h : PG H F A) (hs : s < 5) (hf : f < 5) (hfs : ¬ f = s) (hv : A (514 * s + 2) = -1) (hT : nA A (514 * s + 1) ≤ nA A (514 * f + 1)) (hfar : A (514 * f + 3) = 1 → nA A (514 * f + 1) = nA A (514 * s + 1) → far (F f) (nA A (514 * f + 4)) (F s) (nA A (514 * s + 4))) :
    ∃ H', PG H' F (up A (514 * s + 2) (nI f)) ∧ Hle H H' ∧ (gV H' (nA A (514 * s + 1)) s).1 = f + 1 := by
  have d := PG_d h hs
  have hr : ¬ A (514 * s + 3) = 1 := fun z => by
    have := (d.2.2.2.2.2.2 z).2.2
    have this : A (514 * s + 2) = nI s := this
    rw [hv] at this
    exact nI_nm1 (by omega) this.symm
  have h0 : (gV H (nA A (514 * s + 1)) s).1 = 0 := d.2.1.2.1 hv
  refine ⟨gVote H (nA A (514 * s + 1)) s (f + 1) (F s) (nA A (514 * s + 4)), ?_, Hle_vote h0, by rw [gVote_at]⟩
  have hst : Hst (gVote H (nA A (514 * s + 1)) s (f + 1) (F s) (nA A (514 * s + 4))) := Hst_vote h.1 h0 d.1.1 (fun T0 _ p hp hh => d.2.2.2.2.1.2 T0 p hp hh)
  obtain ⟨e1, b1, c1⟩ := nA_r (PG_k h hs).1.1.1
  refine PG_soft2 (T := nA A (514 * s + 1)) (v := nI f) (r := A (514 * s + 3)) (q := A (514 * s + 8)) h hs (Hle_vote h0) hst h.2.1 (fun k k1 k2 k3 k4 k5 k6 => up_ne k2) (by rw [up_ne (by omega)]; exact e1) up_at (up_ne (by omega)) (up_ne (by omega)) (by omega) (by rw [up_ne (by omega)]; exact (PG_k h hs).1.2.1) id (fun t ht hts => ?_) (dS_vote_s (x := vX A F s) d hv hr hf hfs) (Nat.le_refl _) (fun z _ => z)
  refine dS_vote_o (PG_d h ht) hts h0 (fun z => ?_)
  obtain rfl : f = t := by omega
  exact ⟨hT, fun z1 z2 => hfar z1 z2⟩
/-- one stands -/
theorem PG_stand1 {H : Gh} {F : Nat → Lg} {A : Rw} {s : Nat} (h : PG H F A) (hs : s < 5) (hT : nA A (514 * s + 1) < 200) : ∃ H', PG H' F (qStand1 A s) ∧ Hle H H' := by
  have d := PG_d h hs
  have h0 : (gV H (nA A (514 * s + 1) + 1) s).1 = 0 := d.2.1.1 _ (Nat.lt_succ_self _)
  obtain ⟨e1, b1, c1⟩ := nA_r (PG_k h hs).1.1.1
  have hst : Hst (gVote H (nA A (514 * s + 1) + 1) s (s + 1) (F s) (nA A (514 * s + 4))) := Hst_vote h.1 h0 d.1.1 (fun T0 hT0 p hp hh => d.2.2.2.2.1.2 T0 p hp (fun t t1 t2 t3 => hh t t1 (by have t2 : t ≤ nA A (514 * s + 1) := t2; omega) t3))
  refine ⟨_, ?_, Hle_vote (c := s + 1) (f := F s) (n := nA A (514 * s + 4)) h0⟩
  refine PG_soft2 (T := nA A (514 * s + 1) + 1) (v := nI s) (r := 1) (q := sh1 s) h hs (Hle_vote h0) hst h.2.1 (fun k k1 k2 k3 k4 k5 k6 => qStand1_out (by omega)) (by rw [stand1_1, e1, nI_s1]) ?_ ?_ ?_ (by omega) ?_ (fun z => absurd z (by decide)) (fun t ht hts => ?_) (dS_stand (x := vX A F s) d hs) (by omega) (fun _ z => by omega)
  · unfold qStand1; rw [up_ne (by omega), up_at]
  · unfold qStand1; rw [up_ne (by omega), up_ne (by omega), qPlays_3]
  · unfold qStand1; rw [up_at]; rfl
  · unfold qStand1
    rw [up_ne (by omega), up_ne (by omega)]
    exact qPlays_12 (by rw [up_ne (by omega)]; exact (PG_k h hs).1.2.1)
  · exact dS_vote_o (PG_d h ht) hts h0 (fun z => absurd z (by omega))
/-- votes come to a candidate -/
theorem PG_votes {H : Gh} {F : Nat → Lg} {A : Rw} {s : Nat} {q : Int32} (h : PG H F A) (hs : s < 5) (hq : A (514 * s + 3) = 1 → ∀ v, v < 5 → bit q v → (gV H (nA A (514 * s + 1)) v).1 = s + 1) : PG H F (up A (514 * s + 8) q) := by
  obtain ⟨e1, b1, c1⟩ := nA_r (PG_k h hs).1.1.1
  exact PG_soft2 (T := nA A (514 * s + 1)) (v := A (514 * s + 2)) (r := A (514 * s + 3)) (q := q) h hs Hle_refl h.1 h.2.1 (fun k k1 k2 k3 k4 k5 k6 => up_ne k4) (by rw [up_ne (by omega)]; exact e1) (up_ne (by omega)) (up_ne (by omega)) up_at (by omega) (by rw [up_ne (by omega)]; exact (PG_k h hs).1.2.1) id (fun t ht _ => PG_d h ht) (dS_votes (x := vX A F s) (PG_d h hs) hq) (Nat.le_refl _) (fun z _ => z)
/-- one becomes the leader, before NOTHING comes -/
theorem PG_lead0 {H : Gh} {F : Nat → Lg} {A : Rw} {s : Nat} (h : PG H F A) (hs : s < 5) (hr : A (514 * s + 3) = 1) (hm : maj2 (cfg (gX H) (F s) (nA A (514 * s + 4))) (A (514 * s + 8))) : ∃ H', PG H' F (qLead0 A s) ∧ Hle H H' := by
  have d := PG_d h hs
  obtain ⟨a1, a2, a3⟩ := PG_al h hs
  obtain ⟨⟨⟨r1, r4, r5, r6, r7⟩, r12, rn, r57, r9⟩, hN, hS, hE⟩ := PG_k h hs
  obtain ⟨e1, b1, c1⟩ := nA_r r1
  obtain ⟨e4, b4, c4⟩ := nA_r r4
  have h0 : gI H (nA A (514 * s + 1)) = 0 := win_new h.1 d hr hm
  have hk0 : ∀ v, gK H (nA A (514 * s + 1)) v = 0 := fun v => by
    have := (h.1.2.2.2.2.2.1 (nA A (514 * s + 1)) v).2
    omega
  have le := Hle_lead (s := s) (f := F s) (n := nA A (514 * s + 4)) h0 hk0
  obtain ⟨d1, d2⟩ := d.1.2.2 hr
  obtain ⟨q1, q2, q3⟩ := d.2.2.2.2.2.2 hr
  have hst : Hst (gLead H (nA A (514 * s + 1)) s (F s) (nA A (514 * s + 4))) := Hst_lead h.1 h0 d1 hs d.1.1 d2 (fun T2 hT2 => d.2.1.1 T2 hT2) ⟨A (514 * s + 8), hm, fun v hv hb => ⟨q1 v hv hb, q2 v (q1 v hv hb)⟩⟩
  have hev : EV (gLead H (nA A (514 * s + 1)) s (F s) (nA A (514 * s + 4))) := by
    intro T hT
    by_cases c : T = nA A (514 * s + 1)
    · subst c
      rw [gLead_N1, gLead_L1]
      exact ⟨by omega, by omega, fun p p1 p2 => PG_v h hs p1 p2⟩
    · rw [gLead_I c] at hT
      rw [gLead_N c, gLead_L c]
      exact h.2.1 T hT
  have ho : ∀ i, (i ≠ 514 * s + 3 ∧ i ≠ 514 * s + 8 ∧ i ≠ 514 * s + 11 ∧ i ≠ 514 * s + 12 ∧ i ≠ 514 * s + 13 ∧ i ≠ 514 * s + 15) → i ≠ 4309 + nA A (514 * s + 1) → (i < 514 * s + 24 ∨ 514 * s + 34 ≤ i) → qLead0 A s i = A i := fun i a b c => qLead0_out e1 c1 a b c
  have x3 : qLead0 A s (514 * s + 3) = 2 := by
    unfold qLead0
    have e1' : qReadsNothing (qPlays A s 2) s (514 * s + 1) = nI (nA A (514 * s + 1)) := by rw [qReads_out (by omega), qPlays_out (by omega)]; exact e1
    rw [e1', nI_clamp c1, ← nxF_5, nxF_out (by omega) (by omega), up_ne (by omega), qReads_out (by omega), qPlays_3]
  have x12 : rg (qLead0 A s (514 * s + 12)) 0 3 := by
    unfold qLead0
    have e1' : qReadsNothing (qPlays A s 2) s (514 * s + 1) = nI (nA A (514 * s + 1)) := by rw [qReads_out (by omega), qPlays_out (by omega)]; exact e1
    rw [e1', nI_clamp c1, ← nxF_5, nxF_out (by omega) (by omega), up_ne (by omega)]
    unfold qReadsNothing
    rw [up_ne (by omega), up_ne (by omega), up_at]
    exact ⟨by decide, by decide⟩
  have xn : ∀ t, t < 5 → qLead0 A s (514 * s + 24 + t) = nI (nA A (514 * s + 4) + 1) ∧ qLead0 A s (514 * s + 29 + t) = 0 := by
    intro t ht
    unfold qLead0
    have e1' : qReadsNothing (qPlays A s 2) s (514 * s + 1) = nI (nA A (514 * s + 1)) := by rw [qReads_out (by omega), qPlays_out (by omega)]; exact e1
    have e4' : qReadsNothing (qPlays A s 2) s (514 * s + 4) = nI (nA A (514 * s + 4)) := by rw [qReads_out (by omega), qPlays_out (by omega)]; exact e4
    rw [e1', nI_clamp c1, up_ne (by omega), e4', nI_s1]
    unfold nx5
    exact ⟨by rw [if_pos (by omega)], by rw [if_neg (by omega), if_pos (by omega)]⟩
  have x4 : qLead0 A s (514 * s + 4) = A (514 * s + 4) := ho _ (by omega) (by omega) (by omega)
  have ev : vX (qLead0 A s) F s = mkX (nA A (514 * s + 1)) (A (514 * s + 2)) 2 (nA A (514 * s + 4)) (nA A (514 * s + 7)) (qLead0 A s (514 * s + 8)) (fun _ => 0) (F s) := by
    unfold vX
    rw [nA_c (ho (514 * s + 1) (by omega) (by omega) (by omega)), ho (514 * s + 2) (by omega) (by omega) (by omega), x3, nA_c x4, nA_c (ho (514 * s + 7) (by omega) (by omega) (by omega))]
    congr 1
    funext t
    split
    · rename_i ht; exact nA_at (xn t ht).2 (by decide)
    · rfl
  refine ⟨_, ?_, le⟩
  refine PG_soft h hs le hst hev (fun k k1 k2 => ho k (by omega) (by omega) (by omega)) (by rw [ho _ (by omega) (by omega) (by omega)]; exact r1) x12 (fun t ht => ?_) (fun _ t ht => ?_) (fun t ht hts => dS_lead_o h.1 h0 (PG_d h ht) hts) (by rw [ev]; exact dS_lead_s (x := vX A F s) h.1 h0 d) (by rw [ev]; exact ⟨Nat.le_refl _, fun z => absurd z (by show ¬ (2 : Int32) = 1; decide)⟩)
  · rw [(xn t ht).1, (xn t ht).2, rg_nI (by omega)]
    exact ⟨by omega, by decide, by decide⟩
  · rw [nA_at (xn t ht).1 (by omega), nA_c x4]
    omega
/-- an entry comes to the leader's log -/
theorem PG_put {H : Gh} {F : Nat → Lg} {A : Rw} {s : Nat} {kd x y : Int32} (h : PG H F A) (hs : s < 5) (hr : A (514 * s + 3) = 2) (hl : nA A (514 * s + 4) < 120) (hv : (kd = 1 ∨ kd = 2) → rg x 0 3)
    (hc : (kd = 3 ∨ kd = 4) → x = w2 (cfg (gX H) (F s) (nA A (514 * s + 4))) ∧ lcp (F s) (nA A (514 * s + 4)) ≤ nA A (514 * s + 7)) :
    ∃ H' f, PG H' (upG F s f) (qPut A s (A (514 * s + 1)) kd x y) ∧ Hle H H' := by
  have d := PG_d h hs
  obtain ⟨a1, a2, a3⟩ := PG_al h hs
  obtain ⟨l1, l2, l3, l4, l5⟩ := PG_ld h hs hr
  obtain ⟨⟨⟨r1, r4, r5, r6, r7⟩, r12, rn, r57, r9⟩, hN, hS, hE⟩ := PG_k h hs
  obtain ⟨e1, b1, c1⟩ := nA_r r1
  obtain ⟨e4, b4, c4⟩ := nA_r r4
  obtain ⟨e, he⟩ : ∃ e : En, e = (A (514 * s + 1), kd, x, y) := ⟨_, rfl⟩
  have het : tmE e = nA A (514 * s + 1) := by rw [he]; rfl
  have hT1 : 1 ≤ nA A (514 * s + 1) := (h.1.1 _ (by omega : 1 ≤ gI H (nA A (514 * s + 1)))).1
  have hst : Hst (gApp H (nA A (514 * s + 1)) s e) := by
    refine Hst_app h.1 l1 het (fun T2 hT2 => d.2.1.1 T2 hT2) (fun z => ?_)
    rw [he] at z ⊢
    obtain ⟨z1, z2⟩ := hc z
    rw [l2, ← cfg_eq l3, ← lcp_eq l3]
    refine ⟨z1, fun z3 => ?_⟩
    obtain ⟨i, i1, i2, i3, i4⟩ := d.2.2.2.2.2.1.2 (show 1 ≤ nA A (514 * s + 7) by omega)
    have i3 : nA A (514 * s + 7) ≤ (gE H i).2.1 := i3
    have i4 : Eqp (F s) (gL H (gE H i).1) (nA A (514 * s + 7)) := i4
    exact ⟨i, i1, i2, by omega, (l3.mono (by omega)).symm.trans (i4.mono z2)⟩
  have le := Hle_app (T := nA A (514 * s + 1)) (s := s) (e := e) h.1
  have hev : EV (gApp H (nA A (514 * s + 1)) s e) := by
    intro T hT
    obtain ⟨v1, v2, v3⟩ := h.2.1 T hT
    by_cases c : T = nA A (514 * s + 1)
    · subst c
      rw [gApp_N1, gApp_L1, l2]
      refine ⟨v1, by omega, fun p p1 p2 => ?_⟩
      by_cases c2 : p = nA A (514 * s + 4) + 1
      · rw [c2, updL_at, he]
        exact ⟨by show rg (A (514 * s + 1)) 1 200; rw [e1, rg_nI c1]; omega, hv⟩
      · rw [updL_ne c2]; exact v3 p p1 (by omega)
    · rw [gApp_N c, gApp_L c]; exact ⟨v1, v2, v3⟩
  have po : ∀ i, i ≠ 514 * s + 4 → (i < 514 * s + 34 + 4 * nA A (514 * s + 4) ∨ 514 * s + 34 + 4 * nA A (514 * s + 4) + 4 ≤ i) → qPut A s (A (514 * s + 1)) kd x y i = A i := fun i i1 i2 => qPut_out e4 c4 i1 i2
  have p4 : qPut A s (A (514 * s + 1)) kd x y (514 * s + 4) = nI (nA A (514 * s + 4) + 1) := qPut_4 e4
  obtain ⟨pe1, pe2, pe3, pe4⟩ := qPut_e (tm := A (514 * s + 1)) (kd := kd) (x := x) (y := y) e4 c4
  have ev : vX (qPut A s (A (514 * s + 1)) kd x y) (upG F s (updL (F s) (nA A (514 * s + 4) + 1) e)) s = mkX (nA A (514 * s + 1)) (A (514 * s + 2)) (A (514 * s + 3)) (nA A (514 * s + 4) + 1) (nA A (514 * s + 7)) (A (514 * s + 8)) (xH (vX A F s)) (updL (F s) (nA A (514 * s + 4) + 1) e) := by
    unfold vX
    rw [nA_c (po (514 * s + 1) (by omega) (by omega)), po (514 * s + 2) (by omega) (by omega), po (514 * s + 3) (by omega) (by omega), nA_at p4 (by omega), nA_c (po (514 * s + 7) (by omega) (by omega)), po (514 * s + 8) (by omega) (by omega), upG_at]
    congr 1
    funext t
    show (if t < 5 then nA (qPut A s (A (514 * s + 1)) kd x y) (514 * s + 29 + t) else 0) = if t < 5 then nA A (514 * s + 29 + t) else 0
    split
    · exact nA_c (po _ (by omega) (by omega))
    · rfl
  have q5 : qPut A s (A (514 * s + 1)) kd x y (514 * s + 5) = A (514 * s + 5) := po _ (by omega) (by omega)
  have eqS : Eqp (updL (F s) (nA A (514 * s + 4) + 1) e) (F s) (nA A (514 * s + 5)) := updL_eqp Eqp.refl (by omega)
  refine ⟨_, updL (F s) (nA A (514 * s + 4) + 1) e, ?_, le⟩
  refine PG_st h hs le hst hev (fun k k1 k2 => po k (by omega) (by omega)) (fun t ht hts => dS_app_o h.1 l1 (PG_d h ht) hts) (by rw [ev]; exact dS_app_s (x := vX A F s) h.1 hr het d) ⟨⟨⟨?_, ?_, ?_, ?_, ?_⟩, ?_, fun t ht => ?_, ?_, ?_⟩, fun _ t ht => ?_, ⟨?_, ?_⟩, fun p p1 p2 => ?_⟩ (by rw [ev]; exact ⟨Nat.le_refl _, fun z => absurd (hr.symm.trans z) (by decide)⟩)
  · rw [po _ (by omega) (by omega)]; exact r1
  · rw [p4, rg_nI (by omega)]; omega
  · rw [q5]; exact r5
  · rw [po _ (by omega) (by omega)]; exact r6
  · rw [po _ (by omega) (by omega)]; exact r7
  · rw [po _ (by omega) (by omega)]; exact r12
  · rw [po _ (by omega) (by omega), po (514 * s + 29 + t) (by omega) (by omega)]; exact rn t ht
  · rw [nA_c q5, nA_c (po (514 * s + 7) (by omega) (by omega))]; exact r57
  · rw [po _ (by omega) (by omega), po (514 * s + 10) (by omega) (by omega)]; exact r9
  · rw [nA_c (po (514 * s + 24 + t) (by omega) (by omega)), nA_at p4 (by omega)]
    obtain ⟨n1, n2⟩ := hN hr t ht
    omega
  · rw [nA_c q5, nA_c (po (514 * s + 6) (by omega) (by omega)), hS.1]; exact (ltm_eq eqS).symm
  · rw [nA_c q5, po (514 * s + 9) (by omega) (by omega), po (514 * s + 10) (by omega) (by omega), po 4514 (by omega) (by omega), hS.2]; exact (cfg_eq eqS).symm
  · rw [nA_c q5] at p1
    rw [nA_at p4 (by omega)] at p2
    by_cases c2 : p = nA A (514 * s + 4) + 1
    · rw [c2, updL_at, he]
      unfold enA
      rw [show 514 * s + 30 + 4 * (nA A (514 * s + 4) + 1) = 514 * s + 34 + 4 * nA A (514 * s + 4) by omega, pe1, pe2, pe3, pe4]
    · rw [updL_ne c2, ← hE p p1 (by omega)]
      unfold enA
      rw [po _ (by omega) (by omega), po (514 * s + 30 + 4 * p + 1) (by omega) (by omega), po (514 * s + 30 + 4 * p + 2) (by omega) (by omega), po (514 * s + 30 + 4 * p + 3) (by omega) (by omega)]
