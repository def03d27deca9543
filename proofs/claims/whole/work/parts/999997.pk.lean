/-! ===== agreement: votes, what comes ===== -/
section Vo
variable {H : Gh} {F : Nat → Lg} {A : Rw} {s : Nat}
theorem PG_voteMsg {f : Nat} {v : Int32} (h : PG H F A) (hs : s < 5) (hf : f < 5) (hfs : ¬ f = s) (hv : v = 1 → (gV H (nA A (514 * s + 1)) s).1 = f + 1) : PG H F (qPost A s f (rowS (nI s) (nI f) (A (514 * s + 1)) 1 v 0 0)) := by
  refine PG_post h ⟨⟨rg5 hs, rg5 hf, fun z => hfs ((nI_eq (by omega) (by omega)).mp z).symm, (PG_k h hs).1.1.1, (show rg (1 : Int32) 0 8 from ⟨by decide, by decide⟩)⟩, fun z => absurd z (by show ¬ (1 : Int32) = 0; decide), fun _ z => ?_, fun z => absurd z (by show ¬ (1 : Int32) = 2; decide), fun z => absurd z (by show ¬ (1 : Int32) = 3; decide), fun z => absurd z (by show ¬ (1 : Int32) = 4; decide), fun z => absurd z (by show ¬ (1 : Int32) = 5; decide), fun z => absurd z (by show ¬ (1 : Int32) = 8; decide)⟩
  have f0 : nA (rowS (nI s) (nI f) (A (514 * s + 1)) 1 v 0 0) 0 = s := nA_at rfl (by omega)
  have f1 : nA (rowS (nI s) (nI f) (A (514 * s + 1)) 1 v 0 0) 1 = f := nA_at rfl (by omega)
  have f2 : nA (rowS (nI s) (nI f) (A (514 * s + 1)) 1 v 0 0) 2 = nA A (514 * s + 1) := rfl
  rw [f0, f1, f2]
  exact hv z
theorem PG_asked {g : Rw} {f : Nat} (h : PG H F A) (hs : s < 5) (hf : f < 5) (hfs : ¬ f = s) (h0 : nA g 0 = f) (hm : m0 (vX A F) g) : PI (qAsked A s f (g 2 = A (514 * s + 1)) (g 4) (g 5)) := by
  obtain ⟨q4, q5, c3, c4, c5⟩ := hm
  rw [h0] at c3 c5
  have c3 : nA g 2 ≤ nA A (514 * f + 1) := c3
  have c5 : A (514 * f + 3) = 1 → nA A (514 * f + 1) = nA g 2 → nA g 4 = nA A (514 * f + 4) ∧ nA g 5 = ltm (F f) (nA A (514 * f + 4)) := c5
  unfold qAsked
  split
  · rename_i c
    obtain ⟨t1, t2, t3⟩ := c
    have eT : nA g 2 = nA A (514 * s + 1) := by unfold nA; rw [t1]
    by_cases cv : A (514 * s + 2) = -1
    · obtain ⟨a1, a2, a3⟩ := PG_al h hs
      obtain ⟨e4, b4, k4⟩ := nA_r (PG_k h hs).1.1.2.1
      obtain ⟨g4, x4, y4⟩ := nA_r q4
      obtain ⟨g5, x5, y5⟩ := nA_r q5
      have lb := PG_ltm h hs (p := nA A (514 * s + 4)) (Nat.le_refl _)
      have et : qTermAt A s (A (514 * s + 4)) = nI (ltm (F s) (nA A (514 * s + 4))) := by
        have := PG_tm h hs (p := nA A (514 * s + 4)) (by omega) (Nat.le_refl _)
        rw [← e4] at this
        exact this
      rw [et, g5, nI_ltI (by omega) (by omega), nI_eq (by omega) (by omega), g4, e4, nI_ltI (by omega) (by omega)] at t3
      obtain ⟨H', h', le, hv⟩ := PG_vote h hs hf hfs cv (by omega) (fun z1 z2 => by
        obtain ⟨w1, w2⟩ := c5 z1 (by omega)
        unfold far
        omega)
      have o1 : up A (514 * s + 2) (nI f) (514 * s + 1) = A (514 * s + 1) := up_ne (by omega)
      have := PG_voteMsg (v := 1) h' hs hf hfs (fun _ => by rw [nA_c o1]; exact hv)
      rw [o1] at this
      exact ⟨_, _, this⟩
    · have cf : A (514 * s + 2) = nI f := t2.elim (fun z => absurd z cv) id
      have e : up A (514 * s + 2) (nI f) = A := by
        funext i
        by_cases c : i = 514 * s + 2
        · rw [c, up_at]; exact cf.symm
        · exact up_ne c
      rw [e]
      exact ⟨_, _, PG_voteMsg (v := 1) h hs hf hfs (fun _ => (PG_d h hs).2.1.2.2.1 f hf cf)⟩
  · exact ⟨_, _, PG_voteMsg (v := 0) h hs hf hfs (fun z => absurd z (by decide))⟩
theorem PG_bits {f : Nat} (h : PG H F A) (hs : s < 5) (hf : f < 5) (hv : A (514 * s + 3) = 1 → (gV H (nA A (514 * s + 1)) f).1 = s + 1) : PG H F (up A (514 * s + 8) (A (514 * s + 8) ||| (1 : Int32) <<< (nI f &&& 31))) := by
  refine PG_votes h hs (fun hr v v1 hb => ?_)
  rcases (bit_or (by omega)).mp hb with z | z
  · exact ((PG_d h hs).2.2.2.2.2.2 hr).1 v v1 z
  · rw [(bit_sh (by omega) (by omega)).mp z]; exact hv hr
theorem PG_voted {f : Nat} (h : PG H F A) (hs : s < 5) (hf : f < 5) (hr : A (514 * s + 3) = 1) (hv : (gV H (nA A (514 * s + 1)) f).1 = s + 1) : PI (qVoted A s f) := by
  have h1 := PG_bits h hs hf (fun _ => hv)
  unfold qVoted
  dsimp only
  split
  · rename_i c
    exact PG_leads h1 hs (by rw [up_ne (by omega)]; exact hr) c
  · exact ⟨_, _, h1⟩
theorem PG_wouldBe {f : Nat} {tm l lt : Int32} (h : PG H F A) (hs : s < 5) (hf : f < 5) (hfs : ¬ f = s) (ht : rg tm 0 200) : PI (qWouldBe A s f tm l lt) := by
  have key : ∀ t v : Int32, rg t 0 200 → (v = 0 ∨ v = 1) → PG H F (qPost A s f (rowS (nI s) (nI f) t 8 v 0 0)) := by
    intro t v h1 h2
    exact PG_post h ⟨⟨rg5 hs, rg5 hf, fun z => hfs ((nI_eq (by omega) (by omega)).mp z).symm, h1, (show rg (8 : Int32) 0 8 from ⟨by decide, by decide⟩)⟩, fun z => absurd z (by show ¬ (8 : Int32) = 0; decide), fun z => absurd z (by show ¬ (8 : Int32) = 1; decide), fun z => absurd z (by show ¬ (8 : Int32) = 2; decide), fun z => absurd z (by show ¬ (8 : Int32) = 3; decide), fun z => absurd z (by show ¬ (8 : Int32) = 4; decide), fun z => absurd z (by show ¬ (8 : Int32) = 5; decide), fun _ => h2⟩
  unfold qWouldBe
  split
  · exact ⟨_, _, key tm 1 ht (Or.inr rfl)⟩
  · exact ⟨_, _, key _ 0 (PG_k h hs).1.1.1 (Or.inl rfl)⟩
theorem PG_would {f : Nat} {tm : Int32} {is : Prop} [Decidable is] (h : PG H F A) (hs : s < 5) (hf : f < 5) (ht : rg tm 0 200) (hr : A (514 * s + 3) = 3) : PI (qWould A s f is tm) := by
  obtain ⟨e1, b1, c1⟩ := nA_r (PG_k h hs).1.1.1
  obtain ⟨T, eT, T0, -, T1⟩ := rg_ex ht
  unfold qWould
  split
  · split
    · rename_i c
      rw [e1, eT, nI_ltI (by omega) (by omega)] at c
      rw [eT]
      exact ⟨_, _, PG_follow h hs c (by omega)⟩
    · exact ⟨_, _, h⟩
  · split
    · exact ⟨_, _, h⟩
    · rename_i c
      have c := Classical.not_not.mp c
      rw [e1, eT, nI_s1, nI_eq (by omega) (by omega)] at c
      have h1 := PG_bits h hs hf (fun z => absurd (hr.symm.trans z) (by decide))
      dsimp only
      split
      · refine PG_stands h1 hs ?_
        rw [nA_c (up_ne (A := A) (i := 514 * s + 1) (j := 514 * s + 8) (by omega))]
        omega
      · exact ⟨_, _, h1⟩
end Vo
theorem MsI_f {H : Gh} {X X' : Nat → Xr} {g : Rw} (h : MsI H X g) (hx : X' (nA g 0) = X (nA g 0)) : MsI H X' g := by
  obtain ⟨a, b0, b⟩ := h
  refine ⟨a, fun z => ?_, b⟩
  have := b0 z
  unfold m0 at *
  rw [hx]
  exact this
/-- a message is heard -/
theorem PG_heard {H : Gh} {F : Nat → Lg} {A g : Rw} {s f : Nat} (h : PG H F A) (hs : s < 5) (hf : f < 5) (hfs : ¬ f = s) (h0 : nA g 0 = f) (h1 : nA g 1 = s) (hm : MsI H (vX A F) g) : PI (qHeard A g s f) := by
  obtain ⟨⟨q0, q1, q01, q2, q3⟩, b0, b1, b2, b3, b4, b5, b8⟩ := hm
  have eT : g 2 = A (514 * s + 1) → nA g 2 = nA A (514 * s + 1) := fun z => by unfold nA; rw [z]
  unfold qHeard
  by_cases c0 : g 3 = 0
  · rw [if_pos c0]; exact PG_asked h hs hf hfs h0 (b0 c0)
  rw [if_neg c0]
  by_cases c1 : g 3 = 1
  · rw [if_pos c1]
    split
    · rename_i c
      refine PG_voted h hs hf c.2.2 ?_
      have := b1 c1 c.2.1
      rw [eT c.1, h0, h1] at this
      exact this
    · exact ⟨_, _, h⟩
  rw [if_neg c1]
  by_cases c2 : g 3 = 2
  · rw [if_pos c2]; exact PG_takes h hs hf hfs h0 (b2 c2) q2
  rw [if_neg c2]
  by_cases c3 : g 3 = 3
  · rw [if_pos c3]
    split
    · rename_i c
      obtain ⟨z1, z2⟩ := b3 c3
      refine PG_took h hs hf hfs c.2 z1 (fun z => ?_) (fun z => (z2 z).1)
      have := (z2 z).2
      rw [eT c.1, h0] at this
      exact this
    · exact ⟨_, _, h⟩
  rw [if_neg c3]
  by_cases c4 : g 3 = 4
  · rw [if_pos c4]; exact PG_installs h hs hf hfs (b4 c4)
  rw [if_neg c4]
  by_cases c6 : g 3 = 6
  · rw [if_pos c6]
    split
    · rename_i c
      obtain ⟨e1, x1, k1⟩ := nA_r (PG_k h hs).1.1.1
      have := c.2.2.2
      rw [e1, show (200 : Int32) = nI 200 from rfl, nI_ltI (by omega) (by decide)] at this
      exact PG_stands h hs this
    · exact ⟨_, _, h⟩
  rw [if_neg c6]
  by_cases c7 : g 3 = 7
  · rw [if_pos c7]; exact PG_wouldBe h hs hf hfs q2
  rw [if_neg c7]
  by_cases c8 : g 3 = 8
  · rw [if_pos c8]
    split
    · rename_i c; exact PG_would h hs hf q2 c
    · exact ⟨_, _, h⟩
  rw [if_neg c8]
  have c5 : g 3 = 5 := by
    obtain ⟨k, ek, k0, -, k1⟩ := rg_ex q3
    have : k = 0 ∨ k = 1 ∨ k = 2 ∨ k = 3 ∨ k = 4 ∨ k = 5 ∨ k = 6 ∨ k = 7 ∨ k = 8 := by omega
    rw [ek] at c0 c1 c2 c3 c4 c6 c7 c8 ⊢
    rcases this with rfl | rfl | rfl | rfl | rfl | rfl | rfl | rfl | rfl
    · exact absurd rfl c0
    · exact absurd rfl c1
    · exact absurd rfl c2
    · exact absurd rfl c3
    · exact absurd rfl c4
    · rfl
    · exact absurd rfl c6
    · exact absurd rfl c7
    · exact absurd rfl c8
  split
  · rename_i c
    obtain ⟨z1, z2⟩ := b5 c5
    refine PG_installed h hs hf hfs c.2 z1 ?_
    rw [eT c.1, h0] at z2
    exact z2
  · exact ⟨_, _, h⟩
theorem PG_cnt {H : Gh} {F : Nat → Lg} {A : Rw} {k : Nat} {v : Int32} (h : PG H F A) (hk : k = 4511 ∨ k = 4512 ∨ k = 4513 ∨ k = 4515) : PG H F (up A k v) := by
  refine PG_idle h (fun s hs => ⟨fun j j1 _ _ _ => up_ne (by omega), ?_⟩) (fun k k1 k2 => up_ne (by omega)) (up_ne (by omega)) (up_ne (by omega))
  rw [up_ne (by omega)]
  exact (h.2.2.2.1 s hs).2.1.2.1
theorem PI_comes {A : Rw} {i : Nat} (h : PI A) (hi : i < (A 4510).toNatClampNeg) : PI (qComes A i) := by
  obtain ⟨H, F, h⟩ := h
  have hg := h.2.2.2.2 i hi
  have h1 := PG_out h hi
  obtain ⟨⟨q0, q1, q01, q2, q3⟩, -⟩ := id hg
  obtain ⟨z0, z1, z2⟩ := nA_r q0
  obtain ⟨y0, y1, y2⟩ := nA_r q1
  obtain ⟨t0, t1, t2⟩ := nA_r q2
  obtain ⟨n, w, w0, -, w1⟩ := rg_ex h.2.2.1.2.2
  have hn : n ≤ 60 := by omega
  show PI (let s := nA (rowM A i) 1; let f := nA (rowM A i) 0; let A1 := qOut A i; if ¬ canCm A1 f s then up A1 4511 (A1 4511 + 1) else let A2 := up A1 4512 (A1 4512 + 1); let A3 := if A2 (514 * s + 1) < (rowM A i) 2 ∧ (rowM A i) 3 < 7 then qFollow A2 s ((rowM A i) 2) else A2; qHeard A3 (rowM A i) s f)
  dsimp only
  obtain ⟨s, es⟩ : ∃ s, s = nA (rowM A i) 1 := ⟨_, rfl⟩
  obtain ⟨f, ef⟩ : ∃ f, f = nA (rowM A i) 0 := ⟨_, rfl⟩
  rw [← es, ← ef]
  have hs : s < 5 := by omega
  have hf : f < 5 := by omega
  have hfs : ¬ f = s := fun z => q01 (by rw [z0, y0, ← es, ← ef, z])
  split
  · exact ⟨_, _, PG_cnt h1 (by omega)⟩
  · have h2 : PG H F (up (qOut A i) 4512 (qOut A i 4512 + 1)) := PG_cnt h1 (by omega)
    have o2 : ∀ k, k < 2570 → up (qOut A i) 4512 (qOut A i 4512 + 1) k = A k := fun k hk => by rw [up_ne (by omega), qOut_lo hk]
    generalize up (qOut A i) 4512 (qOut A i 4512 + 1) = B at h2 o2
    have vB : vX B F f = vX A F f := vX_congr (fun j hj => o2 _ (by omega))
    split
    · rename_i c
      obtain ⟨e1, x1, k1⟩ := nA_r (PG_k h2 hs).1.1.1
      have c1 := c.1
      rw [e1, t0, nI_ltI (by omega) (by omega)] at c1
      have h3 := PG_follow h2 hs c1 (by omega)
      rw [← t0] at h3
      refine PG_heard h3 hs hf hfs ef.symm es.symm (MsI_f hg ?_)
      rw [← ef, ← vB]
      exact vX_congr (fun j hj => Fr_follow hs _ (by omega))
    · refine PG_heard h2 hs hf hfs ef.symm es.symm (MsI_f hg ?_)
      rw [← ef]
      exact vB
