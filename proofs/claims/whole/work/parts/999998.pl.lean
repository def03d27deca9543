/-! ===== agreement: what is left, and that all rows are good ===== -/
theorem cfg_nz {H : Gh} (h : Hst H) {f : Lg} (hx : ¬ gX H = 0) : ∀ n, LM H f n → ¬ (cfg (gX H) f n).1 = 0 := by
  intro n
  induction n with
  | zero => intro _; exact hx
  | succ n ih =>
    intro hf
    have hf' : LM H f n := fun p p1 p2 => hf p p1 (by omega)
    rw [cfg_s]
    split
    · rename_i c
      have e := (LM_ch h hf (by omega) (Nat.le_refl _) c).1
      rw [e]
      unfold w2
      split
      · exact ih hf'
      · assumption
    · exact ih hf'
section Co
variable {H : Gh} {F : Nat → Lg} {A : Rw} {s : Nat}
theorem compact_o {i : Nat} (h5 : i ≠ 514 * s + 5) (h6 : i ≠ 514 * s + 6) (h9 : i ≠ 514 * s + 9) (h10 : i ≠ 514 * s + 10) (hc : i < 514 * s + 20 ∨ 514 * s + 24 ≤ i) : qCompact A s i = A i := by
  unfold qCompact
  rw [cpF_out (by omega)]
  unfold qCompact0
  rw [up_ne h5, up_ne h6, up_ne h10, up_ne h9]
theorem compact_v : qCompact A s (514 * s + 5) = A (514 * s + 7) ∧ qCompact A s (514 * s + 6) = qTermAt A s (A (514 * s + 7)) ∧ qCompact A s (514 * s + 9) = (if (qCfg A s (A (514 * s + 7)).toNatClampNeg).2.2.2 = 0 ∧ A (514 * s + 9) = 0 then 0 else (qCfg A s (A (514 * s + 7)).toNatClampNeg).1) ∧ qCompact A s (514 * s + 10) = (if (qCfg A s (A (514 * s + 7)).toNatClampNeg).2.2.2 = 0 ∧ A (514 * s + 9) = 0 then 0 else (qCfg A s (A (514 * s + 7)).toNatClampNeg).2.1) := by
  have et : ∀ v w : Int32, qTermAt (up (up A (514 * s + 9) v) (514 * s + 10) w) s (A (514 * s + 7)) = qTermAt A s (A (514 * s + 7)) := by
    intro v w
    unfold qTermAt
    rw [up_ne (by omega), up_ne (by omega), up_ne (by omega), up_ne (by omega), up_ne (by omega), up_ne (by omega)]
    split
    · rfl
    · split
      · rw [up_ne (by omega), up_ne (by omega)]
      · rfl
  unfold qCompact
  refine ⟨?_, ?_, ?_, ?_⟩
  · rw [cpF_out (by omega)]; unfold qCompact0; rw [up_at]
  · rw [cpF_out (by omega)]; unfold qCompact0; rw [up_ne (by omega), up_at]; exact et _ _
  · rw [cpF_out (by omega)]; unfold qCompact0; rw [up_ne (by omega), up_ne (by omega), up_ne (by omega), up_at]
  · rw [cpF_out (by omega)]; unfold qCompact0; rw [up_ne (by omega), up_ne (by omega), up_at]
theorem PG_compact (h : PG H F A) (hs : s < 5) : PG H F (qCompact A s) := by
  obtain ⟨a1, a2, a3⟩ := PG_al h hs
  obtain ⟨⟨⟨r1, r4, r5, r6, r7⟩, r12, rn, r57, r9⟩, hN, hS, hE⟩ := PG_k h hs
  obtain ⟨e4, b4, k4⟩ := nA_r r4
  obtain ⟨e5, b5, k5⟩ := nA_r r5
  obtain ⟨e7, b7, k7⟩ := nA_r r7
  obtain ⟨v5, v6, v9, v10⟩ := compact_v (A := A) (s := s)
  have vo := fun i => compact_o (A := A) (s := s) (i := i)
  have et : qTermAt A s (A (514 * s + 7)) = nI (ltm (F s) (nA A (514 * s + 7))) := by
    have := PG_tm h hs (p := nA A (514 * s + 7)) a1 a2
    rw [← e7] at this
    exact this
  have lb := PG_ltm h hs (p := nA A (514 * s + 7)) a2
  obtain ⟨g1, g2⟩ := PG_cfg h hs (nA A (514 * s + 7)) a1 a2
  have ec : (A (514 * s + 7)).toNatClampNeg = nA A (514 * s + 7) := rfl
  rw [ec] at v9 v10
  have x0 : ¬ gX H = 0 := by
    rw [h.2.2.1.1]
    intro z
    have := h.2.2.1.2.1.1
    rw [z] at this
    exact absurd this (by decide)
  have nz : ¬ (qCfg A s (nA A (514 * s + 7))).1 = 0 := by
    have := cfg_nz h.1 x0 (nA A (514 * s + 7)) (f := F s) (fun p p1 p2 => (PG_d h hs).1.1 p p1 (by show p ≤ nA A (514 * s + 4); omega))
    rw [h.2.2.1.1, ← g1] at this
    exact this
  have snap : (fst1 (A 4514) (qCompact A s (514 * s + 9)), qCompact A s (514 * s + 10)) = cfg (A 4514) (F s) (nA A (514 * s + 7)) := by
    rw [v9, v10]
    by_cases c : (qCfg A s (nA A (514 * s + 7))).2.2.2 = 0 ∧ A (514 * s + 9) = 0
    · rw [if_pos c, if_pos c]
      obtain ⟨c1, c2⟩ := c
      have hl := lcp_le (f := F s) (n := nA A (514 * s + 7))
      have hl2 : lcp (F s) (nA A (514 * s + 7)) ≤ nA A (514 * s + 5) := by
        rw [g2] at c1
        by_cases q : nA A (514 * s + 5) < lcp (F s) (nA A (514 * s + 7))
        · rw [if_pos q, nI_e0 (by omega)] at c1; omega
        · omega
      rw [cfg_down a1 hl2, ← hS.2, c2, r9 c2]
    · rw [if_neg c, if_neg c, ← g1]
      unfold fst1
      rw [if_neg nz]
  have n5 : nA (qCompact A s) (514 * s + 5) = nA A (514 * s + 7) := by unfold nA; rw [v5]
  have o4 : qCompact A s (514 * s + 4) = A (514 * s + 4) := vo _ (by omega) (by omega) (by omega) (by omega) (by omega)
  have o7 : qCompact A s (514 * s + 7) = A (514 * s + 7) := vo _ (by omega) (by omega) (by omega) (by omega) (by omega)
  have ev : vX (qCompact A s) F s = vX A F s := by
    unfold vX
    rw [nA_c (vo (514 * s + 1) (by omega) (by omega) (by omega) (by omega) (by omega)), vo (514 * s + 2) (by omega) (by omega) (by omega) (by omega) (by omega), vo (514 * s + 3) (by omega) (by omega) (by omega) (by omega) (by omega), nA_c o4, nA_c o7, vo (514 * s + 8) (by omega) (by omega) (by omega) (by omega) (by omega)]
    congr 1
    funext t
    split
    · exact nA_c (vo _ (by omega) (by omega) (by omega) (by omega) (by omega))
    · rfl
  have key : PG H (upG F s (F s)) (qCompact A s) := by
    refine PG_st h hs Hle_refl h.1 h.2.1 (fun k k1 k2 => vo k (by omega) (by omega) (by omega) (by omega) (by omega)) (fun t ht _ => PG_d h ht) (by rw [upG_self, ev]; exact PG_d h hs) ⟨⟨⟨?_, ?_, ?_, ?_, ?_⟩, ?_, fun t ht => ?_, ?_, ?_⟩, fun z t ht => ?_, ⟨?_, ?_⟩, fun p p1 p2 => ?_⟩ (by rw [upG_self, ev]; exact Xle_refl)
    · rw [vo _ (by omega) (by omega) (by omega) (by omega) (by omega)]; exact r1
    · rw [o4]; exact r4
    · rw [v5]; exact r7
    · rw [v6, et, rg_nI (by omega)]; omega
    · rw [o7]; exact r7
    · rw [vo _ (by omega) (by omega) (by omega) (by omega) (by omega)]; exact r12
    · rw [vo _ (by omega) (by omega) (by omega) (by omega) (by omega), vo (514 * s + 29 + t) (by omega) (by omega) (by omega) (by omega) (by omega)]; exact rn t ht
    · rw [n5, nA_c o7]; exact Nat.le_refl _
    · rw [v9, v10]
      by_cases c : (qCfg A s (nA A (514 * s + 7))).2.2.2 = 0 ∧ A (514 * s + 9) = 0
      · rw [if_pos c, if_pos c]; intro _; rfl
      · rw [if_neg c, if_neg c]; intro z; exact absurd z nz
    · rw [vo _ (by omega) (by omega) (by omega) (by omega) (by omega)] at z
      rw [nA_c (vo (514 * s + 24 + t) (by omega) (by omega) (by omega) (by omega) (by omega)), nA_c o4]
      exact hN z t ht
    · rw [n5, nA_at (by rw [v6]; exact et) (by omega)]
    · rw [n5, vo 4514 (by omega) (by omega) (by omega) (by omega) (by omega)]; exact snap
    · rw [n5] at p1
      rw [nA_c o4] at p2
      rw [← hE p (by omega) p2]
      unfold enA
      rw [vo _ (by omega) (by omega) (by omega) (by omega) (by omega), vo (514 * s + 30 + 4 * p + 1) (by omega) (by omega) (by omega) (by omega) (by omega), vo (514 * s + 30 + 4 * p + 2) (by omega) (by omega) (by omega) (by omega) (by omega), vo (514 * s + 30 + 4 * p + 3) (by omega) (by omega) (by omega) (by omega) (by omega)]
  rw [upG_self] at key
  exact key
theorem stop_o {i : Nat} (h0 : i ≠ 514 * s) (h : i ≠ 514 * s + 3 ∧ i ≠ 514 * s + 8 ∧ i ≠ 514 * s + 11 ∧ i ≠ 514 * s + 12 ∧ i ≠ 514 * s + 13 ∧ i ≠ 514 * s + 15) (h7 : i ≠ 514 * s + 7) (hc : i < 514 * s + 16 ∨ 514 * s + 20 ≤ i) : qStop A s i = A i := by
  unfold qStop
  rw [cpF_out (by omega)]
  unfold qStop0
  rw [up_ne h7, qReads_out (by omega), qPlays_out (by omega), up_ne h0]
theorem PG_stop (h : PG H F A) (hs : s < 5) : PG H F (qStop A s) := by
  obtain ⟨a1, a2, a3⟩ := PG_al h hs
  obtain ⟨⟨⟨r1, r4, r5, r6, r7⟩, r12, rn, r57, r9⟩, hN, hS, hE⟩ := PG_k h hs
  obtain ⟨e4, b4, k4⟩ := nA_r r4
  have vo := fun i => stop_o (A := A) (s := s) (i := i)
  have v3 : qStop A s (514 * s + 3) = 0 := by
    unfold qStop
    rw [cpF_out (by omega)]
    unfold qStop0
    rw [up_ne (by omega), qReads_out (by omega), qPlays_3]
  have v7 : qStop A s (514 * s + 7) = A (514 * s + 5) := by
    unfold qStop
    rw [cpF_out (by omega)]
    unfold qStop0
    rw [up_at, qReads_out (by omega), qPlays_out (by omega), up_ne (by omega)]
  have v12 : rg (qStop A s (514 * s + 12)) 0 3 := by
    unfold qStop
    rw [cpF_out (by omega)]
    unfold qStop0
    rw [up_ne (by omega)]
    unfold qReadsNothing
    rw [up_ne (by omega), up_ne (by omega), up_at]
    exact ⟨by decide, by decide⟩
  have o4 : qStop A s (514 * s + 4) = A (514 * s + 4) := vo _ (by omega) (by omega) (by omega) (by omega)
  have o5 : qStop A s (514 * s + 5) = A (514 * s + 5) := vo _ (by omega) (by omega) (by omega) (by omega)
  have n7 : nA (qStop A s) (514 * s + 7) = nA A (514 * s + 5) := by unfold nA; rw [v7]
  have ev : vX (qStop A s) F s = mkX (nA A (514 * s + 1)) (A (514 * s + 2)) 0 (nA A (514 * s + 4)) (nA A (514 * s + 5)) (qStop A s (514 * s + 8)) (xH (vX A F s)) (F s) := by
    unfold vX
    rw [nA_c (vo (514 * s + 1) (by omega) (by omega) (by omega) (by omega)), vo (514 * s + 2) (by omega) (by omega) (by omega) (by omega), v3, nA_c o4, n7]
    congr 1
    funext t
    show (if t < 5 then nA (qStop A s) (514 * s + 29 + t) else 0) = if t < 5 then nA A (514 * s + 29 + t) else 0
    split
    · exact nA_c (vo _ (by omega) (by omega) (by omega) (by omega))
    · rfl
  have hd : dS H s (mkX (nA A (514 * s + 1)) (A (514 * s + 2)) 0 (nA A (514 * s + 4)) (nA A (514 * s + 5)) (qStop A s (514 * s + 8)) (xH (vX A F s)) (F s)) :=
    dS_less (dS_role (x := vX A F s) (r := 0) (q := qStop A s (514 * s + 8)) (h := xH (vX A F s)) (PG_d h hs) (by decide) (by decide)) a1
  have key : PG H (upG F s (F s)) (qStop A s) := by
    refine PG_st h hs Hle_refl h.1 h.2.1 (fun k k1 k2 => vo k (by omega) (by omega) (by omega) (by omega)) (fun t ht _ => PG_d h ht) (by rw [upG_self, ev]; exact hd) ⟨⟨⟨?_, ?_, ?_, ?_, ?_⟩, ?_, fun t ht => ?_, ?_, ?_⟩, fun z t ht => ?_, ⟨?_, ?_⟩, fun p p1 p2 => ?_⟩ (by rw [upG_self, ev]; exact ⟨Nat.le_refl _, fun z => absurd z (by show ¬ (0 : Int32) = 1; decide)⟩)
    · rw [vo _ (by omega) (by omega) (by omega) (by omega)]; exact r1
    · rw [o4]; exact r4
    · rw [o5]; exact r5
    · rw [vo _ (by omega) (by omega) (by omega) (by omega)]; exact r6
    · rw [v7]; exact r5
    · exact v12
    · rw [vo _ (by omega) (by omega) (by omega) (by omega), vo (514 * s + 29 + t) (by omega) (by omega) (by omega) (by omega)]; exact rn t ht
    · rw [nA_c o5, n7]; exact Nat.le_refl _
    · rw [vo _ (by omega) (by omega) (by omega) (by omega), vo (514 * s + 10) (by omega) (by omega) (by omega) (by omega)]; exact r9
    · rw [v3] at z; exact absurd z (by decide)
    · rw [nA_c o5, nA_c (vo (514 * s + 6) (by omega) (by omega) (by omega) (by omega))]; exact hS.1
    · rw [nA_c o5, vo (514 * s + 9) (by omega) (by omega) (by omega) (by omega), vo (514 * s + 10) (by omega) (by omega) (by omega) (by omega), vo 4514 (by omega) (by omega) (by omega) (by omega)]; exact hS.2
    · rw [nA_c o5] at p1
      rw [nA_c o4] at p2
      rw [← hE p p1 p2]
      unfold enA
      rw [vo _ (by omega) (by omega) (by omega) (by omega), vo (514 * s + 30 + 4 * p + 1) (by omega) (by omega) (by omega) (by omega), vo (514 * s + 30 + 4 * p + 2) (by omega) (by omega) (by omega) (by omega), vo (514 * s + 30 + 4 * p + 3) (by omega) (by omega) (by omega) (by omega)]
  rw [upG_self] at key
  exact key
end Co
/-! the beginning -/
def gh0 (x : Int32) : Gh := (fun _ => 0, fun _ _ => (0, 0, 0, 0), fun _ => 0, fun _ => 0, fun _ _ => 0, fun _ _ => (0, fun _ => (0, 0, 0, 0), 0), fun _ => (0, 0, 0, 0), 0, x)
theorem Hst_0 {x : Int32} : Hst (gh0 x) := by
  have no : ∀ {T}, ¬ 1 ≤ gI (gh0 x) T := fun {T} => by show ¬ 1 ≤ 0; omega
  have nv : ∀ {T v}, ¬ 1 ≤ (gV (gh0 x) T v).1 := fun {T v} => by show ¬ 1 ≤ 0; omega
  exact ⟨fun T h => absurd h no, fun T h => absurd h no, fun T h => absurd h no, fun T v h => absurd h nv, fun T v h => absurd h nv, fun T v => ⟨Nat.le_refl _, fun h => absurd h (by show ¬ 1 ≤ 0; omega)⟩, fun i h => absurd h (by show ¬ i < 0; omega), fun T h => absurd h no, fun j h => absurd h (by show ¬ j < 0; omega)⟩
theorem init_z {A : Rw} {m : Int32} {i : Nat} (hi : i < 4516) (h4 : i ≠ 4514) (h3 : i ≠ 4513) (h0 : ¬ (i = 0 ∨ i = 514 ∨ i = 1028 ∨ i = 1542 ∨ i = 2056)) (h2 : ¬ (i = 2 ∨ i = 516 ∨ i = 1030 ∨ i = 1544 ∨ i = 2058)) : qInit A m i = 0 := by
  unfold qInit in1
  rw [up_ne h4, up_ne h3, up_ne (by omega), up_ne (by omega), up_ne (by omega), up_ne (by omega), up_ne (by omega), up_ne (by omega), up_ne (by omega), up_ne (by omega), up_ne (by omega), up_ne (by omega)]
  exact if_pos hi
theorem init_2 {A : Rw} {m : Int32} {s : Nat} (hs : s < 5) : qInit A m (514 * s + 2) = -1 := by
  have : s = 0 ∨ s = 1 ∨ s = 2 ∨ s = 3 ∨ s = 4 := by omega
  unfold qInit in1
  rcases this with rfl | rfl | rfl | rfl | rfl
  · rw [up_ne (by decide), up_ne (by decide), up_ne (by decide), up_ne (by decide), up_ne (by decide), up_ne (by decide), up_ne (by decide), up_ne (by decide), up_ne (by decide), up_ne (by decide), up_at]
  · rw [up_ne (by decide), up_ne (by decide), up_ne (by decide), up_ne (by decide), up_ne (by decide), up_ne (by decide), up_ne (by decide), up_ne (by decide), up_at]
  · rw [up_ne (by decide), up_ne (by decide), up_ne (by decide), up_ne (by decide), up_ne (by decide), up_ne (by decide), up_at]
  · rw [up_ne (by decide), up_ne (by decide), up_ne (by decide), up_ne (by decide), up_at]
  · rw [up_ne (by decide), up_ne (by decide), up_at]
theorem PG_init {A : Rw} {m : Int32} (hm : rg m 1 31) : PG (gh0 m) (fun _ _ => (0, 0, 0, 0)) (qInit A m) := by
  have z : ∀ s j, s < 5 → j < 514 → j ≠ 0 → j ≠ 2 → qInit A m (514 * s + j) = 0 := by
    intro s j hs hj h0 h2
    exact init_z (by omega) (by omega) (by omega) (by omega) (by omega)
  have z2 : ∀ s, s < 5 → qInit A m (514 * s + 2) = -1 := by
    intro s hs
    exact init_2 hs
  have zn : ∀ s j, s < 5 → j < 514 → j ≠ 0 → j ≠ 2 → nA (qInit A m) (514 * s + j) = 0 := by
    intro s j hs hj h0 h2
    unfold nA
    rw [z s j hs hj h0 h2]; rfl
  have e4 : qInit A m 4514 = m := by unfold qInit; rw [up_at]
  have e0 : qInit A m 4510 = 0 := init_z (by omega) (by omega) (by omega) (by omega) (by omega)
  have r0 : ∀ (hi : Int), 0 ≤ hi → rg (0 : Int32) 0 hi := fun hi h => ⟨by decide, by rw [show (0 : Int32).toInt = 0 from by decide]; exact h⟩
  have ev : ∀ s, s < 5 → vX (qInit A m) (fun _ _ => (0, 0, 0, 0)) s = mkX 0 (-1) 0 0 0 0 (fun _ => 0) (fun _ => (0, 0, 0, 0)) := by
    intro s hs
    unfold vX
    rw [zn s 1 hs (by omega) (by omega) (by omega), z2 s hs, z s 3 hs (by omega) (by omega) (by omega), zn s 4 hs (by omega) (by omega) (by omega), zn s 7 hs (by omega) (by omega) (by omega), z s 8 hs (by omega) (by omega) (by omega)]
    congr 1
    funext v
    split
    · rw [Nat.add_assoc]; exact zn s _ hs (by omega) (by omega) (by omega)
    · rfl
  refine ⟨Hst_0, fun T h => absurd h (by show ¬ 1 ≤ 0; omega), ⟨by rw [e4]; rfl, by rw [e4]; exact hm, by rw [e0]; exact r0 _ (by decide)⟩, fun s hs => ⟨?_, ?_⟩, fun i hi => ?_⟩
  · rw [ev s hs]
    refine ⟨⟨fun p p1 p2 => absurd p2 (by show ¬ p ≤ 0; omega), fun p p1 p2 => absurd p2 (by show ¬ p ≤ 0; omega), fun q => absurd q (by show ¬ (0 : Int32) = 1; decide)⟩, ⟨fun _ _ => rfl, fun _ => rfl, fun c hc q => absurd q.symm (nI_nm1 (by omega)), Or.inl rfl⟩, ⟨fun T v q => absurd q (by show ¬ 0 = s + 1; omega), fun T q => absurd q (by show ¬ 0 = s + 1; omega)⟩, fun q => absurd q (by show ¬ (0 : Int32) = 2; decide), ⟨fun _ _ => rfl, fun T p hp _ => ?_⟩, ⟨Nat.le_refl _, fun q => absurd q (by show ¬ 1 ≤ 0; omega)⟩, fun q => absurd q (by show ¬ (0 : Int32) = 1; decide)⟩
    have hp : p ≤ 0 := hp
    have e : p = 0 := by omega
    rw [e]
    exact ⟨Nat.le_refl _, Eqp.zero⟩
  · have n5 := zn s 5 hs (by omega) (by omega) (by omega)
    have n4 := zn s 4 hs (by omega) (by omega) (by omega)
    refine ⟨⟨⟨by rw [z s 1 hs (by omega) (by omega) (by omega)]; exact r0 _ (by decide), by rw [z s 4 hs (by omega) (by omega) (by omega)]; exact r0 _ (by decide), by rw [z s 5 hs (by omega) (by omega) (by omega)]; exact r0 _ (by decide), by rw [z s 6 hs (by omega) (by omega) (by omega)]; exact r0 _ (by decide), by rw [z s 7 hs (by omega) (by omega) (by omega)]; exact r0 _ (by decide)⟩, by rw [z s 12 hs (by omega) (by omega) (by omega)]; exact r0 _ (by decide), fun t ht => ?_, by rw [n5]; omega, fun _ => z s 10 hs (by omega) (by omega) (by omega)⟩, fun q => ?_, ⟨?_, ?_⟩, fun p p1 p2 => ?_⟩
    · rw [Nat.add_assoc, z s _ hs (by omega) (by omega) (by omega), Nat.add_assoc, z s _ hs (by omega) (by omega) (by omega)]
      exact ⟨r0 _ (by decide), r0 _ (by decide)⟩
    · rw [z s 3 hs (by omega) (by omega) (by omega)] at q; exact absurd q (by decide)
    · rw [n5, zn s 6 hs (by omega) (by omega) (by omega)]; rfl
    · rw [n5, z s 9 hs (by omega) (by omega) (by omega), z s 10 hs (by omega) (by omega) (by omega)]
      show (fst1 (qInit A m 4514) 0, 0) = (qInit A m 4514, 0)
      unfold fst1
      rw [if_pos rfl]
    · rw [n4] at p2; omega
  · unfold nA at hi
    rw [e0] at hi
    exact absurd hi (by show ¬ i < 0; omega)
/-! all that can happen -/
theorem PG_idle2 {H : Gh} {F : Nat → Lg} {A B : Rw} {s : Nat} (h : PG H F A) (hs : s < 5) (hB : ∀ k, (k ≠ 514 * s ∧ k ≠ 514 * s + 11 ∧ k ≠ 514 * s + 12 ∧ k ≠ 514 * s + 13 ∧ k ≠ 514 * s + 14 ∧ k ≠ 514 * s + 15) → B k = A k) (h12 : rg (B (514 * s + 12)) 0 3) : PG H F B := by
  refine PG_idle h (fun t ht => ⟨fun j j1 j2 j3 j4 => hB _ (by omega), ?_⟩) (fun k k1 k2 => hB _ (by omega)) (hB _ (by omega)) (hB _ (by omega))
  by_cases c : t = s
  · rw [c]; exact h12
  · rw [hB _ (by omega)]; exact (PG_k h ht).1.2.1
theorem PI_cnt {A : Rw} {k : Nat} {v : Int32} (h : PI A) (hk : k = 4511 ∨ k = 4512 ∨ k = 4513 ∨ k = 4515) : PI (up A k v) := by
  obtain ⟨H, F, h⟩ := h
  exact ⟨H, F, PG_cnt h hk⟩
theorem PI_step {A B : Rw} (h : PI A) (hs : Sp A B) : PI B := by
  rcases hs with q | ⟨i, hi, rfl⟩ | ⟨s, hs, ht, rfl⟩ | ⟨s, hs, hr, rfl⟩ | ⟨s, kd, x, y, hs, hr, hl, hk, hx, hy, rfl⟩ | ⟨s, m, hs, hc, hl, hm, rfl⟩ | ⟨s, c, hs, hc, hx, rfl⟩ | ⟨s, t, hs, ht, hst, hc, rfl⟩ | ⟨s, hs, hc, rfl⟩ | ⟨s, hs, hu, rfl⟩ | ⟨s, hs, hu, rfl⟩ | ⟨a, b, how, ha, hb, hab, rfl⟩ | ⟨i, hi, rfl⟩ | ⟨i, hi, h60, rfl⟩ | ⟨v, hv, rfl⟩ | ⟨m, hm, rfl⟩
  · obtain ⟨H, F, h⟩ := h
    refine ⟨H, F, PG_idle h (fun s hs => ⟨fun j j1 _ _ _ => q _ (by omega), ?_⟩) (fun k k1 k2 => q _ (by omega)) (q _ (by omega)) (q _ (by omega))⟩
    rw [q _ (by omega)]
    exact (PG_k h hs).1.2.1
  · exact PI_comes h hi
  · exact PI_asks h hs ht
  · exact PI_feeds h hs hr
  · obtain ⟨H, F, h⟩ := h
    exact PG_prop h hs hr hl (fun _ => hx) (fun z => by rcases hk with rfl | rfl <;> exact absurd z (by decide))
  · exact PI_change h hs hc hl
  · obtain ⟨H, F, h⟩ := h
    have r : ∀ k, (k ≠ 514 * s + 11 ∧ k ≠ 514 * s + 12 ∧ k ≠ 514 * s + 13 ∧ k ≠ 514 * s + 14 ∧ k ≠ 514 * s + 15) → qRead0 A s c k = A k := fun k hk => by
      unfold qRead0
      rw [up_ne (by omega), up_ne (by omega), up_ne (by omega), up_ne (by omega), up_ne (by omega)]
    have h1 : PG H F (qRead0 A s c) := by
      refine PG_idle2 h hs (fun k k1 => r k (by omega)) ?_
      unfold qRead0
      rw [up_ne (by omega), up_ne (by omega), up_ne (by omega), up_at]
      exact hx
    have h2 := PG_feeds h1 hs (by rw [r _ (by omega)]; exact hc.1)
    have r2 : ∀ k, (k ≠ 514 * s + 11 ∧ k ≠ 514 * s + 13 ∧ k ≠ 514 * s + 15) → qRead A s c k = qFeedsAll (qRead0 A s c) s k := fun k hk => qAnsRead_out hk
    refine ⟨H, F, PG_idle2 h2 hs (fun k k1 => r2 k (by omega)) ?_⟩
    rw [r2 _ (by omega)]
    exact (PG_k h2 hs).1.2.1
  · obtain ⟨H, F, h⟩ := h
    exact ⟨H, F, PG_post h ⟨⟨rg5 hs, rg5 ht, fun z => hst ((nI_eq (by omega) (by omega)).mp z), (PG_k h hs).1.1.1, (show rg (6 : Int32) 0 8 from ⟨by decide, by decide⟩)⟩, fun z => absurd z (by show ¬ (6 : Int32) = 0; decide), fun z => absurd z (by show ¬ (6 : Int32) = 1; decide), fun z => absurd z (by show ¬ (6 : Int32) = 2; decide), fun z => absurd z (by show ¬ (6 : Int32) = 3; decide), fun z => absurd z (by show ¬ (6 : Int32) = 4; decide), fun z => absurd z (by show ¬ (6 : Int32) = 5; decide), fun z => absurd z (by show ¬ (6 : Int32) = 8; decide)⟩⟩
  · obtain ⟨H, F, h⟩ := h
    exact ⟨H, F, PG_compact h hs⟩
  · obtain ⟨H, F, h⟩ := h
    exact ⟨H, F, PG_stop h hs⟩
  · obtain ⟨H, F, h⟩ := h
    refine ⟨H, F, PG_idle2 h hs (fun k k1 => up_ne (by omega)) ?_⟩
    show rg (up A (514 * s) 1 (514 * s + 12)) 0 3
    rw [up_ne (by omega)]
    exact (PG_k h hs).1.2.1
  · exact PI_cnt h (by omega)
  · obtain ⟨H, F, h⟩ := h
    exact ⟨H, F, PG_cnt (PG_out h hi) (by omega)⟩
  · obtain ⟨H, F, h⟩ := h
    exact ⟨H, F, PG_twice h hi h60⟩
  · exact PI_cnt h (by omega)
  · exact ⟨_, _, PG_init hm⟩
theorem PI_Gd {A : Rw} (h : PI A) : Gd A := ⟨PI, h, fun A hA => ⟨by
  obtain ⟨H, F, hA⟩ := hA
  exact ⟨⟨PG_cm hA, Or.inl trivial⟩, PG_ext hA⟩, fun B hB => PI_step hA hB⟩⟩
/-- what the protocol promises: a row that begins is good, and so is all that comes of it -/
theorem Gd_init {A : Rw} {m : Int32} (hm : rg m 1 31) : Gd (qInit A m) := PI_Gd ⟨_, _, PG_init hm⟩
