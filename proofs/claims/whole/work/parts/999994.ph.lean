/-! ===== agreement: what a good row is ===== -/
section Cm
variable {H : Gh} {F : Nat → Lg} {A : Rw}
theorem PG_op (h : PG H F A) {s : Nat} (hs : s < 5) : opOK A s (A (514 * s + 7)).toNatClampNeg (A (514 * s + 4)).toNatClampNeg := by
  obtain ⟨a1, a2, a3⟩ := PG_al h hs
  intro p p1 p2 hk
  have p1 : nA A (514 * s + 7) < p := p1
  have p2 : p ≤ nA A (514 * s + 4) := p2
  have e := (PG_k h hs).2.2.2 p (by omega) p2
  have v := PG_v h hs (p := p) (by omega) p2
  rw [← e] at v
  exact v.2 hk
theorem PG_ag (h : PG H F A) {s : Nat} (hs : s < 5) : agOK A s := by
  obtain ⟨⟨⟨r1, r4, r5, r6, r7⟩, r12, rn, r57, r9⟩, hN, hS, hE⟩ := PG_k h hs
  exact ⟨⟨h.2.2.1.2.2, r4, r5, fun t ht => (rn t ht).1⟩, r7, PG_op h hs⟩
theorem PG_sl (h : PG H F A) {s : Nat} (hs : s < 5) : (A (514 * s + 5)).toInt ≤ (A (514 * s + 7)).toInt ∧ (A (514 * s + 7)).toInt ≤ (A (514 * s + 4)).toInt := by
  obtain ⟨a1, a2, a3⟩ := PG_al h hs
  obtain ⟨⟨⟨r1, r4, r5, r6, r7⟩, -⟩, -⟩ := PG_k h hs
  obtain ⟨e4, b4, c4⟩ := nA_r r4
  obtain ⟨e5, b5, c5⟩ := nA_r r5
  obtain ⟨e7, b7, c7⟩ := nA_r r7
  rw [e4, e5, e7, nI_toInt c4, nI_toInt c5, nI_toInt c7]
  omega
theorem PG_st_ok (h : PG H F A) {s : Nat} (hs : s < 5) : stOK A s := by
  obtain ⟨⟨⟨r1, r4, r5, r6, r7⟩, r12, rn, r57, r9⟩, hN, hS, hE⟩ := PG_k h hs
  refine ⟨PG_ag h hs, Int.le_trans (PG_sl h hs).1 (PG_sl h hs).2, r1, r12, fun f hf => (rn f hf).2, fun z => ?_⟩
  have := ((PG_d h hs).1.2.2 z).1
  have this : 1 ≤ nA A (514 * s + 1) := this
  obtain ⟨e1, b1, c1⟩ := nA_r r1
  rw [e1, nI_toInt c1]
  omega
theorem MsI_ok (h : PG H F A) {g : Rw} (hm : MsI H (vX A F) g) : mOK g := by
  obtain ⟨⟨a, b, c, d, e⟩, b0, b1, b2, b3, b4, b5, b8⟩ := hm
  refine ⟨a, b, d, e, fun z => ?_, fun z => (b3 z).1, fun z => (b5 z).1⟩
  obtain ⟨c1, ⟨q4, q5, q6, q7⟩, c3, c4, c5, c6, c7⟩ := b2 z
  obtain ⟨e4, x4, y4⟩ := nA_r q4
  obtain ⟨e6, x6, y6⟩ := nA_r q6
  obtain ⟨v1, v2, v3⟩ := h.2.1 (nA g 2) (by omega)
  refine ⟨q4, q6, by rw [e4, e6, nI_toInt y4, nI_toInt y6]; omega, q7, fun k hk hkd => ?_⟩
  have hk : k < nA g 6 := hk
  have e := c5 k hk (by omega)
  have v := v3 (nA g 4 + 1 + k) (by omega) (by omega)
  rw [← e] at v
  exact v.2 hkd
theorem PG_cm (h : PG H F A) : cmOK A := ⟨fun s hs => PG_st_ok h hs, fun i hi => MsI_ok h (h.2.2.2.2 i hi)⟩
theorem PG_ext (h : PG H F A) : ext2 A := by
  refine ⟨fun s hs => ⟨PG_sl h hs, fun z => ?_, (PG_k h hs).1.1.2.2.2.1.1⟩, fun i hi hk s hs ht z => ?_, fun i hi hk => ?_, fun i hi hk => ?_⟩
  · obtain ⟨l1, -⟩ := PG_ld h hs z
    have := (h.1.1 _ (by omega : 1 ≤ gI H (nA A (514 * s + 1)))).1
    obtain ⟨e1, b1, c1⟩ := nA_r (PG_k h hs).1.1.1
    rw [e1, nI_toInt c1]
    omega
  · obtain ⟨⟨a, b, c, d, e⟩, -, -, b2, -⟩ := h.2.2.2.2 i hi
    obtain ⟨c1, -⟩ := b2 hk
    obtain ⟨l1, -⟩ := PG_ld h hs z.1
    have e2 : nA (rowM A i) 2 = nA A (514 * s + 1) := by
      show (A (2570 + 21 * i + 2)).toNatClampNeg = (A (514 * s + 1)).toNatClampNeg
      rw [z.2]
    rw [e2, l1] at c1
    have h0 : rowM A i 0 = nI (nA (rowM A i) 0) := (nA_r a).1
    have h1 : rowM A i 1 = nI s := ht
    exact c (by rw [h0, h1]; congr 1; omega)
  · obtain ⟨c1, ⟨q4, q5, q6⟩, -⟩ := (h.2.2.2.2 i hi).2.2.2.2.2.1 hk
    exact ⟨q4, q5.1⟩
  · exact (h.2.2.2.2 i hi).2.2.2.2.2.2.2 hk
end Cm
def PI (A : Rw) : Prop := ∃ H F, PG H F A
/-! what is agreed -/
theorem PG_does {H H' : Gh} {F : Nat → Lg} {A : Rw} {s to : Nat} (h : PG H F A) (hs : s < 5) (hto : to ≤ nA A (514 * s + 4)) (le : Hle H H') (h1 : Hst H') (h2 : EV H') (ho : ∀ t, t < 5 → ¬ t = s → dS H' t (vX A F t))
    (hd : dS H' s (mkX (nA A (514 * s + 1)) (A (514 * s + 2)) (A (514 * s + 3)) (nA A (514 * s + 4)) (max (nA A (514 * s + 7)) to) (A (514 * s + 8)) (xH (vX A F s)) (F s))) : PG H' F (qDoes A s (nI to)) := by
  obtain ⟨a1, a2, a3⟩ := PG_al h hs
  obtain ⟨⟨⟨r1, r4, r5, r6, r7⟩, r12, rn, r57, r9⟩, hN, hS, hE⟩ := PG_k h hs
  obtain ⟨e4, b4, c4⟩ := nA_r r4
  obtain ⟨e7, b7, c7⟩ := nA_r r7
  have ha := PG_ag h hs
  have ht : rg (nI to) 0 120 := by rw [rg_nI (by omega)]; omega
  have hto2 : (nI to).toInt ≤ (A (514 * s + 4)).toInt ∨ (nI to).toInt ≤ (A (514 * s + 7)).toInt := by
    left
    rw [e4, nI_toInt c4, nI_toInt (by omega)]
    omega
  have po : ∀ i, (i < 514 * s + 16 ∨ 514 * s + 20 ≤ i) → (i < 3830 ∨ 4310 ≤ i) → i ≠ 514 * s + 7 → qDoes A s (nI to) i = A i := fun i i1 i2 i3 => qDoes_out hs ha ht hto2 i1 i2 i3
  have p7 : qDoes A s (nI to) (514 * s + 7) = nI (max (nA A (514 * s + 7)) to) := by
    rw [qDoes_7 hs ha ht hto2]
    by_cases c : nA A (514 * s + 7) < to
    · rw [if_pos (by rw [e7, nI_ltI (by omega) (by omega)]; exact c), Nat.max_eq_right (by omega)]
    · rw [if_neg (by rw [e7, nI_ltI (by omega) (by omega)]; exact c), Nat.max_eq_left (by omega)]
      exact e7
  have ev : vX (qDoes A s (nI to)) F s = mkX (nA A (514 * s + 1)) (A (514 * s + 2)) (A (514 * s + 3)) (nA A (514 * s + 4)) (max (nA A (514 * s + 7)) to) (A (514 * s + 8)) (xH (vX A F s)) (F s) := by
    unfold vX
    rw [nA_c (po (514 * s + 1) (by omega) (by omega) (by omega)), po (514 * s + 2) (by omega) (by omega) (by omega), po (514 * s + 3) (by omega) (by omega) (by omega), nA_c (po (514 * s + 4) (by omega) (by omega) (by omega)), nA_at p7 (by omega), po (514 * s + 8) (by omega) (by omega) (by omega)]
    congr 1
    funext t
    show (if t < 5 then nA (qDoes A s (nI to)) (514 * s + 29 + t) else 0) = if t < 5 then nA A (514 * s + 29 + t) else 0
    split
    · exact nA_c (po _ (by omega) (by omega) (by omega))
    · rfl
  have q5 : qDoes A s (nI to) (514 * s + 5) = A (514 * s + 5) := po _ (by omega) (by omega) (by omega)
  have q4 : qDoes A s (nI to) (514 * s + 4) = A (514 * s + 4) := po _ (by omega) (by omega) (by omega)
  have key : PG H' (upG F s (F s)) (qDoes A s (nI to)) := by
    refine PG_st h hs le h1 h2 (fun k k1 k2 => po k (by omega) (by omega) (by omega)) ho (by rw [upG_self, ev]; exact hd) ⟨⟨⟨?_, ?_, ?_, ?_, ?_⟩, ?_, fun t ht => ?_, ?_, ?_⟩, fun z t ht => ?_, ⟨?_, ?_⟩, fun p p1 p2 => ?_⟩ (by rw [upG_self, ev]; exact ⟨Nat.le_refl _, fun z _ => ⟨z, rfl, rfl⟩⟩)
    · rw [po _ (by omega) (by omega) (by omega)]; exact r1
    · rw [q4]; exact r4
    · rw [q5]; exact r5
    · rw [po _ (by omega) (by omega) (by omega)]; exact r6
    · rw [p7, rg_nI (by omega)]; omega
    · rw [po _ (by omega) (by omega) (by omega)]; exact r12
    · rw [po _ (by omega) (by omega) (by omega), po (514 * s + 29 + t) (by omega) (by omega) (by omega)]; exact rn t ht
    · rw [nA_c q5, nA_at p7 (by omega)]; omega
    · rw [po _ (by omega) (by omega) (by omega), po (514 * s + 10) (by omega) (by omega) (by omega)]; exact r9
    · rw [po _ (by omega) (by omega) (by omega)] at z
      rw [nA_c (po (514 * s + 24 + t) (by omega) (by omega) (by omega)), nA_c q4]
      exact hN z t ht
    · rw [nA_c q5, nA_c (po (514 * s + 6) (by omega) (by omega) (by omega))]; exact hS.1
    · rw [nA_c q5, po (514 * s + 9) (by omega) (by omega) (by omega), po (514 * s + 10) (by omega) (by omega) (by omega), po 4514 (by omega) (by omega) (by omega)]; exact hS.2
    · rw [nA_c q5] at p1
      rw [nA_c q4] at p2
      rw [← hE p p1 p2]
      unfold enA
      rw [po _ (by omega) (by omega) (by omega), po (514 * s + 30 + 4 * p + 1) (by omega) (by omega) (by omega), po (514 * s + 30 + 4 * p + 2) (by omega) (by omega) (by omega), po (514 * s + 30 + 4 * p + 3) (by omega) (by omega) (by omega)]
  rw [upG_self] at key
  exact key
/-- who has a place -/
theorem bit_or {x y : Int32} {v : Nat} (hv : v < 25) : bit (x ||| y) v ↔ bit x v ∨ bit y v := by
  unfold bit
  rw [bit_lsb hv, bit_lsb hv, bit_lsb hv, Int32.toBitVec_or, BitVec.getLsbD_or, Bool.or_eq_true]
theorem bit_sh {s v : Nat} (hs : s < 25) (hv : v < 25) : bit ((1 : Int32) <<< (nI s &&& 31)) v ↔ v = s := by
  unfold bit
  rw [bit_lsb hv, one_lsb hs (by omega)]
  exact decide_eq_true_iff
theorem bit_0 {v : Nat} (hv : v < 25) : ¬ bit 0 v := by
  unfold bit
  rw [bit_lsb hv]
  show ¬ (0#32).getLsbD v = true
  simp
theorem hav_bit {A : Rw} {s v : Nat} {p : Int32} (hs : s < 5) (hv : v < 5) (h : bit (qHav A s p) v) : v = s ∨ (¬ v = s ∧ ¬ A (514 * s + 29 + v) < p) := by
  have step : ∀ o acc, o < 5 → bit (hv1 A s p o acc) v → bit acc v ∨ (v = o ∧ ¬ o = s ∧ ¬ A (514 * s + 29 + o) < p) := by
    intro o acc ho hb
    unfold hv1 at hb
    rw [bit_or (by omega)] at hb
    rcases hb with z | z
    · exact Or.inl z
    · split at z
      · rename_i c
        exact Or.inr ⟨(bit_sh (by omega) (by omega)).mp z, c⟩
      · exact absurd z (bit_0 (by omega))
  have fin : ∀ o, (v = o ∧ ¬ o = s ∧ ¬ A (514 * s + 29 + o) < p) → v = s ∨ (¬ v = s ∧ ¬ A (514 * s + 29 + v) < p) := by
    intro o ⟨z1, z2⟩
    rw [← z1] at z2
    exact Or.inr z2
  unfold qHav at h
  rcases step 4 _ (by decide) h with h | z
  · rcases step 3 _ (by decide) h with h | z
    · rcases step 2 _ (by decide) h with h | z
      · rcases step 1 _ (by decide) h with h | z
        · rcases step 0 _ (by decide) h with h | z
          · exact Or.inl ((bit_sh (by omega) (by omega)).mp h)
          · exact fin _ z
        · exact fin _ z
      · exact fin _ z
    · exact fin _ z
  · exact fin _ z
theorem qTop_spec {A : Rw} {s a : Nat} (ha : A (514 * s + 7) = nI a) (ha0 : a < 2 ^ 31) : ∀ p, p < 2 ^ 31 → a ≤ p → qTop A s p = a ∨ (a < qTop A s p ∧ qTop A s p ≤ p ∧ A (514 * s + 30 + 4 * qTop A s p) = A (514 * s + 1) ∧ (cnt5 (qMem A s).1 < 2 * cnt5 (qHav A s (nI (qTop A s p)) &&& (qMem A s).1) ∧ ((qMem A s).2.1 = 0 ∨ cnt5 (qMem A s).2.1 < 2 * cnt5 (qHav A s (nI (qTop A s p)) &&& (qMem A s).2.1)))) := by
  intro p
  induction p with
  | zero => intro _ h; left; show 0 = a; omega
  | succ p ih =>
    intro h1 h2
    rw [qTop_s]
    by_cases c : ¬ A (514 * s + 7) < nI (p + 1)
    · rw [if_pos c]
      rw [ha, nI_ltI (by omega) (by omega)] at c
      left; omega
    · rw [if_neg c]
      have c := Classical.not_not.mp c
      rw [ha, nI_ltI (by omega) (by omega)] at c
      by_cases c2 : A (514 * s + 30 + 4 * (p + 1)) = A (514 * s + 1) ∧ (cnt5 (qMem A s).1 < 2 * cnt5 (qHav A s (nI (p + 1)) &&& (qMem A s).1) ∧ ((qMem A s).2.1 = 0 ∨ cnt5 (qMem A s).2.1 < 2 * cnt5 (qHav A s (nI (p + 1)) &&& (qMem A s).2.1)))
      · rw [if_pos c2]
        exact Or.inr ⟨c, Nat.le_refl _, c2⟩
      · rw [if_neg c2]
        rcases ih (by omega) (by omega) with z | ⟨z1, z2, z3⟩
        · exact Or.inl z
        · exact Or.inr ⟨z1, by omega, z3⟩
theorem PG_agr1 {H : Gh} {F : Nat → Lg} {A : Rw} {s : Nat} (h : PG H F A) (hs : s < 5) (hr : A (514 * s + 3) = 2) : ∃ H', PG H' F (qAgr1 A s) ∧ Hle H H' := by
  obtain ⟨a1, a2, a3⟩ := PG_al h hs
  obtain ⟨l1, l2, l3, l4, l5⟩ := PG_ld h hs hr
  have d := PG_d h hs
  obtain ⟨⟨⟨r1, r4, r5, r6, r7⟩, r12, rn, r57, r9⟩, hN, hS, hE⟩ := PG_k h hs
  obtain ⟨e7, b7, c7⟩ := nA_r r7
  unfold qAgr1
  have e4 : (A (514 * s + 4)).toNatClampNeg = nA A (514 * s + 4) := rfl
  rw [e4]
  rcases qTop_spec (s := s) e7 c7 (nA A (514 * s + 4)) (by omega) a2 with z | ⟨z1, z2, z3, z4⟩
  · rw [z]
    refine ⟨H, PG_does h hs a2 Hle_refl h.1 h.2.1 (fun t ht _ => PG_d h ht) ?_, Hle_refl⟩
    rw [Nat.max_self]
    exact d
  · obtain ⟨p, hp⟩ : ∃ p, p = qTop A s (nA A (514 * s + 4)) := ⟨_, rfl⟩
    rw [← hp] at z1 z2 z3 z4 ⊢
    have hmem := (PG_mem h hs).1
    have hF : F s p = enA A (514 * s + 30 + 4 * p) := (hE p (by omega) z2).symm
    have htm : tmE (F s p) = nA A (514 * s + 1) := by
      rw [hF]
      show (A (514 * s + 30 + 4 * p)).toNatClampNeg = (A (514 * s + 1)).toNatClampNeg
      rw [z3]
    have hst : Hst (gEv H (nA A (514 * s + 1)) p (nA A (514 * s + 4)) (qHav A s (nI p))) := by
      refine Hst_ev h.1 (by omega) (by omega) z2 (by omega) ?_ ?_ (fun v hv hb => ?_)
      · rw [← l3 p (by omega) z2]; exact htm
      · rw [← cfg_eq l3, ← hmem]; exact z4
      · rcases hav_bit hs hv hb with q | ⟨q1, q2⟩
        · rw [q, l4]; exact z2
        · have := l5 v hv q1
          obtain ⟨eh, bh, ch⟩ := nA_r (rn v hv).2
          rw [eh, nI_ltI (by omega) (by omega)] at q2
          omega
    have le := Hle_ev (H := H) (T := nA A (514 * s + 1)) (p := p) (n := nA A (514 * s + 4)) (Q := qHav A s (nI p))
    refine ⟨_, PG_does h hs z2 le hst h.2.1 (fun t ht _ => dS_ev h.1 (PG_d h ht)) ?_, le⟩
    rw [Nat.max_eq_right (by omega)]
    refine dS_agree (x := vX A F s) (dS_ev h.1 d) z2 (fun _ => ⟨gM H, Nat.lt_succ_self _, ?_⟩)
    unfold cov
    rw [gEv_E1]
    exact ⟨Nat.le_refl _, Nat.le_refl _, l3.mono z2⟩
theorem agr1_o {H : Gh} {F : Nat → Lg} {A : Rw} {s i : Nat} (h : PG H F A) (hs : s < 5) (h1 : i < 514 * s + 16 ∨ 514 * s + 20 ≤ i) (h2 : i < 3830 ∨ 4310 ≤ i) (h3 : i ≠ 514 * s + 7) : qAgr1 A s i = A i := by
  have ha := PG_ag h hs
  exact qDoes_out hs ha (top_ok ha).1 (Or.inl (top_ok ha).2) h1 h2 h3
theorem PG_fin {H : Gh} {F : Nat → Lg} {A : Rw} {s : Nat} (h : PG H F A) (hs : s < 5) : PG H F (qFin A s) := by
  unfold qFin
  split
  · exact PG_plays h hs (by decide) (by decide)
  · exact h
theorem Hle_trans {H H' H'' : Gh} (h : Hle H H') (h' : Hle H' H'') : Hle H H'' := by
  refine ⟨fun T hT => ?_, Nat.le_trans h.2.1 h'.2.1, fun i hi => (h'.2.2.1 i (Nat.lt_of_lt_of_le hi h.2.1)).trans (h.2.2.1 i hi), h'.2.2.2.1.trans h.2.2.2.1, fun T v => Nat.le_trans (h.2.2.2.2.1 T v) (h'.2.2.2.2.1 T v), fun T v hv => ?_⟩
  · obtain ⟨a, b, c, d⟩ := h.1 T hT
    obtain ⟨a', b', c', d'⟩ := h'.1 T (by omega)
    exact ⟨a'.trans a, b'.trans b, Nat.le_trans c c', (d'.mono c).trans d⟩
  · have e := h.2.2.2.2.2 T v hv
    rw [h'.2.2.2.2.2 T v (by rw [e]; exact hv), e]
theorem PG_join {H : Gh} {F : Nat → Lg} {A : Rw} {s : Nat} (h : PG H F A) (hs : s < 5) (hr : A (514 * s + 3) = 2) (hl : leaves A s) : PI (qJoin A s) ∧ qJoin A s (514 * s + 3) = 2 := by
  obtain ⟨l1, l2, l3⟩ := hl
  obtain ⟨a1, a2, a3⟩ := PG_al h hs
  obtain ⟨H', h', le⟩ := PG_agr1 h hs hr
  obtain ⟨m1, m2⟩ := PG_mem h hs
  have q4 : qAgr1 A s (514 * s + 4) = A (514 * s + 4) := agr1_o h hs (by omega) (by omega) (by omega)
  have q3 : qAgr1 A s (514 * s + 3) = 2 := by rw [agr1_o h hs (by omega) (by omega) (by omega)]; exact hr
  have q5 : qAgr1 A s (514 * s + 5) = A (514 * s + 5) := agr1_o h hs (by omega) (by omega) (by omega)
  obtain ⟨a1', a2', a3'⟩ := PG_al h' hs
  obtain ⟨e4, b4, c4⟩ := nA_r (PG_k h hs).1.1.2.1
  obtain ⟨e7, b7, c7⟩ := nA_r (PG_k h' hs).1.1.2.2.2.2
  have x4 : nA (qAgr1 A s) (514 * s + 4) = nA A (514 * s + 4) := nA_c q4
  have x5 : nA (qAgr1 A s) (514 * s + 5) = nA A (514 * s + 5) := nA_c q5
  have hlt : nA A (514 * s + 4) < 120 := by
    rw [q4, e4, show (120 : Int32) = nI 120 from rfl, nI_ltI (by omega) (by decide)] at l3
    exact l3
  have lcl := lcp_le (f := F s) (n := nA A (514 * s + 4))
  obtain ⟨H'', f, h'', -⟩ := PG_put (kd := 4) (x := (qMem A s).2.1) (y := 0) h' hs q3 (by omega) (fun z => absurd z (by decide)) (fun _ => by
    rw [le.2.2.2.1, x4, ← m1]
    refine ⟨?_, ?_⟩
    · unfold w2
      rw [if_neg l1]
    · rw [m2, e7, nI_ltI (by omega) (by split <;> omega)] at l2
      split at l2
      · omega
      · omega)
  have p3 : qPut (qAgr1 A s) s ((qAgr1 A s) (514 * s + 1)) 4 (qMem A s).2.1 0 (514 * s + 3) = 2 := by
    rw [qPut_out (l := nA A (514 * s + 4)) (by rw [q4]; exact e4) c4 (by omega) (by omega)]
    exact q3
  refine ⟨⟨_, _, PG_feeds h'' hs p3⟩, ?_⟩
  unfold qJoin
  rw [qFeedsAll_lo (by omega)]
  exact p3
theorem PI_agr0 {A : Rw} {s : Nat} (h : PI A) (hs : s < 5) (hr : A (514 * s + 3) = 2) : PI (qAgr0 A s) := by
  obtain ⟨H, F, h⟩ := h
  obtain ⟨H', h', -⟩ := PG_agr1 h hs hr
  exact ⟨_, _, PG_fin h' hs⟩
theorem PI_agr {A : Rw} {s : Nat} (h : PI A) (hs : s < 5) (hr : A (514 * s + 3) = 2) : PI (qAgr A s) := by
  unfold qAgr
  split
  · rename_i c
    obtain ⟨H, F, h⟩ := h
    obtain ⟨j1, j2⟩ := PG_join h hs hr c
    obtain ⟨H', F', h'⟩ := PI_agr0 j1 hs j2
    exact ⟨_, _, PG_fin h' hs⟩
  · exact PI_agr0 h hs hr
theorem PI_feeds {A : Rw} {s : Nat} (h : PI A) (hs : s < 5) (hr : A (514 * s + 3) = 2) : PI (qFeedsAll A s) := by
  obtain ⟨H, F, h⟩ := h
  exact ⟨H, F, PG_feeds h hs hr⟩
/-! one becomes the leader -/
theorem PG_leads {H : Gh} {F : Nat → Lg} {A : Rw} {s : Nat} (h : PG H F A) (hs : s < 5) (hr : A (514 * s + 3) = 1) (hm : maj2 ((qMem A s).1, (qMem A s).2.1) (A (514 * s + 8))) : PI (qLeads A s) := by
  rw [(PG_mem h hs).1] at hm
  obtain ⟨H', h', le⟩ := PG_lead0 h hs hr hm
  have ld : PI (qLead1 A s) ∧ qLead1 A s (514 * s + 3) = 2 := by
    obtain ⟨e1, b1, c1⟩ := nA_r (PG_k h hs).1.1.1
    have x3 : qLead0 A s (514 * s + 3) = 2 := by
      unfold qLead0
      have e1' : qReadsNothing (qPlays A s 2) s (514 * s + 1) = nI (nA A (514 * s + 1)) := by rw [qReads_out (by omega), qPlays_out (by omega)]; exact e1
      rw [e1', nI_clamp c1, ← nxF_5, nxF_out (by omega) (by omega), up_ne (by omega), qReads_out (by omega), qPlays_3]
    rw [qLead1_eq]
    split
    · rename_i c
      obtain ⟨e4, b4, c4⟩ := nA_r (PG_k h' hs).1.1.2.1
      rw [e4, show (120 : Int32) = nI 120 from rfl, nI_ltI (by omega) (by decide)] at c
      obtain ⟨H'', f, h'', -⟩ := PG_put (kd := 0) (x := 0) (y := 0) h' hs x3 c (fun z => absurd z (by decide)) (fun z => absurd z (by decide))
      refine ⟨⟨_, _, h''⟩, ?_⟩
      rw [qPut_out e4 c4 (by omega) (by omega)]
      exact x3
    · exact ⟨⟨_, _, h'⟩, x3⟩
  unfold qLeads
  refine PI_agr (PI_feeds ld.1 hs ld.2) hs ?_
  rw [qFeedsAll_lo (by omega)]
  exact ld.2
theorem PG_stands {H : Gh} {F : Nat → Lg} {A : Rw} {s : Nat} (h : PG H F A) (hs : s < 5) (hT : nA A (514 * s + 1) < 200) : PI (qStands A s) := by
  obtain ⟨H', h', le⟩ := PG_stand1 h hs hT
  have x3 : qStand1 A s (514 * s + 3) = 1 := by unfold qStand1; rw [up_ne (by omega), up_ne (by omega), qPlays_3]
  have x8 : qStand1 A s (514 * s + 8) = (1 : Int32) <<< (nI s &&& 31) := by unfold qStand1; rw [up_at]
  have h2 := PG_asks (kd := 0) h' hs (Or.inl ⟨rfl, x3⟩)
  unfold qStands
  split
  · rename_i c
    have em : qMem (qAsksAll (qStand1 A s) s 0) s = qMem (qStand1 A s) s := qMem_lo hs (PG_k h' hs).1.1.2.1 (fun i i1 i2 => qAsksAll_lo (by omega)) (qAsksAll_4514 h'.2.2.1.2.2)
    refine PG_leads h2 hs (by rw [qAsksAll_lo (by omega)]; exact x3) ?_
    rw [em, qAsksAll_lo (by omega), x8]
    exact c
  · exact ⟨_, _, h2⟩
theorem canTO_T {H : Gh} {F : Nat → Lg} {A : Rw} {s : Nat} (h : PG H F A) (hs : s < 5) (hT : ¬ A (514 * s + 1) = 200) : nA A (514 * s + 1) < 200 := by
  obtain ⟨e1, b1, c1⟩ := nA_r (PG_k h hs).1.1.1
  have : ¬ nA A (514 * s + 1) = 200 := fun z => hT (by rw [e1, z]; rfl)
  omega
theorem PI_asks {A : Rw} {s : Nat} (h : PI A) (hs : s < 5) (hT : canTO A s) : PI (qAsks A s) := by
  obtain ⟨H, F, h⟩ := h
  obtain ⟨-, t2, -, t4⟩ := hT
  have hT := canTO_T h hs t4
  unfold qAsks
  split
  · exact PG_stands h hs hT
  · have h1 : PG H F (qAsk1 A s) := by
      unfold qAsk1
      refine PG_votes (PG_plays h hs (by decide) (by decide)) hs (fun z => ?_)
      rw [qPlays_3] at z
      exact absurd z (by decide)
    have x1 : nA (qAsk1 A s) (514 * s + 1) = nA A (514 * s + 1) := nA_c (qAsk1_out (by omega))
    have h2 := PG_asks (kd := 7) h1 hs (Or.inr ⟨rfl, by omega⟩)
    split
    · refine PG_stands h2 hs ?_
      rw [nA_c (qAsksAll_lo (A := qAsk1 A s) (s := s) (kd := 7) (i := 514 * s + 1) (by omega))]
      omega
    · exact ⟨_, _, h2⟩
/-! entries are proposed -/
theorem PG_prop {H : Gh} {F : Nat → Lg} {A : Rw} {s : Nat} {kd x y : Int32} (h : PG H F A) (hs : s < 5) (hr : A (514 * s + 3) = 2) (hl : A (514 * s + 4) < 100) (hv : (kd = 1 ∨ kd = 2) → rg x 0 3)
    (hc : (kd = 3 ∨ kd = 4) → x = w2 (cfg (gX H) (F s) (nA A (514 * s + 4))) ∧ lcp (F s) (nA A (514 * s + 4)) ≤ nA A (514 * s + 7)) : PI (qProp A s kd x y) := by
  obtain ⟨e4, b4, c4⟩ := nA_r (PG_k h hs).1.1.2.1
  have hl2 := hl
  rw [e4, show (100 : Int32) = nI 100 from rfl, nI_ltI (by omega) (by decide)] at hl2
  obtain ⟨H', f, h', -⟩ := PG_put (y := y) h hs hr (by omega) hv hc
  have p3 : qPut A s (A (514 * s + 1)) kd x y (514 * s + 3) = 2 := by
    rw [qPut_out e4 c4 (by omega) (by omega)]
    exact hr
  unfold qProp
  refine PI_agr ⟨_, _, PG_feeds h' hs p3⟩ hs ?_
  rw [qFeedsAll_lo (by omega)]
  exact p3
theorem PI_change {A : Rw} {s : Nat} {m : Int32} (h : PI A) (hs : s < 5) (hc : canChange A s m) (hl : A (514 * s + 4) < 100) : PI (qProp A s 3 (qMem A s).1 m) := by
  obtain ⟨H, F, h⟩ := h
  obtain ⟨c1, c2, c3, c4⟩ := hc
  obtain ⟨m1, m2⟩ := PG_mem h hs
  obtain ⟨a1, a2, a3⟩ := PG_al h hs
  refine PG_prop h hs c1 hl (fun z => absurd z (by decide)) (fun _ => ⟨?_, ?_⟩)
  · rw [← m1]
    unfold w2
    rw [if_pos c2]
  · obtain ⟨e7, b7, c7⟩ := nA_r (PG_k h hs).1.1.2.2.2.2
    have lcl := lcp_le (f := F s) (n := nA A (514 * s + 4))
    rw [m2, e7, nI_ltI (by omega) (by split <;> omega)] at c3
    split at c3
    · omega
    · omega
