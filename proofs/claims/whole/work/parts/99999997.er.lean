/-! ===== who could lead: what may be left out ===== -/
def canC (A : Rw) (i : Nat) : Prop := canCm A (rowM A i 0).toNatClampNeg (rowM A i 1).toNatClampNeg
def mayH (g : Rw) (s n : Nat) : Prop := if n = 1 then g 1 = nI s ∧ elK (g 3) else if n = 2 then g 1 = nI s ∨ (g 0 = nI s ∧ (g 3 = 0 ∨ g 3 = 7)) else True
def kR (s : Nat) : Nat → Rw → Prop := fun n A => match n with
  | 0 => A (514 * s + 3) = 2
  | n + 1 => A (514 * s + 3) = 2 ∨ (∃ t, t < 5 ∧ (t = s ∨ 2 < n + 1) ∧ canT A t ∧ kR s n (qAsks A t)) ∨ ∃ i, i < (A 4510).toNatClampNeg ∧ mayH (rowM A i) s (n + 1) ∧ canC A i ∧ kR s n (qComes A i)
def bP (s : Nat) : Nat → Rw → Prop := fun n A => match n with
  | 0 => A (514 * s + 3) = 2
  | n + 1 => A (514 * s + 3) = 2 ∨ (∃ t, t < 5 ∧ canT A t ∧ bP s n (qAsks A t)) ∨ ∃ i, i < (A 4510).toNatClampNeg ∧ bP s n (qComes A i)
theorem kR_s {s n : Nat} {A : Rw} : kR s (n + 1) A = (A (514 * s + 3) = 2 ∨ (∃ t, t < 5 ∧ (t = s ∨ 2 < n + 1) ∧ canT A t ∧ kR s n (qAsks A t)) ∨ ∃ i, i < (A 4510).toNatClampNeg ∧ mayH (rowM A i) s (n + 1) ∧ canC A i ∧ kR s n (qComes A i)) := rfl
theorem bP_s {s n : Nat} {A : Rw} : bP s (n + 1) A = (A (514 * s + 3) = 2 ∨ (∃ t, t < 5 ∧ canT A t ∧ bP s n (qAsks A t)) ∨ ∃ i, i < (A 4510).toNatClampNeg ∧ bP s n (qComes A i)) := rfl
theorem kR_bP {s : Nat} : ∀ {n : Nat} {A : Rw}, kR s n A → bP s n A := by
  intro n
  induction n with
  | zero => intro A h; exact h
  | succ n ih =>
    intro A h
    rw [kR_s] at h
    rw [bP_s]
    rcases h with h | ⟨t, t1, t2, t3, t4⟩ | ⟨i, i1, i2, i3, i4⟩
    · exact Or.inl h
    · exact Or.inr (Or.inl ⟨t, t1, t3, ih t4⟩)
    · exact Or.inr (Or.inr ⟨i, i1, ih i4⟩)
section Cl
variable {A B : Rw} {s t i j : Nat}
theorem Lc_canT (hs : s < 5) (h : Lc s A B) (hl : rg (A (514 * s + 4)) 0 120) : canT B s ↔ canT A s := by
  unfold canT
  rw [Lc_mem hs h hl, h.at (j := 3) (by omega), h.at (j := 1) (by omega), h.1 (514 * s) (by omega) (by omega)]
theorem Lc_sym (h : Lc s A B) : Lc s B A := ⟨fun k a b => (h.1 k a b).symm, fun k a => (h.2 k a).symm⟩
theorem Lc_tr {C : Rw} (h : Lc s A B) (h' : Lc s B C) : Lc s A C := ⟨fun k a b => (h'.1 k a b).trans (h.1 k a b), fun k a => (h'.2 k a).trans (h.2 k a)⟩
theorem Fr_Lc (hs : s < 5) (hts : ¬ t = s) (h : Fr t A B) : Lc s A B := ⟨fun k a b => h k (by omega), fun k a => h k (by omega)⟩
theorem Eg_sym {g g' : Rw} (h : Eg g g') : Eg g' g := fun k hk => (h k hk).symm
theorem Eg_tr {g g' g'' : Rw} (h : Eg g g') (h' : Eg g' g'') : Eg g g'' := fun k hk => (h' k hk).trans (h k hk)
theorem canC_of (h : Lc t A B) (ht : t < 5) (e : Eg (rowM A i) (rowM B j)) (et : rowM A i 1 = nI t) : canC B j ↔ canC A i := by
  unfold canC
  rw [e 0 (by omega), e 1 (by omega), et, nI_clamp (show t < 2 ^ 31 by omega)]
  exact Lc_can h
/-- what is seen by s alone -/
def inMs (s : Nat) (A B : Rw) : Prop := ∀ j, j < (B 4510).toNatClampNeg → rowM B j 1 = nI s → elK (rowM B j 3) → ∃ i, i < (A 4510).toNatClampNeg ∧ Eg (rowM A i) (rowM B j)
theorem back1 (hs : s < 5) (ca : cmOK A) (cb : cmOK B) (h : Lc s A B) (hm : inMs s A B) (hR : kR s 1 B) : kR s 1 A := by
  rw [kR_s] at hR ⊢
  rcases hR with c | ⟨t, t1, t2, t3, t4⟩ | ⟨j, j1, j2, j3, j4⟩
  · exact Or.inl (by rw [← h.at (j := 3) (by omega)]; exact c)
  · obtain rfl : t = s := by omega
    have c := (Lc_canT hs h (ca.1 t hs).1.1.2.1).mp t3
    refine Or.inr (Or.inl ⟨t, t1, t2, c, ?_⟩)
    have := (Lc_asks hs h (suOK_to (ca.1 t hs) c) (suOK_to (cb.1 t hs) t3)).at (j := 3) (by omega)
    show qAsks A t (514 * t + 3) = 2
    rw [← this]
    exact t4
  · unfold mayH at j2
    rw [if_pos rfl] at j2
    obtain ⟨i, i1, i2⟩ := hm j j1 j2.1 j2.2
    have et : rowM A i 1 = nI s := (i2 1 (by omega)).symm.trans j2.1
    refine Or.inr (Or.inr ⟨i, i1, ?_, (canC_of h hs i2 et).mp j3, ?_⟩)
    · unfold mayH
      rw [if_pos rfl]
      exact ⟨et, by rw [← i2 3 (by omega)]; exact j2.2⟩
    · have := (Lc_comes hs h ca cb i1 j1 i2 et).at (j := 3) (by omega)
      show qComes A i (514 * s + 3) = 2
      rw [← this]
      exact j4
theorem up12 (h : kR s 1 A) : kR s 2 A := by
  rw [kR_s] at h ⊢
  rcases h with c | ⟨t, t1, t2, t3, t4⟩ | ⟨j, j1, j2, j3, j4⟩
  · exact Or.inl c
  · exact Or.inr (Or.inl ⟨t, t1, Or.inl (by omega), t3, by rw [kR_s]; exact Or.inl t4⟩)
  · unfold mayH at j2
    rw [if_pos rfl] at j2
    exact Or.inr (Or.inr ⟨j, j1, by unfold mayH; rw [if_neg (by decide), if_pos rfl]; exact Or.inl j2.1, j3, by rw [kR_s]; exact Or.inl j4⟩)
theorem C1 (hs : s < 5) (ca : cmOK A) (h : bP s 1 A) : kR s 1 A := by
  by_cases r : A (514 * s + 3) = 2
  · exact Or.inl r
  · rw [bP_s] at h
    rw [kR_s]
    rcases h with c | ⟨t, t1, t3, t4⟩ | ⟨j, j1, j4⟩
    · exact Or.inl c
    · by_cases e : t = s
      · exact Or.inr (Or.inl ⟨t, t1, Or.inl e, t3, t4⟩)
      · have := Fr_asks t1 (suOK_to (ca.1 t t1) t3) (514 * s + 3) (by omega)
        exact absurd (this.symm.trans t4) r
    · obtain ⟨e1, e2, f, e3, e4, e5⟩ := comes_ne hs ca j1 r j4
      refine Or.inr (Or.inr ⟨j, j1, ?_, ?_, j4⟩)
      · unfold mayH
        rw [if_pos rfl]
        exact ⟨e1, e2⟩
      · unfold canC
        rw [e4, e1, nI_clamp (by omega), nI_clamp (by omega)]
        exact e5
/-- no message is new -/
theorem asks_in (ht : t < 5) (ca : cmOK A) (cb : cmOK (qAsks A t)) (hT : canT A t) : (∀ k, k < (qAsks A t 4510).toNatClampNeg → (∃ i, i < (A 4510).toNatClampNeg ∧ Eg (rowM A i) (rowM (qAsks A t) k)) ∨ (¬ rowM (qAsks A t) k 1 = nI t ∧ ¬ elK (rowM (qAsks A t) k 3))) ∧ ∀ i, i < (A 4510).toNatClampNeg → ∃ k, k < (qAsks A t 4510).toNatClampNeg ∧ Eg (rowM A i) (rowM (qAsks A t) k) := by
  obtain ⟨m1, m2, m3⟩ := Mp_asks (X := fun _ => False) ht (suOK_to (ca.1 t ht) hT)
  obtain ⟨w, ew, ew0, -, ew1⟩ := rg_ex (cb.1 0 (by decide)).1.1.1
  rw [ew, nI_clamp ew0] at m1 m3 ⊢
  refine ⟨fun k hk => ?_, fun i hi => ⟨i, by omega, m2 i hi (by omega)⟩⟩
  by_cases c : k < (A 4510).toNatClampNeg
  · exact Or.inl ⟨k, c, m2 k c (by omega)⟩
  · obtain ⟨n1, n2⟩ := m3 k (by omega) hk (by omega)
    exact Or.inr ⟨n1, n2⟩
theorem ix_lt {v k : Nat} (hk : k < v) : ix i k < v + 1 ∧ ix i k ≠ i := by
  unfold ix
  split <;> omega
theorem comes_in (ca : cmOK A) (cb : cmOK (qComes A i)) (hi : i < (A 4510).toNatClampNeg) (ht : t < 5) (et : rowM A i 1 = nI t) : (∀ k, k < (qComes A i 4510).toNatClampNeg → (∃ j, j < (A 4510).toNatClampNeg ∧ j ≠ i ∧ Eg (rowM A j) (rowM (qComes A i) k)) ∨ (nwM (Xk A i) t (rowM (qComes A i) k) ∧ (A 4510).toNatClampNeg ≤ k + 1)) ∧ ∀ j, j < (A 4510).toNatClampNeg → j ≠ i → ∃ k, k < (qComes A i 4510).toNatClampNeg ∧ Eg (rowM A j) (rowM (qComes A i) k) := by
  obtain ⟨m1, m2, m3⟩ := comes_mp ca hi ht et
  obtain ⟨w, ew, ew0, -, ew1⟩ := rg_ex (ca.1 0 (by decide)).1.1.1
  obtain ⟨w', ew', ew0', -, ew1'⟩ := rg_ex (cb.1 0 (by decide)).1.1.1
  rw [ew, nI_clamp ew0] at hi
  obtain ⟨v, rfl⟩ : ∃ v, w = v + 1 := ⟨w - 1, by omega⟩
  have eo : (qOut A i 4510).toNatClampNeg = v := by rw [qOut_w, ew, show (1 : Int32) = nI 1 from rfl, pk_sub (by omega), nI_clamp (by omega)]; omega
  have ha : (A 4510).toNatClampNeg = v + 1 := by rw [ew, nI_clamp ew0]
  rw [eo] at m1 m2 m3
  rw [ha]
  rw [ew', nI_clamp ew0'] at m1 m3 ⊢
  refine ⟨fun k hk => ?_, fun j hj hji => ?_⟩
  · by_cases c : k < v
    · obtain ⟨l1, l2⟩ := ix_lt (i := i) c
      exact Or.inl ⟨ix i k, l1, l2, Eg_tr (out_row ha (by omega) (by omega) c) (m2 k c (by omega))⟩
    · exact Or.inr ⟨m3 k (by omega) hk (by omega), by omega⟩
  · obtain ⟨k, hk, ek⟩ : ∃ k, k < v ∧ ix i k = j := by
      by_cases c : j < i
      · exact ⟨j, by omega, by unfold ix; rw [if_neg (by omega)]⟩
      · exact ⟨j - 1, by omega, by unfold ix; rw [if_pos (by omega)]; omega⟩
    refine ⟨k, by omega, ?_⟩
    rw [← ek]
    exact Eg_tr (out_row ha (by omega) (by omega) hk) (m2 k hk (by omega))
/-- a message that can't come is gone -/
theorem gone (ca : cmOK A) (hi : i < (A 4510).toNatClampNeg) (hc : ¬ canC A i) : qComes A i = up (qOut A i) 4511 (qOut A i 4511 + 1) := by
  obtain ⟨f, ef, ef0, -, ef1⟩ := rg_ex (ca.2 i hi).1
  obtain ⟨t, et, et0, -, et1⟩ := rg_ex (ca.2 i hi).2.1
  rw [comes_eq ef (by omega) et (by omega), if_pos]
  rw [can_out ca (by omega)]
  unfold canC at hc
  rw [ef, et, nI_clamp ef0, nI_clamp et0] at hc
  exact hc
theorem gone_k (ca : cmOK A) (hi : i < (A 4510).toNatClampNeg) (hc : ¬ canC A i) {k : Nat} (hk : k < 2570 ∨ 4513 ≤ k) : qComes A i k = A k := by
  rw [gone ca hi hc, up_ne (by omega)]
  exact out_k ca hk
theorem gone_row (ca : cmOK A) (hi : i < (A 4510).toNatClampNeg) (hc : ¬ canC A i) {k : Nat} (hk : k < (qComes A i 4510).toNatClampNeg) : ix i k < (A 4510).toNatClampNeg ∧ ix i k ≠ i ∧ Eg (rowM A (ix i k)) (rowM (qComes A i) k) := by
  obtain ⟨w, ew, ew0, -, ew1⟩ := rg_ex (ca.1 0 (by decide)).1.1.1
  rw [ew, nI_clamp ew0] at hi
  obtain ⟨v, rfl⟩ : ∃ v, w = v + 1 := ⟨w - 1, by omega⟩
  have ha : (A 4510).toNatClampNeg = v + 1 := by rw [ew, nI_clamp ew0]
  have hi' : i < (A 4510).toNatClampNeg := by omega
  have eo : (qComes A i 4510).toNatClampNeg = v := by rw [gone ca hi' hc, up_ne (by omega), qOut_w, ew, show (1 : Int32) = nI 1 from rfl, pk_sub (by omega), nI_clamp (by omega)]; omega
  rw [eo] at hk
  obtain ⟨l1, l2⟩ := ix_lt (i := i) hk
  refine ⟨by omega, l2, Eg_tr (out_row ha (by omega) (by omega) hk) (fun q hq => ?_)⟩
  rw [gone ca hi' hc]
  exact up_ne (by omega)
theorem C2 (hs : s < 5) (hG : Gd A) (h : bP s 2 A) : kR s 2 A := by
  have ca := good_cm (Gd_good hG)
  rw [bP_s] at h
  rcases h with c | ⟨t, t1, t3, t4⟩ | ⟨i, i1, i4⟩
  · exact Or.inl c
  · have gB := Gd_step hG (Sp.asks t1 (by rw [canT_eq]; exact t3))
    have cb := good_cm (Gd_good gB)
    have r1 := C1 hs cb t4
    by_cases e : t = s
    · rw [kR_s]; exact Or.inr (Or.inl ⟨t, t1, Or.inl e, t3, r1⟩)
    · refine up12 (back1 hs ca cb (Fr_Lc hs e (Fr_asks t1 (suOK_to (ca.1 t t1) t3))) (fun j j1 j2 j3 => ?_) r1)
      rcases (asks_in t1 ca cb t3).1 j j1 with q | q
      · exact q
      · exact absurd j3 q.2
  · have gB := Gd_step hG (Sp.comes i1)
    have cb := good_cm (Gd_good gB)
    have r1 := C1 hs cb i4
    by_cases e : mayH (rowM A i) s 2 ∧ canC A i
    · rw [kR_s]; exact Or.inr (Or.inr ⟨i, i1, e.1, e.2, r1⟩)
    · obtain ⟨t, et, et0, -, et1⟩ := rg_ex (ca.2 i i1).2.1
      refine up12 (back1 hs ca cb ?_ (fun j j1 j2 j3 => ?_) r1)
      · by_cases c : t = s
        · have nc : ¬ canC A i := fun q => e ⟨by unfold mayH; rw [if_neg (by decide), if_pos rfl]; exact Or.inl (by rw [← c]; exact et), q⟩
          exact ⟨fun k a b => gone_k ca i1 nc (by omega), fun k a => gone_k ca i1 nc (by omega)⟩
        · have fr := Fr_comes ca i1
          have et' : A (2570 + 21 * i + 1) = nI t := et
          rw [et', nI_clamp et0] at fr
          exact Fr_Lc hs c fr
      · by_cases nc : canC A i
        · rcases (comes_in ca cb i1 (by omega) et).1 j j1 with ⟨k, k1, -, k2⟩ | ⟨q, -⟩
          · exact ⟨k, k1, k2⟩
          · obtain ⟨x1, x2⟩ := q.2 j3
            exfalso
            refine e ⟨?_, nc⟩
            unfold mayH
            rw [if_neg (by decide), if_pos rfl]
            exact Or.inr ⟨x2.symm.trans j2, x1⟩
        · obtain ⟨g1, -, g2⟩ := gone_row ca i1 nc j1
          exact ⟨_, g1, g2⟩
end Cl
