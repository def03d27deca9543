/-! ===== agreement: rows ===== -/
def nA (A : Rw) (i : Nat) : Nat := (A i).toNatClampNeg
def enA (A : Rw) (i : Nat) : En := (A i, A (i + 1), A (i + 2), A (i + 3))
def vX (A : Rw) (F : Nat → Lg) (s : Nat) : Xr := mkX (nA A (514 * s + 1)) (A (514 * s + 2)) (A (514 * s + 3)) (nA A (514 * s + 4)) (nA A (514 * s + 7)) (A (514 * s + 8)) (fun v => if v < 5 then nA A (514 * s + 29 + v) else 0) (F s)
def LkN (A : Rw) (s : Nat) : Prop := A (514 * s + 3) = 2 → ∀ t, t < 5 → 1 ≤ nA A (514 * s + 24 + t) ∧ nA A (514 * s + 24 + t) ≤ nA A (514 * s + 4) + 1
def LkR (A : Rw) (s : Nat) : Prop := (rg (A (514 * s + 1)) 0 200 ∧ rg (A (514 * s + 4)) 0 120 ∧ rg (A (514 * s + 5)) 0 120 ∧ rg (A (514 * s + 6)) 0 200 ∧ rg (A (514 * s + 7)) 0 120) ∧
  rg (A (514 * s + 12)) 0 3 ∧ (∀ t, t < 5 → rg (A (514 * s + 24 + t)) 0 121 ∧ rg (A (514 * s + 29 + t)) 0 120) ∧ nA A (514 * s + 5) ≤ nA A (514 * s + 7) ∧ (A (514 * s + 9) = 0 → A (514 * s + 10) = 0)
def LkS (A : Rw) (f : Lg) (s : Nat) : Prop := nA A (514 * s + 6) = ltm f (nA A (514 * s + 5)) ∧ (fst1 (A 4514) (A (514 * s + 9)), A (514 * s + 10)) = cfg (A 4514) f (nA A (514 * s + 5))
def LkE (A : Rw) (f : Lg) (s : Nat) : Prop := ∀ p, nA A (514 * s + 5) < p → p ≤ nA A (514 * s + 4) → enA A (514 * s + 30 + 4 * p) = f p
def Lk (A : Rw) (f : Lg) (s : Nat) : Prop := LkR A s ∧ LkN A s ∧ LkS A f s ∧ LkE A f s
def enV (e : En) : Prop := rg e.1 1 200 ∧ ((e.2.1 = 1 ∨ e.2.1 = 2) → rg e.2.2.1 0 3)
def EV (H : Gh) : Prop := ∀ T, 1 ≤ gI H T → T ≤ 200 ∧ gN H T ≤ 120 ∧ ∀ p, 1 ≤ p → p ≤ gN H T → enV (gL H T p)
def m0 (X : Nat → Xr) (g : Rw) : Prop := rg (g 4) 0 120 ∧ rg (g 5) 0 200 ∧ nA g 2 ≤ xT (X (nA g 0)) ∧ nA g 5 < nA g 2 ∧ (xR (X (nA g 0)) = 1 → xT (X (nA g 0)) = nA g 2 → nA g 4 = xL (X (nA g 0)) ∧ nA g 5 = ltm (xF (X (nA g 0))) (xL (X (nA g 0))))
def m2 (H : Gh) (g : Rw) : Prop := gI H (nA g 2) = nA g 0 + 1 ∧ (rg (g 4) 0 120 ∧ rg (g 5) 0 200 ∧ rg (g 6) 0 3 ∧ rg (g 7) 0 120) ∧ nA g 4 + nA g 6 ≤ gN H (nA g 2) ∧ nA g 5 = ltm (gL H (nA g 2)) (nA g 4) ∧ (∀ k, k < nA g 6 → k < 3 → enA g (9 + 4 * k) = gL H (nA g 2) (nA g 4 + 1 + k)) ∧ nA g 7 ≤ gN H (nA g 2) ∧ (1 ≤ nA g 7 → ∃ i, i < gM H ∧ cov H (gL H (nA g 2)) (nA g 7) (nA g 2) i)
def m4 (H : Gh) (g : Rw) : Prop := gI H (nA g 2) = nA g 0 + 1 ∧ (rg (g 4) 0 120 ∧ rg (g 5) 0 200 ∧ 1 ≤ nA g 4) ∧ nA g 4 ≤ gN H (nA g 2) ∧ nA g 5 = ltm (gL H (nA g 2)) (nA g 4) ∧ (g 13 = 0 → g 14 = 0) ∧ (fst1 (gX H) (g 13), g 14) = cfg (gX H) (gL H (nA g 2)) (nA g 4) ∧ ∃ i, i < gM H ∧ cov H (gL H (nA g 2)) (nA g 4) (nA g 2) i
def MsI (H : Gh) (X : Nat → Xr) (g : Rw) : Prop := (rg (g 0) 0 4 ∧ rg (g 1) 0 4 ∧ ¬ g 0 = g 1 ∧ rg (g 2) 0 200 ∧ rg (g 3) 0 8) ∧ (g 3 = 0 → m0 X g) ∧ (g 3 = 1 → g 4 = 1 → (gV H (nA g 2) (nA g 0)).1 = nA g 1 + 1) ∧ (g 3 = 2 → m2 H g) ∧
  (g 3 = 3 → rg (g 5) (-1) 120 ∧ (g 4 = 1 → 0 ≤ (g 5).toInt ∧ nA g 5 ≤ gK H (nA g 2) (nA g 0))) ∧ (g 3 = 4 → m4 H g) ∧ (g 3 = 5 → rg (g 4) 0 120 ∧ nA g 4 ≤ gK H (nA g 2) (nA g 0)) ∧ (g 3 = 8 → g 4 = 0 ∨ g 4 = 1)
def PG (H : Gh) (F : Nat → Lg) (A : Rw) : Prop := Hst H ∧ EV H ∧ (gX H = A 4514 ∧ rg (A 4514) 1 31 ∧ rg (A 4510) 0 60) ∧ (∀ s, s < 5 → dS H s (vX A F s) ∧ Lk A (F s) s) ∧ ∀ i, i < nA A 4510 → MsI H (vX A F) (rowM A i)
def Xle (x x' : Xr) : Prop := xT x ≤ xT x' ∧ (xR x' = 1 → xT x' = xT x → xR x = 1 ∧ xL x' = xL x ∧ xF x' = xF x)
theorem Xle_refl {x : Xr} : Xle x x := ⟨Nat.le_refl _, fun h _ => ⟨h, rfl, rfl⟩⟩
theorem ltm_eq {f g : Lg} {n : Nat} (h : Eqp f g n) : ltm f n = ltm g n := by
  unfold ltm
  split
  · rfl
  · rw [h n (by omega) (Nat.le_refl _)]
theorem MsI_congr {H : Gh} {X : Nat → Xr} {g g' : Rw} (h : ∀ k, k < 21 → g' k = g k) (hm : MsI H X g) : MsI H X g' := by
  have e : ∀ k, k < 21 → nA g' k = nA g k := fun k hk => by unfold nA; rw [h k hk]
  have en : ∀ k, k < 3 → enA g' (9 + 4 * k) = enA g (9 + 4 * k) := fun k hk => by unfold enA; rw [h _ (by omega), h _ (by omega), h _ (by omega), h _ (by omega)]
  unfold MsI m0 m2 m4 at *
  simp (disch := omega) only [h, e]
  refine ⟨hm.1, hm.2.1, hm.2.2.1, fun z => ?_, hm.2.2.2.2⟩
  obtain ⟨a, b, c, d, f, g⟩ := hm.2.2.2.1 z
  exact ⟨a, b, c, d, fun k k1 k2 => by rw [en k k2]; exact f k k1 k2, g⟩
theorem MsI_le {H H' : Gh} {X X' : Nat → Xr} {g : Rw} (hm : MsI H X g) (hs : Hst H) (le : Hle H H') (hX : ∀ f, f < 5 → Xle (X f) (X' f)) : MsI H' X' g := by
  obtain ⟨a, b0, b1, b2, b3, b4, b5, b8⟩ := hm
  have hf : nA g 0 < 5 := by
    obtain ⟨n, e, e0, -, e1⟩ := rg_ex a.1
    unfold nA
    rw [e, nI_clamp e0]
    omega
  refine ⟨a, fun z => ?_, fun z y => ?_, fun z => ?_, fun z => ⟨(b3 z).1, fun y => ⟨((b3 z).2 y).1, Nat.le_trans ((b3 z).2 y).2 (le.2.2.2.2.1 _ _)⟩⟩, fun z => ?_, fun z => ⟨(b5 z).1, Nat.le_trans (b5 z).2 (le.2.2.2.2.1 _ _)⟩, b8⟩
  · obtain ⟨c1, c2, c3, c4, c5⟩ := b0 z
    obtain ⟨x1, x2⟩ := hX _ hf
    refine ⟨c1, c2, Nat.le_trans c3 x1, c4, fun y1 y2 => ?_⟩
    obtain ⟨w1, w2, w3⟩ := x2 y1 (by omega)
    rw [w2, w3]
    exact c5 w1 (by omega)
  · have := b1 z y
    rw [le.2.2.2.2.2 _ _ (by omega)]
    exact this
  · obtain ⟨c1, c2, c3, c4, c5, c6, c7⟩ := b2 z
    obtain ⟨l1, l2, l3, l4⟩ := le.1 (nA g 2) (by omega)
    refine ⟨by omega, c2, by omega, ?_, fun k k1 k2 => ?_, by omega, fun y => ?_⟩
    · rw [c4]; exact (ltm_eq (l4.mono (by omega))).symm
    · rw [c5 k k1 k2]; exact (l4 _ (by omega) (by omega)).symm
    · obtain ⟨i, i1, i2⟩ := c7 y
      obtain ⟨d1, d2, d3⟩ := cov_le le hs i1 i2
      exact ⟨i, Nat.lt_of_lt_of_le i1 le.2.1, d1, d2, (l4.mono c6).trans d3⟩
  · obtain ⟨c1, c2, c3, c4, c5, c6, i, i1, i2⟩ := b4 z
    obtain ⟨l1, l2, l3, l4⟩ := le.1 (nA g 2) (by omega)
    obtain ⟨d1, d2, d3⟩ := cov_le le hs i1 i2
    refine ⟨by omega, c2, by omega, ?_, c5, ?_, i, Nat.lt_of_lt_of_le i1 le.2.1, d1, d2, (l4.mono c3).trans d3⟩
    · rw [c4]; exact (ltm_eq (l4.mono c3)).symm
    · rw [le.2.2.2.1, c6]; exact (cfg_eq (l4.mono c3)).symm
theorem vX_congr {A B : Rw} {F : Nat → Lg} {s : Nat} (h : ∀ j, j < 514 → B (514 * s + j) = A (514 * s + j)) : vX B F s = vX A F s := by
  have e : ∀ j, j < 514 → nA B (514 * s + j) = nA A (514 * s + j) := fun j hj => by unfold nA; rw [h j hj]
  unfold vX
  rw [e 1 (by omega), h 2 (by omega), h 3 (by omega), e 4 (by omega), e 7 (by omega), h 8 (by omega)]
  congr 1
  funext v
  split
  · rw [show 514 * s + 29 + v = 514 * s + (29 + v) by omega]; exact e _ (by omega)
  · rfl
theorem nA_c {A B : Rw} {i : Nat} (h : B i = A i) : nA B i = nA A i := by unfold nA; rw [h]
theorem Lk_congr {A B : Rw} {f : Lg} {s : Nat} (h : ∀ j, j < 514 → j ≠ 0 → j ≠ 11 → (j < 12 ∨ 24 ≤ j) → B (514 * s + j) = A (514 * s + j)) (h12 : rg (B (514 * s + 12)) 0 3) (h4 : B 4514 = A 4514) (hl : Lk A f s) : Lk B f s := by
  obtain ⟨⟨⟨r1, r4, r5, r6, r7⟩, r12, rn, r57, r9⟩, hn, hS, hE⟩ := hl
  have e : ∀ j, j < 514 → j ≠ 0 → j ≠ 11 → (j < 12 ∨ 24 ≤ j) → nA B (514 * s + j) = nA A (514 * s + j) := fun j a b c d => nA_c (h j a b c d)
  have e4 := e 4 (by omega) (by omega) (by omega) (by omega)
  have e5 := e 5 (by omega) (by omega) (by omega) (by omega)
  have e6 := e 6 (by omega) (by omega) (by omega) (by omega)
  have e7 := e 7 (by omega) (by omega) (by omega) (by omega)
  have e24 : ∀ t, t < 5 → B (514 * s + 24 + t) = A (514 * s + 24 + t) := fun t ht => by rw [Nat.add_assoc]; exact h _ (by omega) (by omega) (by omega) (by omega)
  have e29 : ∀ t, t < 5 → B (514 * s + 29 + t) = A (514 * s + 29 + t) := fun t ht => by rw [Nat.add_assoc]; exact h _ (by omega) (by omega) (by omega) (by omega)
  refine ⟨⟨⟨?_, ?_, ?_, ?_, ?_⟩, h12, fun t ht => ?_, by omega, ?_⟩, ?_, ⟨?_, ?_⟩, fun p p1 p2 => ?_⟩
  · rw [h 1 (by omega) (by omega) (by omega) (by omega)]; exact r1
  · rw [h 4 (by omega) (by omega) (by omega) (by omega)]; exact r4
  · rw [h 5 (by omega) (by omega) (by omega) (by omega)]; exact r5
  · rw [h 6 (by omega) (by omega) (by omega) (by omega)]; exact r6
  · rw [h 7 (by omega) (by omega) (by omega) (by omega)]; exact r7
  · rw [e24 t ht, e29 t ht]; exact rn t ht
  · rw [h 9 (by omega) (by omega) (by omega) (by omega), h 10 (by omega) (by omega) (by omega) (by omega)]; exact r9
  · intro z t ht
    rw [h 3 (by omega) (by omega) (by omega) (by omega)] at z
    rw [e4, nA_c (e24 t ht)]
    exact hn z t ht
  · rw [e6, e5]; exact hS.1
  · rw [e5, h4, h 9 (by omega) (by omega) (by omega) (by omega), h 10 (by omega) (by omega) (by omega) (by omega)]; exact hS.2
  · rw [e5] at p1
    rw [e4] at p2
    have hp : p ≤ 120 := by
      obtain ⟨n, z, z0, -, z1⟩ := rg_ex r4
      unfold nA at p2
      rw [z, nI_clamp z0] at p2
      omega
    rw [← hE p p1 p2]
    have ex : ∀ c, c < 4 → B (514 * s + 30 + 4 * p + c) = A (514 * s + 30 + 4 * p + c) := fun c hc => by
      rw [show 514 * s + 30 + 4 * p + c = 514 * s + (30 + 4 * p + c) by omega]
      exact h _ (by omega) (by omega) (by omega) (by omega)
    have e0 := ex 0 (by omega)
    unfold enA
    rw [ex 1 (by omega), ex 2 (by omega), ex 3 (by omega)]
    rw [Nat.add_zero] at e0
    rw [e0]
/-- what isn't told of here changes -/
theorem PG_idle {H : Gh} {F : Nat → Lg} {A B : Rw} (h : PG H F A) (hS : ∀ s, s < 5 → (∀ j, j < 514 → j ≠ 0 → j ≠ 11 → (j < 12 ∨ 24 ≤ j) → B (514 * s + j) = A (514 * s + j)) ∧ rg (B (514 * s + 12)) 0 3) (hm : ∀ k, 2570 ≤ k → k < 3830 → B k = A k) (h0 : B 4510 = A 4510) (h4 : B 4514 = A 4514) : PG H F B := by
  obtain ⟨a, b, c, d, e⟩ := h
  have ev : ∀ s, s < 5 → vX B F s = vX A F s := by
    intro s hs
    have hh := (hS s hs).1
    have e : ∀ j, j < 514 → j ≠ 0 → j ≠ 11 → (j < 12 ∨ 24 ≤ j) → nA B (514 * s + j) = nA A (514 * s + j) := fun j a b c d => nA_c (hh j a b c d)
    unfold vX
    rw [e 1 (by omega) (by omega) (by omega) (by omega), hh 2 (by omega) (by omega) (by omega) (by omega), hh 3 (by omega) (by omega) (by omega) (by omega), e 4 (by omega) (by omega) (by omega) (by omega), e 7 (by omega) (by omega) (by omega) (by omega), hh 8 (by omega) (by omega) (by omega) (by omega)]
    congr 1
    funext v
    split
    · rw [Nat.add_assoc]; exact e _ (by omega) (by omega) (by omega) (by omega)
    · rfl
  refine ⟨a, b, by rw [h0, h4]; exact c, fun s hs => ⟨by rw [ev s hs]; exact (d s hs).1, Lk_congr (hS s hs).1 (hS s hs).2 h4 (d s hs).2⟩, fun i hi => ?_⟩
  rw [nA_c h0] at hi
  have hi2 : i < 60 := by
    obtain ⟨n, z, z0, -, z1⟩ := rg_ex c.2.2
    unfold nA at hi
    rw [z, nI_clamp z0] at hi
    omega
  refine MsI_congr (fun k hk => hm _ (by omega) (by omega)) (MsI_le (e i hi) a ?_ (fun f hf => by rw [ev f hf]; exact Xle_refl))
  exact ⟨fun _ _ => ⟨rfl, rfl, Nat.le_refl _, Eqp.refl⟩, Nat.le_refl _, fun _ _ => rfl, rfl, fun _ _ => Nat.le_refl _, fun _ _ _ => rfl⟩
theorem Hle_refl {H : Gh} : Hle H H := ⟨fun _ _ => ⟨rfl, rfl, Nat.le_refl _, Eqp.refl⟩, Nat.le_refl _, fun _ _ => rfl, rfl, fun _ _ => Nat.le_refl _, fun _ _ _ => rfl⟩
def upG (F : Nat → Lg) (s : Nat) (f : Lg) : Nat → Lg := fun t => if t = s then f else F t
theorem upG_at {F : Nat → Lg} {s : Nat} {f : Lg} : upG F s f s = f := if_pos rfl
theorem upG_ne {F : Nat → Lg} {s t : Nat} {f : Lg} (h : ¬ t = s) : upG F s f t = F t := if_neg h
theorem upG_self {F : Nat → Lg} {s : Nat} : upG F s (F s) = F := by funext t; unfold upG; split <;> simp_all
theorem vX_ne {A : Rw} {F : Nat → Lg} {s t : Nat} {f : Lg} (h : ¬ t = s) : vX A (upG F s f) t = vX A F t := by unfold vX; rw [upG_ne h]
/-- one store changes, and what has been -/
theorem PG_st {H H' : Gh} {F : Nat → Lg} {A B : Rw} {s : Nat} {f : Lg} (h : PG H F A) (hs : s < 5) (le : Hle H H') (h1 : Hst H') (h2 : EV H') (hB : ∀ k, (k < 514 * s ∨ 514 * s + 514 ≤ k) → (k < 3830 ∨ k = 4510 ∨ k = 4514) → B k = A k)
    (ho : ∀ t, t < 5 → ¬ t = s → dS H' t (vX A F t)) (hd : dS H' s (vX B (upG F s f) s)) (hl : Lk B f s) (hx : Xle (vX A F s) (vX B (upG F s f) s)) : PG H' (upG F s f) B := by
  obtain ⟨a, b, c, d, e⟩ := h
  have h0 : B 4510 = A 4510 := hB _ (by omega) (by omega)
  have h4 : B 4514 = A 4514 := hB _ (by omega) (by omega)
  have ev : ∀ t, t < 5 → ¬ t = s → vX B (upG F s f) t = vX A F t := fun t ht hts => by
    rw [vX_ne hts]
    exact vX_congr (fun j hj => hB _ (by omega) (by omega))
  refine ⟨h1, h2, by rw [le.2.2.2.1, h0, h4]; exact c, fun t ht => ?_, fun i hi => ?_⟩
  · by_cases hts : t = s
    · subst hts
      rw [upG_at]
      exact ⟨hd, hl⟩
    · rw [ev t ht hts, upG_ne hts]
      exact ⟨ho t ht hts, Lk_congr (fun j j1 _ _ _ => hB _ (by omega) (by omega)) (by rw [hB _ (by omega) (by omega)]; exact (d t ht).2.1.2.1) h4 (d t ht).2⟩
  · rw [nA_c h0] at hi
    have hi2 : i < 60 := by
      obtain ⟨n, z, z0, -, z1⟩ := rg_ex c.2.2
      unfold nA at hi
      rw [z, nI_clamp z0] at hi
      omega
    refine MsI_congr (fun k hk => hB _ (by omega) (by omega)) (MsI_le (e i hi) a le (fun t ht => ?_))
    by_cases hts : t = s
    · subst hts; exact hx
    · rw [ev t ht hts]; exact Xle_refl
theorem PG_post {H : Gh} {F : Nat → Lg} {A : Rw} {s t : Nat} {row : Rw} (h : PG H F A) (hm : MsI H (vX A F) row) : PG H F (qPost A s t row) := by
  have lost : PG H F (up A 4511 (A 4511 + 1)) := by
    refine PG_idle h (fun s hs => ⟨fun j j1 _ _ _ => up_ne (by omega), ?_⟩) (fun k k1 k2 => up_ne (by omega)) (up_ne (by omega)) (up_ne (by omega))
    rw [up_ne (by omega)]
    exact (h.2.2.2.1 s hs).2.1.2.1
  unfold qPost
  split
  · exact h
  · split
    · rename_i ok
      obtain ⟨a, b, c, d, e⟩ := h
      obtain ⟨n, z, z0, -, z1⟩ := rg_ex c.2.2
      have hn : n < 60 := by
        have := ok.2.1
        rw [z] at this
        have : ¬ n = 60 := fun q => this (by rw [q]; rfl)
        omega
      have e1 : (A 4510).toNatClampNeg = n := by rw [z, nI_clamp z0]
      have p4 : qPush A row 4510 = nI (n + 1) := by
        unfold qPush
        rw [e1, if_neg (by omega), if_pos rfl, z, nI_s1]
      have ph : ∀ k, k < 2570 + 21 * n ∨ 2570 + 21 * n + 21 ≤ k → k ≠ 4510 → qPush A row k = A k := by
        intro k k1 k2
        unfold qPush
        rw [e1, if_neg (by omega), if_neg k2]
      have ev : ∀ s, s < 5 → vX (qPush A row) F s = vX A F s := fun s hs => vX_congr (fun j hj => ph _ (by omega) (by omega))
      have xr : ∀ f, f < 5 → Xle (vX A F f) (vX (qPush A row) F f) := fun f hf => by rw [ev f hf]; exact Xle_refl
      refine ⟨a, b, ⟨by rw [ph _ (by omega) (by omega)]; exact c.1, by rw [ph _ (by omega) (by omega)]; exact c.2.1, by rw [p4, rg_nI (by omega)]; omega⟩, fun s hs => ⟨by rw [ev s hs]; exact (d s hs).1, Lk_congr (fun j j1 _ _ _ => ph _ (by omega) (by omega)) (by rw [ph _ (by omega) (by omega)]; exact (d s hs).2.1.2.1) (ph _ (by omega) (by omega)) (d s hs).2⟩, fun i hi => ?_⟩
      have hi : i < n + 1 := by
        unfold nA at hi
        rw [p4, nI_clamp (by omega)] at hi
        exact hi
      by_cases ci : i = n
      · subst ci
        refine MsI_congr (fun k hk => ?_) (MsI_le hm a Hle_refl xr)
        show qPush A row (2570 + 21 * i + k) = row k
        unfold qPush
        rw [e1, if_pos (by omega)]
        congr 1
        omega
      · refine MsI_congr (fun k hk => ph _ (by omega) (by omega)) (MsI_le (e i (by unfold nA; omega)) a Hle_refl xr)
    · exact lost
theorem PG_out {H : Gh} {F : Nat → Lg} {A : Rw} {i : Nat} (h : PG H F A) (hi : i < nA A 4510) : PG H F (qOut A i) := by
  obtain ⟨a, b, c, d, e⟩ := h
  obtain ⟨n, z, z0, -, z1⟩ := rg_ex c.2.2
  have e1 : (A 4510).toNatClampNeg = n := by rw [z, nI_clamp z0]
  have hi : i < n := by unfold nA at hi; omega
  have p4 : qOut A i 4510 = nI (n - 1) := by
    unfold qOut
    rw [up_at, z, show (1 : Int32) = nI 1 from rfl, pk_sub (by omega)]
  have hn : n ≤ 60 := by omega
  have ph : ∀ k, k < 2570 ∨ 3830 ≤ k → k ≠ 4510 → qOut A i k = A k := by
    intro k k1 k2
    rcases k1 with q | q
    · exact qOut_lo q
    · exact qOut_hi z hn q k2
  have pm : ∀ k, 2570 ≤ k → k < 2570 + 21 * (n - 1) → qOut A i k = if k < 2570 + 21 * i then A k else A (k + 21) := by
    intro k k1 k2
    unfold qOut
    rw [up_ne (by omega), e1]
    unfold cpF
    by_cases q : k < 2570 + 21 * i
    · rw [if_neg (by omega), if_pos q]
    · rw [if_pos (by omega), if_neg q]
      congr 1
      omega
  have ev : ∀ s, s < 5 → vX (qOut A i) F s = vX A F s := fun s hs => vX_congr (fun j hj => ph _ (by omega) (by omega))
  have xr : ∀ f, f < 5 → Xle (vX A F f) (vX (qOut A i) F f) := fun f hf => by rw [ev f hf]; exact Xle_refl
  refine ⟨a, b, ⟨by rw [ph _ (by omega) (by omega)]; exact c.1, by rw [ph _ (by omega) (by omega)]; exact c.2.1, by rw [p4, rg_nI (by omega)]; omega⟩, fun s hs => ⟨by rw [ev s hs]; exact (d s hs).1, Lk_congr (fun j j1 _ _ _ => ph _ (by omega) (by omega)) (by rw [ph _ (by omega) (by omega)]; exact (d s hs).2.1.2.1) (ph _ (by omega) (by omega)) (d s hs).2⟩, fun j hj => ?_⟩
  have hj : j < n - 1 := by
    unfold nA at hj
    rw [p4, nI_clamp (by omega)] at hj
    exact hj
  by_cases cj : j < i
  · refine MsI_congr (fun k hk => ?_) (MsI_le (e j (by unfold nA; omega)) a Hle_refl xr)
    show qOut A i (2570 + 21 * j + k) = A (2570 + 21 * j + k)
    rw [pm _ (by omega) (by omega), if_pos (by omega)]
  · refine MsI_congr (fun k hk => ?_) (MsI_le (e (j + 1) (by unfold nA; omega)) a Hle_refl xr)
    show qOut A i (2570 + 21 * j + k) = A (2570 + 21 * (j + 1) + k)
    rw [pm _ (by omega) (by omega), if_neg (by omega)]
    congr 1
    omega
theorem PG_twice {H : Gh} {F : Nat → Lg} {A : Rw} {i : Nat} (h : PG H F A) (hi : i < nA A 4510) (h60 : ¬ A 4510 = 60) : PG H F (qTwice A i) := by
  obtain ⟨a, b, c, d, e⟩ := h
  obtain ⟨n, z, z0, -, z1⟩ := rg_ex c.2.2
  have e1 : (A 4510).toNatClampNeg = n := by rw [z, nI_clamp z0]
  have hi : i < n := by unfold nA at hi; omega
  have hn : n < 60 := by
    have : ¬ n = 60 := fun q => h60 (by rw [z, q]; rfl)
    omega
  have p4 : qTwice A i 4510 = nI (n + 1) := by
    unfold qTwice
    rw [up_at, z, nI_s1]
  have ph : ∀ k, k < 2570 + 21 * n ∨ 2570 + 21 * n + 21 ≤ k → k ≠ 4510 → qTwice A i k = A k := by
    intro k k1 k2
    unfold qTwice
    rw [up_ne k2, e1, cpF_out (by omega)]
  have ev : ∀ s, s < 5 → vX (qTwice A i) F s = vX A F s := fun s hs => vX_congr (fun j hj => ph _ (by omega) (by omega))
  have xr : ∀ f, f < 5 → Xle (vX A F f) (vX (qTwice A i) F f) := fun f hf => by rw [ev f hf]; exact Xle_refl
  refine ⟨a, b, ⟨by rw [ph _ (by omega) (by omega)]; exact c.1, by rw [ph _ (by omega) (by omega)]; exact c.2.1, by rw [p4, rg_nI (by omega)]; omega⟩, fun s hs => ⟨by rw [ev s hs]; exact (d s hs).1, Lk_congr (fun j j1 _ _ _ => ph _ (by omega) (by omega)) (by rw [ph _ (by omega) (by omega)]; exact (d s hs).2.1.2.1) (ph _ (by omega) (by omega)) (d s hs).2⟩, fun j hj => ?_⟩
  have hj : j < n + 1 := by
    unfold nA at hj
    rw [p4, nI_clamp (by omega)] at hj
    exact hj
  by_cases cj : j = n
  · subst cj
    refine MsI_congr (fun k hk => ?_) (MsI_le (e i (by unfold nA; omega)) a Hle_refl xr)
    show qTwice A i (2570 + 21 * j + k) = A (2570 + 21 * i + k)
    unfold qTwice
    rw [up_ne (by omega), e1]
    unfold cpF
    rw [if_pos (by omega)]
    congr 1
    omega
  · exact MsI_congr (fun k hk => ph _ (by omega) (by omega)) (MsI_le (e j (by unfold nA; omega)) a Hle_refl xr)
