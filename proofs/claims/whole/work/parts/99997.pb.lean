/-! ===== agreement: what holds of each store, and what each small step keeps ===== -/
/-- term, voted, role, last, agreed, votes, has, log -/
abbrev Xr : Type := Nat × Int32 × Int32 × Nat × Nat × Int32 × (Nat → Nat) × Lg
def xT (x : Xr) : Nat := x.1
def xV (x : Xr) : Int32 := x.2.1
def xR (x : Xr) : Int32 := x.2.2.1
def xL (x : Xr) : Nat := x.2.2.2.1
def xA (x : Xr) : Nat := x.2.2.2.2.1
def xS (x : Xr) : Int32 := x.2.2.2.2.2.1
def xH (x : Xr) : Nat → Nat := x.2.2.2.2.2.2.1
def xF (x : Xr) : Lg := x.2.2.2.2.2.2.2
def dL (H : Gh) (x : Xr) : Prop := LM H (xF x) (xL x) ∧ (∀ p, 1 ≤ p → p ≤ xL x → tmE (xF x p) ≤ xT x) ∧ (xR x = 1 → 1 ≤ xT x ∧ ∀ p, 1 ≤ p → p ≤ xL x → tmE (xF x p) < xT x)
def dV (H : Gh) (s : Nat) (x : Xr) : Prop := (∀ T, xT x < T → (gV H T s).1 = 0) ∧ (xV x = -1 → (gV H (xT x) s).1 = 0) ∧ (∀ c, c < 5 → xV x = nI c → (gV H (xT x) s).1 = c + 1) ∧ (xV x = -1 ∨ ∃ c, c < 5 ∧ xV x = nI c)
def dI (H : Gh) (s : Nat) (x : Xr) : Prop := (∀ T v, (gV H T v).1 = s + 1 → T ≤ xT x) ∧ ∀ T, gI H T = s + 1 → T ≤ xT x ∧ (T = xT x → ¬ xR x = 1)
def dD (H : Gh) (s : Nat) (x : Xr) : Prop := xR x = 2 → gI H (xT x) = s + 1 ∧ gN H (xT x) = xL x ∧ Eqp (xF x) (gL H (xT x)) (xL x) ∧ gK H (xT x) s = xL x ∧ ∀ v, v < 5 → v ≠ s → xH x v ≤ gK H (xT x) v
def dK (H : Gh) (s : Nat) (x : Xr) : Prop := (∀ T, xT x < T → gK H T s = 0) ∧ ∀ T p, p ≤ gK H T s → (∀ t, T < t → t ≤ xT x → 1 ≤ gI H t → hasP H T p t) → p ≤ xL x ∧ Eqp (xF x) (gL H T) p
def dG (H : Gh) (x : Xr) : Prop := xA x ≤ xL x ∧ (1 ≤ xA x → ∃ i, i < gM H ∧ cov H (xF x) (xA x) (xT x) i)
def dC (H : Gh) (s : Nat) (x : Xr) : Prop := xR x = 1 → (∀ v, v < 5 → bit (xS x) v → (gV H (xT x) v).1 = s + 1) ∧ (∀ v, (gV H (xT x) v).1 = s + 1 → far (xF x) (xL x) (gV H (xT x) v).2.1 (gV H (xT x) v).2.2) ∧ xV x = nI s
def dS (H : Gh) (s : Nat) (x : Xr) : Prop := dL H x ∧ dV H s x ∧ dI H s x ∧ dD H s x ∧ dK H s x ∧ dG H x ∧ dC H s x
def mkX (T : Nat) (v r : Int32) (l a : Nat) (q : Int32) (h : Nat → Nat) (f : Lg) : Xr := (T, v, r, l, a, q, h, f)
/-! steps of a store alone -/
theorem dS_role {H : Gh} {s : Nat} {x : Xr} {r q : Int32} {h : Nat → Nat} (d : dS H s x) (h1 : ¬ r = 1) (h2 : ¬ r = 2) : dS H s (mkX (xT x) (xV x) r (xL x) (xA x) q h (xF x)) := by
  obtain ⟨a, b, c, _, e, f, _⟩ := d
  exact ⟨⟨a.1, a.2.1, fun z => absurd z h1⟩, b, ⟨c.1, fun T hT => ⟨(c.2 T hT).1, fun _ => h1⟩⟩, fun z => absurd z h2, e, f, fun z => absurd z h1⟩
/-- what isn't told of (votes of one that asks first, what others have of one that leads no more) -/
theorem dS_idle {H : Gh} {s : Nat} {x : Xr} {q : Int32} {h : Nat → Nat} (d : dS H s x) (h1 : ¬ xR x = 1) (h2 : ¬ xR x = 2) : dS H s (mkX (xT x) (xV x) (xR x) (xL x) (xA x) q h (xF x)) := dS_role d h1 h2
theorem cov_T {H : Gh} {f : Lg} {q T T' i : Nat} (h : cov H f q T i) (hT : T ≤ T') : cov H f q T' i := ⟨Nat.le_trans h.1 hT, h.2⟩
theorem dS_term {H : Gh} {s T' : Nat} {x : Xr} {r q : Int32} {h : Nat → Nat} (d : dS H s x) (hT : xT x < T') (h1 : ¬ r = 1) (h2 : ¬ r = 2) : dS H s (mkX T' (-1) r (xL x) (xA x) q h (xF x)) := by
  obtain ⟨a, b, c, _, e, f, _⟩ := d
  refine ⟨⟨a.1, fun p p1 p2 => ?_, fun z => absurd z h1⟩, ⟨fun T hT2 => ?_, fun _ => ?_, fun c _ z => ?_, Or.inl rfl⟩, ⟨fun T v hv => ?_, fun T hT2 => ⟨?_, fun _ => h1⟩⟩, fun z => absurd z h2, ⟨fun T hT2 => ?_, fun T p hp ht => ?_⟩, ⟨f.1, fun z => ?_⟩, fun z => absurd z h1⟩
  · have : tmE (xF x p) ≤ xT x := a.2.1 p p1 p2
    show tmE (xF x p) ≤ T'
    omega
  · have hT2 : T' < T := hT2
    exact b.1 T (by omega)
  · exact b.1 T' hT
  · exact absurd z.symm (nI_nm1 (by omega))
  · have := c.1 T v hv
    show T ≤ T'
    omega
  · have := (c.2 T hT2).1
    show T ≤ T'
    omega
  · have hT2 : T' < T := hT2
    exact e.1 T (by omega)
  · exact e.2 T p hp (fun t t1 t2 t3 => ht t t1 (show t ≤ T' by omega) t3)
  · obtain ⟨i, i1, i2⟩ := f.2 z
    exact ⟨i, i1, cov_T i2 (Nat.le_of_lt hT)⟩
def updL (f : Lg) (p : Nat) (e : En) : Lg := fun i => if i = p then e else f i
theorem updL_at {f : Lg} {p : Nat} {e : En} : updL f p e p = e := if_pos rfl
theorem updL_ne {f : Lg} {p i : Nat} {e : En} (h : ¬ i = p) : updL f p e i = f i := if_neg h
theorem updL_eqp {f g : Lg} {p n : Nat} {e : En} (h : Eqp f g n) (hn : n < p) : Eqp (updL f p e) g n := fun i a b => by rw [updL_ne (by omega)]; exact h i a b
/-- what a store has agreed its leader has -/
theorem ag_ld {H : Gh} (h : Hst H) {x : Xr} {T : Nat} (d : dG H x) (hT : 1 ≤ gI H T) (hx : xT x ≤ T) : xA x ≤ gN H T ∧ Eqp (xF x) (gL H T) (xA x) := by
  rcases Nat.eq_zero_or_pos (xA x) with z | z
  · rw [z]; exact ⟨by omega, Eqp.zero⟩
  · obtain ⟨i, i1, i2, i3, i4⟩ := d.2 z
    by_cases c : (gE H i).1 = T
    · obtain ⟨-, -, e3, e4, -⟩ := h.2.2.2.2.2.2.1 i i1
      rw [c] at i4 e4
      exact ⟨by omega, i4⟩
    · obtain ⟨k1, k2⟩ := LC h T i i1 (by omega) _ _ _ (win_ld h hT)
      have := (h.1 T hT).2.2.1
      exact ⟨by omega, i4.trans (k2.mono i3).symm⟩
/-- an entry of the leader comes, at a place that differs or behind all -/
theorem dS_put {H : Gh} (h : Hst H) {s p : Nat} {x : Xr} (d : dS H s x) (hT : 1 ≤ gI H (xT x)) (hr1 : ¬ xR x = 1) (hr2 : ¬ xR x = 2) (p1 : 1 ≤ p) (p2 : p ≤ gN H (xT x)) (p3 : p ≤ xL x + 1) (he : Eqp (xF x) (gL H (xT x)) (p - 1)) (hd : p ≤ xL x → ¬ tmE (xF x p) = tmE (gL H (xT x) p)) :
    xA x < p ∧ dS H s (mkX (xT x) (xV x) (xR x) p (xA x) (xS x) (xH x) (updL (xF x) p (gL H (xT x) p))) := by
  obtain ⟨a, b, c, _, e, f, _⟩ := d
  have hne : ∀ q, Eqp (xF x) (gL H (xT x)) q → q ≤ xL x → q < p := by
    intro q h1 h2
    apply Classical.byContradiction
    intro z
    exact hd (by omega) (by rw [h1 p p1 (by omega)])
  have hag : xA x < p := by
    obtain ⟨g1, g2⟩ := ag_ld h f hT (Nat.le_refl _)
    exact hne _ g2 f.1
  have heq : Eqp (updL (xF x) p (gL H (xT x) p)) (gL H (xT x)) p := by
    intro i i1 i2
    by_cases c : i = p
    · rw [c, updL_at]
    · rw [updL_ne c]; exact he i i1 (by omega)
  refine ⟨hag, ⟨⟨fun q q1 q2 => ?_, fun q q1 q2 => ?_, fun z => absurd z hr1⟩, b, c, fun z => absurd z hr2, ⟨e.1, fun T q hq ht => ?_⟩, ⟨Nat.le_of_lt hag, fun z => ?_⟩, fun z => absurd z hr1⟩⟩
  · have q2 : q ≤ p := q2
    show 1 ≤ gI H (tmE (updL (xF x) p (gL H (xT x) p) q)) ∧ q ≤ gN H (tmE (updL (xF x) p (gL H (xT x) p) q)) ∧ Eqp (updL (xF x) p (gL H (xT x) p)) (gL H (tmE (updL (xF x) p (gL H (xT x) p) q))) q
    rw [heq q q1 q2]
    obtain ⟨m1, m2, m3⟩ := h.2.1 _ hT q q1 (by omega)
    exact ⟨m1, m2, (heq.mono q2).trans m3⟩
  · have q2 : q ≤ p := q2
    show tmE (updL (xF x) p (gL H (xT x) p) q) ≤ xT x
    rw [heq q q1 q2]
    exact ld_tm h hT q1 (by omega)
  · have old := e.2 T q hq ht
    have hlt : q < p := by
      rcases Nat.lt_trichotomy T (xT x) with z | z | z
      · obtain ⟨w1, w2⟩ := ht (xT x) z (Nat.le_refl _) hT
        exact hne q (old.2.trans w2.symm) old.1
      · rw [z] at old
        exact hne q old.2 old.1
      · have := e.1 T z
        omega
    exact ⟨Nat.le_of_lt hlt, updL_eqp old.2 hlt⟩
  · obtain ⟨i, i1, i2, i3, i4⟩ := f.2 z
    exact ⟨i, i1, i2, i3, updL_eqp i4 hag⟩
/-- more is known to be agreed -/
theorem dS_agree {H : Gh} {s p : Nat} {x : Xr} (d : dS H s x) (p1 : p ≤ xL x) (hc : 1 ≤ p → ∃ i, i < gM H ∧ cov H (xF x) p (xT x) i) : dS H s (mkX (xT x) (xV x) (xR x) (xL x) p (xS x) (xH x) (xF x)) := by
  obtain ⟨a, b, c, d', e, f, g⟩ := d
  exact ⟨a, b, c, d', e, ⟨p1, hc⟩, g⟩
/-- less is known -/
theorem dS_less {H : Gh} {s p : Nat} {x : Xr} (d : dS H s x) (p1 : p ≤ xA x) : dS H s (mkX (xT x) (xV x) (xR x) (xL x) p (xS x) (xH x) (xF x)) := by
  have f := d.2.2.2.2.2.1
  have f1 := f.1
  refine dS_agree d (by omega) (fun z => ?_)
  obtain ⟨i, i1, i2, i3, i4⟩ := f.2 (by omega)
  exact ⟨i, i1, i2, by omega, i4.mono p1⟩
/-- a snapshot of the leader's comes: the log that it cuts off is all gone -/
theorem dS_inst {H : Gh} (h : Hst H) {s p : Nat} {x : Xr} (d : dS H s x) (hT : 1 ≤ gI H (xT x)) (hr1 : ¬ xR x = 1) (hr2 : ¬ xR x = 2) (p1 : 1 ≤ p) (p2 : p ≤ gN H (xT x)) (hd : p ≤ xL x → ¬ tmE (xF x p) = tmE (gL H (xT x) p)) (hc : ∃ i, i < gM H ∧ cov H (gL H (xT x)) p (xT x) i) :
    dS H s (mkX (xT x) (xV x) (xR x) p p (xS x) (xH x) (gL H (xT x))) := by
  obtain ⟨a, b, c, _, e, f, _⟩ := d
  have hne : ∀ q, Eqp (xF x) (gL H (xT x)) q → q ≤ xL x → q < p := by
    intro q h1 h2
    apply Classical.byContradiction
    intro z
    exact hd (by omega) (by rw [h1 p p1 (by omega)])
  refine ⟨⟨fun q q1 q2 => ?_, fun q q1 q2 => ?_, fun z => absurd z hr1⟩, b, c, fun z => absurd z hr2, ⟨e.1, fun T q hq ht => ?_⟩, ⟨Nat.le_refl _, fun z => hc⟩, fun z => absurd z hr1⟩
  · have q2 : q ≤ p := q2
    exact h.2.1 _ hT q q1 (by omega)
  · have q2 : q ≤ p := q2
    exact ld_tm h hT q1 (by omega)
  · have old := e.2 T q hq ht
    rcases Nat.lt_trichotomy T (xT x) with z | z | z
    · obtain ⟨w1, w2⟩ := ht (xT x) z (Nat.le_refl _) hT
      have := hne q (old.2.trans w2.symm) old.1
      exact ⟨Nat.le_of_lt this, w2⟩
    · rw [z] at old
      have := hne q old.2 old.1
      exact ⟨Nat.le_of_lt this, by rw [z]; exact Eqp.refl⟩
    · have z2 := e.1 T z
      have z3 : q = 0 := by omega
      rw [z3]
      exact ⟨by show 0 ≤ p; omega, Eqp.zero⟩
/-- what others have, as a leader knows -/
theorem dS_has {H : Gh} {s : Nat} {x : Xr} {g : Nat → Nat} (d : dS H s x) (hg : xR x = 2 → ∀ v, v < 5 → v ≠ s → g v ≤ gK H (xT x) v) : dS H s (mkX (xT x) (xV x) (xR x) (xL x) (xA x) (xS x) g (xF x)) := by
  obtain ⟨a, b, c, d', e, f, g'⟩ := d
  exact ⟨a, b, c, fun z => ⟨(d' z).1, (d' z).2.1, (d' z).2.2.1, (d' z).2.2.2.1, hg z⟩, e, f, g'⟩
/-- a vote comes to a candidate -/
theorem dS_votes {H : Gh} {s : Nat} {x : Xr} {q : Int32} (d : dS H s x) (hq : xR x = 1 → ∀ v, v < 5 → bit q v → (gV H (xT x) v).1 = s + 1) : dS H s (mkX (xT x) (xV x) (xR x) (xL x) (xA x) q (xH x) (xF x)) := by
  obtain ⟨a, b, c, d', e, f, g'⟩ := d
  exact ⟨a, b, c, d', e, f, fun z => ⟨hq z, (g' z).2⟩⟩
