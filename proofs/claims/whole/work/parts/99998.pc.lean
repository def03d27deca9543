/-! ===== agreement: steps that tell something new ===== -/
/-- what has been goes on -/
def Hle (H H' : Gh) : Prop := (∀ T, 1 ≤ gI H T → gI H' T = gI H T ∧ gB H' T = gB H T ∧ gN H T ≤ gN H' T ∧ Eqp (gL H' T) (gL H T) (gN H T)) ∧ gM H ≤ gM H' ∧ (∀ i, i < gM H → gE H' i = gE H i) ∧ gX H' = gX H ∧ (∀ T v, gK H T v ≤ gK H' T v) ∧ ∀ T v, 1 ≤ (gV H T v).1 → gV H' T v = gV H T v
theorem LM_le {H H' : Gh} (h : Hle H H') {f : Lg} {n : Nat} (hf : LM H f n) : LM H' f n := by
  intro p p1 p2
  obtain ⟨a, b, c⟩ := hf p p1 p2
  obtain ⟨i1, i2, i3, i4⟩ := h.1 _ a
  exact ⟨by omega, by omega, c.trans (i4.mono b).symm⟩
theorem cov_le {H H' : Gh} (h : Hle H H') (hs : Hst H) {f : Lg} {q T i : Nat} (hi : i < gM H) (hc : cov H f q T i) : cov H' f q T i := by
  obtain ⟨e1, e2, e3, e4, -⟩ := hs.2.2.2.2.2.2.1 i hi
  obtain ⟨i1, i2, i3, i4⟩ := h.1 _ e1
  obtain ⟨c1, c2, c3⟩ := hc
  unfold cov
  rw [h.2.2.1 i hi]
  exact ⟨c1, c2, c3.trans (i4.mono (by omega)).symm⟩
theorem excov_le {H H' : Gh} (h : Hle H H') (hs : Hst H) {f : Lg} {q T : Nat} (hc : ∃ i, i < gM H ∧ cov H f q T i) : ∃ i, i < gM H' ∧ cov H' f q T i := by
  obtain ⟨i, i1, i2⟩ := hc
  exact ⟨i, Nat.lt_of_lt_of_le i1 h.2.1, cov_le h hs i1 i2⟩
/-! a vote is given -/
def gVote (H : Gh) (T s c : Nat) (f : Lg) (n : Nat) : Gh := (gI H, gL H, gN H, gB H, gK H, fun T' v => if T' = T ∧ v = s then (c, f, n) else gV H T' v, gE H, gM H, gX H)
theorem gVote_ne {H : Gh} {T s c n T' v : Nat} {f : Lg} (h : ¬ (T' = T ∧ v = s)) : gV (gVote H T s c f n) T' v = gV H T' v := if_neg h
theorem gVote_at {H : Gh} {T s c n : Nat} {f : Lg} : gV (gVote H T s c f n) T s = (c, f, n) := if_pos ⟨rfl, rfl⟩
theorem Hle_vote {H : Gh} {T s c n : Nat} {f : Lg} (h0 : (gV H T s).1 = 0) : Hle H (gVote H T s c f n) := by
  refine ⟨fun T hT => ⟨rfl, rfl, Nat.le_refl _, Eqp.refl⟩, Nat.le_refl _, fun _ _ => rfl, rfl, fun _ _ => Nat.le_refl _, fun T' v hv => gVote_ne (fun z => ?_)⟩
  rw [z.1, z.2] at hv
  omega
theorem Hst_vote {H : Gh} {T s c n : Nat} {f : Lg} (h : Hst H) (h0 : (gV H T s).1 = 0) (hf : LM H f n) (hk : ∀ T0, T0 < T → ∀ p, p ≤ gK H T0 s → (∀ t, T0 < t → t ≤ T → 1 ≤ gI H t → hasP H T0 p t) → p ≤ n ∧ Eqp f (gL H T0) p) : Hst (gVote H T s c f n) := by
  obtain ⟨a, m, v, w, k, n', e, cc, d⟩ := h
  refine ⟨a, m, fun T2 hT2 => ?_, fun T2 v2 hv => ?_, fun T2 v2 hv => ?_, n', e, cc, d⟩
  · obtain ⟨Q, q1, q2⟩ := v T2 hT2
    refine ⟨Q, q1, fun u hu hb => ?_⟩
    have q3 := q2 u hu hb
    rw [gVote_ne (fun z => by
      rw [z.1, z.2] at q3
      have := q3.1
      have hT2 : 1 ≤ gI H T2 := hT2
      rw [z.1] at hT2
      omega)]
    exact q3
  · by_cases c : T2 = T ∧ v2 = s
    · rw [c.1, c.2, gVote_at]; exact hf
    · rw [gVote_ne c] at hv ⊢; exact w T2 v2 hv
  · by_cases c : T2 = T ∧ v2 = s
    · rw [c.1, c.2, gVote_at]; exact hk
    · rw [gVote_ne c] at hv ⊢; exact k T2 v2 hv
theorem dS_vote_o {H : Gh} {T s c n s' : Nat} {f : Lg} {x : Xr} (d : dS H s' x) (hs : ¬ s' = s) (h0 : (gV H T s).1 = 0) (hc : c = s' + 1 → T ≤ xT x ∧ (xR x = 1 → xT x = T → far (xF x) (xL x) f n)) : dS (gVote H T s c f n) s' x := by
  obtain ⟨a, b, c', d', e, g, q⟩ := d
  have nb : ∀ T', gV (gVote H T s c f n) T' s' = gV H T' s' := fun T' => gVote_ne (fun z => hs z.2)
  refine ⟨a, ⟨?_, ?_, ?_, b.2.2.2⟩, ⟨fun T2 v hv => ?_, c'.2⟩, d', e, g, fun z => ⟨fun v hv hb => ?_, fun v hv => ?_, (q z).2.2⟩⟩
  · intro T2 h2; rw [nb]; exact b.1 T2 h2
  · rw [nb]; exact b.2.1
  · intro c0 h1 h2; rw [nb]; exact b.2.2.1 c0 h1 h2
  · by_cases y : T2 = T ∧ v = s
    · rw [y.1, y.2, gVote_at] at hv
      rw [y.1]; exact (hc hv).1
    · rw [gVote_ne y] at hv; exact c'.1 T2 v hv
  · have := (q z).1 v hv hb
    by_cases y : xT x = T ∧ v = s
    · rw [y.1, y.2] at this; omega
    · rw [gVote_ne y]; exact this
  · by_cases y : xT x = T ∧ v = s
    · rw [y.1, y.2, gVote_at] at hv ⊢
      exact (hc hv).2 z y.1
    · rw [gVote_ne y] at hv ⊢; exact (q z).2.1 v hv
theorem dS_vote_s {H : Gh} {s c n : Nat} {x : Xr} (d : dS H s x) (hv : xV x = -1) (hr : ¬ xR x = 1) (hc : c < 5) (hcs : c = s → False) : dS (gVote H (xT x) s (c + 1) (xF x) n) s (mkX (xT x) (nI c) (xR x) (xL x) (xA x) (xS x) (xH x) (xF x)) := by
  obtain ⟨a, b, c', d', e, g, q⟩ := d
  refine ⟨a, ⟨fun T2 h2 => ?_, fun z => absurd z (nI_nm1 (by omega)), fun c0 h1 h2 => ?_, Or.inr ⟨c, hc, rfl⟩⟩, ⟨fun T2 v hv => ?_, c'.2⟩, d', e, g, fun z => absurd z hr⟩
  · have h2 : xT x < T2 := h2
    rw [gVote_ne (fun z => by omega)]; exact b.1 T2 h2
  · have h2 : nI c = nI c0 := h2
    have h3 : c = c0 := (nI_eq (by omega) (by omega)).mp h2
    show (gV (gVote H (xT x) s (c + 1) (xF x) n) (xT x) s).1 = c0 + 1
    rw [gVote_at, h3]
  · by_cases y : T2 = xT x ∧ v = s
    · rw [y.1, y.2, gVote_at] at hv
      have : c + 1 = s + 1 := hv
      exact (hcs (by omega)).elim
    · rw [gVote_ne y] at hv; exact c'.1 T2 v hv
/-- one that stands -/
theorem dS_stand {H : Gh} {s : Nat} {x : Xr} {g : Nat → Nat} (d : dS H s x) (hs : s < 5) : dS (gVote H (xT x + 1) s (s + 1) (xF x) (xL x)) s (mkX (xT x + 1) (nI s) 1 (xL x) (xA x) (sh1 s) g (xF x)) := by
  obtain ⟨a, b, c', d', e, f, q⟩ := d
  refine ⟨⟨a.1, fun p p1 p2 => ?_, fun _ => ⟨Nat.le_add_left _ _, fun p p1 p2 => ?_⟩⟩, ⟨fun T2 h2 => ?_, fun z => absurd z (nI_nm1 (by omega)), fun c0 h1 h2 => ?_, Or.inr ⟨s, hs, rfl⟩⟩, ⟨fun T2 v hv => ?_, fun T2 h2 => ⟨?_, fun z => ?_⟩⟩, fun z => absurd z (by show ¬ (1 : Int32) = 2; decide), ⟨fun T2 h2 => ?_, fun T p hp ht => ?_⟩, ⟨f.1, fun z => ?_⟩, fun _ => ⟨fun v hv hb => ?_, fun v hv => ?_, rfl⟩⟩
  · have : tmE (xF x p) ≤ xT x := a.2.1 p p1 p2
    show tmE (xF x p) ≤ xT x + 1
    omega
  · have : tmE (xF x p) ≤ xT x := a.2.1 p p1 p2
    show tmE (xF x p) < xT x + 1
    omega
  · have h2 : xT x + 1 < T2 := h2
    rw [gVote_ne (fun z => by omega)]; exact b.1 T2 (by omega)
  · have h2 : nI s = nI c0 := h2
    have h3 : s = c0 := (nI_eq (by omega) (by omega)).mp h2
    show (gV (gVote H (xT x + 1) s (s + 1) (xF x) (xL x)) (xT x + 1) s).1 = c0 + 1
    rw [gVote_at, h3]
  · show T2 ≤ xT x + 1
    by_cases y : T2 = xT x + 1 ∧ v = s
    · omega
    · rw [gVote_ne y] at hv
      have := c'.1 T2 v hv
      omega
  · have := (c'.2 T2 h2).1
    show T2 ≤ xT x + 1
    omega
  · have := (c'.2 T2 h2).1
    have z : T2 = xT x + 1 := z
    omega
  · have h2 : xT x + 1 < T2 := h2
    exact e.1 T2 (by omega)
  · exact e.2 T p hp (fun t t1 t2 t3 => ht t t1 (show t ≤ xT x + 1 by omega) t3)
  · obtain ⟨i, i1, i2⟩ := f.2 z
    exact ⟨i, i1, cov_T i2 (Nat.le_succ _)⟩
  · show (gV (gVote H (xT x + 1) s (s + 1) (xF x) (xL x)) (xT x + 1) v).1 = s + 1
    have hb : bit (sh1 s) v := hb
    have : v = s := by
      have h3 := (bit_lsb (x := sh1 s) (k := v) (by omega)).mp hb
      unfold sh1 at h3
      rw [one_lsb (by omega) (by omega)] at h3
      exact of_decide_eq_true h3
    rw [this, gVote_at]
  · have hv : (gV (gVote H (xT x + 1) s (s + 1) (xF x) (xL x)) (xT x + 1) v).1 = s + 1 := hv
    show far (xF x) (xL x) (gV (gVote H (xT x + 1) s (s + 1) (xF x) (xL x)) (xT x + 1) v).2.1 (gV (gVote H (xT x + 1) s (s + 1) (xF x) (xL x)) (xT x + 1) v).2.2
    by_cases y : v = s
    · rw [y, gVote_at]
      exact Or.inr ⟨rfl, Nat.le_refl _⟩
    · rw [gVote_ne (fun z => y z.2)] at hv
      have := c'.1 _ v hv
      omega
/-! a leader is there -/
def gLead (H : Gh) (T s : Nat) (f : Lg) (n : Nat) : Gh := (fun t => if t = T then s + 1 else gI H t, fun t => if t = T then f else gL H t, fun t => if t = T then n else gN H t, fun t => if t = T then n else gB H t, fun t v => if t = T ∧ v = s then n else gK H t v, gV H, gE H, gM H, gX H)
section Lead
variable {H : Gh} {T s n : Nat} {f : Lg}
theorem gLead_I {t : Nat} (h : ¬ t = T) : gI (gLead H T s f n) t = gI H t := if_neg h
theorem gLead_L {t : Nat} (h : ¬ t = T) : gL (gLead H T s f n) t = gL H t := if_neg h
theorem gLead_N {t : Nat} (h : ¬ t = T) : gN (gLead H T s f n) t = gN H t := if_neg h
theorem gLead_B {t : Nat} (h : ¬ t = T) : gB (gLead H T s f n) t = gB H t := if_neg h
theorem gLead_K {t v : Nat} (h : ¬ (t = T ∧ v = s)) : gK (gLead H T s f n) t v = gK H t v := if_neg h
theorem gLead_I1 : gI (gLead H T s f n) T = s + 1 := if_pos rfl
theorem gLead_L1 : gL (gLead H T s f n) T = f := if_pos rfl
theorem gLead_N1 : gN (gLead H T s f n) T = n := if_pos rfl
theorem gLead_B1 : gB (gLead H T s f n) T = n := if_pos rfl
theorem gLead_K1 : gK (gLead H T s f n) T s = n := if_pos ⟨rfl, rfl⟩
theorem Hle_lead (h0 : gI H T = 0) (h1 : ∀ v, gK H T v = 0) : Hle H (gLead H T s f n) := by
  refine ⟨fun t ht => ?_, Nat.le_refl _, fun _ _ => rfl, rfl, fun t v => ?_, fun _ _ _ => rfl⟩
  · have c : ¬ t = T := fun z => by rw [z] at ht; omega
    rw [gLead_I c, gLead_L c, gLead_N c, gLead_B c]
    exact ⟨rfl, rfl, Nat.le_refl _, Eqp.refl⟩
  · by_cases c : t = T ∧ v = s
    · rw [c.1, h1]; omega
    · rw [gLead_K c]; exact Nat.le_refl _
theorem hasP_lead {T0 p t : Nat} (h0 : ¬ T0 = T) (h : ¬ t = T) : hasP (gLead H T s f n) T0 p t = hasP H T0 p t := by
  unfold hasP
  rw [gLead_B h, gLead_L h, gLead_L h0]
theorem ld_ne (h0 : gI H T = 0) {t : Nat} (ht : 1 ≤ gI H t) : ¬ t = T := fun z => by rw [z] at ht; omega
theorem Hst_lead (h : Hst H) (h0 : gI H T = 0) (hT : 1 ≤ T) (hs : s < 5) (hf : LM H f n) (hlt : ∀ p, 1 ≤ p → p ≤ n → tmE (f p) < T) (hv : ∀ T2, T < T2 → (gV H T2 s).1 = 0)
    (hq : ∃ Q, maj2 (cfg (gX H) f n) Q ∧ ∀ v, v < 5 → bit Q v → (gV H T v).1 = s + 1 ∧ far f n (gV H T v).2.1 (gV H T v).2.2) : Hst (gLead H T s f n) := by
  have hk0 : ∀ v, gK H T v = 0 := fun v => by
    have := (h.2.2.2.2.2.1 T v).2
    omega
  have le := Hle_lead (s := s) (f := f) (n := n) h0 hk0
  obtain ⟨a, m, v, w, k, n', e, cc, d⟩ := id h
  have ne : ∀ {t}, 1 ≤ gI H t → ¬ t = T := fun ht => ld_ne h0 ht
  have tr : ∀ T0 p U, ¬ T0 = T → (∀ t, T0 < t → t < U → 1 ≤ gI (gLead H T s f n) t → hasP (gLead H T s f n) T0 p t) → ∀ t, T0 < t → t < U → 1 ≤ gI H t → hasP H T0 p t := by
    intro T0 p U h1 h2 t t1 t2 t3
    have := h2 t t1 t2 (by rw [gLead_I (ne t3)]; exact t3)
    rw [hasP_lead h1 (ne t3)] at this
    exact this
  refine ⟨fun t ht => ?_, fun t ht => ?_, fun t ht => ?_, fun t u hu => LM_le le (w t u hu), fun t u hu T0 hT0 p hp hh => ?_, fun t u => ?_, fun i hi => ?_, fun t ht q q1 q2 q3 => ?_, fun j hj q q1 q2 q3 q4 => ?_⟩
  · by_cases c : t = T
    · rw [c, gLead_I1, gLead_B1, gLead_N1, gLead_L1]
      exact ⟨hT, by omega, Nat.le_refl _, fun p p1 p2 => by omega, hlt⟩
    · rw [gLead_I c] at ht ⊢
      rw [gLead_B c, gLead_N c, gLead_L c]
      exact a t ht
  · by_cases c : t = T
    · rw [c, gLead_L1, gLead_N1]; exact LM_le le hf
    · rw [gLead_I c] at ht
      rw [gLead_N c, gLead_L c]
      exact LM_le le (m t ht)
  · by_cases c : t = T
    · subst c
      rw [gLead_I1, gLead_B1, gLead_L1]
      obtain ⟨Q, q1, q2⟩ := hq
      refine ⟨Q, q1, fun u hu hb => ?_⟩
      obtain ⟨q3, q4⟩ := q2 u hu hb
      refine ⟨q3, q4, fun T0 hT0 p hp hh => ?_⟩
      have c0 : ¬ T0 = t := by omega
      rw [gLead_K (fun z => c0 z.1)] at hp
      rw [gLead_L c0]
      refine k t u (by show 1 ≤ (gV H t u).1; omega) T0 hT0 p hp (fun t' t1 t2 t3 => ?_)
      refine tr T0 p t c0 hh t' t1 ?_ t3
      have := ne t3
      omega
    · rw [gLead_I c] at ht
      rw [gLead_I c, gLead_B c, gLead_L c]
      obtain ⟨Q, q1, q2⟩ := v t ht
      refine ⟨Q, q1, fun u hu hb => ?_⟩
      obtain ⟨q3, q4, q5⟩ := q2 u hu hb
      refine ⟨q3, q4, fun T0 hT0 p hp hh => ?_⟩
      by_cases c0 : T0 = T
      · subst c0
        have hz : p = 0 := by
          by_cases cu : u = s
          · subst cu
            have := hv t hT0
            omega
          · rw [gLead_K (fun z => cu z.2), hk0] at hp
            omega
        rw [hz]
        exact ⟨by omega, Eqp.zero⟩
      · rw [gLead_K (fun z => c0 z.1)] at hp
        rw [gLead_L c0]
        exact q5 T0 hT0 p hp (tr T0 p t c0 hh)
  · have hu : 1 ≤ (gV H t u).1 := hu
    by_cases c0 : T0 = T
    · subst c0
      have hz : p = 0 := by
        by_cases cu : u = s
        · subst cu
          have := hv t hT0
          omega
        · rw [gLead_K (fun z => cu z.2), hk0] at hp
          omega
      rw [hz]
      exact ⟨by omega, Eqp.zero⟩
    · rw [gLead_K (fun z => c0 z.1)] at hp
      rw [gLead_L c0]
      refine k t u hu T0 hT0 p hp (fun t' t1 t2 t3 => ?_)
      exact tr T0 p (t + 1) c0 (fun t1 a1 a2 a3 => hh t1 a1 (by omega) a3) t' t1 (by omega) t3
  · by_cases c : t = T
    · subst c
      rw [gLead_N1, gLead_I1]
      by_cases cu : u = s
      · subst cu; rw [gLead_K1]; exact ⟨Nat.le_refl _, fun _ => by omega⟩
      · rw [gLead_K (fun z => cu z.2), hk0]; exact ⟨by omega, fun _ => by omega⟩
    · rw [gLead_N c, gLead_I c, gLead_K (fun z => c z.1)]; exact n' t u
  · obtain ⟨e1, e2, e3, e4, e5, e6, e7⟩ := e i hi
    have c := ne e1
    show 1 ≤ gI (gLead H T s f n) (gE H i).1 ∧ 1 ≤ (gE H i).2.1 ∧ (gE H i).2.1 ≤ (gE H i).2.2.1 ∧ (gE H i).2.2.1 ≤ gN (gLead H T s f n) (gE H i).1 ∧ tmE (gL (gLead H T s f n) (gE H i).1 (gE H i).2.1) = (gE H i).1 ∧ maj2 (cfg (gX H) (gL (gLead H T s f n) (gE H i).1) (gE H i).2.2.1) (gE H i).2.2.2 ∧ ∀ v, v < 5 → bit (gE H i).2.2.2 v → (gE H i).2.1 ≤ gK (gLead H T s f n) (gE H i).1 v
    rw [gLead_I c, gLead_N c, gLead_L c]
    exact ⟨e1, e2, e3, e4, e5, e6, fun v hv hb => by rw [gLead_K (fun z => c z.1)]; exact e7 v hv hb⟩
  · by_cases c : t = T
    · subst c
      rw [gLead_N1] at q2
      rw [gLead_L1] at q3 ⊢
      obtain ⟨z1, z2⟩ := LM_ch h hf q1 q2 q3
      exact ⟨z1, fun z => excov_le le h (z2 z)⟩
    · rw [gLead_I c] at ht
      rw [gLead_N c] at q2
      rw [gLead_L c] at q3 ⊢
      obtain ⟨z1, z2⟩ := cc t ht q q1 q2 q3
      exact ⟨z1, fun z => excov_le le h (z2 z)⟩
  · obtain ⟨e1, -⟩ := e j hj
    have c := ne e1
    have q2 : q ≤ (gE H j).2.2.1 := q2
    have q3 : isC (gL (gLead H T s f n) (gE H j).1 q) := q3
    have q4 : 1 ≤ lcp (gL (gLead H T s f n) (gE H j).1) (q - 1) := q4
    show ∃ i, i < j ∧ cov (gLead H T s f n) (gL (gLead H T s f n) (gE H j).1) (lcp (gL (gLead H T s f n) (gE H j).1) (q - 1)) (tmE (gL (gLead H T s f n) (gE H j).1 q)) i
    rw [gLead_L c] at q3 q4 ⊢
    obtain ⟨i, i1, i2⟩ := d j hj q q1 q2 q3 q4
    have hj : j < gM H := hj
    exact ⟨i, i1, cov_le le h (by omega) i2⟩
theorem dS_lead_o {s' : Nat} {x : Xr} (h : Hst H) (h0 : gI H T = 0) (d : dS H s' x) (hs : ¬ s' = s) : dS (gLead H T s f n) s' x := by
  have hk0 : ∀ v, gK H T v = 0 := fun v => by
    have := (h.2.2.2.2.2.1 T v).2
    omega
  have le := Hle_lead (s := s) (f := f) (n := n) h0 hk0
  have ne : ∀ {t}, 1 ≤ gI H t → ¬ t = T := fun ht => ld_ne h0 ht
  obtain ⟨a, b, c', d', e, g, q⟩ := d
  refine ⟨⟨LM_le le a.1, a.2⟩, b, ⟨c'.1, fun t ht => ?_⟩, fun z => ?_, ⟨fun t ht => ?_, fun t p hp hh => ?_⟩, ⟨g.1, fun z => excov_le le h (g.2 z)⟩, q⟩
  · by_cases c : t = T
    · rw [c, gLead_I1] at ht; omega
    · rw [gLead_I c] at ht; exact c'.2 t ht
  · obtain ⟨z1, z2, z3, z4, z5⟩ := d' z
    have c : ¬ xT x = T := ne (by omega)
    rw [gLead_I c, gLead_N c, gLead_L c, gLead_K (fun z => c z.1)]
    exact ⟨z1, z2, z3, z4, fun v v1 v2 => by rw [gLead_K (fun z => c z.1)]; exact z5 v v1 v2⟩
  · rw [gLead_K (fun z => hs z.2)]; exact e.1 t ht
  · rw [gLead_K (fun z => hs z.2)] at hp
    by_cases c : t = T
    · rw [c, hk0] at hp
      obtain rfl : p = 0 := by omega
      exact ⟨by omega, Eqp.zero⟩
    · rw [gLead_L c]
      refine e.2 t p hp (fun t' t1 t2 t3 => ?_)
      have := hh t' t1 t2 (by rw [gLead_I (ne t3)]; exact t3)
      rw [hasP_lead c (ne t3)] at this
      exact this
end Lead
theorem dS_lead_s {H : Gh} {s : Nat} {x : Xr} {q : Int32} (h : Hst H) (h0 : gI H (xT x) = 0) (d : dS H s x) : dS (gLead H (xT x) s (xF x) (xL x)) s (mkX (xT x) (xV x) 2 (xL x) (xA x) q (fun _ => 0) (xF x)) := by
  have hk0 : ∀ v, gK H (xT x) v = 0 := fun v => by
    have := (h.2.2.2.2.2.1 (xT x) v).2
    omega
  have le := Hle_lead (s := s) (f := xF x) (n := xL x) h0 hk0
  have ne : ∀ {t}, 1 ≤ gI H t → ¬ t = xT x := fun ht => ld_ne h0 ht
  obtain ⟨a, b, c', d', e, g, q⟩ := d
  refine ⟨⟨LM_le le a.1, a.2.1, fun z => absurd z (by show ¬ (2 : Int32) = 1; decide)⟩, b, ⟨c'.1, fun t ht => ?_⟩, fun z => ?_, ⟨fun t ht => ?_, fun t p hp hh => ?_⟩, ⟨g.1, fun z => excov_le le h (g.2 z)⟩, fun z => absurd z (by show ¬ (2 : Int32) = 1; decide)⟩
  · refine ⟨?_, fun _ => by show ¬ (2 : Int32) = 1; decide⟩
    by_cases c : t = xT x
    · show t ≤ xT x; omega
    · rw [gLead_I c] at ht; exact (c'.2 t ht).1
  · show gI (gLead H (xT x) s (xF x) (xL x)) (xT x) = s + 1 ∧ gN (gLead H (xT x) s (xF x) (xL x)) (xT x) = xL x ∧ Eqp (xF x) (gL (gLead H (xT x) s (xF x) (xL x)) (xT x)) (xL x) ∧ gK (gLead H (xT x) s (xF x) (xL x)) (xT x) s = xL x ∧ ∀ v, v < 5 → v ≠ s → 0 ≤ gK (gLead H (xT x) s (xF x) (xL x)) (xT x) v
    rw [gLead_I1, gLead_N1, gLead_L1, gLead_K1]
    exact ⟨rfl, rfl, Eqp.refl, rfl, fun _ _ _ => Nat.zero_le _⟩
  · have ht : xT x < t := ht
    rw [gLead_K (fun z => by omega)]; exact e.1 t ht
  · by_cases c : t = xT x
    · subst c
      rw [gLead_K1] at hp
      rw [gLead_L1]
      exact ⟨hp, Eqp.refl⟩
    · rw [gLead_K (fun z => c z.1)] at hp
      rw [gLead_L c]
      refine e.2 t p hp (fun t' t1 t2 t3 => ?_)
      have := hh t' t1 t2 (by rw [gLead_I (ne t3)]; exact t3)
      rw [hasP_lead c (ne t3)] at this
      exact this
