/-! ===== agreement: entries come, are taken, are agreed ===== -/
def gApp (H : Gh) (T s : Nat) (e : En) : Gh := (gI H, fun t => if t = T then updL (gL H T) (gN H T + 1) e else gL H t, fun t => if t = T then gN H T + 1 else gN H t, gB H, fun t v => if t = T ∧ v = s then gN H T + 1 else gK H t v, gV H, gE H, gM H, gX H)
section App
variable {H : Gh} {T s : Nat} {e : En}
theorem gApp_L {t : Nat} (h : ¬ t = T) : gL (gApp H T s e) t = gL H t := if_neg h
theorem gApp_N {t : Nat} (h : ¬ t = T) : gN (gApp H T s e) t = gN H t := if_neg h
theorem gApp_K {t v : Nat} (h : ¬ (t = T ∧ v = s)) : gK (gApp H T s e) t v = gK H t v := if_neg h
theorem gApp_L1 : gL (gApp H T s e) T = updL (gL H T) (gN H T + 1) e := if_pos rfl
theorem gApp_N1 : gN (gApp H T s e) T = gN H T + 1 := if_pos rfl
theorem gApp_K1 : gK (gApp H T s e) T s = gN H T + 1 := if_pos ⟨rfl, rfl⟩
theorem gApp_eq {t n : Nat} (h : n ≤ gN H t) : Eqp (gL (gApp H T s e) t) (gL H t) n := by
  by_cases c : t = T
  · subst c
    rw [gApp_L1]
    exact updL_eqp Eqp.refl (by omega)
  · rw [gApp_L c]; exact Eqp.refl
theorem gApp_Nle {t : Nat} : gN H t ≤ gN (gApp H T s e) t := by
  by_cases c : t = T
  · subst c; rw [gApp_N1]; omega
  · rw [gApp_N c]; exact Nat.le_refl _
theorem gApp_Kle (h : HsN H) {t v : Nat} : gK H t v ≤ gK (gApp H T s e) t v := by
  by_cases c : t = T ∧ v = s
  · rw [c.1, c.2, gApp_K1]
    have := (h T s).1
    omega
  · rw [gApp_K c]; exact Nat.le_refl _
theorem Hle_app (h : Hst H) : Hle H (gApp H T s e) := ⟨fun t _ => ⟨rfl, rfl, gApp_Nle, gApp_eq (Nat.le_refl _)⟩, Nat.le_refl _, fun _ _ => rfl, rfl, fun _ _ => gApp_Kle h.2.2.2.2.2.1, fun _ _ _ => rfl⟩
theorem hasP_app (h : Hst H) {T0 p t : Nat} (hp : p ≤ gN H T0) (ht : 1 ≤ gI H t) (hh : hasP (gApp H T s e) T0 p t) : hasP H T0 p t := by
  obtain ⟨h1, h2⟩ := hh
  have h1 : p ≤ gB H t := h1
  have b := (h.1 t ht).2.2.1
  exact ⟨h1, ((gApp_eq (by omega)).symm.trans h2).trans (gApp_eq hp)⟩
theorem Hst_app (h : Hst H) (hT : gI H T = s + 1) (he : tmE e = T) (hv : ∀ T2, T < T2 → (gV H T2 s).1 = 0)
    (hc : isC e → (cfE e).1 = w2 (cfg (gX H) (gL H T) (gN H T)) ∧ (1 ≤ lcp (gL H T) (gN H T) → ∃ i, i < gM H ∧ cov H (gL H T) (lcp (gL H T) (gN H T)) T i)) : Hst (gApp H T s e) := by
  have le := Hle_app (T := T) (s := s) (e := e) h
  obtain ⟨a, m, v, w, k, n', ev, cc, d⟩ := id h
  have hT1 : 1 ≤ gI H T := by omega
  refine ⟨fun t ht => ?_, fun t ht => ?_, fun t ht => ?_, fun t u hu => LM_le le (w t u hu), fun t u hu T0 hT0 p hp hh => ?_, fun t u => ?_, fun i hi => ?_, fun t ht q q1 q2 q3 => ?_, fun j hj q q1 q2 q3 q4 => ?_⟩
  · obtain ⟨a1, a2, a3, a4, a5⟩ := a t ht
    refine ⟨a1, a2, Nat.le_trans a3 gApp_Nle, fun p p1 p2 => ?_, fun p p1 p2 => ?_⟩
    · by_cases c : t = T
      · subst c
        rw [gApp_N1] at p2
        rw [gApp_L1]
        by_cases c2 : p = gN H t + 1
        · rw [c2, updL_at]; exact he
        · rw [updL_ne c2]; exact a4 p p1 (by omega)
      · rw [gApp_N c] at p2
        rw [gApp_L c]; exact a4 p p1 p2
    · have p2 : p ≤ gB H t := p2
      rw [gApp_eq (n := p) (by omega) p p1 (Nat.le_refl _)]
      exact a5 p p1 p2
  · by_cases c : t = T
    · subst c
      rw [gApp_N1]
      intro p p1 p2
      by_cases c2 : p = gN H t + 1
      · have e1 : tmE (gL (gApp H t s e) t p) = t := by rw [gApp_L1, c2, updL_at]; exact he
        rw [e1]
        exact ⟨ht, by rw [gApp_N1]; omega, Eqp.refl⟩
      · have e1 := gApp_eq (T := t) (s := s) (e := e) (H := H) (t := t) (n := p) (by omega)
        rw [e1 p p1 (Nat.le_refl _)]
        obtain ⟨m1, m2, m3⟩ := LM_le le (m t ht) p p1 (by omega)
        exact ⟨m1, m2, e1.trans m3⟩
    · rw [gApp_N c, gApp_L c]; exact LM_le le (m t ht)
  · have hb := (a t ht).2.2.1
    obtain ⟨Q, q1, q2⟩ := v t ht
    have e1 := gApp_eq (T := T) (s := s) (e := e) (H := H) (t := t) (n := gB H t) hb
    show ∃ Q, maj2 (cfg (gX H) (gL (gApp H T s e) t) (gB H t)) Q ∧ ∀ v, v < 5 → bit Q v → (gV H t v).1 = gI H t ∧ far (gL (gApp H T s e) t) (gB H t) (gV H t v).2.1 (gV H t v).2.2 ∧ ∀ T0, T0 < t → ∀ p, p ≤ gK (gApp H T s e) T0 v → (∀ t', T0 < t' → t' < t → 1 ≤ gI H t' → hasP (gApp H T s e) T0 p t') → p ≤ (gV H t v).2.2 ∧ Eqp (gV H t v).2.1 (gL (gApp H T s e) T0) p
    rw [cfg_eq e1]
    refine ⟨Q, q1, fun u hu hb2 => ?_⟩
    obtain ⟨q3, q4, q5⟩ := q2 u hu hb2
    refine ⟨q3, ?_, fun T0 hT0 p hp hh => ?_⟩
    · have : ltm (gL (gApp H T s e) t) (gB H t) = ltm (gL H t) (gB H t) := by
        unfold ltm
        split
        · rfl
        · rw [e1 _ (by omega) (Nat.le_refl _)]
      unfold far
      rw [this]
      exact q4
    · by_cases c0 : T0 = T ∧ u = s
      · have := hv t (by omega)
        rw [c0.2] at q3
        have ht : 1 ≤ gI H t := ht
        omega
      · rw [gApp_K c0] at hp
        have hpn : p ≤ gN H T0 := Nat.le_trans hp (n' T0 u).1
        obtain ⟨r1, r2⟩ := q5 T0 hT0 p hp (fun t' t1 t2 t3 => hasP_app h hpn t3 (hh t' t1 t2 t3))
        exact ⟨r1, r2.trans (gApp_eq hpn).symm⟩
  · have hu : 1 ≤ (gV H t u).1 := hu
    show p ≤ (gV H t u).2.2 ∧ Eqp (gV H t u).2.1 (gL (gApp H T s e) T0) p
    by_cases c0 : T0 = T ∧ u = s
    · have := hv t (by omega)
      rw [c0.2] at hu
      omega
    · rw [gApp_K c0] at hp
      have hpn : p ≤ gN H T0 := Nat.le_trans hp (n' T0 u).1
      obtain ⟨r1, r2⟩ := k t u hu T0 hT0 p hp (fun t' t1 t2 t3 => hasP_app h hpn t3 (hh t' t1 t2 t3))
      exact ⟨r1, r2.trans (gApp_eq hpn).symm⟩
  · show gK (gApp H T s e) t u ≤ gN (gApp H T s e) t ∧ (1 ≤ gK (gApp H T s e) t u → 1 ≤ gI H t)
    by_cases c0 : t = T ∧ u = s
    · rw [c0.1, c0.2, gApp_K1, gApp_N1]; exact ⟨Nat.le_refl _, fun _ => hT1⟩
    · rw [gApp_K c0]; exact ⟨Nat.le_trans (n' t u).1 gApp_Nle, (n' t u).2⟩
  · obtain ⟨e1, e2, e3, e4, e5, e6, e7⟩ := ev i hi
    have e8 := gApp_eq (T := T) (s := s) (e := e) (H := H) (t := (gE H i).1) (n := (gE H i).2.2.1) e4
    show 1 ≤ gI H (gE H i).1 ∧ 1 ≤ (gE H i).2.1 ∧ (gE H i).2.1 ≤ (gE H i).2.2.1 ∧ (gE H i).2.2.1 ≤ gN (gApp H T s e) (gE H i).1 ∧ tmE (gL (gApp H T s e) (gE H i).1 (gE H i).2.1) = (gE H i).1 ∧ maj2 (cfg (gX H) (gL (gApp H T s e) (gE H i).1) (gE H i).2.2.1) (gE H i).2.2.2 ∧ ∀ v, v < 5 → bit (gE H i).2.2.2 v → (gE H i).2.1 ≤ gK (gApp H T s e) (gE H i).1 v
    rw [cfg_eq e8, e8 _ e2 e3]
    exact ⟨e1, e2, e3, Nat.le_trans e4 gApp_Nle, e5, e6, fun v hv hb => Nat.le_trans (e7 v hv hb) (gApp_Kle n')⟩
  · have key : q ≤ gN H t → (cfE (gL (gApp H T s e) t q)).1 = w2 (cfg (gX H) (gL (gApp H T s e) t) (q - 1)) ∧ (1 ≤ lcp (gL (gApp H T s e) t) (q - 1) → ∃ i, i < gM H ∧ cov (gApp H T s e) (gL (gApp H T s e) t) (lcp (gL (gApp H T s e) t) (q - 1)) (tmE (gL (gApp H T s e) t q)) i) := by
      intro hq
      have e8 := gApp_eq (T := T) (s := s) (e := e) (H := H) (t := t) (n := q) hq
      have e9 : Eqp (gL (gApp H T s e) t) (gL H t) (q - 1) := e8.mono (by omega)
      rw [e8 q q1 (Nat.le_refl _), cfg_eq e9, lcp_eq e9]
      rw [e8 q q1 (Nat.le_refl _)] at q3
      obtain ⟨z1, z2⟩ := cc t ht q q1 hq q3
      refine ⟨z1, fun z => ?_⟩
      obtain ⟨i, i1, i2⟩ := z2 z
      obtain ⟨c1, c2, c3⟩ := cov_le le h i1 i2
      have hl := lcp_le (f := gL H t) (n := q - 1)
      exact ⟨i, i1, c1, c2, (e9.mono hl).trans c3⟩
    by_cases c : t = T
    · subst c
      by_cases c2 : q = gN H t + 1
      · have e8 := gApp_eq (T := t) (s := s) (e := e) (H := H) (t := t) (n := gN H t) (Nat.le_refl _)
        have e9 : gL (gApp H t s e) t q = e := by rw [gApp_L1, c2, updL_at]
        have e10 : q - 1 = gN H t := by omega
        show (cfE (gL (gApp H t s e) t q)).1 = w2 (cfg (gX H) (gL (gApp H t s e) t) (q - 1)) ∧ (1 ≤ lcp (gL (gApp H t s e) t) (q - 1) → ∃ i, i < gM H ∧ cov (gApp H t s e) (gL (gApp H t s e) t) (lcp (gL (gApp H t s e) t) (q - 1)) (tmE (gL (gApp H t s e) t q)) i)
        rw [e9] at q3 ⊢
        rw [e10, cfg_eq e8, lcp_eq e8, he]
        obtain ⟨z1, z2⟩ := hc q3
        refine ⟨z1, fun z => ?_⟩
        obtain ⟨i, i1, i2⟩ := z2 z
        obtain ⟨c1, c2, c3⟩ := cov_le le h i1 i2
        have hl := lcp_le (f := gL H t) (n := gN H t)
        exact ⟨i, i1, c1, c2, (e8.mono hl).trans c3⟩
      · rw [gApp_N1] at q2
        exact key (by omega)
    · rw [gApp_N c] at q2
      exact key q2
  · obtain ⟨e1, e2, e3, e4, -⟩ := ev j hj
    have q2 : q ≤ (gE H j).2.2.1 := q2
    have e8 := gApp_eq (T := T) (s := s) (e := e) (H := H) (t := (gE H j).1) (n := q) (by omega)
    have e9 : Eqp (gL (gApp H T s e) (gE H j).1) (gL H (gE H j).1) (q - 1) := e8.mono (by omega)
    have q3 : isC (gL (gApp H T s e) (gE H j).1 q) := q3
    have q4 : 1 ≤ lcp (gL (gApp H T s e) (gE H j).1) (q - 1) := q4
    show ∃ i, i < j ∧ cov (gApp H T s e) (gL (gApp H T s e) (gE H j).1) (lcp (gL (gApp H T s e) (gE H j).1) (q - 1)) (tmE (gL (gApp H T s e) (gE H j).1 q)) i
    rw [e8 q q1 (Nat.le_refl _)] at q3 ⊢
    rw [lcp_eq e9] at q4 ⊢
    obtain ⟨i, i1, i2⟩ := d j hj q q1 q2 q3 q4
    have hj : j < gM H := hj
    obtain ⟨c1, c2, c3⟩ := cov_le le h (by omega) i2
    have hl := lcp_le (f := gL H (gE H j).1) (n := q - 1)
    exact ⟨i, i1, c1, c2, (e9.mono hl).trans c3⟩
theorem dS_app_o {s' : Nat} {x : Xr} (h : Hst H) (hT : gI H T = s + 1) (d : dS H s' x) (hs : ¬ s' = s) : dS (gApp H T s e) s' x := by
  have le := Hle_app (T := T) (s := s) (e := e) h
  obtain ⟨a, b, c', d', ek, g, q⟩ := d
  refine ⟨⟨LM_le le a.1, a.2⟩, b, c', fun z => ?_, ⟨fun t ht => ?_, fun t p hp hh => ?_⟩, ⟨g.1, fun z => excov_le le h (g.2 z)⟩, q⟩
  · obtain ⟨z1, z2, z3, z4, z5⟩ := d' z
    have c : ¬ xT x = T := fun z => by rw [z] at z1; omega
    rw [gApp_N c, gApp_L c, gApp_K (fun z => c z.1)]
    exact ⟨z1, z2, z3, z4, fun v v1 v2 => by rw [gApp_K (fun z => c z.1)]; exact z5 v v1 v2⟩
  · rw [gApp_K (fun z => hs z.2)]; exact ek.1 t ht
  · rw [gApp_K (fun z => hs z.2)] at hp
    have hpn : p ≤ gN H t := Nat.le_trans hp (h.2.2.2.2.2.1 t s').1
    obtain ⟨r1, r2⟩ := ek.2 t p hp (fun t' t1 t2 t3 => hasP_app h hpn t3 (hh t' t1 t2 t3))
    exact ⟨r1, r2.trans (gApp_eq hpn).symm⟩
end App
theorem dS_app_s {H : Gh} {s : Nat} {x : Xr} {e : En} (h : Hst H) (hr : xR x = 2) (he : tmE e = xT x) (d : dS H s x) : dS (gApp H (xT x) s e) s (mkX (xT x) (xV x) (xR x) (xL x + 1) (xA x) (xS x) (xH x) (updL (xF x) (xL x + 1) e)) := by
  have le := Hle_app (T := xT x) (s := s) (e := e) h
  obtain ⟨a, b, c', d', ek, g, q⟩ := d
  obtain ⟨z1, z2, z3, z4, z5⟩ := d' hr
  have hT1 : 1 ≤ gI H (xT x) := by omega
  have heq : Eqp (updL (xF x) (xL x + 1) e) (gL (gApp H (xT x) s e) (xT x)) (xL x + 1) := by
    rw [gApp_L1, z2]
    intro i i1 i2
    by_cases c : i = xL x + 1
    · rw [c, updL_at, updL_at]
    · rw [updL_ne c, updL_ne c]; exact z3 i i1 (by omega)
  refine ⟨⟨fun p p1 p2 => ?_, fun p p1 p2 => ?_, fun z => absurd (hr.symm.trans z) (by decide)⟩, b, c', fun z => ?_, ⟨fun t ht => ?_, fun t p hp hh => ?_⟩, ⟨Nat.le_succ_of_le g.1, fun z => ?_⟩, fun z => absurd (hr.symm.trans z) (by decide)⟩
  · have p2 : p ≤ xL x + 1 := p2
    show 1 ≤ gI (gApp H (xT x) s e) (tmE (updL (xF x) (xL x + 1) e p)) ∧ p ≤ gN (gApp H (xT x) s e) (tmE (updL (xF x) (xL x + 1) e p)) ∧ Eqp (updL (xF x) (xL x + 1) e) (gL (gApp H (xT x) s e) (tmE (updL (xF x) (xL x + 1) e p))) p
    by_cases c : p = xL x + 1
    · have e1 : tmE (updL (xF x) (xL x + 1) e p) = xT x := by rw [c, updL_at]; exact he
      rw [e1]
      exact ⟨hT1, by rw [gApp_N1]; omega, heq.mono p2⟩
    · rw [updL_ne c]
      obtain ⟨m1, m2, m3⟩ := LM_le le a.1 p p1 (by omega)
      exact ⟨m1, m2, updL_eqp m3 (by omega)⟩
  · have p2 : p ≤ xL x + 1 := p2
    show tmE (updL (xF x) (xL x + 1) e p) ≤ xT x
    by_cases c : p = xL x + 1
    · rw [c, updL_at, he]; exact Nat.le_refl _
    · rw [updL_ne c]; exact a.2.1 p p1 (by omega)
  · show gI H (xT x) = s + 1 ∧ gN (gApp H (xT x) s e) (xT x) = xL x + 1 ∧ Eqp (updL (xF x) (xL x + 1) e) (gL (gApp H (xT x) s e) (xT x)) (xL x + 1) ∧ gK (gApp H (xT x) s e) (xT x) s = xL x + 1 ∧ ∀ v, v < 5 → v ≠ s → xH x v ≤ gK (gApp H (xT x) s e) (xT x) v
    refine ⟨z1, by rw [gApp_N1, z2], heq, by rw [gApp_K1, z2], fun v v1 v2 => ?_⟩
    rw [gApp_K (fun z => v2 z.2)]; exact z5 v v1 v2
  · have ht : xT x < t := ht
    rw [gApp_K (fun z => by omega)]; exact ek.1 t ht
  · show p ≤ xL x + 1 ∧ Eqp (updL (xF x) (xL x + 1) e) (gL (gApp H (xT x) s e) t) p
    by_cases c : t = xT x
    · subst c
      rw [gApp_K1, z2] at hp
      exact ⟨hp, heq.mono hp⟩
    · rw [gApp_K (fun z => c z.1)] at hp
      have hpn : p ≤ gN H t := Nat.le_trans hp (h.2.2.2.2.2.1 t s).1
      obtain ⟨r1, r2⟩ := ek.2 t p hp (fun t' t1 t2 t3 => hasP_app h hpn t3 (hh t' t1 t2 t3))
      exact ⟨by omega, (updL_eqp r2 (by omega)).trans (gApp_eq hpn).symm⟩
  · have g1 := g.1
    obtain ⟨i, i1, c1, c2, c3⟩ := excov_le le h (g.2 z)
    exact ⟨i, i1, c1, c2, updL_eqp c3 (show xA x < xL x + 1 by omega)⟩
/-! what a store has taken -/
def gAck (H : Gh) (T s p : Nat) : Gh := (gI H, gL H, gN H, gB H, fun t v => if t = T ∧ v = s then max (gK H t v) p else gK H t v, gV H, gE H, gM H, gX H)
section Ack
variable {H : Gh} {T s p : Nat}
theorem gAck_K {t v : Nat} (h : ¬ (t = T ∧ v = s)) : gK (gAck H T s p) t v = gK H t v := if_neg h
theorem gAck_K1 : gK (gAck H T s p) T s = max (gK H T s) p := if_pos ⟨rfl, rfl⟩
theorem gAck_Kle {t v : Nat} : gK H t v ≤ gK (gAck H T s p) t v := by
  by_cases c : t = T ∧ v = s
  · rw [c.1, c.2, gAck_K1]; omega
  · rw [gAck_K c]; exact Nat.le_refl _
theorem Hle_ack : Hle H (gAck H T s p) := ⟨fun t _ => ⟨rfl, rfl, Nat.le_refl _, Eqp.refl⟩, Nat.le_refl _, fun _ _ => rfl, rfl, fun _ _ => gAck_Kle, fun _ _ _ => rfl⟩
theorem Hst_ack (h : Hst H) (hT : 1 ≤ gI H T) (hp : p ≤ gN H T) (hv : ∀ T2, T < T2 → (gV H T2 s).1 = 0) : Hst (gAck H T s p) := by
  obtain ⟨a, m, v, w, k, n', ev, cc, d⟩ := id h
  refine ⟨a, m, fun t ht => ?_, w, fun t u hu T0 hT0 q hq hh => ?_, fun t u => ?_, fun i hi => ?_, cc, d⟩
  · obtain ⟨Q, q1, q2⟩ := v t ht
    refine ⟨Q, q1, fun u hu hb => ?_⟩
    obtain ⟨q3, q4, q5⟩ := q2 u hu hb
    refine ⟨q3, q4, fun T0 hT0 q hq hh => ?_⟩
    by_cases c : T0 = T ∧ u = s
    · have := hv t (by omega)
      rw [c.2] at q3
      have ht : 1 ≤ gI H t := ht
      omega
    · rw [gAck_K c] at hq
      exact q5 T0 hT0 q hq hh
  · have hu : 1 ≤ (gV H t u).1 := hu
    by_cases c : T0 = T ∧ u = s
    · have := hv t (by omega)
      rw [c.2] at hu
      omega
    · rw [gAck_K c] at hq
      exact k t u hu T0 hT0 q hq hh
  · show gK (gAck H T s p) t u ≤ gN H t ∧ (1 ≤ gK (gAck H T s p) t u → 1 ≤ gI H t)
    by_cases c : t = T ∧ u = s
    · rw [c.1, c.2, gAck_K1]
      have := (n' T s).1
      exact ⟨by omega, fun _ => hT⟩
    · rw [gAck_K c]; exact n' t u
  · obtain ⟨e1, e2, e3, e4, e5, e6, e7⟩ := ev i hi
    exact ⟨e1, e2, e3, e4, e5, e6, fun v hv hb => Nat.le_trans (e7 v hv hb) gAck_Kle⟩
theorem dS_ack_o {s' : Nat} {x : Xr} (d : dS H s' x) (hs : ¬ s' = s) : dS (gAck H T s p) s' x := by
  obtain ⟨a, b, c', d', ek, g, q⟩ := d
  refine ⟨a, b, c', fun z => ?_, ⟨fun t ht => ?_, fun t q hq hh => ?_⟩, g, q⟩
  · obtain ⟨z1, z2, z3, z4, z5⟩ := d' z
    exact ⟨z1, z2, z3, by rw [gAck_K (fun z => hs z.2)]; exact z4, fun v v1 v2 => Nat.le_trans (z5 v v1 v2) gAck_Kle⟩
  · rw [gAck_K (fun z => hs z.2)]; exact ek.1 t ht
  · rw [gAck_K (fun z => hs z.2)] at hq
    exact ek.2 t q hq hh
theorem dS_ack_s {x : Xr} (d : dS H s x) (hr : ¬ xR x = 2) (hT : T = xT x) (h1 : p ≤ xL x) (h2 : Eqp (xF x) (gL H T) p) : dS (gAck H T s p) s x := by
  obtain ⟨a, b, c', d', ek, g, q⟩ := d
  refine ⟨a, b, c', fun z => absurd z hr, ⟨fun t ht => ?_, fun t q hq hh => ?_⟩, g, q⟩
  · rw [gAck_K (fun z => by omega)]; exact ek.1 t ht
  · by_cases c : t = T
    · subst c
      rw [gAck_K1] at hq
      by_cases z : q ≤ gK H t s
      · exact ek.2 t q z hh
      · have : q ≤ p := by omega
        exact ⟨by omega, h2.mono this⟩
    · rw [gAck_K (fun z => c z.1)] at hq
      exact ek.2 t q hq hh
end Ack
/-! something is agreed -/
def gEv (H : Gh) (T p n : Nat) (Q : Int32) : Gh := (gI H, gL H, gN H, gB H, gK H, gV H, fun i => if i = gM H then (T, p, n, Q) else gE H i, gM H + 1, gX H)
section Ev
variable {H : Gh} {T p n : Nat} {Q : Int32}
theorem gEv_E {i : Nat} (h : i < gM H) : gE (gEv H T p n Q) i = gE H i := if_neg (by omega)
theorem gEv_E1 : gE (gEv H T p n Q) (gM H) = (T, p, n, Q) := if_pos rfl
theorem gEv_M : gM (gEv H T p n Q) = gM H + 1 := rfl
theorem Hle_ev : Hle H (gEv H T p n Q) := ⟨fun t _ => ⟨rfl, rfl, Nat.le_refl _, Eqp.refl⟩, Nat.le_succ _, fun _ hi => gEv_E hi, rfl, fun _ _ => Nat.le_refl _, fun _ _ _ => rfl⟩
theorem Hst_ev (h : Hst H) (hT : 1 ≤ gI H T) (h1 : 1 ≤ p) (h2 : p ≤ n) (h3 : n ≤ gN H T) (h4 : tmE (gL H T p) = T) (h5 : maj2 (cfg (gX H) (gL H T) n) Q) (h6 : ∀ v, v < 5 → bit Q v → p ≤ gK H T v) : Hst (gEv H T p n Q) := by
  have le := Hle_ev (H := H) (T := T) (p := p) (n := n) (Q := Q)
  obtain ⟨a, m, v, w, k, n', ev, cc, d⟩ := id h
  refine ⟨a, m, v, w, k, n', fun i hi => ?_, fun t ht q q1 q2 q3 => ?_, fun j hj q q1 q2 q3 q4 => ?_⟩
  · rw [gEv_M] at hi
    by_cases c : i = gM H
    · rw [c, gEv_E1]; exact ⟨hT, h1, h2, h3, h4, h5, h6⟩
    · rw [gEv_E (by omega)]; exact ev i (by omega)
  · obtain ⟨z1, z2⟩ := cc t ht q q1 q2 q3
    exact ⟨z1, fun z => excov_le le h (z2 z)⟩
  · rw [gEv_M] at hj
    by_cases c : j = gM H
    · subst c
      rw [gEv_E1] at q2 q3 q4 ⊢
      have q2 : q ≤ n := q2
      obtain ⟨z1, z2⟩ := cc T hT q q1 (by omega) q3
      obtain ⟨i, i1, i2⟩ := z2 q4
      exact ⟨i, i1, cov_le le h i1 i2⟩
    · rw [gEv_E (by omega)] at q2 q3 q4 ⊢
      obtain ⟨i, i1, i2⟩ := d j (by omega) q q1 q2 q3 q4
      exact ⟨i, i1, cov_le le h (by omega) i2⟩
theorem dS_ev {s' : Nat} {x : Xr} (h : Hst H) (d : dS H s' x) : dS (gEv H T p n Q) s' x := by
  have le := Hle_ev (H := H) (T := T) (p := p) (n := n) (Q := Q)
  obtain ⟨a, b, c', d', ek, g, q⟩ := d
  exact ⟨a, b, c', d', ek, ⟨g.1, fun z => excov_le le h (g.2 z)⟩, q⟩
end Ev
/-- who stands and wins is the first that leads in its term -/
theorem win_new {H : Gh} (h : Hst H) {s : Nat} {x : Xr} (d : dS H s x) (hr : xR x = 1) (hm : maj2 (cfg (gX H) (xF x) (xL x)) (xS x)) : gI H (xT x) = 0 := by
  apply Classical.byContradiction
  intro hn
  have hT : 1 ≤ gI H (xT x) := by omega
  obtain ⟨a, b, c', d', ek, g, q⟩ := d
  obtain ⟨q1, q2, -⟩ := q hr
  have hw : Win H (xT x) (xF x) (xL x) (s + 1) := by
    refine ⟨⟨xS x, hm, fun v hv hb => ?_⟩, a.1, (a.2.2 hr).2, by omega⟩
    have v1 := q1 v hv hb
    refine ⟨v1, q2 v v1, fun i hi hT0 hk hh => ?_⟩
    refine h.2.2.2.2.1 (xT x) v (by omega) _ hT0 _ hk (fun t t1 t2 t3 => ?_)
    by_cases c : t = xT x
    · subst c
      exact LC h _ i hi hT0 _ _ _ (win_ld h hT)
    · exact hh t t1 (by omega) t3
  have e := ES h hw (win_ld h hT)
  exact (c'.2 (xT x) e.symm).2 rfl hr
