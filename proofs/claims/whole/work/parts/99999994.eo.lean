/-! ===== what a store does depends on itself ===== -/
def Lc (s : Nat) (A B : Rw) : Prop := (∀ k, 514 * s ≤ k → k < 514 * s + 514 → B k = A k) ∧ ∀ k, 4513 ≤ k → B k = A k
section Lc
variable {A B g : Rw} {s f : Nat}
theorem Lc.at (h : Lc s A B) {j : Nat} (hj : j < 514) : B (514 * s + j) = A (514 * s + j) := h.1 _ (by omega) (by omega)
theorem Lc_if {c c' : Prop} [Decidable c] [Decidable c'] {a a' b b' : Rw} (hc : c' ↔ c) (h1 : c → Lc s a a') (h2 : ¬ c → Lc s b b') : Lc s (if c then a else b) (if c' then a' else b') := by
  by_cases q : c
  · rw [if_pos q, if_pos (hc.mpr q)]; exact h1 q
  · rw [if_neg q, if_neg (fun z => q (hc.mp z))]; exact h2 q
theorem Lc_up (h : Lc s A B) {k : Nat} {v v' : Int32} (hv : v' = v) : Lc s (up A k v) (up B k v') := by
  subst hv
  have e : ∀ i, B i = A i → up B k v' i = up A k v' i := fun i hi => by
    by_cases c : i = k
    · subst c; rw [up_at, up_at]
    · rw [up_ne c, up_ne c]; exact hi
  exact ⟨fun i h1 h2 => e i (h.1 i h1 h2), fun i hi => e i (h.2 i hi)⟩
theorem Lc_lo (hs : s < 5) (h : Lc s A B) {A' B' : Rw} (ha : ∀ k, k < 2570 ∨ 4513 ≤ k → A' k = A k) (hb : ∀ k, k < 2570 ∨ 4513 ≤ k → B' k = B k) : Lc s A' B' :=
  ⟨fun i h1 h2 => by rw [ha i (by omega), hb i (by omega)]; exact h.1 i h1 h2, fun i hi => by rw [ha i (by omega), hb i (by omega)]; exact h.2 i hi⟩
theorem Lc_mem (hs : s < 5) (h : Lc s A B) (hl : rg (A (514 * s + 4)) 0 120) : qMem B s = qMem A s := qMem_lo hs hl h.1 (h.2 _ (by omega))
theorem Lc_tm (hs : s < 5) (h : Lc s A B) (hl : rg (A (514 * s + 4)) 0 120) {p : Int32} : qTermAt B s p = qTermAt A s p := qTermAt_lo hs hl h.1
theorem Lc_hav (h : Lc s A B) {p : Int32} : qHav B s p = qHav A s p := by
  unfold qHav hv1
  rw [h.1 (514 * s + 29 + 0) (by omega) (by omega), h.1 (514 * s + 29 + 1) (by omega) (by omega), h.1 (514 * s + 29 + 2) (by omega) (by omega), h.1 (514 * s + 29 + 3) (by omega) (by omega), h.1 (514 * s + 29 + 4) (by omega) (by omega)]
theorem Lc_top (hs : s < 5) (h : Lc s A B) (hl : rg (A (514 * s + 4)) 0 120) : ∀ p, p ≤ 120 → qTop B s p = qTop A s p := by
  intro p
  induction p with
  | zero => intro _; rfl
  | succ p ih =>
    intro hp
    rw [qTop_s, qTop_s, Lc_mem hs h hl, Lc_hav h, ih (by omega), h.1 (514 * s + 7) (by omega) (by omega), h.1 (514 * s + 30 + 4 * (p + 1)) (by omega) (by omega), h.1 (514 * s + 1) (by omega) (by omega)]
theorem Lc_reads (h : Lc s A B) : Lc s (qReadsNothing A s) (qReadsNothing B s) := by
  unfold qReadsNothing
  exact Lc_up (Lc_up (Lc_up (Lc_up h rfl) rfl) rfl) rfl
theorem Lc_plays (h : Lc s A B) {r : Int32} : Lc s (qPlays A s r) (qPlays B s r) := by
  unfold qPlays
  exact Lc_if (by rw [h.at (j := 3) (by omega)]) (fun _ => h) (fun _ => Lc_if (by rw [h.at (j := 11) (by omega)]) (fun _ => Lc_reads (Lc_up (Lc_up h rfl) rfl)) (fun _ => Lc_up (Lc_up h rfl) rfl))
theorem Lc_put (h : Lc s A B) {tm tm' kd x x' y : Int32} (e1 : tm' = tm) (e2 : x' = x) : Lc s (qPut A s tm kd x y) (qPut B s tm' kd x' y) := by
  subst e1 e2
  unfold qPut
  rw [h.at (j := 4) (by omega)]
  exact Lc_up (Lc_up (Lc_up (Lc_up (Lc_up h rfl) rfl) rfl) rfl) rfl
theorem Lc_post (hs : s < 5) (h : Lc s A B) {f t f' t' : Nat} {r r' : Rw} (ha : rg (A 4510) 0 60) (hb : rg (B 4510) 0 60) : Lc s (qPost A f t r) (qPost B f' t' r') := by
  have k : ∀ (C : Rw) (f t : Nat) (r : Rw), rg (C 4510) 0 60 → ∀ k, k < 2570 ∨ 4513 ≤ k → qPost C f t r k = C k := fun C f t r hC k hk => by
    by_cases c : k < 514
    · exact Fr_post (s := 1) (by omega) hC k (by omega)
    · exact Fr_post (s := 0) (by omega) hC k (by omega)
  exact Lc_lo hs h (k A f t r ha) (k B f' t' r' hb)
theorem Lc_feed (hs : s < 5) (h : Lc s A B) {t : Nat} (ha : rg (A 4510) 0 60) (hb : rg (B 4510) 0 60) : Lc s (qFeed A s t) (qFeed B s t) := by
  unfold qFeed
  split <;> split <;> exact Lc_post hs h ha hb
theorem Lc_feedsAll (hs : s < 5) (h : Lc s A B) (ha : rg (A 4510) 0 60) (hb : rg (B 4510) 0 60) : Lc s (qFeedsAll A s) (qFeedsAll B s) := by
  refine Lc_lo hs h (fun k hk => ?_) (fun k hk => ?_)
  · rcases hk with c | c
    · exact qFeedsAll_lo c
    · exact Fr_feedsAll hs ha k (by omega)
  · rcases hk with c | c
    · exact qFeedsAll_lo c
    · exact Fr_feedsAll hs hb k (by omega)
theorem Lc_asksAll (hs : s < 5) (h : Lc s A B) {kd : Int32} (ha : rg (A 4510) 0 60) (hb : rg (B 4510) 0 60) : Lc s (qAsksAll A s kd) (qAsksAll B s kd) := by
  refine Lc_lo hs h (fun k hk => ?_) (fun k hk => ?_)
  · rcases hk with c | c
    · exact qAsksAll_lo c
    · exact Fr_asksAll hs ha k (by omega)
  · rcases hk with c | c
    · exact qAsksAll_lo c
    · exact Fr_asksAll hs hb k (by omega)
def do1a (A : Rw) (s p : Nat) : Rw := if A (514 * s + 30 + 4 * p + 1) = 1 then up A (514 * s + 16 + (A (514 * s + 30 + 4 * p + 2)).toNatClampNeg) (A (514 * s + 30 + 4 * p + 3))
    else if A (514 * s + 30 + 4 * p + 1) = 2 then up A (514 * s + 16 + (A (514 * s + 30 + 4 * p + 2)).toNatClampNeg) (A (514 * s + 16 + (A (514 * s + 30 + 4 * p + 2)).toNatClampNeg) + A (514 * s + 30 + 4 * p + 3)) else A
theorem do1_eq {A : Rw} {s p : Nat} : qDo1 A s p = if do1a A s p (3826 + 4 * p) = 0 then cpF (do1a A s p) (do1a A s p) (514 * s + 30 + 4 * p) (3826 + 4 * p) 4 else do1a A s p := rfl
def c3 (A : Rw) (s p : Nat) : Prop := (A (514 * s + 30 + 4 * p + 1) = 1 ∨ A (514 * s + 30 + 4 * p + 1) = 2) → rg (A (514 * s + 30 + 4 * p + 2)) 0 3
theorem Lc_do1 (hs : s < 5) (h : Lc s A B) {p : Nat} (p1 : 1 ≤ p) (hp : p ≤ 120) (hc : c3 A s p) : Lc s (qDo1 A s p) (qDo1 B s p) ∧ ∀ i, 514 * s + 20 ≤ i → i < 514 * s + 514 → qDo1 A s p i = A i := by
  have lo : ∀ (C : Rw), (∀ k, k < 2570 ∨ 4513 ≤ k → qDo1 C s p k = do1a C s p k) := fun C k hk => by
    rw [do1_eq]
    split
    · exact cpF_out (by omega)
    · rfl
  refine ⟨Lc_lo hs (A := do1a A s p) (B := do1a B s p) ?_ (lo A) (lo B), fun i i1 i2 => ?_⟩
  · unfold do1a
    rw [h.1 (514 * s + 30 + 4 * p + 1) (by omega) (by omega), h.1 (514 * s + 30 + 4 * p + 2) (by omega) (by omega), h.1 (514 * s + 30 + 4 * p + 3) (by omega) (by omega)]
    refine Lc_if Iff.rfl (fun _ => Lc_up h rfl) (fun _ => Lc_if Iff.rfl (fun c => Lc_up h ?_) (fun _ => h))
    obtain ⟨n, en, en0, -, en1⟩ := rg_ex (hc (Or.inr c))
    rw [en, nI_clamp en0, h.1 (514 * s + 16 + n) (by omega) (by omega)]
  · rw [lo A i (by omega)]
    unfold do1a
    split
    · rename_i c
      obtain ⟨n, en, en0, -, en1⟩ := rg_ex (hc (Or.inl c))
      rw [en, nI_clamp en0]
      exact up_ne (by omega)
    · split
      · rename_i c
        obtain ⟨n, en, en0, -, en1⟩ := rg_ex (hc (Or.inr c))
        rw [en, nI_clamp en0]
        exact up_ne (by omega)
      · rfl
theorem Lc_dos (hs : s < 5) : ∀ (n p : Nat) (A B : Rw), Lc s A B → 1 ≤ p → p + n ≤ 121 → (∀ q, p ≤ q → q < p + n → c3 A s q) → Lc s (dosF s n p A) (dosF s n p B) := by
  intro n
  induction n with
  | zero => intro p A B h _ _ _; exact h
  | succ n ih =>
    intro p A B h p1 hp hc
    show Lc s (dosF s n (p + 1) (qDo1 A s p)) (dosF s n (p + 1) (qDo1 B s p))
    obtain ⟨h1, h2⟩ := Lc_do1 hs h p1 (by omega) (hc p (by omega) (by omega))
    refine ih (p + 1) _ _ h1 (by omega) (by omega) (fun q q1 q2 => ?_)
    have := hc q (by omega) (by omega)
    unfold c3 at *
    rw [h2 (514 * s + 30 + 4 * q + 1) (by omega) (by omega), h2 (514 * s + 30 + 4 * q + 2) (by omega) (by omega)]
    exact this
theorem Lc_does (hs : s < 5) (h : Lc s A B) {to : Int32} (ha : agOK A s) (ht : rg to 0 120) (hto : to.toInt ≤ (A (514 * s + 4)).toInt ∨ to.toInt ≤ (A (514 * s + 7)).toInt) : Lc s (qDoes A s to) (qDoes B s to) := by
  unfold qDoes
  rw [h.at (j := 7) (by omega)]
  obtain ⟨t, et, et0, -, et1⟩ := rg_ex ht
  obtain ⟨a, ea, ea0, -, ea1⟩ := rg_ex ha.2.1
  obtain ⟨l, el, el0, -, el1⟩ := rg_ex ha.1.2.1
  have hop := ha.2.2
  unfold opOK at hop
  rw [ea, el, nI_clamp ea0, nI_clamp el0] at hop
  rw [et, ea, el, nI_toInt et0, nI_toInt ea0, nI_toInt el0] at hto
  have h1 : Lc s (dosF s (to.toNatClampNeg - (A (514 * s + 7)).toNatClampNeg) ((A (514 * s + 7)).toNatClampNeg + 1) A) (dosF s (to.toNatClampNeg - (A (514 * s + 7)).toNatClampNeg) ((A (514 * s + 7)).toNatClampNeg + 1) B) := by
    rw [et, ea, nI_clamp et0, nI_clamp ea0]
    by_cases c : t ≤ a
    · rw [show t - a = 0 by omega]; exact h
    · exact Lc_dos hs _ _ A B h (by omega) (by omega) (fun q q1 q2 => hop q (by omega) (by omega))
  exact Lc_up h1 (by rw [h1.at (j := 7) (by omega)])
theorem Lc_agr1 (hs : s < 5) (h : Lc s A B) (ha : agOK A s) : Lc s (qAgr1 A s) (qAgr1 B s) := by
  unfold qAgr1
  obtain ⟨l, el, el0, -, el1⟩ := rg_ex ha.1.2.1
  have t := top_ok ha
  rw [h.at (j := 4) (by omega)]
  rw [el, nI_clamp el0] at t ⊢
  rw [Lc_top hs h ha.1.2.1 l (by omega)]
  exact Lc_does hs h ha t.1 (Or.inl (by rw [el]; exact t.2))
theorem Lc_fin (hs : s < 5) (h : Lc s A B) (ha : agOK A s) : Lc s (qFin A s) (qFin B s) := by
  unfold qFin
  exact Lc_if (by rw [Lc_mem hs h ha.1.2.1, h.at (j := 7) (by omega)]) (fun _ => Lc_plays h) (fun _ => h)
theorem Lc_agr0 (hs : s < 5) (h : Lc s A B) (ha : agOK A s) : Lc s (qAgr0 A s) (qAgr0 B s) := Lc_fin hs (Lc_agr1 hs h ha) (agOK_1 hs ha)
theorem Lc_join (hs : s < 5) (h : Lc s A B) (ha : agOK A s) (hb : agOK B s) (hl : (qAgr1 A s) (514 * s + 4) < 120) : Lc s (qJoin A s) (qJoin B s) := by
  have h1 := Lc_agr1 hs h ha
  have a1 := agOK_1 hs ha
  have b1 := agOK_1 hs hb
  have hl' : (qAgr1 B s) (514 * s + 4) < 120 := by rw [h1.at (j := 4) (by omega)]; exact hl
  unfold qJoin
  refine Lc_feedsAll hs (Lc_put h1 (h1.at (j := 1) (by omega)) (by rw [Lc_mem hs h ha.1.2.1])) ?_ ?_
  · exact (agOK_put hs a1 (lt_119 a1.1.2.1 hl) (fun z => by rcases z with z | z <;> exact absurd z (by decide))).1.1
  · exact (agOK_put hs b1 (lt_119 b1.1.2.1 hl') (fun z => by rcases z with z | z <;> exact absurd z (by decide))).1.1
theorem Lc_agr (hs : s < 5) (h : Lc s A B) (ha : agOK A s) (hb : agOK B s) : Lc s (qAgr A s) (qAgr B s) := by
  have h1 := Lc_agr1 hs h ha
  unfold qAgr
  refine Lc_if (by unfold leaves; rw [Lc_mem hs h ha.1.2.1, h1.at (j := 7) (by omega), h1.at (j := 4) (by omega)]) (fun c => ?_) (fun _ => Lc_agr0 hs h ha)
  have hl' : (qAgr1 B s) (514 * s + 4) < 120 := by rw [h1.at (j := 4) (by omega)]; exact c.2.2
  have j := Lc_join hs h ha hb c.2.2
  have ja := agOK_join hs ha c.2.2
  exact Lc_fin hs (Lc_agr0 hs j ja) (agOK_0 hs ja)
theorem Lc_lead1 (hs : s < 5) (h : Lc s A B) (ha : ldOK A s) : Lc s (qLead1 A s) (qLead1 B s) := by
  have h2 : Lc s (qReadsNothing (qPlays A s 2) s) (qReadsNothing (qPlays B s 2) s) := Lc_reads (Lc_plays h)
  have et : qReadsNothing (qPlays A s 2) s (514 * s + 1) = A (514 * s + 1) := by rw [qReads_out (by omega), qPlays_out (by omega)]
  obtain ⟨tm, em, em0, em1, em2⟩ := rg_ex ha.2.2
  have h0 : Lc s (qLead0 A s) (qLead0 B s) := by
    unfold qLead0
    generalize qReadsNothing (qPlays A s 2) s = A2 at *
    generalize qReadsNothing (qPlays B s 2) s = B2 at *
    have h3 : Lc s (up A2 (4309 + (A2 (514 * s + 1)).toNatClampNeg) (A2 (4309 + (A2 (514 * s + 1)).toNatClampNeg) ||| (1 : Int32) <<< (nI s &&& 31))) (up B2 (4309 + (B2 (514 * s + 1)).toNatClampNeg) (B2 (4309 + (B2 (514 * s + 1)).toNatClampNeg) ||| (1 : Int32) <<< (nI s &&& 31))) := by
      refine Lc_lo hs h2 (fun k hk => up_ne ?_) (fun k hk => up_ne ?_)
      · rw [et, em, nI_clamp em0]; omega
      · rw [h2.at (j := 1) (by omega), et, em, nI_clamp em0]; omega
    show Lc s (nx5 _ s _) (nx5 _ s _)
    have e4 := h3.at (j := 4) (by omega)
    rw [e4]
    refine ⟨fun k k1 k2 => ?_, fun k hk => ?_⟩
    · unfold nx5
      split
      · rfl
      · split
        · rfl
        · exact h3.1 k k1 k2
    · unfold nx5
      rw [if_neg (by omega), if_neg (by omega), if_neg (by omega), if_neg (by omega)]
      exact h3.2 k hk
  rw [qLead1_eq, qLead1_eq]
  exact Lc_if (by rw [h0.at (j := 4) (by omega)]) (fun _ => Lc_put h0 (h0.at (j := 1) (by omega)) rfl) (fun _ => h0)
theorem Lc_leads (hs : s < 5) (h : Lc s A B) (ha : ldOK A s) (hb : ldOK B s) : Lc s (qLeads A s) (qLeads B s) := by
  have a1 := (lead1_ok hs ha).1
  have b1 := (lead1_ok hs hb).1
  exact Lc_agr hs (Lc_feedsAll hs (Lc_lead1 hs h ha) a1.1.1 b1.1.1) (agOK_feeds hs a1) (agOK_feeds hs b1)
theorem Lc_own (hs : s < 5) (h : Lc s A B) (hl : rg (A (514 * s + 4)) 0 120) : ownMaj B s ↔ ownMaj A s := by unfold ownMaj; rw [Lc_mem hs h hl]
theorem Lc_stands (hs : s < 5) (h : Lc s A B) (ha : suOK A s) (hb : suOK B s) : Lc s (qStands A s) (qStands B s) := by
  have h1 : Lc s (qStand1 A s) (qStand1 B s) := by
    unfold qStand1
    exact Lc_up (Lc_up (Lc_plays (Lc_up h (by rw [h.at (j := 1) (by omega)]))) rfl) rfl
  have h2 := Lc_asksAll (kd := 0) hs h1 (by rw [qStand1_out (by omega)]; exact ha.1.1.1) (by rw [qStand1_out (by omega)]; exact hb.1.1.1)
  unfold qStands
  exact Lc_if (Lc_own hs h1 (by rw [qStand1_out (by omega)]; exact ha.1.1.2.1)) (fun _ => Lc_leads hs h2 (stand1_ok hs ha) (stand1_ok hs hb)) (fun _ => h2)
theorem Lc_asks (hs : s < 5) (h : Lc s A B) (ha : suOK A s) (hb : suOK B s) : Lc s (qAsks A s) (qAsks B s) := by
  have h1 : Lc s (qAsk1 A s) (qAsk1 B s) := by
    unfold qAsk1
    exact Lc_up (Lc_plays h) rfl
  have h2 := Lc_asksAll (kd := 7) hs h1 (by rw [qAsk1_out (by omega)]; exact ha.1.1.1) (by rw [qAsk1_out (by omega)]; exact hb.1.1.1)
  unfold qAsks
  exact Lc_if (by rw [h.2 4515 (by omega)]) (fun _ => Lc_stands hs h ha hb) (fun _ => Lc_if (Lc_own hs h1 (by rw [qAsk1_out (by omega)]; exact ha.1.1.2.1)) (fun _ => Lc_stands hs h2 (ask1_ok hs ha) (ask1_ok hs hb)) (fun _ => h2))
theorem Lc_follow (h : Lc s A B) {t : Int32} : Lc s (qFollow A s t) (qFollow B s t) := by
  unfold qFollow
  exact Lc_plays (Lc_up (Lc_up h rfl) rfl)
end Lc
