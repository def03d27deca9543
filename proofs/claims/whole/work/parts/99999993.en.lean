/-! ===== what a step does to the mail ===== -/
abbrev elK (k : Int32) : Prop := k = 1 ∨ k = 6 ∨ k = 8
def nwM (X : Int32 → Prop) (s : Nat) (r : Rw) : Prop := ¬ r 1 = nI s ∧ (elK (r 3) → X (r 1))
def Mp (X : Int32 → Prop) (s : Nat) (A B : Rw) : Prop := (A 4510).toNatClampNeg ≤ (B 4510).toNatClampNeg ∧ (∀ j, j < (A 4510).toNatClampNeg → j < 60 → ∀ k, k < 21 → rowM B j k = rowM A j k) ∧ ∀ j, (A 4510).toNatClampNeg ≤ j → j < (B 4510).toNatClampNeg → j < 60 → nwM X s (rowM B j)
section Mp
variable {X : Int32 → Prop}
theorem nwM_of {s : Nat} {r r' : Rw} (h : nwM X s r) (e : ∀ k, k < 21 → r' k = r k) : nwM X s r' := by
  unfold nwM at *
  rw [e 1 (by omega), e 3 (by omega)]
  exact h
theorem Mp.rfl' {s : Nat} {A : Rw} : Mp X s A A := ⟨Nat.le_refl _, fun _ _ _ _ _ => rfl, fun j h1 h2 => by omega⟩
theorem Mp.tr {s : Nat} {A B C : Rw} (h1 : Mp X s A B) (h2 : Mp X s B C) : Mp X s A C := by
  obtain ⟨a1, a2, a3⟩ := h1
  obtain ⟨b1, b2, b3⟩ := h2
  refine ⟨by omega, fun j hj j6 k hk => by rw [b2 j (by omega) j6 k hk]; exact a2 j hj j6 k hk, fun j j1 j2 j6 => ?_⟩
  by_cases c : j < (B 4510).toNatClampNeg
  · exact nwM_of (a3 j j1 c j6) (fun k hk => b2 j c j6 k hk)
  · exact b3 j (by omega) j2 j6
theorem Mp_same {s : Nat} {A B : Rw} (h : ∀ k, (2570 ≤ k ∧ k < 3830) ∨ k = 4510 → B k = A k) : Mp X s A B := by
  have e := h 4510 (Or.inr rfl)
  refine ⟨by rw [e]; exact Nat.le_refl _, fun j hj j6 k hk => h _ (by omega), fun j h1 h2 => by rw [e] at h2; omega⟩
theorem Mp_up {s j : Nat} {A : Rw} {v : Int32} (hs : s < 5) (hj : j < 514) : Mp X s A (up A (514 * s + j) v) := Mp_same (fun k hk => up_ne (by omega))
theorem Mp_plays {s : Nat} {A : Rw} {r : Int32} (hs : s < 5) : Mp X s A (qPlays A s r) := Mp_same (fun k hk => qPlays_out (by omega))
theorem Mp_put {s : Nat} {A : Rw} {tm kd x y : Int32} (hs : s < 5) (hl : rg (A (514 * s + 4)) 0 119) : Mp X s A (qPut A s tm kd x y) := by
  obtain ⟨l, el, el0, -, el1⟩ := rg_ex hl
  exact Mp_same (fun k hk => qPut_out el el0 (by omega) (by omega))
theorem Mp_post {s t : Nat} {A row : Rw} {kd : Int32} (hs : s < 5) (hw : rg (A 4510) 0 60) (ht : t < 5) (h1 : row 1 = nI t) (h3 : row 3 = kd) (hk : elK kd → X (nI t)) : Mp X s A (qPost A s t row) := by
  obtain ⟨w, ew, ew0, -, ew1⟩ := rg_ex hw
  unfold qPost
  split
  · exact Mp.rfl'
  · rename_i hst
    split
    · rename_i hok
      have hw60 : ¬ w = 60 := fun z => hok.2.1 (by rw [ew, z]; rfl)
      have eB : qPush A row 4510 = nI (w + 1) := by unfold qPush; rw [ew, nI_clamp ew0, if_neg (by omega), if_pos rfl, nI_s1]
      unfold Mp
      rw [eB, ew, nI_clamp ew0, nI_clamp (by omega)]
      refine ⟨by omega, fun j hj j6 k hk => ?_, fun j j1 j2 j6 => ?_⟩
      · unfold rowM qPush
        rw [ew, nI_clamp ew0, if_neg (by omega), if_neg (by omega)]
      · obtain rfl : j = w := by omega
        have e : ∀ k, k < 21 → rowM (qPush A row) j k = row k := fun k hk => by
          unfold rowM qPush
          rw [ew, nI_clamp ew0, if_pos (by omega), show 2570 + 21 * j + k - (2570 + 21 * j) = k by omega]
        refine nwM_of (r := row) ⟨?_, ?_⟩ e
        · rw [h1, nI_eq (by omega) (by omega)]; exact fun q => hst q.symm
        · rw [h3, h1]; exact hk
    · exact Mp_same (fun k hk => up_ne (by omega))
theorem Mp_feed {s t : Nat} {A : Rw} (hs : s < 5) (ht : t < 5) (hw : rg (A 4510) 0 60) : Mp X s A (qFeed A s t) := by
  unfold qFeed; split
  · exact Mp_post hs hw ht (kd := 4) rfl rfl (fun q => absurd q (by decide))
  · exact Mp_post hs hw ht (kd := 2) (rowT_lo (by omega)) (rowT_lo (by omega)) (fun q => absurd q (by decide))
theorem Mp_ff {s t : Nat} {A : Rw} {set : Int32} (hs : s < 5) (ht : t < 5) (hw : rg (A 4510) 0 60) : Mp X s A (ff s set A t) := by
  unfold ff; split
  · exact Mp_feed hs ht hw
  · exact Mp.rfl'
theorem Mp_feedsAll {s : Nat} {A : Rw} (hs : s < 5) (h : rg (A 4510) 0 60) : Mp X s A (qFeedsAll A s) := by
  unfold qFeedsAll qFeeds5
  exact (((((Mp_ff hs (by decide) h).tr (Mp_ff hs (by decide) (ff_w h))).tr (Mp_ff hs (by decide) (ff_w (ff_w h)))).tr (Mp_ff hs (by decide) (ff_w (ff_w (ff_w h))))).tr (Mp_ff hs (by decide) (ff_w (ff_w (ff_w (ff_w h))))))
theorem Mp_does {s : Nat} {A : Rw} {to : Int32} (hs : s < 5) (ha : agOK A s) (ht : rg to 0 120) (hto : to.toInt ≤ (A (514 * s + 4)).toInt ∨ to.toInt ≤ (A (514 * s + 7)).toInt) : Mp X s A (qDoes A s to) := Mp_same (fun k hk => qDoes_out hs ha ht hto (by omega) (by omega) (by omega))
theorem Mp_agr1 {s : Nat} {A : Rw} (hs : s < 5) (ha : agOK A s) : Mp X s A (qAgr1 A s) := Mp_does hs ha (top_ok ha).1 (Or.inl (top_ok ha).2)
theorem Mp_fin {s : Nat} {A : Rw} (hs : s < 5) : Mp X s A (qFin A s) := by
  unfold qFin; split
  · exact Mp_plays hs
  · exact Mp.rfl'
theorem Mp_agr0 {s : Nat} {A : Rw} (hs : s < 5) (ha : agOK A s) : Mp X s A (qAgr0 A s) := (Mp_agr1 hs ha).tr (Mp_fin hs)
theorem Mp_join {s : Nat} {A : Rw} (hs : s < 5) (ha : agOK A s) (hl : (qAgr1 A s) (514 * s + 4) < 120) : Mp X s A (qJoin A s) := by
  have h1 := agOK_1 hs ha
  have hr := lt_119 h1.1.2.1 hl
  unfold qJoin
  refine ((Mp_agr1 hs ha).tr (Mp_put hs hr)).tr (Mp_feedsAll hs ?_)
  exact (agOK_put hs h1 hr (fun z => by rcases z with z | z <;> exact absurd z (by decide))).1.1
theorem Mp_agr {s : Nat} {A : Rw} (hs : s < 5) (ha : agOK A s) : Mp X s A (qAgr A s) := by
  unfold qAgr; split
  · rename_i h
    exact ((Mp_join hs ha h.2.2).tr (Mp_agr0 hs (agOK_join hs ha h.2.2))).tr (Mp_fin hs)
  · exact Mp_agr0 hs ha
theorem Mp_lead1 {s : Nat} {A : Rw} (hs : s < 5) (h : ldOK A s) : Mp X s A (qLead1 A s) := by
  obtain ⟨tm, et, et0, et1, et2⟩ := rg_ex h.2.2
  have h0 : Mp X s A (qLead0 A s) := Mp_same (fun k hk => qLead0_out et et0 (by omega) (by omega) (by omega))
  rw [qLead1_eq]
  split
  · rename_i hc
    exact h0.tr (Mp_put hs (lt_119 (agOK_lead0 hs h).1.2.1 hc))
  · exact h0
theorem Mp_leads {s : Nat} {A : Rw} (hs : s < 5) (h : ldOK A s) : Mp X s A (qLeads A s) := by
  have h1 := (lead1_ok hs h).1
  exact ((Mp_lead1 hs h).tr (Mp_feedsAll hs h1.1.1)).tr (Mp_agr hs (agOK_feeds hs h1))
theorem Mp_as1 {s t : Nat} {A : Rw} {set kd : Int32} (hk : ¬ elK kd) (hs : s < 5) (ht : t < 5) (hw : rg (A 4510) 0 60) : Mp X s A (as1 s set kd A t) := by
  unfold as1; split
  · exact Mp_post hs hw ht (kd := kd) rfl rfl (fun q => absurd q hk)
  · exact Mp.rfl'
theorem Mp_asksAll {s : Nat} {A : Rw} {kd : Int32} (hk : ¬ elK kd) (hs : s < 5) (h : rg (A 4510) 0 60) : Mp X s A (qAsksAll A s kd) := by
  unfold qAsksAll qAsks5
  exact (((((Mp_as1 hk hs (by decide) h).tr (Mp_as1 hk hs (by decide) (as1_w h))).tr (Mp_as1 hk hs (by decide) (as1_w (as1_w h)))).tr (Mp_as1 hk hs (by decide) (as1_w (as1_w (as1_w h))))).tr (Mp_as1 hk hs (by decide) (as1_w (as1_w (as1_w (as1_w h))))))
theorem Mp_stand1 {s : Nat} {A : Rw} (hs : s < 5) : Mp X s A (qStand1 A s) := Mp_same (fun k hk => qStand1_out (by omega))
theorem Mp_stands {s : Nat} {A : Rw} (hs : s < 5) (h : suOK A s) : Mp X s A (qStands A s) := by
  have h1 : Mp X s A (qAsksAll (qStand1 A s) s 0) := (Mp_stand1 hs).tr (Mp_asksAll (by decide) hs (by rw [qStand1_out (by omega)]; exact h.1.1.1))
  unfold qStands; split
  · exact h1.tr (Mp_leads hs (stand1_ok hs h))
  · exact h1
theorem Mp_asks {s : Nat} {A : Rw} (hs : s < 5) (h : suOK A s) : Mp X s A (qAsks A s) := by
  have h1 : Mp X s A (qAsksAll (qAsk1 A s) s 7) := (Mp.tr (B := qAsk1 A s) (Mp_same (fun k hk => qAsk1_out (by omega))) (Mp_asksAll (by decide) hs (by rw [qAsk1_out (by omega)]; exact h.1.1.1)))
  unfold qAsks; split
  · exact Mp_stands hs h
  · split
    · exact h1.tr (Mp_stands hs (ask1_ok hs h))
    · exact h1
theorem Mp_follow {s : Nat} {A : Rw} {t : Int32} (hs : s < 5) : Mp X s A (qFollow A s t) := by
  unfold qFollow
  exact ((Mp_up hs (by decide)).tr (Mp_up hs (by decide))).tr (Mp_plays hs)
theorem Mp_asked {s f : Nat} {A : Rw} {p : Prop} [Decidable p] {l t : Int32} (hs : s < 5) (hf : f < 5) (hx : X (nI f)) (hw : rg (A 4510) 0 60) : Mp X s A (qAsked A s f p l t) := by
  unfold qAsked; split
  · exact (Mp_up hs (by decide)).tr (Mp_post hs (by rw [up_ne (by omega)]; exact hw) hf (kd := 1) rfl rfl (fun _ => hx))
  · exact Mp_post hs hw hf (kd := 1) rfl rfl (fun _ => hx)
theorem Mp_voted {s f : Nat} {A : Rw} (hs : s < 5) (h : ldOK A s) : Mp X s A (qVoted A s f) := by
  unfold qVoted
  have h0 := Mp_up (X := X) (A := A) (v := A (514 * s + 8) ||| (1 : Int32) <<< (nI f &&& 31)) hs (show 8 < 514 by decide)
  simp only
  split
  · exact h0.tr (Mp_leads hs (ldOK_up (k := 8) hs h (by decide)))
  · exact h0
theorem Mp_tk1 {s k b : Nat} {A g : Rw} (hs : s < 5) (hb : g 4 = nI b) (hb1 : b + k + 1 ≤ 120) (h : tkI A s (b + k)) : Mp X s A (qTk1 A g s k) := by
  unfold qTk1
  rw [hb, nI_clamp (by omega)]
  have put : ∀ B : Rw, rg (B (514 * s + 4)) 0 120 → Mp X s B (if B (514 * s + 4) < nI (b + 1 + k) then qPut B s (g (9 + 4 * k)) (g (9 + 4 * k + 1)) (g (9 + 4 * k + 2)) (g (9 + 4 * k + 3)) else B) := by
    intro B hB
    split
    · rename_i hc
      refine Mp_put hs ?_
      obtain ⟨l, el, el0, -, el1⟩ := rg_ex hB
      rw [el, nI_ltI el0 (by omega)] at hc
      rw [el, rg_nI el0]
      omega
    · exact Mp.rfl'
  simp only
  split
  · exact Mp.rfl'
  · split
    · exact (Mp_up hs (by decide)).tr (put _ (by rw [up_at, rg_nI (by omega)]; omega))
    · exact put _ h.1.1.2.1
theorem Mp_tks {s b : Nat} {g : Rw} (hs : s < 5) (hb : g 4 = nI b) (hb0 : b < 2 ^ 31) (hg : tkOK g) : ∀ (n k : Nat) (A : Rw), n + k ≤ (g 6).toNatClampNeg → tkI A s (b + k) → Mp X s A (tksF g s n k A) := by
  obtain ⟨g4, g6, g46, g7, gb⟩ := hg
  obtain ⟨m, em, em0, -, em1⟩ := rg_ex g6
  rw [em, nI_toInt em0, hb, nI_toInt hb0] at g46
  intro n
  induction n with
  | zero => intro k A _ h; exact Mp.rfl'
  | succ n ih =>
    intro k A hk h
    rw [em, nI_clamp em0] at hk ih gb
    show Mp X s A (tksF g s n (k + 1) (qTk1 A g s k))
    exact (Mp_tk1 hs hb (by omega) h).tr (ih (k + 1) (qTk1 A g s k) (by omega) (tk1_ok hs hb (by omega) (gb k (by omega)) h))
theorem Mp_takes {s f : Nat} {A g : Rw} {p : Prop} [Decidable p] (hs : s < 5) (hf : f < 5) (hg : tkOK g) (ha : agOK A s) (hsl : (A (514 * s + 5)).toInt ≤ (A (514 * s + 4)).toInt) : Mp X s A (qTakes A g s f p) := by
  unfold qTakes qAnsTook
  split
  · exact Mp_post hs ha.1.1 hf (kd := 3) rfl rfl (fun q => absurd q (by decide))
  · generalize hA1 : (if A (514 * s + 3) = 2 then A else qPlays A s 0) = A1
    have h1 : agOK A1 s ∧ (A1 (514 * s + 5)).toInt ≤ (A1 (514 * s + 4)).toInt ∧ Mp X s A A1 := by
      rw [← hA1]
      split
      · exact ⟨ha, hsl, Mp.rfl'⟩
      · exact ⟨agOK_plays hs ha, by rw [qPlays_out (by omega), qPlays_out (by omega)]; exact hsl, Mp_plays hs⟩
    simp only
    split
    · exact h1.2.2.tr (Mp_post hs h1.1.1.1 hf (kd := 3) rfl rfl (fun q => absurd q (by decide)))
    · rename_i c1
      split
      · exact h1.2.2.tr (Mp_post hs h1.1.1.1 hf (kd := 3) rfl rfl (fun q => absurd q (by decide)))
      · obtain ⟨b, eb, eb0, -, eb1⟩ := rg_ex hg.1
        have hI : tkI A1 s (b + 0) := ⟨h1.1, h1.2.1, by
          have := Int32.not_lt.mp c1
          rw [Int32.le_iff_toInt_le, eb, nI_toInt eb0] at this
          exact this⟩
        have h2 := tks_ok hs eb eb0 hg (g 6).toNatClampNeg 0 A1 (by omega) hI
        have f2 := Mp_tks (X := X) hs eb eb0 hg (g 6).toNatClampNeg 0 A1 (by omega) hI
        have h3 := qTakes_to eb eb0 hg h2
        have f3 := Mp_does (X := X) hs h2.1 h3.1 (Or.inl h3.2)
        refine ((h1.2.2.tr f2).tr f3).tr (Mp_post hs ?_ hf (kd := 3) rfl rfl (fun q => absurd q (by decide)))
        rw [qDoes_out hs h2.1 h3.1 (Or.inl h3.2) (by omega) (by omega) (by omega)]
        exact h2.1.1.1
theorem Mp_ansRead {s : Nat} {A : Rw} (hs : s < 5) : Mp X s A (qAnsRead A s) := Mp_same (fun k hk => qAnsRead_out (by omega))
theorem Mp_hears {s f : Nat} {A : Rw} {m8 : Int32} (hs : s < 5) : Mp X s A (qHears A m8 s f) := Mp_same (fun k hk => qHears_out (by omega))
theorem Mp_goesOn {s f : Nat} {A : Rw} (hs : s < 5) (hf : f < 5) (ha : agOK A s) : Mp X s A (qGoesOn A s f) := by
  unfold qGoesOn
  simp only
  split
  · exact (Mp_agr hs ha).tr (Mp_feed hs hf (agOK_agr hs ha).1.1)
  · exact Mp_agr hs ha
theorem Mp_took {s f : Nat} {A : Rw} {m8 x : Int32} {p : Prop} [Decidable p] (hs : s < 5) (hf : f < 5) (ha : agOK A s) (hp : rg x (-1) 120) (hh : rg (A (514 * s + 29 + f)) 0 120) : Mp X s A (qTook A m8 s f p x) := by
  unfold qTook
  have hb := agOK_hears (m8 := m8) (f := f) hs ha
  have hh' : rg (qHears A m8 s f (514 * s + 29 + f)) 0 120 := by rw [qHears_out (by omega)]; exact hh
  have f1 := Mp_hears (X := X) (A := A) (m8 := m8) (f := f) hs
  generalize qHears A m8 s f = B at *
  have u24 : ∀ (C : Rw) (v : Int32), Mp X s C (up C (514 * s + 24 + f) v) := fun C v => by rw [Nat.add_assoc]; exact Mp_up hs (by omega)
  have u29 : ∀ (C : Rw) (v : Int32), Mp X s C (up C (514 * s + 29 + f) v) := fun C v => by rw [Nat.add_assoc]; exact Mp_up hs (by omega)
  simp only
  split
  · exact (f1.tr (u24 _ _)).tr (Mp_feed hs hf (by rw [up_ne (by omega)]; exact hb.1.1))
  · refine ((f1.tr (u29 _ _)).tr (u24 _ _)).tr (Mp_goesOn hs hf (agOK_next hs hf (agOK_has hs hf hb) ?_))
    rw [up_at]
    exact rg_w (rg_1 (gt_rg hh' hp.2) (by decide) (by decide)) (by decide) (by decide)
theorem Mp_snapIn {s : Nat} {A g : Rw} {p t : Int32} (hs : s < 5) : Mp X s A (qSnapIn A g s p t) := by
  refine Mp_same (fun k hk => ?_)
  unfold qSnapIn
  rw [up_ne (by omega), up_ne (by omega)]
  show (if _ then _ else if _ then _ else _) = _
  rw [if_neg (by omega), if_neg (by omega), up_ne (by omega), up_ne (by omega), up_ne (by omega)]
  split
  · rfl
  · exact up_ne (by omega)
theorem Mp_installs {s f : Nat} {A g : Rw} {p : Prop} [Decidable p] (hs : s < 5) (hf : f < 5) (hw : rg (A 4510) 0 60) : Mp X s A (qInstalls A g s f p) := by
  unfold qInstalls
  generalize hA1 : (if p then _ else A) = A1
  have h1 : Mp X s A A1 ∧ rg (A1 4510) 0 60 := by
    rw [← hA1]
    split
    · split
      · exact ⟨(Mp_plays hs).tr (Mp_snapIn hs), by rw [snapIn_w hs, qPlays_out (by omega)]; exact hw⟩
      · exact ⟨Mp_plays hs, by rw [qPlays_out (by omega)]; exact hw⟩
    · exact ⟨Mp.rfl', hw⟩
  exact h1.1.tr (Mp_post hs h1.2 hf (kd := 5) rfl rfl (fun q => absurd q (by decide)))
theorem Mp_installed {s f : Nat} {A : Rw} {m8 x : Int32} (hs : s < 5) (hf : f < 5) (ha : agOK A s) (hp : rg x 0 120) (hh : rg (A (514 * s + 29 + f)) 0 120) : Mp X s A (qInstalled A m8 s f x) := by
  unfold qInstalled
  have hb := agOK_hears (m8 := m8) (f := f) hs ha
  have hh' : rg (qHears A m8 s f (514 * s + 29 + f)) 0 120 := by rw [qHears_out (by omega)]; exact hh
  have f1 := Mp_hears (X := X) (A := A) (m8 := m8) (f := f) hs
  generalize qHears A m8 s f = B at *
  have u24 : ∀ (C : Rw) (v : Int32), Mp X s C (up C (514 * s + 24 + f) v) := fun C v => by rw [Nat.add_assoc]; exact Mp_up hs (by omega)
  have u29 : ∀ (C : Rw) (v : Int32), Mp X s C (up C (514 * s + 29 + f) v) := fun C v => by rw [Nat.add_assoc]; exact Mp_up hs (by omega)
  simp only
  split
  · exact f1
  · have hc := agOK_has (v := gt (B (514 * s + 29 + f)) x) hs hf hb
    refine ((f1.tr (u29 _ _)).tr (u24 _ _)).tr (Mp_goesOn hs hf (agOK_next hs hf hc ?_))
    rw [up_at]
    exact rg_w (gt_rg' (lo := 1) (hc.1.2.2.2 f hf).2 (rg_w (rg_1 (gt_rg hh' hp.2) (by decide) (by decide)) (by decide) (by decide))) (by decide) (by decide)
theorem Mp_wouldBe {s f : Nat} {A : Rw} {a b c : Int32} (hs : s < 5) (hf : f < 5) (hx : X (nI f)) (hw : rg (A 4510) 0 60) : Mp X s A (qWouldBe A s f a b c) := by
  unfold qWouldBe; split <;> exact Mp_post hs hw hf (kd := 8) rfl rfl (fun _ => hx)
theorem Mp_would {s f : Nat} {A : Rw} {p : Prop} [Decidable p] {tm : Int32} (hs : s < 5) (h : stOK A s) (htm : rg tm 0 200) : Mp X s A (qWould A s f p tm) := by
  unfold qWould
  split
  · split
    · exact Mp_follow hs
    · exact Mp.rfl'
  · split
    · exact Mp.rfl'
    · rename_i _ c2
      have c2 := Decidable.not_not.mp c2
      have h0 := Mp_up (X := X) (A := A) (v := A (514 * s + 8) ||| (1 : Int32) <<< (nI f &&& 31)) hs (show 8 < 514 by decide)
      simp only
      split
      · refine h0.tr (Mp_stands hs ⟨agOK_of hs h.1 (by rw [up_ne (by omega)]; exact h.1.1.1) (up_ne (by omega)) (up_ne (by omega)) (up_ne (by omega)) (fun t ht => by rw [up_ne (by omega)]; exact h.1.1.2.2.2 t ht) (fun i q1 q2 => up_ne (by omega)), by rw [up_ne (by omega), up_ne (by omega)]; exact h.2.1, ?_⟩)
        rw [up_ne (by omega)]
        have h4 := h.2.2.1
        have h6 : (A (514 * s + 1) + 1).toInt = (A (514 * s + 1)).toInt + 1 := by
          have := h4.1; have := h4.2
          rw [Jvm.Kit.i32_add] <;> rw [show (1 : Int32).toInt = 1 by decide] <;> omega
        rw [c2] at htm
        have h7 : (A (514 * s + 1) + 1).toInt ≤ 200 := htm.2
        exact ⟨h4.1, by omega⟩
      · exact h0
theorem Mp_heard {s f : Nat} {A g : Rw} (hs : s < 5) (hf : f < 5) (hx : g 3 = 0 ∨ g 3 = 7 → X (nI f)) (h : stOK A s) (hg : mOK g) : Mp X s A (qHeard A g s f) := by
  obtain ⟨gf, gt_, gtm, gk, gtk, gtook, gins⟩ := hg
  unfold qHeard
  split
  · rename_i c; exact Mp_asked hs hf (hx (Or.inl c)) h.1.1.1
  · split
    · split
      · rename_i _ c; exact Mp_voted hs (ldOK_st h c.2.2)
      · exact Mp.rfl'
    · split
      · rename_i _ _ c; exact Mp_takes hs hf (gtk c) h.1 h.2.1
      · split
        · rename_i _ _ _ c
          split
          · exact Mp_took hs hf h.1 (gtook c) (h.2.2.2.2.1 f hf)
          · exact Mp.rfl'
        · split
          · exact Mp_installs hs hf h.1.1.1
          · split
            · split
              · rename_i _ c; exact Mp_stands hs (suOK_st h c.2.2.2)
              · exact Mp.rfl'
            · split
              · rename_i c; exact Mp_wouldBe hs hf (hx (Or.inr c)) h.1.1.1
              · split
                · split
                  · exact Mp_would hs h gtm
                  · exact Mp.rfl'
                · rename_i n0 n1 n2 n3 n4 n6 n7 n8
                  split
                  · refine Mp_installed hs hf h.1 (gins ?_) (h.2.2.2.2.1 f hf)
                    obtain ⟨kk, ek, ek0, -, ek1⟩ := rg_ex gk
                    have : kk = 0 ∨ kk = 1 ∨ kk = 2 ∨ kk = 3 ∨ kk = 4 ∨ kk = 5 ∨ kk = 6 ∨ kk = 7 ∨ kk = 8 := by omega
                    rcases this with rfl | rfl | rfl | rfl | rfl | rfl | rfl | rfl | rfl
                    · exact absurd ek n0
                    · exact absurd ek n1
                    · exact absurd ek n2
                    · exact absurd ek n3
                    · exact absurd ek n4
                    · exact ek
                    · exact absurd ek n6
                    · exact absurd ek n7
                    · exact absurd ek n8
                  · exact Mp.rfl'
end Mp
