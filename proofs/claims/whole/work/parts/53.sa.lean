/-! ===== what a step at a store leaves as it is ===== -/
def Fr (s : Nat) (A B : Rw) : Prop := ∀ k, (k < 514 * s ∨ (514 * s + 514 ≤ k ∧ k < 2570) ∨ 4513 ≤ k) → B k = A k
theorem Fr.rfl' {s : Nat} {A : Rw} : Fr s A A := fun _ _ => rfl
theorem Fr.tr {s : Nat} {A B C : Rw} (h1 : Fr s A B) (h2 : Fr s B C) : Fr s A C := fun k hk => (h2 k hk).trans (h1 k hk)
theorem Fr_up {s j : Nat} {A : Rw} {v : Int32} (hs : s < 5) (hj : j < 514) : Fr s A (up A (514 * s + j) v) := fun k hk => up_ne (by omega)
theorem Fr_up0 {s : Nat} {A : Rw} {v : Int32} (hs : s < 5) : Fr s A (up A (514 * s) v) := fun k hk => up_ne (by omega)
theorem Fr_upm {s j : Nat} {A : Rw} {v : Int32} (hs : s < 5) (hj : 2570 ≤ j) (hj2 : j < 4513) : Fr s A (up A j v) := fun k hk => up_ne (by omega)
theorem Fr_plays {s : Nat} {A : Rw} {r : Int32} (hs : s < 5) : Fr s A (qPlays A s r) := fun k hk => qPlays_out (by omega)
theorem Fr_reads {s : Nat} {A : Rw} (hs : s < 5) : Fr s A (qReadsNothing A s) := fun k hk => qReads_out (by omega)
theorem Fr_put {s : Nat} {A : Rw} {tm kd x y : Int32} (hs : s < 5) (hl : rg (A (514 * s + 4)) 0 119) : Fr s A (qPut A s tm kd x y) := by
  obtain ⟨l, el, el0, -, el1⟩ := rg_ex hl
  exact fun k hk => qPut_out el el0 (by omega) (by omega)
theorem Fr_post {s f t : Nat} {A row : Rw} (hs : s < 5) (hw : rg (A 4510) 0 60) : Fr s A (qPost A f t row) := by
  obtain ⟨w, ew, ew0, -, ew1⟩ := rg_ex hw
  intro k hk
  unfold qPost
  split
  · rfl
  · split
    · rename_i hok
      have hw60 : ¬ w = 60 := fun z => hok.2.1 (by rw [ew, z]; rfl)
      unfold qPush
      rw [ew, nI_clamp ew0, if_neg (by omega), if_neg (by omega)]
    · exact up_ne (by omega)
theorem Fr_feed {s t : Nat} {A : Rw} (hs : s < 5) (hw : rg (A 4510) 0 60) : Fr s A (qFeed A s t) := by
  unfold qFeed; split <;> exact Fr_post hs hw
theorem Fr_ff {s t : Nat} {A : Rw} {set : Int32} (hs : s < 5) (hw : rg (A 4510) 0 60) : Fr s A (ff s set A t) := by
  unfold ff; split
  · exact Fr_feed hs hw
  · exact Fr.rfl'
theorem Fr_feedsAll {s : Nat} {A : Rw} (hs : s < 5) (h : rg (A 4510) 0 60) : Fr s A (qFeedsAll A s) := by
  unfold qFeedsAll qFeeds5
  exact (((((Fr_ff hs h).tr (Fr_ff hs (ff_w h))).tr (Fr_ff hs (ff_w (ff_w h)))).tr (Fr_ff hs (ff_w (ff_w (ff_w h))))).tr (Fr_ff hs (ff_w (ff_w (ff_w (ff_w h))))))
theorem Fr_does {s : Nat} {A : Rw} {to : Int32} (hs : s < 5) (ha : agOK A s) (ht : rg to 0 120) (hto : to.toInt ≤ (A (514 * s + 4)).toInt ∨ to.toInt ≤ (A (514 * s + 7)).toInt) : Fr s A (qDoes A s to) :=
  fun k hk => qDoes_out hs ha ht hto (by omega) (by omega) (by omega)
theorem Fr_agr1 {s : Nat} {A : Rw} (hs : s < 5) (ha : agOK A s) : Fr s A (qAgr1 A s) := Fr_does hs ha (top_ok ha).1 (Or.inl (top_ok ha).2)
theorem Fr_fin {s : Nat} {A : Rw} (hs : s < 5) : Fr s A (qFin A s) := by
  unfold qFin; split
  · exact Fr_plays hs
  · exact Fr.rfl'
theorem Fr_agr0 {s : Nat} {A : Rw} (hs : s < 5) (ha : agOK A s) : Fr s A (qAgr0 A s) := (Fr_agr1 hs ha).tr (Fr_fin hs)
theorem lt_119 {A : Rw} {s : Nat} (h : rg (A (514 * s + 4)) 0 120) (hl : A (514 * s + 4) < 120) : rg (A (514 * s + 4)) 0 119 := by
  obtain ⟨l, el, el0, -, el1⟩ := rg_ex h
  rw [el, show (120 : Int32) = nI 120 from rfl, nI_ltI el0 (by decide)] at hl
  rw [el, rg_nI el0]
  omega
theorem Fr_join {s : Nat} {A : Rw} (hs : s < 5) (ha : agOK A s) (hl : (qAgr1 A s) (514 * s + 4) < 120) : Fr s A (qJoin A s) := by
  have h1 := agOK_1 hs ha
  have hr := lt_119 h1.1.2.1 hl
  unfold qJoin
  refine ((Fr_agr1 hs ha).tr (Fr_put hs hr)).tr (Fr_feedsAll hs ?_)
  exact (agOK_put hs h1 hr (fun z => by rcases z with z | z <;> exact absurd z (by decide))).1.1
theorem Fr_agr {s : Nat} {A : Rw} (hs : s < 5) (ha : agOK A s) : Fr s A (qAgr A s) := by
  unfold qAgr; split
  · rename_i h
    exact ((Fr_join hs ha h.2.2).tr (Fr_agr0 hs (agOK_join hs ha h.2.2))).tr (Fr_fin hs)
  · exact Fr_agr0 hs ha
theorem Fr_lead1 {s : Nat} {A : Rw} (hs : s < 5) (h : ldOK A s) : Fr s A (qLead1 A s) := by
  obtain ⟨tm, et, et0, et1, et2⟩ := rg_ex h.2.2
  have h0 : Fr s A (qLead0 A s) := fun k hk => qLead0_out et et0 (by omega) (by omega) (by omega)
  rw [qLead1_eq]
  split
  · rename_i hc
    exact h0.tr (Fr_put hs (lt_119 (agOK_lead0 hs h).1.2.1 hc))
  · exact h0
theorem Fr_leads {s : Nat} {A : Rw} (hs : s < 5) (h : ldOK A s) : Fr s A (qLeads A s) := by
  have h1 := (lead1_ok hs h).1
  exact ((Fr_lead1 hs h).tr (Fr_feedsAll hs h1.1.1)).tr (Fr_agr hs (agOK_feeds hs h1))
theorem Fr_as1 {s t : Nat} {A : Rw} {set kd : Int32} (hs : s < 5) (hw : rg (A 4510) 0 60) : Fr s A (as1 s set kd A t) := by
  unfold as1; split
  · exact Fr_post hs hw
  · exact Fr.rfl'
theorem Fr_asksAll {s : Nat} {A : Rw} {kd : Int32} (hs : s < 5) (h : rg (A 4510) 0 60) : Fr s A (qAsksAll A s kd) := by
  unfold qAsksAll qAsks5
  exact (((((Fr_as1 hs h).tr (Fr_as1 hs (as1_w h))).tr (Fr_as1 hs (as1_w (as1_w h)))).tr (Fr_as1 hs (as1_w (as1_w (as1_w h))))).tr (Fr_as1 hs (as1_w (as1_w (as1_w (as1_w h))))))
theorem Fr_stand1 {s : Nat} {A : Rw} (hs : s < 5) : Fr s A (qStand1 A s) := fun k hk => qStand1_out (by omega)
theorem Fr_stands {s : Nat} {A : Rw} (hs : s < 5) (h : suOK A s) : Fr s A (qStands A s) := by
  have h1 : Fr s A (qAsksAll (qStand1 A s) s 0) := (Fr_stand1 hs).tr (Fr_asksAll hs (by rw [qStand1_out (by omega)]; exact h.1.1.1))
  unfold qStands; split
  · exact h1.tr (Fr_leads hs (stand1_ok hs h))
  · exact h1
theorem Fr_asks {s : Nat} {A : Rw} (hs : s < 5) (h : suOK A s) : Fr s A (qAsks A s) := by
  have h1 : Fr s A (qAsksAll (qAsk1 A s) s 7) := (Fr.tr (B := qAsk1 A s) (fun k hk => qAsk1_out (by omega)) (Fr_asksAll hs (by rw [qAsk1_out (by omega)]; exact h.1.1.1)))
  unfold qAsks; split
  · exact Fr_stands hs h
  · split
    · exact h1.tr (Fr_stands hs (ask1_ok hs h))
    · exact h1
theorem Fr_follow {s : Nat} {A : Rw} {t : Int32} (hs : s < 5) : Fr s A (qFollow A s t) := by
  unfold qFollow
  exact ((Fr_up hs (by decide)).tr (Fr_up hs (by decide))).tr (Fr_plays hs)
theorem Fr_asked {s f : Nat} {A : Rw} {p : Prop} [Decidable p] {l t : Int32} (hs : s < 5) (hw : rg (A 4510) 0 60) : Fr s A (qAsked A s f p l t) := by
  unfold qAsked; split
  · exact (Fr_up hs (by decide)).tr (Fr_post hs (by rw [up_ne (by omega)]; exact hw))
  · exact Fr_post hs hw
theorem Fr_voted {s f : Nat} {A : Rw} (hs : s < 5) (h : ldOK A s) : Fr s A (qVoted A s f) := by
  unfold qVoted
  have h0 := Fr_up (A := A) (v := A (514 * s + 8) ||| (1 : Int32) <<< (nI f &&& 31)) hs (show 8 < 514 by decide)
  simp only
  split
  · exact h0.tr (Fr_leads hs (ldOK_up (k := 8) hs h (by decide)))
  · exact h0
theorem Fr_tk1 {s k b : Nat} {A g : Rw} (hs : s < 5) (hb : g 4 = nI b) (hb1 : b + k + 1 ≤ 120) (h : tkI A s (b + k)) : Fr s A (qTk1 A g s k) := by
  unfold qTk1
  rw [hb, nI_clamp (by omega)]
  have put : ∀ B : Rw, rg (B (514 * s + 4)) 0 120 → Fr s B (if B (514 * s + 4) < nI (b + 1 + k) then qPut B s (g (9 + 4 * k)) (g (9 + 4 * k + 1)) (g (9 + 4 * k + 2)) (g (9 + 4 * k + 3)) else B) := by
    intro B hB
    split
    · rename_i hc
      refine Fr_put hs ?_
      obtain ⟨l, el, el0, -, el1⟩ := rg_ex hB
      rw [el, nI_ltI el0 (by omega)] at hc
      rw [el, rg_nI el0]
      omega
    · exact Fr.rfl'
  simp only
  split
  · exact Fr.rfl'
  · split
    · exact (Fr_up hs (by decide)).tr (put _ (by rw [up_at, rg_nI (by omega)]; omega))
    · exact put _ h.1.1.2.1
theorem Fr_tks {s b : Nat} {g : Rw} (hs : s < 5) (hb : g 4 = nI b) (hb0 : b < 2 ^ 31) (hg : tkOK g) : ∀ (n k : Nat) (A : Rw), n + k ≤ (g 6).toNatClampNeg → tkI A s (b + k) → Fr s A (tksF g s n k A) := by
  obtain ⟨g4, g6, g46, g7, gb⟩ := hg
  obtain ⟨m, em, em0, -, em1⟩ := rg_ex g6
  rw [em, nI_toInt em0, hb, nI_toInt hb0] at g46
  intro n
  induction n with
  | zero => intro k A _ h; exact Fr.rfl'
  | succ n ih =>
    intro k A hk h
    rw [em, nI_clamp em0] at hk ih gb
    show Fr s A (tksF g s n (k + 1) (qTk1 A g s k))
    exact (Fr_tk1 hs hb (by omega) h).tr (ih (k + 1) (qTk1 A g s k) (by omega) (tk1_ok hs hb (by omega) (gb k (by omega)) h))
theorem qTakes_to {A g : Rw} {s b : Nat} (hb : g 4 = nI b) (hb0 : b < 2 ^ 31) (hg : tkOK g) (h : tkI A s (b + (g 6).toNatClampNeg)) : rg (if g 7 < g 4 + g 6 then g 7 else g 4 + g 6) 0 120 ∧ (if g 7 < g 4 + g 6 then g 7 else g 4 + g 6).toInt ≤ (A (514 * s + 4)).toInt := by
  obtain ⟨g4, g6, g46, g7, gb⟩ := hg
  obtain ⟨m, em, em0, -, em1⟩ := rg_ex g6
  rw [em, nI_toInt em0, hb, nI_toInt hb0] at g46
  have h2 := h.2.2
  rw [em, nI_clamp em0] at h2
  rw [hb, em, nI_add]
  split
  · rename_i c
    rw [Int32.lt_iff_toInt_lt, nI_toInt (by omega)] at c
    exact ⟨g7, by omega⟩
  · rw [rg_nI (by omega), nI_toInt (by omega)]
    omega
theorem Fr_takes {s f : Nat} {A g : Rw} {p : Prop} [Decidable p] (hs : s < 5) (hg : tkOK g) (ha : agOK A s) (hsl : (A (514 * s + 5)).toInt ≤ (A (514 * s + 4)).toInt) : Fr s A (qTakes A g s f p) := by
  unfold qTakes qAnsTook
  split
  · exact Fr_post hs ha.1.1
  · generalize hA1 : (if A (514 * s + 3) = 2 then A else qPlays A s 0) = A1
    have h1 : agOK A1 s ∧ (A1 (514 * s + 5)).toInt ≤ (A1 (514 * s + 4)).toInt ∧ Fr s A A1 := by
      rw [← hA1]
      split
      · exact ⟨ha, hsl, Fr.rfl'⟩
      · exact ⟨agOK_plays hs ha, by rw [qPlays_out (by omega), qPlays_out (by omega)]; exact hsl, Fr_plays hs⟩
    simp only
    split
    · exact h1.2.2.tr (Fr_post hs h1.1.1.1)
    · rename_i c1
      split
      · exact h1.2.2.tr (Fr_post hs h1.1.1.1)
      · obtain ⟨b, eb, eb0, -, eb1⟩ := rg_ex hg.1
        have hI : tkI A1 s (b + 0) := ⟨h1.1, h1.2.1, by
          have := Int32.not_lt.mp c1
          rw [Int32.le_iff_toInt_le, eb, nI_toInt eb0] at this
          exact this⟩
        have h2 := tks_ok hs eb eb0 hg (g 6).toNatClampNeg 0 A1 (by omega) hI
        have f2 := Fr_tks hs eb eb0 hg (g 6).toNatClampNeg 0 A1 (by omega) hI
        have h3 := qTakes_to eb eb0 hg h2
        have f3 := Fr_does hs h2.1 h3.1 (Or.inl h3.2)
        refine ((h1.2.2.tr f2).tr f3).tr (Fr_post hs ?_)
        rw [qDoes_out hs h2.1 h3.1 (Or.inl h3.2) (by omega) (by omega) (by omega)]
        exact h2.1.1.1
theorem Fr_ansRead {s : Nat} {A : Rw} (hs : s < 5) : Fr s A (qAnsRead A s) := fun k hk => qAnsRead_out (by omega)
theorem Fr_hears {s f : Nat} {A : Rw} {m8 : Int32} (hs : s < 5) : Fr s A (qHears A m8 s f) := fun k hk => qHears_out (by omega)
theorem Fr_goesOn {s f : Nat} {A : Rw} (hs : s < 5) (ha : agOK A s) : Fr s A (qGoesOn A s f) := by
  unfold qGoesOn
  simp only
  split
  · exact (Fr_agr hs ha).tr (Fr_feed hs (agOK_agr hs ha).1.1)
  · exact Fr_agr hs ha
theorem Fr_took {s f : Nat} {A : Rw} {m8 x : Int32} {p : Prop} [Decidable p] (hs : s < 5) (hf : f < 5) (ha : agOK A s) (hp : rg x (-1) 120) (hh : rg (A (514 * s + 29 + f)) 0 120) : Fr s A (qTook A m8 s f p x) := by
  unfold qTook
  have hb := agOK_hears (m8 := m8) (f := f) hs ha
  have hh' : rg (qHears A m8 s f (514 * s + 29 + f)) 0 120 := by rw [qHears_out (by omega)]; exact hh
  have f1 := Fr_hears (A := A) (m8 := m8) (f := f) hs
  generalize qHears A m8 s f = B at *
  have u24 : ∀ (C : Rw) (v : Int32), Fr s C (up C (514 * s + 24 + f) v) := fun C v => by rw [Nat.add_assoc]; exact Fr_up hs (by omega)
  have u29 : ∀ (C : Rw) (v : Int32), Fr s C (up C (514 * s + 29 + f) v) := fun C v => by rw [Nat.add_assoc]; exact Fr_up hs (by omega)
  simp only
  split
  · exact (f1.tr (u24 _ _)).tr (Fr_feed hs (by rw [up_ne (by omega)]; exact hb.1.1))
  · refine ((f1.tr (u29 _ _)).tr (u24 _ _)).tr (Fr_goesOn hs (agOK_next hs hf (agOK_has hs hf hb) ?_))
    rw [up_at]
    exact rg_w (rg_1 (gt_rg hh' hp.2) (by decide) (by decide)) (by decide) (by decide)
theorem Fr_snapIn {s : Nat} {A g : Rw} {p t : Int32} (hs : s < 5) : Fr s A (qSnapIn A g s p t) := by
  intro k hk
  unfold qSnapIn
  rw [up_ne (by omega), up_ne (by omega)]
  show (if _ then _ else if _ then _ else _) = _
  rw [if_neg (by omega), if_neg (by omega), up_ne (by omega), up_ne (by omega), up_ne (by omega)]
  split
  · rfl
  · exact up_ne (by omega)
theorem snapIn_w {s : Nat} {A g : Rw} {p t : Int32} (hs : s < 5) : qSnapIn A g s p t 4510 = A 4510 := by
  unfold qSnapIn
  rw [up_ne (by omega), up_ne (by omega)]
  show (if _ then _ else if _ then _ else _) = _
  rw [if_neg (by omega), if_neg (by omega), up_ne (by omega), up_ne (by omega), up_ne (by omega)]
  split
  · rfl
  · exact up_ne (by omega)
theorem Fr_installs {s f : Nat} {A g : Rw} {p : Prop} [Decidable p] (hs : s < 5) (hw : rg (A 4510) 0 60) : Fr s A (qInstalls A g s f p) := by
  unfold qInstalls
  generalize hA1 : (if p then _ else A) = A1
  have h1 : Fr s A A1 ∧ rg (A1 4510) 0 60 := by
    rw [← hA1]
    split
    · split
      · exact ⟨(Fr_plays hs).tr (Fr_snapIn hs), by rw [snapIn_w hs, qPlays_out (by omega)]; exact hw⟩
      · exact ⟨Fr_plays hs, by rw [qPlays_out (by omega)]; exact hw⟩
    · exact ⟨Fr.rfl', hw⟩
  exact h1.1.tr (Fr_post hs h1.2)
theorem Fr_installed {s f : Nat} {A : Rw} {m8 x : Int32} (hs : s < 5) (hf : f < 5) (ha : agOK A s) (hp : rg x 0 120) (hh : rg (A (514 * s + 29 + f)) 0 120) : Fr s A (qInstalled A m8 s f x) := by
  unfold qInstalled
  have hb := agOK_hears (m8 := m8) (f := f) hs ha
  have hh' : rg (qHears A m8 s f (514 * s + 29 + f)) 0 120 := by rw [qHears_out (by omega)]; exact hh
  have f1 := Fr_hears (A := A) (m8 := m8) (f := f) hs
  generalize qHears A m8 s f = B at *
  have u24 : ∀ (C : Rw) (v : Int32), Fr s C (up C (514 * s + 24 + f) v) := fun C v => by rw [Nat.add_assoc]; exact Fr_up hs (by omega)
  have u29 : ∀ (C : Rw) (v : Int32), Fr s C (up C (514 * s + 29 + f) v) := fun C v => by rw [Nat.add_assoc]; exact Fr_up hs (by omega)
  simp only
  split
  · exact f1
  · have hc := agOK_has (v := gt (B (514 * s + 29 + f)) x) hs hf hb
    refine ((f1.tr (u29 _ _)).tr (u24 _ _)).tr (Fr_goesOn hs (agOK_next hs hf hc ?_))
    rw [up_at]
    exact rg_w (gt_rg' (lo := 1) (hc.1.2.2.2 f hf).2 (rg_w (rg_1 (gt_rg hh' hp.2) (by decide) (by decide)) (by decide) (by decide))) (by decide) (by decide)
theorem Fr_wouldBe {s f : Nat} {A : Rw} {a b c : Int32} (hs : s < 5) (hw : rg (A 4510) 0 60) : Fr s A (qWouldBe A s f a b c) := by
  unfold qWouldBe; split <;> exact Fr_post hs hw
theorem Fr_would {s f : Nat} {A : Rw} {p : Prop} [Decidable p] {tm : Int32} (hs : s < 5) (h : stOK A s) (htm : rg tm 0 200) : Fr s A (qWould A s f p tm) := by
  unfold qWould
  split
  · split
    · exact Fr_follow hs
    · exact Fr.rfl'
  · split
    · exact Fr.rfl'
    · rename_i _ c2
      have c2 := Decidable.not_not.mp c2
      have h0 := Fr_up (A := A) (v := A (514 * s + 8) ||| (1 : Int32) <<< (nI f &&& 31)) hs (show 8 < 514 by decide)
      simp only
      split
      · refine h0.tr (Fr_stands hs ⟨agOK_of hs h.1 (by rw [up_ne (by omega)]; exact h.1.1.1) (up_ne (by omega)) (up_ne (by omega)) (up_ne (by omega)) (fun t ht => by rw [up_ne (by omega)]; exact h.1.1.2.2.2 t ht) (fun i q1 q2 => up_ne (by omega)), by rw [up_ne (by omega), up_ne (by omega)]; exact h.2.1, ?_⟩)
        rw [up_ne (by omega)]
        have h4 := h.2.2.1
        have h6 : (A (514 * s + 1) + 1).toInt = (A (514 * s + 1)).toInt + 1 := by
          have := h4.1; have := h4.2
          rw [Jvm.Kit.i32_add] <;> rw [show (1 : Int32).toInt = 1 by decide] <;> omega
        rw [c2] at htm
        have h7 : (A (514 * s + 1) + 1).toInt ≤ 200 := htm.2
        exact ⟨h4.1, by omega⟩
      · exact h0
theorem Fr_heard {s f : Nat} {A g : Rw} (hs : s < 5) (hf : f < 5) (h : stOK A s) (hg : mOK g) : Fr s A (qHeard A g s f) := by
  obtain ⟨gf, gt_, gtm, gk, gtk, gtook, gins⟩ := hg
  unfold qHeard
  split
  · exact Fr_asked hs h.1.1.1
  · split
    · split
      · rename_i _ c; exact Fr_voted hs (ldOK_st h c.2.2)
      · exact Fr.rfl'
    · split
      · rename_i _ _ c; exact Fr_takes hs (gtk c) h.1 h.2.1
      · split
        · rename_i _ _ _ c
          split
          · exact Fr_took hs hf h.1 (gtook c) (h.2.2.2.2.1 f hf)
          · exact Fr.rfl'
        · split
          · exact Fr_installs hs h.1.1.1
          · split
            · split
              · rename_i _ c; exact Fr_stands hs (suOK_st h c.2.2.2)
              · exact Fr.rfl'
            · split
              · exact Fr_wouldBe hs h.1.1.1
              · split
                · split
                  · exact Fr_would hs h gtm
                  · exact Fr.rfl'
                · rename_i n0 n1 n2 n3 n4 n6 n7 n8
                  split
                  · refine Fr_installed hs hf h.1 (gins ?_) (h.2.2.2.2.1 f hf)
                    obtain ⟨kk, ek, ek0, -, ek1⟩ := rg_ex gk
                    have : kk = 0 ∨ kk = 1 ∨ kk = 2 ∨ kk = 3 ∨ kk = 4 ∨ kk = 5 ∨ kk = 6 ∨ kk = 7 ∨ kk = 8 := by omega
                    rcases this with rfl | rfl | rfl | rfl | rfl | rfl | rfl | rfl | rfl
                    · exact absurd ek n0
                    · exact absurd ek n1
                    · exact absurd ek n2
                    · exact absurd ek n3
                    · exact absurd ek n4
                    · exact ek
                    · exact absurd ek n6
                    · exact absurd ek n7
                    · exact absurd ek n8
                  · exact Fr.rfl'
theorem cm_A2 {A : Rw} {i : Nat} (hc : cmOK A) (hi : i < (A 4510).toNatClampNeg) {s : Nat} (hs : s < 5) : stOK (up (qOut A i) 4512 (qOut A i 4512 + 1)) s := by
  have hw := (hc.1 0 (by decide)).1.1.1
  obtain ⟨w, ew, ew0, -, ew1⟩ := rg_ex hw
  rw [ew, nI_clamp ew0] at hi
  refine stOK_of hs (hc.1 s hs) ?_ (fun k q1 q2 => ?_)
  · rw [up_ne (by omega)]
    unfold qOut
    rw [up_at, ew, show (1 : Int32) = nI 1 from rfl, pk_sub (by omega), rg_nI (by omega)]
    omega
  · rw [up_ne (by omega), qOut_lo (by omega)]
theorem Fr_comes {A : Rw} {i : Nat} (hc : cmOK A) (hi : i < (A 4510).toNatClampNeg) : Fr (A (2570 + 21 * i + 1)).toNatClampNeg A (qComes A i) := by
  have hm := hc.2 i hi
  obtain ⟨gf, gt_, gtm, gk, gtk, gtook, gins⟩ := id hm
  obtain ⟨f, ef, ef0, -, ef1⟩ := rg_ex gf
  obtain ⟨s, es, es0, -, es1⟩ := rg_ex gt_
  have es' : A (2570 + 21 * i + 1) = nI s := es
  have hs5 : s < 5 := by omega
  have hf5 : f < 5 := by omega
  have hw := (hc.1 0 (by decide)).1.1.1
  obtain ⟨w, ew, ew0, -, ew1⟩ := rg_ex hw
  rw [es', nI_clamp es0]
  unfold qComes
  simp only [es, ef, nI_clamp es0, nI_clamp ef0]
  have f0 : Fr s A (qOut A i) := by
    intro k hk
    rcases hk with hk | hk | hk
    · exact qOut_lo (by omega)
    · exact qOut_lo (by omega)
    · exact qOut_hi ew (by omega) (by omega) (by omega)
  split
  · exact f0.tr (Fr_upm hs5 (by decide) (by decide))
  · have f1 := f0.tr (Fr_upm (v := qOut A i 4512 + 1) hs5 (show 2570 ≤ 4512 by decide) (by decide))
    have hst2 := cm_A2 hc hi hs5
    split
    · exact (f1.tr (Fr_follow hs5)).tr (Fr_heard hs5 hf5 (stOK_follow hs5 hst2 gtm) hm)
    · exact f1.tr (Fr_heard hs5 hf5 hst2 hm)
/-- images and links, members at first, care are left as they are -/
def Hi (A B : Rw) : Prop := ∀ k, 4513 ≤ k → B k = A k
theorem Fr.hi {s : Nat} {A B : Rw} (h : Fr s A B) : Hi A B := fun k hk => h k (Or.inr (Or.inr hk))
theorem Hi.tr {A B C : Rw} (h1 : Hi A B) (h2 : Hi B C) : Hi A C := fun k hk => (h2 k hk).trans (h1 k hk)
theorem Hi_set {n : Nat} : ∀ {A : Rw}, good A → Hi A (setF n A) := by
  induction n with
  | zero => intro A h; exact fun _ _ => rfl
  | succ n ih =>
    intro A hg
    by_cases h : 0 < A 4510
    · have hi := (waits hg (Int32.not_le.mpr h)).1
      rw [(setF_s h).1]; exact (Fr_comes (good_cm hg) hi).hi.tr (ih (good_step hg (Sp.comes hi)))
    · rw [(setF_e h).1]; exact fun _ _ => rfl
