/-! ===== what acts leave alone: the images that lie behind a row ===== -/
def Hj (A B : Rw) : Prop := ∀ k, 4516 ≤ k → B k = A k
theorem Hj.rf {A : Rw} : Hj A A := fun _ _ => rfl
theorem Hj.tr {A B C : Rw} (h1 : Hj A B) (h2 : Hj B C) : Hj A C := fun k hk => (h2 k hk).trans (h1 k hk)
theorem Hi.j {A B : Rw} (h : Hi A B) : Hj A B := fun k hk => h k (by omega)
theorem Hj_prop {A : Rw} {s : Nat} {kd x y : Int32} (hg : good A) (hs : s < 5) (hl : A (514 * s + 4) < 100) (hk : kd = 1 ∨ kd = 2 → rg x 0 3) : Hj A (qProp A s kd x y) := by
  have hp := prop_ok (tm := A (514 * s + 1)) (y := y) hs (good_st hg hs) hl hk
  unfold qProp
  exact (((Fr_put hs hp.2.2.1).tr (Fr_feedsAll hs hp.1.1.1)).tr (Fr_agr hs (agOK_feeds hs hp.1))).hi.j
theorem Hj_read {A : Rw} {s : Nat} {c : Int32} (hg : good A) (hs : s < 5) : Hj A (qRead A s c) := by
  have f1 : Fr s A (qRead0 A s c) := fun k hk => qRead0_out (by omega)
  have w1 : rg (qRead0 A s c 4510) 0 60 := by rw [qRead0_out (by omega)]; exact good_w hg
  unfold qRead
  exact ((f1.tr (Fr_feedsAll hs w1)).tr (Fr_ansRead hs)).hi.j
theorem Hj_compact {A : Rw} {s : Nat} (hs : s < 5) : Hj A (qCompact A s) := by
  intro k hk
  unfold qCompact cpF
  rw [if_neg (by omega)]
  unfold qCompact0
  rw [up_ne (by omega), up_ne (by omega), up_ne (by omega), up_ne (by omega)]
theorem Hj_stop {A : Rw} {s : Nat} (hs : s < 5) : Hj A (qStop A s) := by
  intro k hk
  unfold qStop cpF
  rw [if_neg (by omega)]
  unfold qStop0
  rw [up_ne (by omega), qReads_out (by omega), qPlays_out (by omega), up_ne (by omega)]
theorem Hj_init {A : Rw} {m : Int32} : Hj A (qInit A m) := by
  intro k hk
  unfold qInit in1
  simp (disch := omega) only [up_ne]
  unfold zr0
  rw [if_neg (by omega)]
theorem Hj_lose {A : Rw} {i : Nat} (hg : good A) : Hj A (qLose A i) := by
  intro k hk
  obtain ⟨w, e, -, -, h⟩ := rg_ex (good_w hg)
  unfold qLose
  rw [up_ne (by omega), qOut_hi e (by omega) (by omega) (by omega)]
theorem Hj_twice {A : Rw} {i : Nat} (hg : good A) (hw : ¬ A 4510 = 60) : Hj A (qTwice A i) := by
  intro k hk
  obtain ⟨w, e, e0, -, h⟩ := rg_ex (good_w hg)
  have hw : w < 60 := by
    have : ¬ w = 60 := fun z => hw (by rw [e, z]; rfl)
    omega
  unfold qTwice cpF
  rw [up_ne (by omega), if_neg]
  rw [e, nI_clamp e0]
  omega
theorem Hj_a0 {A : Rw} {m : Int32} : Hj A (aBegin A m).2 := by
  unfold aBegin
  split
  · exact Hj.rf
  · exact Hj_init
theorem Hj_a1 {A : Rw} {s : Int32} (h : good A) : Hj A (aTimeout A s).2 := by
  unfold aTimeout
  split
  · exact Hj.rf
  · rename_i c
    obtain ⟨s, rfl, hs0, -, hs⟩ := rg_ex (lo := 0) (hi := 4) (Classical.not_not.mp c)
    rw [nI_clamp hs0]
    split
    · exact Hj.rf
    · rename_i c2; exact (Hi_asks h (by omega) (Classical.not_not.mp c2)).j
theorem Hj_a2 {A : Rw} {s : Int32} (h : good A) : Hj A (aBeat A s).2 := by
  unfold aBeat
  split
  · exact Hj.rf
  · rename_i c
    obtain ⟨s, rfl, hs0, -, hs⟩ := rg_ex (lo := 0) (hi := 4) (Classical.not_not.mp c)
    rw [nI_clamp hs0]
    split
    · exact Hj.rf
    · exact (Fr_feedsAll (by omega) (good_w h)).hi.j
theorem Hj_a3 {A : Rw} {s kd x y : Int32} (h : good A) : Hj A (aPropose A s kd x y).2 := by
  unfold aPropose
  split
  · exact Hj.rf
  · rename_i c
    have c := Classical.not_not.mp c
    obtain ⟨s, rfl, hs0, -, hs⟩ := rg_ex (lo := 0) (hi := 4) c.1
    rw [nI_clamp hs0]
    split
    · exact Hj.rf
    · split
      · exact Hj.rf
      · split
        · exact Hj.rf
        · rename_i c3; exact Hj_prop h (by omega) (Classical.not_not.mp c3) (fun _ => c.2.2)
theorem Hj_a4 {A : Rw} {s x : Int32} (h : good A) : Hj A (aRead A s x).2 := by
  unfold aRead
  split
  · exact Hj.rf
  · rename_i c
    have c := Classical.not_not.mp c
    obtain ⟨s, rfl, hs0, -, hs⟩ := rg_ex (lo := 0) (hi := 4) c.1
    rw [nI_clamp hs0]
    split
    · exact Hj.rf
    · exact Hj_read h (by omega)
theorem Hj_a5 {A : Rw} {s x : Int32} (h : good A) : Hj A (aHand A s x).2 := by
  unfold aHand
  split
  · exact Hj.rf
  · rename_i c
    have c := Classical.not_not.mp c
    obtain ⟨s, rfl, hs0, -, hs⟩ := rg_ex (lo := 0) (hi := 4) c.1
    obtain ⟨x, rfl, hx0, -, hx⟩ := rg_ex (lo := 0) (hi := 4) c.2
    rw [nI_clamp hs0, nI_clamp hx0]
    split
    · exact Hj.rf
    · split
      · exact Hj.rf
      · unfold qHand
        exact (Fr_post (s := s) (by omega) (good_w h)).hi.j
theorem Hj_a6 {A : Rw} {s x : Int32} (h : good A) : Hj A (aChange A s x).2 := by
  unfold aChange
  split
  · exact Hj.rf
  · rename_i c
    obtain ⟨s, rfl, hs0, -, hs⟩ := rg_ex (lo := 0) (hi := 4) (Classical.not_not.mp c)
    rw [nI_clamp hs0]
    split
    · exact Hj.rf
    · split
      · exact Hj.rf
      · split
        · exact Hj.rf
        · rename_i c3; exact Hj_prop h (by omega) (Classical.not_not.mp c3) (fun z => absurd z (by decide))
theorem Hj_a7 {A : Rw} {s : Int32} : Hj A (aCompact A s).2 := by
  unfold aCompact
  split
  · exact Hj.rf
  · rename_i c
    obtain ⟨s, rfl, hs0, -, hs⟩ := rg_ex (lo := 0) (hi := 4) (Classical.not_not.mp c)
    rw [nI_clamp hs0]
    split
    · exact Hj.rf
    · exact Hj_compact (by omega)
theorem Hj_a8 {A : Rw} {s : Int32} : Hj A (aStop A s).2 := by
  unfold aStop
  split
  · exact Hj.rf
  · rename_i c
    obtain ⟨s, rfl, hs0, -, hs⟩ := rg_ex (lo := 0) (hi := 4) (Classical.not_not.mp c)
    rw [nI_clamp hs0]
    split
    · exact Hj.rf
    · exact Hj_stop (by omega)
theorem Hj_a9 {A : Rw} {s : Int32} : Hj A (aStart A s).2 := by
  unfold aStart
  split
  · exact Hj.rf
  · rename_i c
    obtain ⟨s, rfl, hs0, -, hs⟩ := rg_ex (lo := 0) (hi := 4) (Classical.not_not.mp c)
    rw [nI_clamp hs0]
    split
    · exact Hj.rf
    · exact fun k hk => up_ne (by omega)
theorem Hj_a10 {A : Rw} {a b hw : Int32} : Hj A (aLink A a b hw).2 := by
  unfold aLink
  split
  · exact Hj.rf
  · split
    · exact Hj.rf
    · exact fun k hk => up_ne (by omega)
theorem Hj_a11 {A : Rw} {i : Int32} (h : good A) : Hj A (aCome A i).2 := by
  unfold aCome
  split
  · exact Hj.rf
  · rename_i c
    obtain ⟨n, rfl, n0, n1, n2, n3⟩ := msg_ex (good_w h) (Classical.not_not.mp c)
    rw [nI_clamp n0]
    exact (Fr_comes (good_cm h) n2).hi.j
theorem Hj_a12 {A : Rw} {i : Int32} (h : good A) : Hj A (aLose A i).2 := by
  unfold aLose
  split
  · exact Hj.rf
  · exact Hj_lose h
theorem Hj_a13 {A : Rw} {i : Int32} (h : good A) : Hj A (aTwice A i).2 := by
  unfold aTwice
  split
  · exact Hj.rf
  · split
    · exact Hj.rf
    · rename_i c2; exact Hj_twice h c2
theorem Hj_a14 {A : Rw} {n : Int32} (h : good A) : Hj A (aSettle A n).2 := by
  unfold aSettle
  split
  · exact Hj.rf
  · split
    · exact Hj.rf
    · exact (Hi_set h).j
theorem Hj_a15 {A : Rw} {v : Int32} : Hj A (aCareful A v).2 := by
  unfold aCareful
  split
  · exact Hj.rf
  · exact fun k hk => up_ne (by omega)
theorem Gd_a0 {A : Rw} {m : Int32} (h : Gd A) : Gd (aBegin A m).2 := by
  unfold aBegin
  split
  · exact h
  · rename_i c; exact Gd_init (Classical.not_not.mp c)
theorem Hj_do {A : Rw} {w : Int32} {t : Rw} (h : good A) : Hj A (aDo A w t).2 := by
  unfold aDo
  by_cases c0 : w = 0
  · rw [if_pos c0]; exact Hj_a1 h
  rw [if_neg c0]
  by_cases c1 : w = 1
  · rw [if_pos c1]; exact Hj_a2 h
  rw [if_neg c1]
  by_cases c2 : w = 2
  · rw [if_pos c2]; exact Hj_a3 h
  rw [if_neg c2]
  by_cases c3 : w = 3
  · rw [if_pos c3]; exact Hj_a3 h
  rw [if_neg c3]
  by_cases c4 : w = 4
  · rw [if_pos c4]; exact Hj_a4 h
  rw [if_neg c4]
  by_cases c5 : w = 5
  · rw [if_pos c5]; exact Hj_a5 h
  rw [if_neg c5]
  by_cases c6 : w = 6
  · rw [if_pos c6]; exact Hj_a6 h
  rw [if_neg c6]
  by_cases c7 : w = 7
  · rw [if_pos c7]; exact Hj_a7
  rw [if_neg c7]
  by_cases c8 : w = 8
  · rw [if_pos c8]; exact Hj_a8
  rw [if_neg c8]
  by_cases c9 : w = 9
  · rw [if_pos c9]; exact Hj_a9
  rw [if_neg c9]
  by_cases c10 : w = 10
  · rw [if_pos c10]; exact Hj_a10
  rw [if_neg c10]
  by_cases c11 : w = 11
  · rw [if_pos c11]; exact Hj_a10
  rw [if_neg c11]
  by_cases c12 : w = 12
  · rw [if_pos c12]; exact Hj_a11 h
  rw [if_neg c12]
  by_cases c13 : w = 13
  · rw [if_pos c13]; exact Hj_a12 h
  rw [if_neg c13]
  by_cases c14 : w = 14
  · rw [if_pos c14]; exact Hj_a13 h
  rw [if_neg c14]
  by_cases c15 : w = 15
  · rw [if_pos c15]; exact Hj_a14 h
  rw [if_neg c15]
  exact Hj_a15
/-! what holds along a script -/
section Inv
variable {I : Es → Prop} {T : Rw} {n : Nat} {me : Int32}
theorem rep_inv {beg : Nat} {body : Ps × Es → Ps × Es} (hb : ∀ X : Ps × Es, I X.2 → I (body X).2) : ∀ (r : Nat) (X : Ps × Es), I X.2 → I (rep T n beg body r X).2 := by
  intro r
  induction r with
  | zero => intro X h; exact h
  | succ r ih =>
    intro X h
    rw [rep_s]
    split
    · exact h
    · apply ih
      split
      · exact hb _ h
      · exact hb _ h
theorem item_inv (hA : ∀ (w wat : Int32) (E : Es), I E → E.1 = 0 → I (eAct w wat E)) (hT : ∀ (E : Es) (t : Rw), I E → I (E.1, E.2.1, E.2.2.1, E.2.2.2.1, t, E.2.2.2.2.2)) (hm : me = 0 ∨ me = 1) {dd : Nat} {body : Ps × Es → Ps × Es} (hb : ∀ X : Ps × Es, I X.2 → I (body X).2) (X : Ps × Es) (h0 : X.2.1 = 0) (h : I X.2) : I (aItem T n dd me body X).2 := by
  unfold aItem
  split
  · rcases hm with rfl | rfl
    · rw [pPlain_0]
      generalize (pNums T n (nOf (pWordV T n X.1)).toNatClampNeg 0 (pWord T n X.1) X.2.2.2.2.2.1) = N
      show I (X.2.1, X.2.2.1, X.2.2.2.1, X.2.2.2.2.1, N.2, X.2.2.2.2.2.2)
      exact hT X.2 N.2 h
    · rw [pPlain_1]
      generalize (pNums T n (nOf (pWordV T n X.1)).toNatClampNeg 0 (pWord T n X.1) X.2.2.2.2.2.1) = N
      show I (eAct _ _ (X.2.1, X.2.2.1, X.2.2.2.1, X.2.2.2.2.1, N.2, X.2.2.2.2.2.2))
      exact hA _ _ (X.2.1, X.2.2.1, X.2.2.2.1, X.2.2.2.2.1, N.2, X.2.2.2.2.2.2) (hT X.2 N.2 h) h0
  · unfold pTimes
    exact rep_inv hb _ _ h
theorem loop_inv (hA : ∀ (w wat : Int32) (E : Es), I E → E.1 = 0 → I (eAct w wat E)) (hT : ∀ (E : Es) (t : Rw), I E → I (E.1, E.2.1, E.2.2.1, E.2.2.2.1, t, E.2.2.2.2.2)) (hm : me = 0 ∨ me = 1) {dd : Nat} {body : Ps × Es → Ps × Es} (hb : ∀ X : Ps × Es, I X.2 → I (body X).2) : ∀ (m : Nat) (X : Ps × Es), I X.2 → I (aLoop T n dd me body m X).2 := by
  intro m
  induction m with
  | zero => intro X h; exact h
  | succ m ih =>
    intro X h
    by_cases c : ¬ X.1.2.1 = 0 ∨ ¬ X.2.1 = 0 ∨ ¬ rgd (seeT T n X.1.1) 97 122
    · rw [aLoop_x c]; exact h
    · have c1 : X.1.2.1 = 0 := Classical.not_not.mp (fun z => c (Or.inl z))
      have c2 : X.2.1 = 0 := Classical.not_not.mp (fun z => c (Or.inr (Or.inl z)))
      have c3 : rgd (seeT T n X.1.1) 97 122 := Classical.not_not.mp (fun z => c (Or.inr (Or.inr z)))
      by_cases c4 : (pWord T n X.1).2.1 = 0
      · rw [aLoop_go c1 c2 c3 c4]
        exact ih _ (item_inv hA hT hm hb X c2 h)
      · rw [aLoop_no c1 c2 c3 c4]; exact h
theorem acts_inv (hA : ∀ (w wat : Int32) (E : Es), I E → E.1 = 0 → I (eAct w wat E)) (hT : ∀ (E : Es) (t : Rw), I E → I (E.1, E.2.1, E.2.2.1, E.2.2.2.1, t, E.2.2.2.2.2)) (hm : me = 0 ∨ me = 1) : ∀ (dd : Nat) (X : Ps × Es), I X.2 → I (pActs T n me dd X).2 := by
  intro dd
  induction dd with
  | zero => intro X h; exact loop_inv hA hT hm (body := fun Y => Y) (fun _ h => h) (n + 1) _ h
  | succ dd ih => intro X h; exact loop_inv hA hT hm (body := pActs T n me dd) ih (n + 1) _ h
end Inv
/-- along a script: so many acts, a good row, the images as they were -/
def ScI (A : Rw) (E : Es) : Prop := (∃ dn : Nat, E.2.1 = nI dn ∧ dn ≤ 400 ∧ (E.1 = 0 → dn < 400)) ∧ Gd E.2.2.2.2.2 ∧ Hj A E.2.2.2.2.2
theorem ScI_act {A : Rw} (w wat : Int32) (E : Es) (h : ScI A E) (h0 : E.1 = 0) : ScI A (eAct w wat E) := by
  obtain ⟨⟨dn, e, d1, d2⟩, hg, hj⟩ := h
  have r1 : Gd (aDo E.2.2.2.2.2 w E.2.2.2.2.1).2 := Gd_do hg
  have r2 : Hj A (aDo E.2.2.2.2.2 w E.2.2.2.2.1).2 := hj.tr (Hj_do (Gd_good hg))
  have d3 := d2 h0
  unfold eAct
  split
  · exact ⟨⟨dn, e, d1, fun z => absurd (show (1 : Int32) = 0 from z) (by decide)⟩, r1, r2⟩
  · refine ⟨⟨dn + 1, ?_, by omega, fun z => ?_⟩, r1, r2⟩
    · show E.2.1 + 1 = _
      rw [e, nI_s1]
    · have z2 : (if ¬ E.2.1 + 1 = 400 then (0 : Int32) else 1) = 0 := z
      by_cases c : E.2.1 + 1 = 400
      · rw [if_neg (fun q => q c)] at z2
        exact absurd z2 (by decide)
      · rw [e, nI_s1, show (400 : Int32) = nI 400 from rfl, nI_eq (by omega) (by decide)] at c
        omega
theorem ScI_end {T : Rw} {n : Nat} {A tl : Rw} {P : Ps} (hg : Gd A) : ScI A (pActs T n 1 3 (P, (0, 0, 0, -1, tl, A))).2 :=
  acts_inv (ScI_act (A := A)) (fun E t h => h) (Or.inr rfl) 3 _ ⟨⟨0, rfl, by omega, fun _ => by omega⟩, hg, Hj.rf⟩
