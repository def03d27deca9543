/-! ===== what a script means to the reference ===== -/
/-- spot, wrong, where -/
abbrev Ps : Type := Nat × Int32 × Int32
/-- halted, done, the halt's code and place, the numbers told, the row -/
abbrev Es : Type := Int32 × Int32 × Int32 × Int32 × Rw × Rw
def fl (w wa c p : Int32) : Int32 × Int32 := if ¬ w = 0 then (w, wa) else (c, p)
def pSign (T : Rw) (n : Nat) (c : Int32) (P : Ps) : Ps :=
  (blk T n P.1 + 1, if seeT T n (blk T n P.1) = c then P.2 else fl P.2.1 P.2.2 1 (nI (blk T n P.1)))
abbrev pLess (T : Rw) (n : Nat) (b : Int32) (p : Nat) : Prop := ¬ b = 0 ∧ seeT T n (blk T n p) = 45
def pBeg (T : Rw) (n : Nat) (b : Int32) (p : Nat) : Nat := if pLess T n b p then blk T n p + 1 else blk T n p
def pNumV (T : Rw) (n : Nat) (b : Int32) (P : Ps) : Int32 := if pLess T n b P.1 then -(dg T n (pBeg T n b P.1) 0).2 else (dg T n (pBeg T n b P.1) 0).2
def pNum (T : Rw) (n : Nat) (b : Int32) (P : Ps) : Ps :=
  let p1 := pBeg T n b P.1
  let p2 := (dg T n p1 0).1
  let w1 := if p2 = p1 then fl P.2.1 P.2.2 1 (nI p1) else P.2
  let w2 := if p1 + 3 < p2 then fl w1.1 w1.2 2 (nI p1) else w1
  (p2, w2)
def pWordV (T : Rw) (n : Nat) (P : Ps) : Int32 := qWordFrom T (blk T n P.1) (ltr T n (blk T n P.1))
def pWord (T : Rw) (n : Nat) (P : Ps) : Ps := (ltr T n (blk T n P.1), if ¬ pWordV T n P = -1 then P.2 else fl P.2.1 P.2.2 1 (nI (blk T n P.1)))
/-- so many numbers are told -/
def pNums (T : Rw) (n : Nat) : Nat → Nat → Ps → Rw → Ps × Rw := fun m k P t => match m with
  | 0 => (P, t)
  | m + 1 => pNums T n m (k + 1) (pNum T n (if k = 2 then 1 else 0) P) (up t k (pNumV T n (if k = 2 then 1 else 0) P))
theorem pNums_s {T : Rw} {n m k : Nat} {P : Ps} {t : Rw} : pNums T n (m + 1) k P t = pNums T n m (k + 1) (pNum T n (if k = 2 then 1 else 0) P) (up t k (pNumV T n (if k = 2 then 1 else 0) P)) := rfl
/-- an act is done -/
def eAct (w wat : Int32) (E : Es) : Es :=
  if (aDo E.2.2.2.2.2 w E.2.2.2.2.1).1 < 0 then (1, E.2.1, (aDo E.2.2.2.2.2 w E.2.2.2.2.1).1, wat, E.2.2.2.2.1, (aDo E.2.2.2.2.2 w E.2.2.2.2.1).2)
  else (if ¬ E.2.1 + 1 = 400 then 0 else 1, E.2.1 + 1, E.2.2.1, E.2.2.2.1, E.2.2.2.2.1, (aDo E.2.2.2.2.2 w E.2.2.2.2.1).2)
def rep (T : Rw) (n beg : Nat) (body : Ps × Es → Ps × Es) : Nat → Ps × Es → Ps × Es := fun r X => match r with
  | 0 => X
  | r + 1 => if ¬ X.1.2.1 = 0 ∨ ¬ X.2.1 = 0 then X else
      let Y := body ((beg, X.1.2), X.2)
      rep T n beg body r (if ¬ Y.2.1 = 0 ∨ ¬ Y.1.2.1 = 0 then Y else (pSign T n 125 Y.1, Y.2))
/-- how a repetition begins: its number, what stands before its acts -/
def tHead (T : Rw) (n dd : Nat) (P : Ps) : Ps :=
  let m := pNumV T n 0 P
  let P1 := pNum T n 0 P
  let w2 := if ¬ P1.2.1 = 0 ∨ rgd m 1 50 then P1.2 else fl P1.2.1 P1.2.2 2 (nI (pBeg T n 0 P.1))
  let b := blk T n P1.1
  let w3 := if ¬ seeT T n b = 123 ∨ ¬ dd = 0 then w2 else fl w2.1 w2.2 3 (nI b)
  pSign T n 123 (b, w3)
def pTimes (T : Rw) (n dd : Nat) (meant : Int32) (body : Ps × Es → Ps × Es) (X : Ps × Es) : Ps × Es :=
  rep T n (tHead T n dd X.1).1 body (if meant = 0 then 1 else (pNumV T n 0 X.1).toNatClampNeg) (tHead T n dd X.1, X.2)
def pPlain (T : Rw) (n : Nat) (meant : Int32) (w wat : Int32) (X : Ps × Es) : Ps × Es :=
  let N := pNums T n (nOf w).toNatClampNeg 0 X.1 X.2.2.2.2.2.1
  let E1 : Es := (X.2.1, X.2.2.1, X.2.2.2.1, X.2.2.2.2.1, N.2, X.2.2.2.2.2.2)
  (pSign T n 59 N.1, if meant = 0 then E1 else eAct w wat E1)
def aLoop (T : Rw) (n dd : Nat) (meant : Int32) (body : Ps × Es → Ps × Es) : Nat → Ps × Es → Ps × Es := fun m X => match m with
  | 0 => X
  | m + 1 => if ¬ X.1.2.1 = 0 ∨ ¬ X.2.1 = 0 ∨ ¬ rgd (seeT T n X.1.1) 97 122 then X else
      let P1 := pWord T n X.1
      if ¬ P1.2.1 = 0 then (P1, X.2) else
      let Y := if ¬ pWordV T n X.1 = 17 then pPlain T n meant (pWordV T n X.1) (nI (blk T n X.1.1)) (P1, X.2) else pTimes T n dd meant body (P1, X.2)
      aLoop T n dd meant body m ((blk T n Y.1.1, Y.1.2), Y.2)
/-- acts within 3 - dd brackets -/
def pActs (T : Rw) (n : Nat) (meant : Int32) : Nat → Ps × Es → Ps × Es := fun dd X => match dd with
  | 0 => aLoop T n 0 meant (fun Y => Y) (n + 1) ((blk T n X.1.1, X.1.2), X.2)
  | dd + 1 => aLoop T n (dd + 1) meant (pActs T n meant dd) (n + 1) ((blk T n X.1.1, X.1.2), X.2)
/-! acts lead from good rows to good rows -/
theorem good_a1 {A : Rw} {s : Int32} (h : good A) : good (aTimeout A s).2 := by
  unfold aTimeout
  split
  · exact h
  · rename_i c
    obtain ⟨s, rfl, hs0, -, hs⟩ := rg_ex (lo := 0) (hi := 4) (Classical.not_not.mp c)
    rw [nI_clamp hs0]
    split
    · exact h
    · rename_i c2; exact good_step h (Sp.asks (by omega) (Classical.not_not.mp c2))
theorem good_a2 {A : Rw} {s : Int32} (h : good A) : good (aBeat A s).2 := by
  unfold aBeat
  split
  · exact h
  · rename_i c
    obtain ⟨s, rfl, hs0, -, hs⟩ := rg_ex (lo := 0) (hi := 4) (Classical.not_not.mp c)
    rw [nI_clamp hs0]
    split
    · exact h
    · rename_i c2; exact good_step h (Sp.beat (by omega) (Classical.not_not.mp c2))
theorem good_a3 {A : Rw} {s kd x y : Int32} (h : good A) : good (aPropose A s kd x y).2 := by
  unfold aPropose
  split
  · exact h
  · rename_i c
    have c := Classical.not_not.mp c
    obtain ⟨s, rfl, hs0, -, hs⟩ := rg_ex (lo := 0) (hi := 4) c.1
    obtain ⟨kd, rfl, hk0, hk1, hk2⟩ := rg_ex (lo := 1) (hi := 2) c.2.1
    rw [nI_clamp hs0]
    split
    · exact h
    · rename_i c1
      split
      · exact h
      · rename_i c2
        split
        · exact h
        · rename_i c3
          refine good_step h (Sp.prop (by omega) (Classical.not_not.mp c2) (Classical.not_not.mp c3) ?_ c.2.2 (Classical.not_not.mp c1))
          have : kd = 1 ∨ kd = 2 := by omega
          rcases this with rfl | rfl
          · exact Or.inl rfl
          · exact Or.inr rfl
theorem good_a4 {A : Rw} {s x : Int32} (h : good A) : good (aRead A s x).2 := by
  unfold aRead
  split
  · exact h
  · rename_i c
    have c := Classical.not_not.mp c
    obtain ⟨s, rfl, hs0, -, hs⟩ := rg_ex (lo := 0) (hi := 4) c.1
    rw [nI_clamp hs0]
    split
    · exact h
    · rename_i c2; exact good_step h (Sp.read (by omega) (Classical.not_not.mp c2) c.2)
theorem good_a5 {A : Rw} {s x : Int32} (h : good A) : good (aHand A s x).2 := by
  unfold aHand
  split
  · exact h
  · rename_i c
    have c := Classical.not_not.mp c
    obtain ⟨s, rfl, hs0, -, hs⟩ := rg_ex (lo := 0) (hi := 4) c.1
    obtain ⟨x, rfl, hx0, -, hx⟩ := rg_ex (lo := 0) (hi := 4) c.2
    rw [nI_clamp hs0, nI_clamp hx0]
    split
    · exact h
    · rename_i c1
      split
      · exact h
      · rename_i c2; exact good_step h (Sp.hand (by omega) (by omega) (fun z => c1 (by rw [z])) (Classical.not_not.mp c2))
theorem good_a6 {A : Rw} {s x : Int32} (h : good A) : good (aChange A s x).2 := by
  unfold aChange
  split
  · exact h
  · rename_i c
    obtain ⟨s, rfl, hs0, -, hs⟩ := rg_ex (lo := 0) (hi := 4) (Classical.not_not.mp c)
    rw [nI_clamp hs0]
    split
    · exact h
    · rename_i c1
      split
      · exact h
      · rename_i c2
        split
        · exact h
        · rename_i c3; exact good_step h (Sp.change (by omega) (Classical.not_not.mp c2) (Classical.not_not.mp c3) (Classical.not_not.mp c1))
theorem good_a7 {A : Rw} {s : Int32} (h : good A) : good (aCompact A s).2 := by
  unfold aCompact
  split
  · exact h
  · rename_i c
    obtain ⟨s, rfl, hs0, -, hs⟩ := rg_ex (lo := 0) (hi := 4) (Classical.not_not.mp c)
    rw [nI_clamp hs0]
    split
    · exact h
    · rename_i c2; exact good_step h (Sp.compact (by omega) (Classical.not_not.mp c2))
theorem good_a8 {A : Rw} {s : Int32} (h : good A) : good (aStop A s).2 := by
  unfold aStop
  split
  · exact h
  · rename_i c
    obtain ⟨s, rfl, hs0, -, hs⟩ := rg_ex (lo := 0) (hi := 4) (Classical.not_not.mp c)
    rw [nI_clamp hs0]
    split
    · exact h
    · rename_i c2; exact good_step h (Sp.stop (by omega) (Classical.not_not.mp c2))
theorem good_a9 {A : Rw} {s : Int32} (h : good A) : good (aStart A s).2 := by
  unfold aStart
  split
  · exact h
  · rename_i c
    obtain ⟨s, rfl, hs0, -, hs⟩ := rg_ex (lo := 0) (hi := 4) (Classical.not_not.mp c)
    rw [nI_clamp hs0]
    split
    · exact h
    · rename_i c2; exact good_step h (Sp.start (by omega) c2)
theorem good_a10 {A : Rw} {a b hw : Int32} (h : good A) : good (aLink A a b hw).2 := by
  unfold aLink
  split
  · exact h
  · rename_i c
    have c := Classical.not_not.mp c
    split
    · exact h
    · rename_i c2; exact good_step h (Sp.link c.1 c.2 (Classical.not_not.mp c2).2)
theorem good_a11 {A : Rw} {i : Int32} (h : good A) : good (aCome A i).2 := by
  unfold aCome
  split
  · exact h
  · rename_i c
    obtain ⟨n, rfl, n0, n1, n2, n3⟩ := msg_ex (good_w h) (Classical.not_not.mp c)
    rw [nI_clamp n0]
    exact good_step h (Sp.comes n2)
theorem good_a12 {A : Rw} {i : Int32} (h : good A) : good (aLose A i).2 := by
  unfold aLose
  split
  · exact h
  · rename_i c
    obtain ⟨n, rfl, n0, n1, n2, n3⟩ := msg_ex (good_w h) (Classical.not_not.mp c)
    rw [nI_clamp n0]
    exact good_step h (Sp.lose n2)
theorem good_a13 {A : Rw} {i : Int32} (h : good A) : good (aTwice A i).2 := by
  unfold aTwice
  split
  · exact h
  · rename_i c
    split
    · exact h
    · rename_i c2
      obtain ⟨n, rfl, n0, n1, n2, n3⟩ := msg_ex (good_w h) (Classical.not_not.mp c)
      rw [nI_clamp n0]
      exact good_step h (Sp.twice n2 c2)
theorem good_a14 {A : Rw} {n : Int32} (h : good A) : good (aSettle A n).2 := by
  unfold aSettle
  split
  · exact h
  · split
    · exact h
    · exact good_set h
theorem good_a15 {A : Rw} {v : Int32} (h : good A) : good (aCareful A v).2 := by
  unfold aCareful
  split
  · exact h
  · rename_i c; exact good_step h (Sp.careful (Classical.not_not.mp c))
theorem good_do {A : Rw} {w : Int32} {t : Rw} (h : good A) : good (aDo A w t).2 := by
  unfold aDo
  by_cases c0 : w = 0
  · rw [if_pos c0]; exact good_a1 h
  rw [if_neg c0]
  by_cases c1 : w = 1
  · rw [if_pos c1]; exact good_a2 h
  rw [if_neg c1]
  by_cases c2 : w = 2
  · rw [if_pos c2]; exact good_a3 h
  rw [if_neg c2]
  by_cases c3 : w = 3
  · rw [if_pos c3]; exact good_a3 h
  rw [if_neg c3]
  by_cases c4 : w = 4
  · rw [if_pos c4]; exact good_a4 h
  rw [if_neg c4]
  by_cases c5 : w = 5
  · rw [if_pos c5]; exact good_a5 h
  rw [if_neg c5]
  by_cases c6 : w = 6
  · rw [if_pos c6]; exact good_a6 h
  rw [if_neg c6]
  by_cases c7 : w = 7
  · rw [if_pos c7]; exact good_a7 h
  rw [if_neg c7]
  by_cases c8 : w = 8
  · rw [if_pos c8]; exact good_a8 h
  rw [if_neg c8]
  by_cases c9 : w = 9
  · rw [if_pos c9]; exact good_a9 h
  rw [if_neg c9]
  by_cases c10 : w = 10
  · rw [if_pos c10]; exact good_a10 h
  rw [if_neg c10]
  by_cases c11 : w = 11
  · rw [if_pos c11]; exact good_a10 h
  rw [if_neg c11]
  by_cases c12 : w = 12
  · rw [if_pos c12]; exact good_a11 h
  rw [if_neg c12]
  by_cases c13 : w = 13
  · rw [if_pos c13]; exact good_a12 h
  rw [if_neg c13]
  by_cases c14 : w = 14
  · rw [if_pos c14]; exact good_a13 h
  rw [if_neg c14]
  by_cases c15 : w = 15
  · rw [if_pos c15]; exact good_a14 h
  rw [if_neg c15]
  exact good_a15 h
theorem good_act {w wat : Int32} {E : Es} (h : good E.2.2.2.2.2) : good (eAct w wat E).2.2.2.2.2 := by
  unfold eAct
  split
  · exact good_do h
  · exact good_do h
