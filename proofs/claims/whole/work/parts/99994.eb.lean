/-! ===== scripts: reading; how the class goes through what it made ===== -/
theorem un_1 {E E' : Es} (h : un E' = un E) : E'.1 = E.1 := congrArg (fun e : Ec => e.1) h
theorem rep_bad {T : Rw} {n beg r : Nat} {body : Ps × Es → Ps × Es} {X Y : Ps × Es} (h1 : X.1.2.1 = 0) (h2 : X.2.1 = 0) (hY : body ((beg, X.1.2), X.2) = Y) (hb : ¬ Y.2.1 = 0 ∨ ¬ Y.1.2.1 = 0) : rep T n beg body (r + 1) X = Y := by
  have e : rep T n beg body (r + 1) X = rep T n beg body r (if ¬ Y.2.1 = 0 ∨ ¬ Y.1.2.1 = 0 then Y else (pSign T n 125 Y.1, Y.2)) := by
    rw [rep_s, hY]
    exact if_neg (fun z => z.elim (fun q => q h1) (fun q => q h2))
  rw [e, if_pos hb]
  exact rep_w hb.symm r
theorem rep_ok {T : Rw} {n beg r : Nat} {body : Ps × Es → Ps × Es} {X Y : Ps × Es} (h1 : X.1.2.1 = 0) (h2 : X.2.1 = 0) (hY : body ((beg, X.1.2), X.2) = Y) (y1 : Y.2.1 = 0) (y2 : Y.1.2.1 = 0) : rep T n beg body (r + 1) X = rep T n beg body r (pSign T n 125 Y.1, Y.2) := by
  have e : rep T n beg body (r + 1) X = rep T n beg body r (if ¬ Y.2.1 = 0 ∨ ¬ Y.1.2.1 = 0 then Y else (pSign T n 125 Y.1, Y.2)) := by
    rw [rep_s, hY]
    exact if_neg (fun z => z.elim (fun q => q h1) (fun q => q h2))
  rw [e, if_neg (fun z => z.elim (fun q => q y1) (fun q => q y2))]
def aItem (T : Rw) (n dd : Nat) (me : Int32) (body : Ps × Es → Ps × Es) (X : Ps × Es) : Ps × Es := if ¬ pWordV T n X.1 = 17 then pPlain T n me (pWordV T n X.1) (nI (blk T n X.1.1)) (pWord T n X.1, X.2) else pTimes T n dd me body (pWord T n X.1, X.2)
theorem aLoop_go {T : Rw} {n dd m : Nat} {me : Int32} {body : Ps × Es → Ps × Es} {X : Ps × Es} (h1 : X.1.2.1 = 0) (h2 : X.2.1 = 0) (h3 : rgd (seeT T n X.1.1) 97 122) (h4 : (pWord T n X.1).2.1 = 0) : aLoop T n dd me body (m + 1) X = aLoop T n dd me body m ((blk T n (aItem T n dd me body X).1.1, (aItem T n dd me body X).1.2), (aItem T n dd me body X).2) := by
  rw [aLoop_s]
  exact (if_neg (fun z => z.elim (fun q => q h1) (fun q => q.elim (fun q => q h2) (fun q => q h3)))).trans (if_neg (fun z => z h4))
theorem aLoop_no {T : Rw} {n dd m : Nat} {me : Int32} {body : Ps × Es → Ps × Es} {X : Ps × Es} (h1 : X.1.2.1 = 0) (h2 : X.2.1 = 0) (h3 : rgd (seeT T n X.1.1) 97 122) (h4 : ¬ (pWord T n X.1).2.1 = 0) : aLoop T n dd me body (m + 1) X = (pWord T n X.1, X.2) := by
  rw [aLoop_s]
  exact (if_neg (fun z => z.elim (fun q => q h1) (fun q => q.elim (fun q => q h2) (fun q => q h3)))).trans (if_pos h4)
theorem cLoop_x {T : Rw} {n dd : Nat} {bC : Nat → Cs → Cs × List In} {X : Cs} (h : ¬ X.1.2.1 = 0 ∨ ¬ rgd (seeT T n X.1.1) 97 122) (m k : Nat) : cLoop T n dd bC m k X = (X, []) := by
  cases m with
  | zero => rfl
  | succ m => rw [cLoop_s]; exact if_pos h
theorem cLoop_no {T : Rw} {n dd m k : Nat} {bC : Nat → Cs → Cs × List In} {X : Cs} (h1 : X.1.2.1 = 0) (h3 : rgd (seeT T n X.1.1) 97 122) (h4 : ¬ (pWord T n X.1).2.1 = 0) : cLoop T n dd bC (m + 1) k X = ((pWord T n X.1, X.2), []) := by
  rw [cLoop_s]
  exact (if_neg (fun z => z.elim (fun q => q h1) (fun q => q h3))).trans (if_pos h4)
theorem cLoop_go {T : Rw} {n dd m k : Nat} {bC : Nat → Cs → Cs × List In} {X : Cs} {Y : Cs × List In} (hY : cItem T n dd bC k X = Y) (h1 : X.1.2.1 = 0) (h3 : rgd (seeT T n X.1.1) 97 122) (h4 : (pWord T n X.1).2.1 = 0) :
    cLoop T n dd bC (m + 1) k X = ((cLoop T n dd bC m (k + Y.2.length) ((blk T n Y.1.1.1, Y.1.1.2), Y.1.2)).1, Y.2 ++ (cLoop T n dd bC m (k + Y.2.length) ((blk T n Y.1.1.1, Y.1.1.2), Y.1.2)).2) := by
  rw [cLoop_s, hY]
  exact (if_neg (fun z => z.elim (fun q => q h1) (fun q => q h3))).trans (if_neg (fun z => z h4))
theorem cTimes_w {T : Rw} {n dd k : Nat} {bC : Nat → Cs → Cs × List In} {X : Cs} (h : ¬ (tHead T n dd X.1).2.1 = 0) : cTimes T n dd bC k X = ((tHead T n dd X.1, X.2), []) := by
  unfold cTimes
  exact if_pos h
theorem cTimes_b {T : Rw} {n dd k : Nat} {bC : Nat → Cs → Cs × List In} {X : Cs} {B : Cs × List In} (hB : bC (k + 1) (tHead T n dd X.1, X.2) = B) (h : (tHead T n dd X.1).2.1 = 0) (h2 : ¬ B.1.1.2.1 = 0) : cTimes T n dd bC k X = (B.1, []) := by
  unfold cTimes
  rw [hB]
  exact (if_neg (fun z => z h)).trans (if_pos h2)
theorem cTimes_g {T : Rw} {n dd k : Nat} {bC : Nat → Cs → Cs × List In} {X : Cs} {B : Cs × List In} (hB : bC (k + 1) (tHead T n dd X.1, X.2) = B) (h : (tHead T n dd X.1).2.1 = 0) (h2 : B.1.1.2.1 = 0) :
    cTimes T n dd bC k X = ((pSign T n 125 B.1.1, B.1.2), if B.2.length = 0 then [] else (100, -1, pNumV T n 0 X.1, 0, 0) :: (B.2 ++ [(101, -1, nI k, 0, 0)])) := by
  unfold cTimes
  rw [hB]
  exact (if_neg (fun z => z h)).trans (if_neg (fun z => z h2))
theorem pTimes_e {T : Rw} {n dd : Nat} {me : Int32} {bE : Ps × Es → Ps × Es} {P : Ps} {E : Es} : pTimes T n dd me bE (P, E) = rep T n (tHead T n dd P).1 bE (if me = 0 then 1 else (pNumV T n 0 P).toNatClampNeg) (tHead T n dd P, E) := rfl
theorem pTimes_0 {T : Rw} {n dd : Nat} {bE : Ps × Es → Ps × Es} {bC : Nat → Cs → Cs × List In} (hb : ∀ (P : Ps) (E : Es) (t : Rw) (k : Nat), E.1 = 0 → (bE (P, E)).1 = (bC k (P, t)).1.1 ∧ un (bE (P, E)).2 = un E) (P : Ps) (E : Es) (t : Rw) (k : Nat) (hE : E.1 = 0) :
    (pTimes T n dd 0 bE (P, E)).1 = (cTimes T n dd bC k (P, t)).1.1 ∧ un (pTimes T n dd 0 bE (P, E)).2 = un E := by
  rw [pTimes_e, if_pos rfl]
  by_cases c1 : (tHead T n dd P).2.1 = 0
  · obtain ⟨h1, h2⟩ := hb (tHead T n dd P) E t (k + 1) hE
    have h3 : (bE ((tHead T n dd P), E)).2.1 = 0 := by rw [un_1 h2]; exact hE
    by_cases c2 : (bC (k + 1) (tHead T n dd P, t)).1.1.2.1 = 0
    · rw [rep_ok (T := T) (n := n) (beg := (tHead T n dd P).1) (body := bE) (r := 0) (X := (tHead T n dd P, E)) (Y := bE (tHead T n dd P, E)) c1 hE rfl h3 (by show (bE (tHead T n dd P, E)).1.2.1 = 0; rw [h1]; exact c2), cTimes_g (X := (P, t)) rfl c1 c2]
      exact ⟨by show pSign T n 125 (bE (tHead T n dd P, E)).1 = pSign T n 125 _; rw [h1], h2⟩
    · rw [rep_bad (T := T) (n := n) (beg := (tHead T n dd P).1) (body := bE) (r := 0) (X := (tHead T n dd P, E)) (Y := bE (tHead T n dd P, E)) c1 hE rfl (Or.inr (by show ¬ (bE (tHead T n dd P, E)).1.2.1 = 0; rw [h1]; exact c2)), cTimes_b (X := (P, t)) rfl c1 c2]
      exact ⟨h1, h2⟩
  · rw [rep_w (Or.inl c1), cTimes_w (X := (P, t)) c1]
    exact ⟨rfl, rfl⟩
theorem pPlain_0 {T : Rw} {n : Nat} {w wat : Int32} {P : Ps} {E : Es} : pPlain T n 0 w wat (P, E) = (pSign T n 59 (pNums T n (nOf w).toNatClampNeg 0 P E.2.2.2.2.1).1, (E.1, E.2.1, E.2.2.1, E.2.2.2.1, (pNums T n (nOf w).toNatClampNeg 0 P E.2.2.2.2.1).2, E.2.2.2.2.2)) := by
  unfold pPlain
  dsimp only
  generalize pNums T n (nOf w).toNatClampNeg 0 P E.2.2.2.2.1 = N
  rw [if_pos rfl]
theorem pPlain_1 {T : Rw} {n : Nat} {w wat : Int32} {P : Ps} {E : Es} : pPlain T n 1 w wat (P, E) = (pSign T n 59 (pNums T n (nOf w).toNatClampNeg 0 P E.2.2.2.2.1).1, eAct w wat (E.1, E.2.1, E.2.2.1, E.2.2.2.1, (pNums T n (nOf w).toNatClampNeg 0 P E.2.2.2.2.1).2, E.2.2.2.2.2)) := by
  unfold pPlain
  dsimp only
  generalize pNums T n (nOf w).toNatClampNeg 0 P E.2.2.2.2.1 = N
  rw [if_neg (by decide)]
theorem un_t {E : Es} {t : Rw} : un (E.1, E.2.1, E.2.2.1, E.2.2.2.1, t, E.2.2.2.2.2) = un E := rfl
theorem aLoop_0 {T : Rw} {n dd : Nat} {bE : Ps × Es → Ps × Es} {bC : Nat → Cs → Cs × List In} (hb : ∀ (P : Ps) (E : Es) (t : Rw) (k : Nat), E.1 = 0 → (bE (P, E)).1 = (bC k (P, t)).1.1 ∧ un (bE (P, E)).2 = un E) :
    ∀ (m k : Nat) (P : Ps) (E : Es) (t : Rw), E.1 = 0 → (aLoop T n dd 0 bE m (P, E)).1 = (cLoop T n dd bC m k (P, t)).1.1 ∧ un (aLoop T n dd 0 bE m (P, E)).2 = un E := by
  intro m
  induction m with
  | zero => intro k P E t hE; exact ⟨rfl, rfl⟩
  | succ m ih =>
    intro k P E t hE
    by_cases c : ¬ P.2.1 = 0 ∨ ¬ rgd (seeT T n P.1) 97 122
    · rw [aLoop_x (X := (P, E)) (c.elim Or.inl (fun z => Or.inr (Or.inr z))), cLoop_x (X := (P, t)) c]
      exact ⟨rfl, rfl⟩
    · have c1 : P.2.1 = 0 := Classical.not_not.mp (fun z => c (Or.inl z))
      have c3 : rgd (seeT T n P.1) 97 122 := Classical.not_not.mp (fun z => c (Or.inr z))
      by_cases c2 : (pWord T n P).2.1 = 0
      · have key : (aItem T n dd 0 bE (P, E)).1 = (cItem T n dd bC k (P, t)).1.1 ∧ un (aItem T n dd 0 bE (P, E)).2 = un E := by
          unfold cItem aItem
          by_cases c3 : pWordV T n P = 17
          · rw [if_neg (fun z => z c3), if_neg (fun z => z c3)]
            exact pTimes_0 hb _ _ _ _ hE
          · rw [if_pos c3, if_pos c3]
            rw [pPlain_0]
            refine ⟨?_, un_t⟩
            show pSign T n 59 _ = pSign T n 59 _
            rw [pNums_1 _ _ _ _ t]
        rw [aLoop_go (X := (P, E)) c1 hE c3 c2, cLoop_go (X := (P, t)) rfl c1 c3 c2]
        have h3 : (aItem T n dd 0 bE (P, E)).2.1 = 0 := by rw [un_1 key.2]; exact hE
        generalize aItem T n dd 0 bE (P, E) = Y at key h3
        generalize cItem T n dd bC k (P, t) = V at key
        obtain ⟨i1, i2⟩ := ih (k + V.2.length) (blk T n Y.1.1, Y.1.2) Y.2 V.1.2 h3
        refine ⟨?_, i2.trans key.2⟩
        show (aLoop T n dd 0 bE m ((blk T n Y.1.1, Y.1.2), Y.2)).1 = (cLoop T n dd bC m (k + V.2.length) ((blk T n V.1.1.1, V.1.1.2), V.1.2)).1.1
        rw [i1, key.1]
      · rw [aLoop_no (X := (P, E)) c1 hE c3 c2, cLoop_no (X := (P, t)) c1 c3 c2]
        exact ⟨rfl, rfl⟩
theorem pActs_0 {T : Rw} {n : Nat} : ∀ (dd : Nat) (P : Ps) (E : Es) (t : Rw) (k : Nat), E.1 = 0 → (pActs T n 0 dd (P, E)).1 = (cActs T n dd k (P, t)).1.1 ∧ un (pActs T n 0 dd (P, E)).2 = un E := by
  intro dd
  induction dd with
  | zero => intro P E t k hE; exact aLoop_0 (bC := fun _ Y => (Y, [])) (fun P E t k _ => ⟨rfl, rfl⟩) _ _ _ _ _ hE
  | succ dd ih => intro P E t k hE; exact aLoop_0 (bC := cActs T n dd) ih _ _ _ _ _ hE
theorem cActs_1 {T : Rw} {n dd k k' : Nat} {P : Ps} {t t' : Rw} : (cActs T n dd k (P, t)).1.1 = (cActs T n dd k' (P, t')).1.1 := by
  have h1 := (pActs_0 (T := T) (n := n) dd P (0, 0, 0, 0, t, t) t k rfl).1
  have h2 := (pActs_0 (T := T) (n := n) dd P (0, 0, 0, 0, t, t) t' k' rfl).1
  rw [← h1, ← h2]
theorem cItem_ok {T : Rw} {n dd : Nat} {bC : Nat → Cs → Cs × List In} (hb : ∀ (k : Nat) (X : Cs), okw X.1.2 → okw (bC k X).1.1.2) {k : Nat} {X : Cs} (h : okw X.1.2) : okw (cItem T n dd bC k X).1.1.2 := by
  have hw := pWord_ok (T := T) (n := n) h
  unfold cItem
  split
  · unfold cPlain
    exact pSign_ok (pNums_ok _ _ _ _ hw)
  · unfold cTimes
    have h1 := tHead_ok (T := T) (n := n) (dd := dd) hw
    split
    · exact h1
    · split
      · exact hb _ _ h1
      · exact pSign_ok (hb _ _ h1)
theorem cLoop_ok {T : Rw} {n dd : Nat} {bC : Nat → Cs → Cs × List In} (hb : ∀ (k : Nat) (X : Cs), okw X.1.2 → okw (bC k X).1.1.2) : ∀ (m k : Nat) (X : Cs), okw X.1.2 → okw (cLoop T n dd bC m k X).1.1.2 := by
  intro m
  induction m with
  | zero => intro k X h; exact h
  | succ m ih =>
    intro k X h
    rw [cLoop_s]
    split
    · exact h
    · split
      · exact pWord_ok h
      · exact ih _ _ (cItem_ok hb h)
theorem cActs_ok {T : Rw} {n : Nat} : ∀ (dd k : Nat) (X : Cs), okw X.1.2 → okw (cActs T n dd k X).1.1.2 := by
  intro dd
  induction dd with
  | zero => intro k X h; exact cLoop_ok (bC := fun _ Y => (Y, [])) (fun _ _ h => h) _ _ _ h
  | succ dd ih => intro k X h; exact cLoop_ok ih _ _ _ h
/-! ===== going on to the next act ===== -/
def mvP (ops x : Rw) (sz : Nat) (k1 : Nat → Nat → Rw → Prop) (k0 : Prop) : Nat → Nat → Nat → Rw → Prop := fun f pc o L => match f with
  | 0 => k0
  | f + 1 => (sz ≤ pc → k0) ∧ (pc < sz → (ops pc = 100 → o < 3 ∧ mvP ops x sz k1 k0 f (pc + 1) (o + 1) (up L o (x pc))) ∧
      (ops pc = 101 → 1 ≤ o ∧ o ≤ 3 ∧ (¬ L (o - 1) - 1 ≤ 0 → ∃ q, x pc = nI q ∧ q < 300 ∧ mvP ops x sz k1 k0 f (q + 1) o (up L (o - 1) (L (o - 1) - 1))) ∧ (L (o - 1) - 1 ≤ 0 → mvP ops x sz k1 k0 f (pc + 1) (o - 1) (up L (o - 1) (L (o - 1) - 1)))) ∧
      (¬ ops pc = 100 → ¬ ops pc = 101 → k1 pc o L))
theorem mvP_s {ops x : Rw} {sz : Nat} {k1 : Nat → Nat → Rw → Prop} {k0 : Prop} {f pc o : Nat} {L : Rw} : mvP ops x sz k1 k0 (f + 1) pc o L = ((sz ≤ pc → k0) ∧ (pc < sz → (ops pc = 100 → o < 3 ∧ mvP ops x sz k1 k0 f (pc + 1) (o + 1) (up L o (x pc))) ∧
      (ops pc = 101 → 1 ≤ o ∧ o ≤ 3 ∧ (¬ L (o - 1) - 1 ≤ 0 → ∃ q, x pc = nI q ∧ q < 300 ∧ mvP ops x sz k1 k0 f (q + 1) o (up L (o - 1) (L (o - 1) - 1))) ∧ (L (o - 1) - 1 ≤ 0 → mvP ops x sz k1 k0 f (pc + 1) (o - 1) (up L (o - 1) (L (o - 1) - 1)))) ∧
      (¬ ops pc = 100 → ¬ ops pc = 101 → k1 pc o L))) := rfl
/-- what lies at a place -/
def itAt (ops pl x y z : Rw) (I : In) (k : Nat) : Prop := ops k = I.1 ∧ pl k = I.2.1 ∧ x k = I.2.2.1 ∧ (¬ I.1 = 100 → ¬ I.1 = 101 → y k = I.2.2.2.1 ∧ z k = I.2.2.2.2)
def codeAt (ops pl x y z : Rw) : List In → Nat → Prop := fun l k => match l with
  | [] => True
  | I :: l => itAt ops pl x y z I k ∧ codeAt ops pl x y z l (k + 1)
theorem codeAt_app {ops pl x y z : Rw} : ∀ {l l' : List In} {k : Nat}, codeAt ops pl x y z (l ++ l') k ↔ codeAt ops pl x y z l k ∧ codeAt ops pl x y z l' (k + l.length) := by
  intro l
  induction l with
  | nil => intro l' k; simp [codeAt]
  | cons I l ih =>
    intro l' k
    show (_ ∧ codeAt ops pl x y z (l ++ l') (k + 1)) ↔ (_ ∧ codeAt ops pl x y z l (k + 1)) ∧ _
    rw [ih, List.length_cons, show k + 1 + l.length = k + (l.length + 1) by omega, and_assoc]
def t3 (x y z : Int32) : Rw := fun i => if i = 0 then x else if i = 1 then y else z
/-- what an act at a place does, and what then must hold -/
def acK (ops pl x y z : Rw) (Hd : Ec → Nat → Nat → Rw → Prop) (Fin : Ec → Prop) (e : Ec) (pc o : Nat) (L : Rw) : Prop :=
  (¬ (cAct (ops pc) (pl pc) (t3 (x pc) (y pc) (z pc)) e).1 = 0 → Fin (cAct (ops pc) (pl pc) (t3 (x pc) (y pc) (z pc)) e)) ∧ ((cAct (ops pc) (pl pc) (t3 (x pc) (y pc) (z pc)) e).1 = 0 → Hd (cAct (ops pc) (pl pc) (t3 (x pc) (y pc) (z pc)) e) (pc + 1) o L)
def KK (ops pl x y z : Rw) (sz : Nat) (Hd : Ec → Nat → Nat → Rw → Prop) (Fin : Ec → Prop) (e : Ec) (c i o : Nat) (L : Rw) : Prop := mvP ops x sz (acK ops pl x y z Hd Fin e) (Fin e) (300 - c) i o L
