/-! ===== scripts: what the class makes of them, and that it does what they mean ===== -/
/-- op, place, three numbers -/
abbrev In : Type := Int32 × Int32 × Int32 × Int32 × Int32
abbrev Cs : Type := Ps × Rw
def cPlain (T : Rw) (n : Nat) (w wat : Int32) (X : Cs) : Cs × List In :=
  let N := pNums T n (nOf w).toNatClampNeg 0 X.1 X.2
  ((pSign T n 59 N.1, N.2), [(w, wat, N.2 0, N.2 1, N.2 2)])
def cTimes (T : Rw) (n dd : Nat) (body : Nat → Cs → Cs × List In) (k : Nat) (X : Cs) : Cs × List In :=
  if ¬ (tHead T n dd X.1).2.1 = 0 then ((tHead T n dd X.1, X.2), []) else
  if ¬ (body (k + 1) (tHead T n dd X.1, X.2)).1.1.2.1 = 0 then ((body (k + 1) (tHead T n dd X.1, X.2)).1, []) else
  ((pSign T n 125 (body (k + 1) (tHead T n dd X.1, X.2)).1.1, (body (k + 1) (tHead T n dd X.1, X.2)).1.2),
    if (body (k + 1) (tHead T n dd X.1, X.2)).2.length = 0 then [] else (100, -1, pNumV T n 0 X.1, 0, 0) :: ((body (k + 1) (tHead T n dd X.1, X.2)).2 ++ [(101, -1, nI k, 0, 0)]))
def cItem (T : Rw) (n dd : Nat) (body : Nat → Cs → Cs × List In) (k : Nat) (X : Cs) : Cs × List In :=
  if ¬ pWordV T n X.1 = 17 then cPlain T n (pWordV T n X.1) (nI (blk T n X.1.1)) (pWord T n X.1, X.2) else cTimes T n dd body k (pWord T n X.1, X.2)
def cLoop (T : Rw) (n dd : Nat) (body : Nat → Cs → Cs × List In) : Nat → Nat → Cs → Cs × List In := fun m k X => match m with
  | 0 => (X, [])
  | m + 1 => if ¬ X.1.2.1 = 0 ∨ ¬ rgd (seeT T n X.1.1) 97 122 then (X, []) else
      if ¬ (pWord T n X.1).2.1 = 0 then ((pWord T n X.1, X.2), []) else
      let Y := cItem T n dd body k X
      let V := cLoop T n dd body m (k + Y.2.length) ((blk T n Y.1.1.1, Y.1.1.2), Y.1.2)
      (V.1, Y.2 ++ V.2)
def cActs (T : Rw) (n : Nat) : Nat → Nat → Cs → Cs × List In := fun dd k X => match dd with
  | 0 => cLoop T n 0 (fun _ Y => (Y, [])) (n + 1) k ((blk T n X.1.1, X.1.2), X.2)
  | dd + 1 => cLoop T n (dd + 1) (cActs T n dd) (n + 1) k ((blk T n X.1.1, X.1.2), X.2)
theorem cLoop_s {T : Rw} {n dd : Nat} {body : Nat → Cs → Cs × List In} {m k : Nat} {X : Cs} : cLoop T n dd body (m + 1) k X = if ¬ X.1.2.1 = 0 ∨ ¬ rgd (seeT T n X.1.1) 97 122 then (X, []) else
      if ¬ (pWord T n X.1).2.1 = 0 then ((pWord T n X.1, X.2), []) else
      ((cLoop T n dd body m (k + (cItem T n dd body k X).2.length) ((blk T n (cItem T n dd body k X).1.1.1, (cItem T n dd body k X).1.1.2), (cItem T n dd body k X).1.2)).1, (cItem T n dd body k X).2 ++ (cLoop T n dd body m (k + (cItem T n dd body k X).2.length) ((blk T n (cItem T n dd body k X).1.1.1, (cItem T n dd body k X).1.1.2), (cItem T n dd body k X).1.2)).2) := rfl
/-! what is told along the way -/
theorem pNums_1 {T : Rw} {n : Nat} : ∀ (m k : Nat) (P : Ps) (t t' : Rw), (pNums T n m k P t).1 = (pNums T n m k P t').1 := by
  intro m
  induction m with
  | zero => intro k P t t'; rfl
  | succ m ih => intro k P t t'; rw [pNums_s, pNums_s]; exact ih _ _ _ _
theorem pNums_lo {T : Rw} {n : Nat} : ∀ (m k : Nat) (P : Ps) (t : Rw) (i : Nat), i < k → (pNums T n m k P t).2 i = t i := by
  intro m
  induction m with
  | zero => intro k P t i hi; rfl
  | succ m ih => intro k P t i hi; rw [pNums_s, ih _ _ _ i (by omega), up_ne (by omega)]
theorem pNums_2 {T : Rw} {n : Nat} : ∀ (m k : Nat) (P : Ps) (t t' : Rw) (i : Nat), k ≤ i → i < k + m → (pNums T n m k P t).2 i = (pNums T n m k P t').2 i := by
  intro m
  induction m with
  | zero => intro k P t t' i h1 h2; omega
  | succ m ih =>
    intro k P t t' i h1 h2
    rw [pNums_s, pNums_s]
    by_cases c : i = k
    · subst c
      rw [pNums_lo _ _ _ _ _ (by omega), pNums_lo _ _ _ _ _ (by omega), up_at, up_at]
    · exact ih _ _ _ _ _ (by omega) (by omega)
theorem aDo_told {A : Rw} {w : Int32} {t t' : Rw} (h : ∀ i, i < (nOf w).toNatClampNeg → t i = t' i) : aDo A w t = aDo A w t' := by
  have h0 : t 0 = t' 0 := h 0 (by unfold nOf; split; · decide
                                  · split <;> decide)
  unfold aDo
  by_cases c2 : w = 2 ∨ w = 3
  · have e : nOf w = 3 := by unfold nOf; rw [if_pos c2]
    rw [e] at h
    rw [h0, h 1 (by decide), h 2 (by decide)]
  · by_cases c3 : w = 4 ∨ w = 5 ∨ w = 6 ∨ w = 10 ∨ w = 11
    · have e : nOf w = 2 := by unfold nOf; rw [if_neg c2, if_pos c3]
      rw [e] at h
      rw [h0, h 1 (by decide), if_neg (fun z => c2 (Or.inl z)), if_neg (fun z => c2 (Or.inr z)), if_neg (fun z => c2 (Or.inl z)), if_neg (fun z => c2 (Or.inr z))]
    · rw [h0, if_neg (fun z => c2 (Or.inl z)), if_neg (fun z => c2 (Or.inr z)), if_neg (fun z => c3 (Or.inl z)), if_neg (fun z => c3 (Or.inr (Or.inl z))), if_neg (fun z => c3 (Or.inr (Or.inr (Or.inl z)))), if_neg (fun z => c3 (Or.inr (Or.inr (Or.inr (Or.inl z))))), if_neg (fun z => c3 (Or.inr (Or.inr (Or.inr (Or.inr z))))),
        if_neg (fun z => c2 (Or.inl z)), if_neg (fun z => c2 (Or.inr z)), if_neg (fun z => c3 (Or.inl z)), if_neg (fun z => c3 (Or.inr (Or.inl z))), if_neg (fun z => c3 (Or.inr (Or.inr (Or.inl z)))), if_neg (fun z => c3 (Or.inr (Or.inr (Or.inr (Or.inl z))))), if_neg (fun z => c3 (Or.inr (Or.inr (Or.inr (Or.inr z)))))]
/-- all but what is told -/
abbrev Ec : Type := Int32 × Int32 × Int32 × Int32 × Rw
def un (E : Es) : Ec := (E.1, E.2.1, E.2.2.1, E.2.2.2.1, E.2.2.2.2.2)
def cAct (w wat : Int32) (t : Rw) (e : Ec) : Ec :=
  if (aDo e.2.2.2.2 w t).1 < 0 then (1, e.2.1, (aDo e.2.2.2.2 w t).1, wat, (aDo e.2.2.2.2 w t).2)
  else (if ¬ e.2.1 + 1 = 400 then 0 else 1, e.2.1 + 1, e.2.2.1, e.2.2.2.1, (aDo e.2.2.2.2 w t).2)
theorem un_act {w wat : Int32} {E : Es} {t : Rw} (h : ∀ i, i < (nOf w).toNatClampNeg → E.2.2.2.2.1 i = t i) : un (eAct w wat E) = cAct w wat t (un E) := by
  have e := aDo_told (A := E.2.2.2.2.2) h
  unfold eAct cAct un
  rw [e]
  split <;> rfl
/-! the first fault stays -/
def okw (w : Int32 × Int32) : Prop := w = (0, -1) ∨ ¬ w.1 = 0
theorem okw_0 {w : Int32 × Int32} (h : okw w) (z : w.1 = 0) : w = (0, -1) := h.elim id (fun q => absurd z q)
theorem fl_ok {w : Int32 × Int32} {c p : Int32} (h : okw w) (hc : ¬ c = 0) : okw (fl w.1 w.2 c p) := by
  unfold fl
  split
  · exact h
  · exact Or.inr hc
theorem fl_st {w : Int32 × Int32} {c p : Int32} (h : ¬ w.1 = 0) : fl w.1 w.2 c p = w := by unfold fl; rw [if_pos h]
theorem pSign_ok {T : Rw} {n : Nat} {c : Int32} {P : Ps} (h : okw P.2) : okw (pSign T n c P).2 := by
  unfold pSign
  show okw (if _ then _ else _)
  split
  · exact h
  · exact fl_ok h (by decide)
theorem pSign_st {T : Rw} {n : Nat} {c : Int32} {P : Ps} (h : ¬ P.2.1 = 0) : (pSign T n c P).2 = P.2 := by
  unfold pSign
  show (if _ then _ else _) = _
  split
  · rfl
  · exact fl_st h
theorem pNum_ok {T : Rw} {n : Nat} {b : Int32} {P : Ps} (h : okw P.2) : okw (pNum T n b P).2 := by
  unfold pNum
  dsimp only
  have h1 : okw (if (dg T n (pBeg T n b P.1) 0).1 = pBeg T n b P.1 then fl P.2.1 P.2.2 1 (nI (pBeg T n b P.1)) else P.2) := by
    split
    · exact fl_ok h (by decide)
    · exact h
  split
  · exact fl_ok h1 (by decide)
  · exact h1
theorem pNum_st {T : Rw} {n : Nat} {b : Int32} {P : Ps} (h : ¬ P.2.1 = 0) : (pNum T n b P).2 = P.2 := by
  unfold pNum
  dsimp only
  have h1 : (if (dg T n (pBeg T n b P.1) 0).1 = pBeg T n b P.1 then fl P.2.1 P.2.2 1 (nI (pBeg T n b P.1)) else P.2) = P.2 := by
    split
    · exact fl_st h
    · rfl
  rw [h1]
  split
  · exact fl_st h
  · rfl
theorem pWord_ok {T : Rw} {n : Nat} {P : Ps} (h : okw P.2) : okw (pWord T n P).2 := by
  unfold pWord
  show okw (if _ then _ else _)
  split
  · exact h
  · exact fl_ok h (by decide)
theorem pNums_ok {T : Rw} {n : Nat} : ∀ (m k : Nat) (P : Ps) (t : Rw), okw P.2 → okw (pNums T n m k P t).1.2 := by
  intro m
  induction m with
  | zero => intro k P t h; exact h
  | succ m ih => intro k P t h; rw [pNums_s]; exact ih _ _ _ (pNum_ok h)
theorem pNums_st {T : Rw} {n : Nat} : ∀ (m k : Nat) (P : Ps) (t : Rw), ¬ P.2.1 = 0 → (pNums T n m k P t).1.2 = P.2 := by
  intro m
  induction m with
  | zero => intro k P t h; rfl
  | succ m ih =>
    intro k P t h
    have e := pNum_st (T := T) (n := n) (b := if k = 2 then 1 else 0) h
    rw [pNums_s, ih _ _ _ (by rw [e]; exact h), e]
theorem tHead_ok {T : Rw} {n dd : Nat} {P : Ps} (h : okw P.2) : okw (tHead T n dd P).2 := by
  unfold tHead
  dsimp only
  refine pSign_ok ?_
  have h1 := pNum_ok (T := T) (n := n) (b := 0) h
  show okw (if _ then _ else _)
  have h2 : okw (if ¬ (pNum T n 0 P).2.1 = 0 ∨ rgd (pNumV T n 0 P) 1 50 then (pNum T n 0 P).2 else fl (pNum T n 0 P).2.1 (pNum T n 0 P).2.2 2 (nI (pBeg T n 0 P.1))) := by
    split
    · exact h1
    · exact fl_ok h1 (by decide)
  split
  · exact h2
  · exact fl_ok h2 (by decide)
