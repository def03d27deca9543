/-! ===== the reference's memory while it reads a script ===== -/
def PR (μ ν : Mi) (n : Nat) (X : Ps × Es) : Prop := (∀ a, a ≠ 2737 → a ≠ 2738 → a ≠ 2744 → a ≠ 2747 → ν a = μ a) ∧ ν 2738 = X.2.2.2.2.2.2 ∧ ν 2747 = X.2.2.2.2.2.1 ∧ ν 2737 15 = nI n ∧ ν 2737 16 = nI X.1.1 ∧ ν 2737 17 = X.1.2.1 ∧ ν 2737 18 = X.1.2.2 ∧ ν 2737 26 = X.2.1 ∧ ν 2737 21 = X.2.2.1 ∧ ν 2737 19 = X.2.2.2.1 ∧ ν 2737 20 = X.2.2.2.2.1 ∧ ν 2737 6 = μ 2737 6 ∧ ν 2737 14 = μ 2737 14
theorem PR_T {μ ν : Mi} {n : Nat} {X : Ps × Es} (h : PR μ ν n X) : ν 2745 = μ 2745 ∧ ν 2746 = μ 2746 := ⟨h.1 _ (by decide) (by decide) (by decide) (by decide), h.1 _ (by decide) (by decide) (by decide) (by decide)⟩
/-- fields anew -/
theorem PR_F {μ ν : Mi} {n : Nat} {X : Ps × Es} {F : Rw} {P : Ps} (h : PR μ ν n X) (hF : ∀ f, f ≠ 16 → f ≠ 17 → f ≠ 18 → f ≠ 23 → f ≠ 25 → F f = ν 2737 f) (h6 : F 16 = nI P.1) (h7 : F 17 = P.2.1) (h8 : F 18 = P.2.2) : PR μ (upF ν 2737 F) n (P, X.2) := by
  obtain ⟨a, b, c, d, e, f, g, i, j, k, l, m, o⟩ := h
  refine ⟨fun x q1 q2 q3 q4 => by rw [upF_ne q1]; exact a x q1 q2 q3 q4, by rw [upF_ne (by decide)]; exact b, by rw [upF_ne (by decide)]; exact c, ?_, by rw [upF_same]; exact h6, by rw [upF_same]; exact h7, by rw [upF_same]; exact h8, ?_, ?_, ?_, ?_, ?_, ?_⟩
  · rw [upF_same, hF _ (by decide) (by decide) (by decide) (by decide) (by decide)]; exact d
  · rw [upF_same, hF _ (by decide) (by decide) (by decide) (by decide) (by decide)]; exact i
  · rw [upF_same, hF _ (by decide) (by decide) (by decide) (by decide) (by decide)]; exact j
  · rw [upF_same, hF _ (by decide) (by decide) (by decide) (by decide) (by decide)]; exact k
  · rw [upF_same, hF _ (by decide) (by decide) (by decide) (by decide) (by decide)]; exact l
  · rw [upF_same, hF _ (by decide) (by decide) (by decide) (by decide) (by decide)]; exact m
  · rw [upF_same, hF _ (by decide) (by decide) (by decide) (by decide) (by decide)]; exact o
theorem fails_fl {F : Rw} {c p : Int32} : qFails F c p 17 = (fl (F 17) (F 18) c p).1 ∧ qFails F c p 18 = (fl (F 17) (F 18) c p).2 := by
  unfold qFails fl
  split
  · exact ⟨rfl, rfl⟩
  · exact ⟨by rw [up_ne (by decide), up_at], up_at⟩
/-- the spot in range -/
def PB (n : Nat) (P : Ps) : Prop := n ≤ 300 ∧ P.1 ≤ 400 ∧ (P.2.1 = 0 → P.1 ≤ n)
theorem PR_sp {μ ν : Mi} {n : Nat} {X : Ps × Es} (h : PR μ ν n X) (hb : PB n X.1) : spOK (ν 2737) := by
  obtain ⟨a, b, c, d, e, _⟩ := h
  obtain ⟨h1, h2, h3⟩ := hb
  exact ⟨by rw [d, rg_nI (by omega)]; omega, by rw [e, rg_nI (by omega)]; omega⟩
theorem PR_c {μ ν : Mi} {n : Nat} {X : Ps × Es} (h : PR μ ν n X) (hb : PB n X.1) : (ν 2737 15).toNatClampNeg = n ∧ (ν 2737 16).toNatClampNeg = X.1.1 := by
  obtain ⟨a, b, c, d, e, _⟩ := h
  obtain ⟨h1, h2, h3⟩ := hb
  rw [d, e, nI_clamp (by omega), nI_clamp (by omega)]
  exact ⟨rfl, rfl⟩
theorem PR_blanks {μ ν : Mi} {n : Nat} {X : Ps × Es} (h : PR μ ν n X) (hb : PB n X.1) : PR μ (upF ν 2737 (up (ν 2737) 16 (nI (blk (ν 2745) (ν 2737 15).toNatClampNeg (ν 2737 16).toNatClampNeg)))) n ((blk (μ 2745) n X.1.1, X.1.2), X.2) ∧ PB n (blk (μ 2745) n X.1.1, X.1.2) := by
  have hc := PR_c h hb
  rw [hc.1, hc.2, (PR_T h).1]
  have hl := blk_le (T := μ 2745) (n := n) (p := X.1.1)
  refine ⟨PR_F h (fun f q1 q2 q3 q4 q5 => up_ne q1) up_at ?_ ?_, hb.1, ?_, fun z => ?_⟩
  · rw [up_ne (by decide)]; exact h.2.2.2.2.2.1
  · rw [up_ne (by decide)]; exact h.2.2.2.2.2.2.1
  · have := hb.2.1; have := hb.1; show blk _ _ _ ≤ 400; omega
  · have := hb.2.2 z; show blk _ _ _ ≤ n; omega
theorem fl_nz {w wa c p : Int32} (hc : ¬ c = 0) : ¬ (fl w wa c p).1 = 0 := by
  unfold fl
  split
  · rename_i h; exact h
  · exact hc
theorem PR_sign {μ ν : Mi} {n : Nat} {X : Ps × Es} {c : Int32} (h : PR μ ν n X) (hb : PB n X.1) (hp : X.1.1 ≤ 399) (hc : ¬ c = -1) : PR μ (upF ν 2737 (qSign (ν 2745) (ν 2737) c)) n (pSign (μ 2745) n c X.1, X.2) ∧ PB n (pSign (μ 2745) n c X.1) := by
  have hcc := PR_c h hb
  unfold qSign pSign
  rw [hcc.1, hcc.2, (PR_T h).1]
  have hl := blk_le (T := μ 2745) (n := n) (p := X.1.1)
  have h17 := h.2.2.2.2.2.1
  have h18 := h.2.2.2.2.2.2.1
  generalize hbb : blk (μ 2745) n X.1.1 = b at *
  refine ⟨PR_F h (fun f q1 q2 q3 q4 q5 => ?_) ?_ ?_ ?_, hb.1, ?_, fun z => ?_⟩
  · rw [up_ne q1]
    split
    · exact up_ne q1
    · rw [qFails_out ⟨q2, q3⟩, up_ne q1]
  · exact up_at
  · rw [up_ne (by decide)]
    split
    · rw [up_ne (by decide)]; exact h17
    · rw [fails_fl.1, up_ne (by decide), up_ne (by decide), h17, h18]
  · rw [up_ne (by decide)]
    split
    · rw [up_ne (by decide)]; exact h18
    · rw [fails_fl.2, up_ne (by decide), up_ne (by decide), h17, h18]
  · have := hb.1; show b + 1 ≤ 400; omega
  · show b + 1 ≤ n
    have z' : (if seeT (μ 2745) n b = c then X.1.2 else fl X.1.2.1 X.1.2.2 1 (nI b)).1 = 0 := z
    split at z'
    · rename_i hs
      by_cases q : b < n
      · omega
      · rw [seeT_hi (by omega)] at hs; exact absurd hs.symm hc
    · exact absurd z' (fl_nz (by decide))
theorem PR_num {μ ν : Mi} {n : Nat} {X : Ps × Es} {b : Int32} (h : PR μ ν n X) (hb : PB n X.1) (hp : X.1.1 ≤ 399) : PR μ (upF ν 2737 (qNum (ν 2745) (ν 2737) b).2) n (pNum (μ 2745) n b X.1, X.2) ∧ PB n (pNum (μ 2745) n b X.1) ∧ (qNum (ν 2745) (ν 2737) b).1 = pNumV (μ 2745) n b X.1 ∧ (qNum (ν 2745) (ν 2737) b).2 25 = nI (pBeg (μ 2745) n b X.1.1) ∧ ((pNum (μ 2745) n b X.1).1 ≤ n ∨ (pNum (μ 2745) n b X.1).1 ≤ X.1.1) := by
  have hcc := PR_c h hb
  have h17 := h.2.2.2.2.2.1
  have h18 := h.2.2.2.2.2.2.1
  rw [(PR_T h).1]
  have hL : nLess (μ 2745) (ν 2737) b ↔ pLess (μ 2745) n b X.1.1 := by
    show (¬ b = 0 ∧ seeT (μ 2745) (ν 2737 15).toNatClampNeg (blk (μ 2745) (ν 2737 15).toNatClampNeg (ν 2737 16).toNatClampNeg) = 45) ↔ _
    rw [hcc.1, hcc.2]
  have eb : nBeg (μ 2745) (ν 2737) b = pBeg (μ 2745) n b X.1.1 := by
    unfold nBeg pBeg
    by_cases c : pLess (μ 2745) n b X.1.1
    · rw [if_pos (hL.mpr c), if_pos c, hcc.1, hcc.2]
    · rw [if_neg (fun z => c (hL.mp z)), if_neg c, hcc.1, hcc.2]
  have ebound : X.1.1 ≤ pBeg (μ 2745) n b X.1.1 ∧ (pBeg (μ 2745) n b X.1.1 ≤ n ∨ pBeg (μ 2745) n b X.1.1 = X.1.1) := by
    have hl := blk_le (T := μ 2745) (n := n) (p := X.1.1)
    unfold pBeg
    split
    · rename_i hs
      have : blk (μ 2745) n X.1.1 < n := by
        by_cases q : blk (μ 2745) n X.1.1 < n
        · exact q
        · have hs2 := hs.2
          rw [seeT_hi (by omega)] at hs2; exact absurd hs2 (by decide)
      omega
    · omega
  have ev : (qNum (μ 2745) (ν 2737) b).1 = pNumV (μ 2745) n b X.1 := by
    unfold qNum pNumV
    simp only [eb, hcc.1]
    by_cases c : pLess (μ 2745) n b X.1.1
    · rw [if_pos (hL.mpr c), if_pos c]
    · rw [if_neg (fun z => c (hL.mp z)), if_neg c]
  have eF : (qNum (μ 2745) (ν 2737) b).2 = qNum1 (ν 2737) (pBeg (μ 2745) n b X.1.1) (dg (μ 2745) n (pBeg (μ 2745) n b X.1.1) 0).1 := by
    unfold qNum
    simp only [eb, hcc.1]
  rw [ev, eF]
  unfold pNum
  simp only
  generalize hp1 : pBeg (μ 2745) n b X.1.1 = p1 at *
  have hd := dg_le (T := μ 2745) (n := n) (p := p1) (v := 0)
  generalize hdd : dg (μ 2745) n p1 0 = r at *
  unfold qNum1
  simp only
  -- the fault so far
  have q3 : ∀ f, f ≠ 17 → f ≠ 18 → (if r.1 = p1 then qFails (up (ν 2737) 16 (nI r.1)) 1 (nI p1) else up (ν 2737) 16 (nI r.1)) f = up (ν 2737) 16 (nI r.1) f := by
    intro f q1 q2
    split
    · exact qFails_out ⟨q1, q2⟩
    · rfl
  have q3a : ((if r.1 = p1 then qFails (up (ν 2737) 16 (nI r.1)) 1 (nI p1) else up (ν 2737) 16 (nI r.1)) 17, (if r.1 = p1 then qFails (up (ν 2737) 16 (nI r.1)) 1 (nI p1) else up (ν 2737) 16 (nI r.1)) 18) = (if r.1 = p1 then fl X.1.2.1 X.1.2.2 1 (nI p1) else X.1.2) := by
    split
    · rw [fails_fl.1, fails_fl.2, up_ne (by decide), up_ne (by decide), h17, h18]
    · rw [up_ne (by decide), up_ne (by decide), h17, h18]
  generalize (if r.1 = p1 then qFails (up (ν 2737) 16 (nI r.1)) 1 (nI p1) else up (ν 2737) 16 (nI r.1)) = F3 at *
  have q17 : F3 17 = (if r.1 = p1 then fl X.1.2.1 X.1.2.2 1 (nI p1) else X.1.2).1 := by rw [← q3a]
  have q18 : F3 18 = (if r.1 = p1 then fl X.1.2.1 X.1.2.2 1 (nI p1) else X.1.2).2 := by rw [← q3a]
  have w0 : (if r.1 = p1 then fl X.1.2.1 X.1.2.2 1 (nI p1) else X.1.2).1 = 0 → X.1.2.1 = 0 ∧ ¬ r.1 = p1 := by
    intro z
    split at z
    · exact absurd z (fl_nz (by decide))
    · rename_i hne; exact ⟨z, hne⟩
  generalize (if r.1 = p1 then fl X.1.2.1 X.1.2.2 1 (nI p1) else X.1.2) = W1 at *
  refine ⟨PR_F h (fun f k1 k2 k3 k4 k5 => ?_) ?_ ?_ ?_, ⟨hb.1, ?_, fun z => ?_⟩, trivial, up_at, ?_⟩
  · rw [up_ne k5]
    split
    · rw [qFails_out ⟨k2, k3⟩, q3 f k2 k3, up_ne k1]
    · rw [q3 f k2 k3, up_ne k1]
  · rw [up_ne (by decide)]
    split
    · rw [qFails_out (by decide), q3 _ (by decide) (by decide), up_at]
    · rw [q3 _ (by decide) (by decide), up_at]
  · rw [up_ne (by decide)]
    split
    · rw [fails_fl.1, q17, q18]
    · exact q17
  · rw [up_ne (by decide)]
    split
    · rw [fails_fl.2, q17, q18]
    · exact q18
  · show r.1 ≤ 400
    have := hb.1; omega
  · show r.1 ≤ n
    have z' : (if p1 + 3 < r.1 then fl W1.1 W1.2 2 (nI p1) else W1).1 = 0 := z
    split at z'
    · exact absurd z' (fl_nz (by decide))
    · have := w0 z'
      have := hb.2.2 this.1
      omega
  · show r.1 ≤ n ∨ r.1 ≤ X.1.1
    omega
theorem PR_word {μ ν : Mi} {n : Nat} {X : Ps × Es} (h : PR μ ν n X) (hb : PB n X.1) (hp : X.1.1 ≤ n) : PR μ (upF ν 2737 (qWord (ν 2745) (ν 2737)).2) n (pWord (μ 2745) n X.1, X.2) ∧ PB n (pWord (μ 2745) n X.1) ∧ (qWord (ν 2745) (ν 2737)).1 = pWordV (μ 2745) n X.1 ∧ (qWord (ν 2745) (ν 2737)).2 23 = nI (blk (μ 2745) n X.1.1) ∧ (pWord (μ 2745) n X.1).1 ≤ n := by
  have hcc := PR_c h hb
  have h17 := h.2.2.2.2.2.1
  have h18 := h.2.2.2.2.2.2.1
  rw [(PR_T h).1]
  have hl := blk_le (T := μ 2745) (n := n) (p := X.1.1)
  have hbn : blk (μ 2745) n X.1.1 ≤ n := by omega
  have hln := ltr_le (T := μ 2745) hbn
  unfold qWord
  simp only [hcc.1, hcc.2]
  unfold pWord
  rw [show qWordFrom (μ 2745) (blk (μ 2745) n X.1.1) (ltr (μ 2745) n (blk (μ 2745) n X.1.1)) = pWordV (μ 2745) n X.1 from rfl]
  generalize pWordV (μ 2745) n X.1 = v at *
  generalize blk (μ 2745) n X.1.1 = b at *
  generalize ltr (μ 2745) n b = e at *
  unfold qWord1
  simp only
  refine ⟨PR_F h (fun f k1 k2 k3 k4 k5 => ?_) ?_ ?_ ?_, ⟨hb.1, ?_, fun z => hln.2⟩, trivial, ?_, hln.2⟩
  · split
    · rw [up_ne k1, up_ne k4, up_ne k1]
    · rw [qFails_out ⟨k2, k3⟩, up_ne k1, up_ne k4, up_ne k1]
  · split
    · exact up_at
    · rw [qFails_out (by decide), up_at]
  · split
    · rw [up_ne (by decide), up_ne (by decide), up_ne (by decide)]; exact h17
    · rw [fails_fl.1, up_ne (by decide), up_ne (by decide), up_ne (by decide), up_ne (by decide), up_ne (by decide), up_ne (by decide), h17, h18]
  · split
    · rw [up_ne (by decide), up_ne (by decide), up_ne (by decide)]; exact h18
    · rw [fails_fl.2, up_ne (by decide), up_ne (by decide), up_ne (by decide), up_ne (by decide), up_ne (by decide), up_ne (by decide), h17, h18]
  · have := hb.1; show e ≤ 400; omega
  · split
    · rw [up_ne (by decide), up_at]
    · rw [qFails_out (by decide), up_ne (by decide), up_at]
theorem PR_fails {μ ν : Mi} {n : Nat} {X : Ps × Es} {c p : Int32} (h : PR μ ν n X) (hb : PB n X.1) (hc : ¬ c = 0) : PR μ (upF ν 2737 (qFails (ν 2737) c p)) n ((X.1.1, fl X.1.2.1 X.1.2.2 c p), X.2) ∧ PB n (X.1.1, fl X.1.2.1 X.1.2.2 c p) := by
  have h17 := h.2.2.2.2.2.1
  have h18 := h.2.2.2.2.2.2.1
  refine ⟨PR_F h (fun f k1 k2 k3 k4 k5 => qFails_out ⟨k2, k3⟩) ?_ ?_ ?_, hb.1, hb.2.1, fun z => absurd z (fl_nz hc)⟩
  · rw [qFails_out (by decide)]; exact h.2.2.2.2.1
  · rw [fails_fl.1, h17, h18]
  · rw [fails_fl.2, h17, h18]
