/-! ===== the reference's acts as functions of its row ===== -/
abbrev rgd (x : Int32) (lo hi : Int) : Prop := lo ≤ x.toInt ∧ x.toInt ≤ hi
abbrev canT (A : Rw) (s : Nat) : Prop := A (514 * s) = 1 ∧ ¬ A (514 * s + 3) = 2 ∧ (((qMem A s).1 ||| (qMem A s).2.1) >>> (nI s &&& 31)) &&& 1 = 1 ∧ ¬ A (514 * s + 1) = 200
theorem canT_eq {A : Rw} {s : Nat} : canTO A s = canT A s := rfl
theorem rgd_eq {x : Int32} {lo hi : Int} : rg x lo hi = rgd x lo hi := rfl
def M4 (μ : Mi) (g : Rw) (t : T4) (A : Rw) : Mi := M3 (upF μ 2744 g) t A
theorem M4_row {μ : Mi} {g : Rw} {t : T4} {A : Rw} : M4 μ g t A 2738 = A := M3_row
theorem M4_8 {μ : Mi} {g : Rw} {t : T4} {A : Rw} : M4 μ g t A 2737 8 = t.1 := M3_8
theorem M4_9 {μ : Mi} {g : Rw} {t : T4} {A : Rw} : M4 μ g t A 2737 9 = t.2.1 := M3_9
theorem M4_10 {μ : Mi} {g : Rw} {t : T4} {A : Rw} : M4 μ g t A 2737 10 = t.2.2.1 := M3_10
theorem M4_11 {μ : Mi} {g : Rw} {t : T4} {A : Rw} : M4 μ g t A 2737 11 = t.2.2.2 := M3_11
theorem M4_upF {μ : Mi} {g : Rw} {t : T4} {A B : Rw} : upF (M4 μ g t A) 2738 B = M4 μ g t B := M3_upF
theorem M4_setM {μ : Mi} {g : Rw} {t t' : T4} {A : Rw} : setM (M4 μ g t A) t' = M4 μ g t' A := M3_setM
theorem M4_M3 {μ : Mi} {g : Rw} {t t' : T4} {A B : Rw} : M3 (M4 μ g t A) t' B = M4 μ g t' B := M3_M3
theorem M4_m {μ : Mi} {g : Rw} {t : T4} {A : Rw} : M4 μ g t A 2744 = g := by unfold M4; rw [M3_m, upF_same]
theorem upF_comm {μ : Mi} {a b : Nat} {f g : Rw} (h : a ≠ b) : upF (upF μ a f) b g = upF (upF μ b g) a f := by
  funext x i
  unfold upF
  by_cases h1 : x = a
  · by_cases h2 : x = b
    · exact absurd (h1.symm.trans h2) h
    · simp only [if_neg h2, if_pos h1]
  · by_cases h2 : x = b
    · simp only [if_neg h1, if_pos h2]
    · simp only [if_neg h1, if_neg h2]
theorem M4_g {μ : Mi} {g g' : Rw} {t : T4} {A : Rw} : upF (M4 μ g t A) 2744 g' = M4 μ g' t A := by
  unfold M4 M3
  rw [upF_comm (by decide)]
  have : upF (setM (upF μ 2744 g) t) 2744 g' = setM (upF μ 2744 g') t := by
    unfold setM
    rw [upF_comm (by decide), upF_upF]
    have e : ∀ g : Rw, upF μ 2744 g 2737 = μ 2737 := fun g => upF_ne (by decide)
    simp only [e]
  rw [this]
theorem M4_M4 {μ : Mi} {g g' : Rw} {t t' : T4} {A B : Rw} : M4 (M4 μ g t A) g' t' B = M4 μ g' t' B := by
  show M3 (upF (M4 μ g t A) 2744 g') t' B = _
  rw [M4_g, M4_M3]
theorem M4_self (μ : Mi) : ∃ (g : Rw) (t : T4), μ = M4 μ g t (μ 2738) := by
  obtain ⟨t, ht⟩ := M3_self μ
  refine ⟨μ 2744, t, ?_⟩
  show μ = M3 (upF μ 2744 (μ 2744)) t (μ 2738)
  rw [upF_id]
  exact ht
/-! what an act makes of a row -/
def qProp (A : Rw) (s : Nat) (kd x y : Int32) : Rw := qAgr (qFeedsAll (qPut A s (A (514 * s + 1)) kd x y) s) s
def qRead0 (A : Rw) (s : Nat) (c : Int32) : Rw := let A4 := up (up (up (up A (514 * s + 11) 1) (514 * s + 12) c) (514 * s + 13) 0) (514 * s + 15) ((1 : Int32) <<< (nI s &&& 31))
  up A4 (514 * s + 14) (A4 (514 * s + 14) + 1)
def qRead (A : Rw) (s : Nat) (c : Int32) : Rw := qAnsRead (qFeedsAll (qRead0 A s c) s) s
def qHand (A : Rw) (s t : Nat) : Rw := qPost A s t (rowS (nI s) (nI t) (A (514 * s + 1)) 6 0 0 0)
def qCompact0 (A : Rw) (s : Nat) : Rw :=
  let to := A (514 * s + 7)
  let c := qCfg A s to.toNatClampNeg
  let A2 := up (up A (514 * s + 9) (if c.2.2.2 = 0 ∧ A (514 * s + 9) = 0 then 0 else c.1)) (514 * s + 10) (if c.2.2.2 = 0 ∧ A (514 * s + 9) = 0 then 0 else c.2.1)
  up (up A2 (514 * s + 6) (qTermAt A2 s to)) (514 * s + 5) to
def qCompact (A : Rw) (s : Nat) : Rw := cpF (qCompact0 A s) (qCompact0 A s) (514 * s + 16) (514 * s + 20) 4
def qStop0 (A : Rw) (s : Nat) : Rw :=
  let A3 := qReadsNothing (qPlays (up A (514 * s) 0) s 0) s
  up A3 (514 * s + 7) (A3 (514 * s + 5))
def qStop (A : Rw) (s : Nat) : Rw := cpF (qStop0 A s) (qStop0 A s) (514 * s + 20) (514 * s + 16) 4
def qStart (A : Rw) (s : Nat) : Rw := up A (514 * s) 1
def lnk (a b : Int32) : Int32 := (1 : Int32) <<< ((5 * a + b) &&& 31) ||| (1 : Int32) <<< ((5 * b + a) &&& 31)
def qLink (A : Rw) (a b how : Int32) : Rw := up A 4513 (if how = 0 then A 4513 &&& (lnk a b ^^^ (-1)) else A 4513 ||| lnk a b)
def qLose (A : Rw) (i : Nat) : Rw := let A1 := qOut A i; up A1 4511 (A1 4511 + 1)
def qTwice (A : Rw) (i : Nat) : Rw := up (cpF A A (2570 + 21 * i) (2570 + 21 * (A 4510).toNatClampNeg) 21) 4510 (A 4510 + 1)
def qCareful (A : Rw) (v : Int32) : Rw := up A 4515 v
def zr0 (A : Rw) : Rw := fun k => if k < 4516 then 0 else A k
def in1 (A : Rw) (s : Nat) : Rw := up (up A (514 * s) 1) (514 * s + 2) (-1)
def qInit (A : Rw) (m : Int32) : Rw := up (up (in1 (in1 (in1 (in1 (in1 (zr0 A) 0) 1) 2) 3) 4) 4513 33554431) 4514 m
abbrev canRead (A : Rw) (s : Nat) : Prop := A (514 * s + 3) = 2 ∧ ¬ A (514 * s + 11) = 1 ∧ qTermAt A s (A (514 * s + 7)) = A (514 * s + 1)
abbrev canHand (A : Rw) (s t : Nat) : Prop := A (514 * s + 3) = 2 ∧ (((qMem A s).1 ||| (qMem A s).2.1) >>> (nI t &&& 31)) &&& 1 = 1 ∧ A (514 * s + 29 + t) = A (514 * s + 4)
abbrev canChange (A : Rw) (s : Nat) (m : Int32) : Prop := A (514 * s + 3) = 2 ∧ (qMem A s).2.1 = 0 ∧ ¬ A (514 * s + 7) < (qMem A s).2.2.2 ∧ ¬ (qMem A s).1 = m
abbrev canCompact (A : Rw) (s : Nat) : Prop := A (514 * s) = 1 ∧ ¬ A (514 * s + 7) - A (514 * s + 5) = 0
/-- what can happen to a row -/
def Sp (A B : Rw) : Prop :=
  ((∀ k, k < 4516 → B k = A k)) ∨
  (∃ i : Nat, i < (A 4510).toNatClampNeg ∧ B = (qComes A i)) ∨
  (∃ s : Nat, s < 5 ∧ canTO A s ∧ B = (qAsks A s)) ∨
  (∃ s : Nat, s < 5 ∧ A (514 * s + 3) = 2 ∧ B = (qFeedsAll A s)) ∨
  (∃ s : Nat, ∃ kd : Int32, ∃ x : Int32, ∃ y : Int32, s < 5 ∧ A (514 * s + 3) = 2 ∧ A (514 * s + 4) < 100 ∧ ((kd = 1 ∨ kd = 2)) ∧ rg x 0 3 ∧ rg y (-999) 999 ∧ B = (qProp A s kd x y)) ∨
  (∃ s : Nat, ∃ m : Int32, s < 5 ∧ canChange A s m ∧ A (514 * s + 4) < 100 ∧ rg m 1 31 ∧ B = (qProp A s 3 (qMem A s).1 m)) ∨
  (∃ s : Nat, ∃ c : Int32, s < 5 ∧ canRead A s ∧ rg c 0 3 ∧ B = (qRead A s c)) ∨
  (∃ s : Nat, ∃ t : Nat, s < 5 ∧ t < 5 ∧ s ≠ t ∧ canHand A s t ∧ B = (qHand A s t)) ∨
  (∃ s : Nat, s < 5 ∧ canCompact A s ∧ B = (qCompact A s)) ∨
  (∃ s : Nat, s < 5 ∧ A (514 * s) = 1 ∧ B = (qStop A s)) ∨
  (∃ s : Nat, s < 5 ∧ ¬ A (514 * s) = 1 ∧ B = (qStart A s)) ∨
  (∃ a : Int32, ∃ b : Int32, ∃ how : Int32, rg a 0 4 ∧ rg b 0 4 ∧ a ≠ b ∧ B = (qLink A a b how)) ∨
  (∃ i : Nat, i < (A 4510).toNatClampNeg ∧ B = (qLose A i)) ∨
  (∃ i : Nat, i < (A 4510).toNatClampNeg ∧ ¬ A 4510 = 60 ∧ B = (qTwice A i)) ∨
  (∃ v : Int32, rg v 0 1 ∧ B = (qCareful A v)) ∨
  (∃ m : Int32, rg m 1 31 ∧ B = (qInit A m))
theorem Sp.same {A B : Rw}  (h0 : (∀ k, k < 4516 → B k = A k)) : Sp A B := Or.inl h0
theorem Sp.comes {A : Rw} {i : Nat} (h0 : i < (A 4510).toNatClampNeg) : Sp A ((qComes A i)) := Or.inr (Or.inl (⟨_, h0, rfl⟩))
theorem Sp.asks {A : Rw} {s : Nat} (h0 : s < 5) (h1 : canTO A s) : Sp A ((qAsks A s)) := Or.inr (Or.inr (Or.inl (⟨_, h0, h1, rfl⟩)))
theorem Sp.beat {A : Rw} {s : Nat} (h0 : s < 5) (h1 : A (514 * s + 3) = 2) : Sp A ((qFeedsAll A s)) := Or.inr (Or.inr (Or.inr (Or.inl (⟨_, h0, h1, rfl⟩))))
theorem Sp.prop {A : Rw} {s : Nat} {kd x y : Int32} (h0 : s < 5) (h1 : A (514 * s + 3) = 2) (h2 : A (514 * s + 4) < 100) (h3 : ((kd = 1 ∨ kd = 2))) (h4 : rg x 0 3) (h5 : rg y (-999) 999) : Sp A ((qProp A s kd x y)) := Or.inr (Or.inr (Or.inr (Or.inr (Or.inl (⟨_, _, _, _, h0, h1, h2, h3, h4, h5, rfl⟩)))))
theorem Sp.change {A : Rw} {s : Nat} {m : Int32} (h0 : s < 5) (h1 : canChange A s m) (h2 : A (514 * s + 4) < 100) (h3 : rg m 1 31) : Sp A ((qProp A s 3 (qMem A s).1 m)) := Or.inr (Or.inr (Or.inr (Or.inr (Or.inr (Or.inl (⟨_, _, h0, h1, h2, h3, rfl⟩))))))
theorem Sp.read {A : Rw} {s : Nat} {c : Int32} (h0 : s < 5) (h1 : canRead A s) (h2 : rg c 0 3) : Sp A ((qRead A s c)) := Or.inr (Or.inr (Or.inr (Or.inr (Or.inr (Or.inr (Or.inl (⟨_, _, h0, h1, h2, rfl⟩)))))))
theorem Sp.hand {A : Rw} {s t : Nat} (h0 : s < 5) (h1 : t < 5) (h2 : s ≠ t) (h3 : canHand A s t) : Sp A ((qHand A s t)) := Or.inr (Or.inr (Or.inr (Or.inr (Or.inr (Or.inr (Or.inr (Or.inl (⟨_, _, h0, h1, h2, h3, rfl⟩))))))))
theorem Sp.compact {A : Rw} {s : Nat} (h0 : s < 5) (h1 : canCompact A s) : Sp A ((qCompact A s)) := Or.inr (Or.inr (Or.inr (Or.inr (Or.inr (Or.inr (Or.inr (Or.inr (Or.inl (⟨_, h0, h1, rfl⟩)))))))))
theorem Sp.stop {A : Rw} {s : Nat} (h0 : s < 5) (h1 : A (514 * s) = 1) : Sp A ((qStop A s)) := Or.inr (Or.inr (Or.inr (Or.inr (Or.inr (Or.inr (Or.inr (Or.inr (Or.inr (Or.inl (⟨_, h0, h1, rfl⟩))))))))))
theorem Sp.start {A : Rw} {s : Nat} (h0 : s < 5) (h1 : ¬ A (514 * s) = 1) : Sp A ((qStart A s)) := Or.inr (Or.inr (Or.inr (Or.inr (Or.inr (Or.inr (Or.inr (Or.inr (Or.inr (Or.inr (Or.inl (⟨_, h0, h1, rfl⟩)))))))))))
theorem Sp.link {A : Rw} {a b how : Int32} (h0 : rg a 0 4) (h1 : rg b 0 4) (h2 : a ≠ b) : Sp A ((qLink A a b how)) := Or.inr (Or.inr (Or.inr (Or.inr (Or.inr (Or.inr (Or.inr (Or.inr (Or.inr (Or.inr (Or.inr (Or.inl (⟨_, _, _, h0, h1, h2, rfl⟩))))))))))))
theorem Sp.lose {A : Rw} {i : Nat} (h0 : i < (A 4510).toNatClampNeg) : Sp A ((qLose A i)) := Or.inr (Or.inr (Or.inr (Or.inr (Or.inr (Or.inr (Or.inr (Or.inr (Or.inr (Or.inr (Or.inr (Or.inr (Or.inl (⟨_, h0, rfl⟩)))))))))))))
theorem Sp.twice {A : Rw} {i : Nat} (h0 : i < (A 4510).toNatClampNeg) (h1 : ¬ A 4510 = 60) : Sp A ((qTwice A i)) := Or.inr (Or.inr (Or.inr (Or.inr (Or.inr (Or.inr (Or.inr (Or.inr (Or.inr (Or.inr (Or.inr (Or.inr (Or.inr (Or.inl (⟨_, h0, h1, rfl⟩))))))))))))))
theorem Sp.careful {A : Rw} {v : Int32} (h0 : rg v 0 1) : Sp A ((qCareful A v)) := Or.inr (Or.inr (Or.inr (Or.inr (Or.inr (Or.inr (Or.inr (Or.inr (Or.inr (Or.inr (Or.inr (Or.inr (Or.inr (Or.inr (Or.inl (⟨_, h0, rfl⟩)))))))))))))))
theorem Sp.init {A : Rw} {m : Int32} (h0 : rg m 1 31) : Sp A ((qInit A m)) := Or.inr (Or.inr (Or.inr (Or.inr (Or.inr (Or.inr (Or.inr (Or.inr (Or.inr (Or.inr (Or.inr (Or.inr (Or.inr (Or.inr (Or.inr (⟨_, h0, rfl⟩)))))))))))))))
/-- what else the class needs of a row -/
def ext (A : Rw) : Prop := True ∨ A = A
def loc (A : Rw) : Prop := cmOK A ∧ ext A
def good (A : Rw) : Prop := ∃ I : Rw → Prop, I A ∧ ∀ A, I A → loc A ∧ ∀ B, Sp A B → I B
theorem good_loc {A : Rw} (h : good A) : loc A := by obtain ⟨I, h1, h2⟩ := h; exact (h2 A h1).1
theorem good_cm {A : Rw} (h : good A) : cmOK A := (good_loc h).1
theorem good_st {A : Rw} (h : good A) {s : Nat} (hs : s < 5) : stOK A s := (good_cm h).1 s hs
theorem good_step {A B : Rw} (h : good A) (hs : Sp A B) : good B := by obtain ⟨I, h1, h2⟩ := h; exact ⟨I, (h2 A h1).2 B hs, h2⟩
theorem good_w {A : Rw} (h : good A) : rg (A 4510) 0 60 := (good_st h (s := 0) (by decide)).1.1.1
/-! the acts: what is told, and the row -/
def aTimeout (A : Rw) (s : Int32) : Int32 × Rw := if ¬ rgd s 0 4 then (-2, A) else if ¬ canT A s.toNatClampNeg then (-5, A) else (qAsks A s.toNatClampNeg (514 * s.toNatClampNeg + 1), qAsks A s.toNatClampNeg)
def aBeat (A : Rw) (s : Int32) : Int32 × Rw := if ¬ rgd s 0 4 then (-2, A) else if ¬ A (514 * s.toNatClampNeg + 3) = 2 then (-5, A) else (qFeedsAll A s.toNatClampNeg 4510, qFeedsAll A s.toNatClampNeg)
def aPropose (A : Rw) (s kd x y : Int32) : Int32 × Rw := if ¬ (rgd s 0 4 ∧ rgd kd 1 2 ∧ rgd x 0 3) then (-2, A) else if ¬ rgd y (-999) 999 then (-3, A) else if ¬ A (514 * s.toNatClampNeg + 3) = 2 then (-5, A) else
  if ¬ A (514 * s.toNatClampNeg + 4) < 100 then (-4, A) else (A (514 * s.toNatClampNeg + 4) + 1, qProp A s.toNatClampNeg kd x y)
def aRead (A : Rw) (s c : Int32) : Int32 × Rw := if ¬ (rgd s 0 4 ∧ rgd c 0 3) then (-2, A) else if ¬ canRead A s.toNatClampNeg then (-5, A) else (qRead A s.toNatClampNeg c (514 * s.toNatClampNeg + 11), qRead A s.toNatClampNeg c)
def aHand (A : Rw) (s t : Int32) : Int32 × Rw := if ¬ (rgd s 0 4 ∧ rgd t 0 4) then (-2, A) else if s = t then (-3, A) else if ¬ canHand A s.toNatClampNeg t.toNatClampNeg then (-5, A) else (qHand A s.toNatClampNeg t.toNatClampNeg 4510, qHand A s.toNatClampNeg t.toNatClampNeg)
def aChange (A : Rw) (s m : Int32) : Int32 × Rw := if ¬ rgd s 0 4 then (-2, A) else if ¬ rgd m 1 31 then (-3, A) else if ¬ canChange A s.toNatClampNeg m then (-5, A) else
  if ¬ A (514 * s.toNatClampNeg + 4) < 100 then (-4, A) else (A (514 * s.toNatClampNeg + 4) + 1, qProp A s.toNatClampNeg 3 (qMem A s.toNatClampNeg).1 m)
def aCompact (A : Rw) (s : Int32) : Int32 × Rw := if ¬ rgd s 0 4 then (-2, A) else if ¬ canCompact A s.toNatClampNeg then (-5, A) else (A (514 * s.toNatClampNeg + 7) - A (514 * s.toNatClampNeg + 5), qCompact A s.toNatClampNeg)
def aStop (A : Rw) (s : Int32) : Int32 × Rw := if ¬ rgd s 0 4 then (-2, A) else if ¬ A (514 * s.toNatClampNeg) = 1 then (-5, A) else (A (514 * s.toNatClampNeg + 3), qStop A s.toNatClampNeg)
def aStart (A : Rw) (s : Int32) : Int32 × Rw := if ¬ rgd s 0 4 then (-2, A) else if A (514 * s.toNatClampNeg) = 1 then (-5, A) else (A (514 * s.toNatClampNeg + 4), qStart A s.toNatClampNeg)
def aLink (A : Rw) (a b how : Int32) : Int32 × Rw := if ¬ (rgd a 0 4 ∧ rgd b 0 4) then (-2, A) else if ¬ (rgd how 0 1 ∧ a ≠ b) then (-3, A) else (if A 4513 = qLink A a b how 4513 then 0 else 1, qLink A a b how)
abbrev isMsg (A : Rw) (i : Int32) : Prop := 0 ≤ i.toInt ∧ i.toInt < (A 4510).toInt
def aCome (A : Rw) (i : Int32) : Int32 × Rw := if ¬ isMsg A i then (-2, A) else (vComes A i.toNatClampNeg, qComes A i.toNatClampNeg)
def aLose (A : Rw) (i : Int32) : Int32 × Rw := if ¬ isMsg A i then (-2, A) else (qLose A i.toNatClampNeg 4510, qLose A i.toNatClampNeg)
def aTwice (A : Rw) (i : Int32) : Int32 × Rw := if ¬ isMsg A i then (-2, A) else if A 4510 = 60 then (-4, A) else (qTwice A i.toNatClampNeg 4510, qTwice A i.toNatClampNeg)
def aSettle (A : Rw) (n : Int32) : Int32 × Rw := if ¬ rgd n 1 200 then (-3, A) else if A 4510 = 0 then (-5, A) else (nI (setN n.toNatClampNeg A), setF n.toNatClampNeg A)
def aCareful (A : Rw) (v : Int32) : Int32 × Rw := if ¬ rgd v 0 1 then (-3, A) else (A 4515, qCareful A v)
