/-! ===== the reference: a message comes ===== -/
def mOK (g : Rw) : Prop := rg (g 0) 0 4 ∧ rg (g 1) 0 4 ∧ rg (g 2) 0 200 ∧ rg (g 3) 0 8 ∧ (g 3 = 2 → tkOK g) ∧ (g 3 = 3 → rg (g 5) (-1) 120) ∧ (g 3 = 5 → rg (g 4) 0 120)
def stOK (A : Rw) (s : Nat) : Prop := agOK A s ∧ (A (514 * s + 5)).toInt ≤ (A (514 * s + 4)).toInt ∧ rg (A (514 * s + 1)) 0 200 ∧ rg (A (514 * s + 12)) 0 3 ∧ (∀ f, f < 5 → rg (A (514 * s + 29 + f)) 0 120) ∧ (A (514 * s + 3) = 1 → 1 ≤ (A (514 * s + 1)).toInt)
def cmOK (A : Rw) : Prop := (∀ s, s < 5 → stOK A s) ∧ ∀ i, i < (A 4510).toNatClampNeg → mOK (rowM A i)
theorem mOK_congr {g g' : Rw} (h : ∀ k, k < 21 → g' k = g k) (hm : mOK g) : mOK g' := by
  obtain ⟨a, b, c, d, e, f, g5⟩ := hm
  refine ⟨by rw [h 0 (by decide)]; exact a, by rw [h 1 (by decide)]; exact b, by rw [h 2 (by decide)]; exact c, by rw [h 3 (by decide)]; exact d, ?_, ?_, ?_⟩
  · rw [h 3 (by decide)]
    intro z
    obtain ⟨g4, g6, g46, g7, gb⟩ := e z
    refine ⟨by rw [h 4 (by decide)]; exact g4, by rw [h 6 (by decide)]; exact g6, by rw [h 4 (by decide), h 6 (by decide)]; exact g46, by rw [h 7 (by decide)]; exact g7, ?_⟩
    rw [h 6 (by decide)]
    obtain ⟨m, em, em0, -, em1⟩ := rg_ex g6
    rw [em, nI_clamp em0] at gb ⊢
    intro k hk
    rw [h _ (by omega), h _ (by omega)]
    exact gb k hk
  · rw [h 3 (by decide), h 5 (by decide)]; exact f
  · rw [h 3 (by decide), h 4 (by decide)]; exact g5
theorem tk1_congr {A g g' : Rw} {s k : Nat} (h : ∀ k, k < 21 → g' k = g k) (hk : k < 3) : qTk1 A g' s k = qTk1 A g s k := by
  unfold qTk1
  rw [h 4 (by decide), h (9 + 4 * k) (by omega), h (9 + 4 * k + 1) (by omega), h (9 + 4 * k + 2) (by omega), h (9 + 4 * k + 3) (by omega)]
theorem tks_congr {g g' : Rw} {s : Nat} (h : ∀ k, k < 21 → g' k = g k) : ∀ (n k : Nat) (A : Rw), n + k ≤ 3 → tksF g' s n k A = tksF g s n k A := by
  intro n
  induction n with
  | zero => intro k A _; rfl
  | succ n ih =>
    intro k A hk
    show tksF g' s n (k + 1) (qTk1 A g' s k) = tksF g s n (k + 1) (qTk1 A g s k)
    rw [tk1_congr h (by omega), ih _ _ (by omega)]
theorem qTakes_congr {A g g' : Rw} {s f : Nat} {p : Prop} [Decidable p] (h : ∀ k, k < 21 → g' k = g k) (h6 : (g 6).toNatClampNeg ≤ 3) : qTakes A g' s f p = qTakes A g s f p := by
  unfold qTakes
  rw [h 4 (by decide), h 5 (by decide), h 6 (by decide), h 7 (by decide), h 8 (by decide)]
  simp only [tks_congr h _ _ _ (show (g 6).toNatClampNeg + 0 ≤ 3 by omega)]
theorem qSnapIn_congr {A g g' : Rw} {s : Nat} {p t : Int32} (h : ∀ k, k < 21 → g' k = g k) : qSnapIn A g' s p t = qSnapIn A g s p t := by
  unfold qSnapIn
  rw [h 13 (by decide), h 14 (by decide)]
  simp only
  congr 2
  funext i
  by_cases c1 : 514 * s + 16 ≤ i ∧ i < 514 * s + 20
  · rw [if_pos c1, if_pos c1, h _ (by omega)]
  · rw [if_neg c1, if_neg c1]
    by_cases c2 : 514 * s + 20 ≤ i ∧ i < 514 * s + 24
    · rw [if_pos c2, if_pos c2, h _ (by omega)]
    · rw [if_neg c2, if_neg c2]
theorem qInstalls_congr {A g g' : Rw} {s f : Nat} {p : Prop} [Decidable p] (h : ∀ k, k < 21 → g' k = g k) : qInstalls A g' s f p = qInstalls A g s f p := by
  unfold qInstalls
  rw [h 4 (by decide), h 5 (by decide), h 8 (by decide)]
  simp only [qSnapIn_congr h]
theorem qHeard_congr {A g g' : Rw} {s f : Nat} (h : ∀ k, k < 21 → g' k = g k) (hm : mOK g) : qHeard A g' s f = qHeard A g s f := by
  unfold qHeard
  rw [h 2 (by decide), h 3 (by decide), h 4 (by decide), h 5 (by decide), h 8 (by decide), qInstalls_congr h]
  by_cases c : g 3 = 2
  · rw [qTakes_congr h ?_]
    obtain ⟨_, g6, _⟩ := hm.2.2.2.2.1 c
    obtain ⟨m, em, em0, -, em1⟩ := rg_ex g6
    rw [em, nI_clamp em0]; omega
  · simp only [if_neg c]
theorem qOut_lo {A : Rw} {i k : Nat} (h : k < 2570) : qOut A i k = A k := by
  unfold qOut
  rw [up_ne (by omega), cpF_out (by omega)]
theorem qOut_hi {A : Rw} {i w k : Nat} (hw : A 4510 = nI w) (hw1 : w ≤ 60) (h : 3830 ≤ k) (h2 : k ≠ 4510) : qOut A i k = A k := by
  unfold qOut
  rw [up_ne h2, hw, nI_clamp (by omega), cpF_out (by omega)]
theorem stOK_of {A B : Rw} {s : Nat} (hs : s < 5) (h : stOK A s) (hw : rg (B 4510) 0 60) (hB : ∀ k, 514 * s ≤ k → k < 514 * s + 514 → B k = A k) : stOK B s := by
  obtain ⟨a, b, c, d, e, f⟩ := h
  refine ⟨agOK_of hs a hw (hB _ (by omega) (by omega)) (hB _ (by omega) (by omega)) (hB _ (by omega) (by omega)) (fun t ht => by rw [hB _ (by omega) (by omega)]; exact a.1.2.2.2 t ht) (fun i q1 q2 => hB _ (by omega) (by omega)), ?_, ?_, ?_, ?_, ?_⟩
  · rw [hB _ (by omega) (by omega), hB _ (by omega) (by omega)]; exact b
  · rw [hB _ (by omega) (by omega)]; exact c
  · rw [hB _ (by omega) (by omega)]; exact d
  · intro f hf; rw [hB _ (by omega) (by omega)]; exact e f hf
  · rw [hB _ (by omega) (by omega), hB _ (by omega) (by omega)]; exact f
theorem qPlays_3 {A : Rw} {s : Nat} {r : Int32} : qPlays A s r (514 * s + 3) = r := by
  unfold qPlays
  split
  · rename_i h; exact h
  · split
    · rw [qReads_out (by omega), up_ne (by omega), up_at]
    · rw [up_ne (by omega), up_at]
theorem qPlays_12 {A : Rw} {s : Nat} {r : Int32} (h : rg (A (514 * s + 12)) 0 3) : rg (qPlays A s r (514 * s + 12)) 0 3 := by
  unfold qPlays
  split
  · exact h
  · split
    · unfold qReadsNothing
      rw [up_ne (by omega), up_ne (by omega), up_at]
      exact ⟨by decide, by decide⟩
    · rw [up_ne (by omega), up_ne (by omega)]; exact h
theorem stOK_follow {A : Rw} {s : Nat} {t : Int32} (hs : s < 5) (h : stOK A s) (ht : rg t 0 200) : stOK (qFollow A s t) s := by
  obtain ⟨a, b, c, d, e, f⟩ := h
  unfold qFollow
  have ho : ∀ i, (i ≠ 514 * s + 1 ∧ i ≠ 514 * s + 2 ∧ i ≠ 514 * s + 3 ∧ i ≠ 514 * s + 8 ∧ i ≠ 514 * s + 11 ∧ i ≠ 514 * s + 12 ∧ i ≠ 514 * s + 13 ∧ i ≠ 514 * s + 15) → qPlays (up (up A (514 * s + 1) t) (514 * s + 2) (-1)) s 0 i = A i := fun i q => by rw [qPlays_out (by omega), up_ne (by omega), up_ne (by omega)]
  refine ⟨agOK_of hs a (by rw [ho _ (by omega)]; exact a.1.1) (ho _ (by omega)) (ho _ (by omega)) (ho _ (by omega)) (fun t ht => by rw [ho _ (by omega)]; exact a.1.2.2.2 t ht) (fun i q1 q2 => ho _ (by omega)), ?_, ?_, ?_, ?_, ?_⟩
  · rw [ho _ (by omega), ho _ (by omega)]; exact b
  · rw [qPlays_out (by omega), up_ne (by omega), up_at]; exact ht
  · exact qPlays_12 (by rw [up_ne (by omega), up_ne (by omega)]; exact d)
  · intro f hf; rw [ho _ (by omega)]; exact e f hf
  · rw [qPlays_3]; intro z; exact absurd z (by decide)
theorem qAsked_iff {A : Rw} {s f : Nat} {p q : Prop} [i1 : Decidable p] [i2 : Decidable q] {l t : Int32} (h : p ↔ q) : qAsked A s f p l t = qAsked A s f q l t := by
  cases propext h; cases Subsingleton.elim i1 i2; rfl
theorem qTakes_iff {A g : Rw} {s f : Nat} {p q : Prop} [i1 : Decidable p] [i2 : Decidable q] (h : p ↔ q) : qTakes A g s f p = qTakes A g s f q := by
  cases propext h; cases Subsingleton.elim i1 i2; rfl
theorem qInstalls_iff {A g : Rw} {s f : Nat} {p q : Prop} [i1 : Decidable p] [i2 : Decidable q] (h : p ↔ q) : qInstalls A g s f p = qInstalls A g s f q := by
  cases propext h; cases Subsingleton.elim i1 i2; rfl
theorem qTook_iff {A : Rw} {m8 : Int32} {s f : Nat} {p q : Prop} [i1 : Decidable p] [i2 : Decidable q] {x : Int32} (h : p ↔ q) : qTook A m8 s f p x = qTook A m8 s f q x := by
  cases propext h; cases Subsingleton.elim i1 i2; rfl
theorem qWould_iff {A : Rw} {s f : Nat} {p q : Prop} [i1 : Decidable p] [i2 : Decidable q] {x : Int32} (h : p ↔ q) : qWould A s f p x = qWould A s f q x := by
  cases propext h; cases Subsingleton.elim i1 i2; rfl
