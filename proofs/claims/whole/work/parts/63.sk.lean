/-! ===== the reference: acts and times ===== -/
theorem qNum_23 {T F : Rw} {b : Int32} : (qNum T F b).2 23 = F 23 := by
  unfold qNum qNum1
  simp only
  rw [up_ne (by decide)]
  split
  · rw [qFails_out (by decide)]
    split
    · rw [qFails_out (by decide), up_ne (by decide)]
    · rw [up_ne (by decide)]
  · split
    · rw [qFails_out (by decide), up_ne (by decide)]
    · rw [up_ne (by decide)]
theorem qSign_23 {T F : Rw} {c : Int32} : qSign T F c 23 = F 23 := by
  unfold qSign
  rw [up_ne (by decide)]
  split
  · rw [up_ne (by decide)]
  · rw [qFails_out (by decide), up_ne (by decide)]
theorem PR_told {μ ν : Mi} {n k : Nat} {P : Ps} {h d hc ha : Int32} {t A : Rw} {v : Int32} (q : PR μ ν n (P, (h, d, hc, ha, t, A))) : PR μ (upI ν 2747 k v) n (P, (h, d, hc, ha, up t k v, A)) := by
  obtain ⟨a, b, c, q4, e, f, g, i, j, k', l, m, o⟩ := q
  rw [upI_upF]
  refine ⟨fun x q1 q2 q3 q4 => by rw [upF_ne q4]; exact a x q1 q2 q3 q4, by rw [upF_ne (by decide)]; exact b, ?_, ?_, ?_, ?_, ?_, ?_, ?_, ?_, ?_, ?_, ?_⟩
  · rw [upF_same]
    have c' : ν 2747 = t := c
    rw [c']
  all_goals (rw [upF_ne (by decide)]; assumption)
theorem PR_act {μ ν : Mi} {n : Nat} {P : Ps} {E : Es} {w wat : Int32} {g : Rw} {t : T4} (q : PR μ ν n (P, E)) : PR μ (qActE (M4 ν g t (aDo (ν 2738) w (ν 2747)).2) (aDo (ν 2738) w (ν 2747)).1 wat) n (P, eAct w wat E) := by
  obtain ⟨a, b, c, q4, e, f, g', i, j, k', l, m, o⟩ := q
  have b' : ν 2738 = E.2.2.2.2.2 := b
  have c' : ν 2747 = E.2.2.2.2.1 := c
  have j' : ν 2737 21 = E.2.1 := j
  rw [b', c']
  unfold qActE eAct
  have e21 : M4 ν g t (aDo E.2.2.2.2.2 w E.2.2.2.2.1).2 2737 21 = E.2.1 := by rw [M4_f (by decide)]; exact j'
  rw [e21]
  have m4 : ∀ x, x ≠ 2737 → x ≠ 2738 → x ≠ 2744 → M4 ν g t (aDo E.2.2.2.2.2 w E.2.2.2.2.1).2 x = ν x := fun x h1 h2 h3 => M4_out h1 h2 h3
  have mf : ∀ x, (x < 8 ∨ 11 < x) → M4 ν g t (aDo E.2.2.2.2.2 w E.2.2.2.2.1).2 2737 x = ν 2737 x := fun x h1 => M4_f h1
  have mr : M4 ν g t (aDo E.2.2.2.2.2 w E.2.2.2.2.1).2 2738 = (aDo E.2.2.2.2.2 w E.2.2.2.2.1).2 := M4_row
  generalize M4 ν g t (aDo E.2.2.2.2.2 w E.2.2.2.2.1).2 = ξ at *
  by_cases c0 : (aDo E.2.2.2.2.2 w E.2.2.2.2.1).1 < 0
  · simp only [if_pos c0]
    simp only [upI_upF, upF_same, upF_upF]
    refine ⟨fun x q1 q2 q3 q4 => by rw [upF_ne q1, m4 x q1 q2 q3]; exact a x q1 q2 q3 q4, ?_, ?_, ?_, ?_, ?_, ?_, ?_, ?_, ?_, ?_, ?_, ?_⟩
    · rw [upF_ne (by decide)]; exact mr
    · rw [upF_ne (by decide), m4 _ (by decide) (by decide) (by decide)]; exact c
    · rw [upF_same, up_ne (by decide), up_ne (by decide), up_ne (by decide), mf _ (by decide)]; exact q4
    · rw [upF_same, up_ne (by decide), up_ne (by decide), up_ne (by decide), mf _ (by decide)]; exact e
    · rw [upF_same, up_ne (by decide), up_ne (by decide), up_ne (by decide), mf _ (by decide)]; exact f
    · rw [upF_same, up_ne (by decide), up_ne (by decide), up_ne (by decide), mf _ (by decide)]; exact g'
    · rw [upF_same, up_at]
    · rw [upF_same, up_ne (by decide), up_ne (by decide), up_ne (by decide), mf _ (by decide)]; exact j
    · rw [upF_same, up_ne (by decide), up_ne (by decide), up_at]
    · rw [upF_same, up_ne (by decide), up_at]
    · rw [upF_same, up_ne (by decide), up_ne (by decide), up_ne (by decide), mf _ (by decide)]; exact m
    · rw [upF_same, up_ne (by decide), up_ne (by decide), up_ne (by decide), mf _ (by decide)]; exact o
  · simp only [if_neg c0]
    simp only [upI_upF, upF_same, upF_upF]
    refine ⟨fun x q1 q2 q3 q4 => by rw [upF_ne q1, m4 x q1 q2 q3]; exact a x q1 q2 q3 q4, ?_, ?_, ?_, ?_, ?_, ?_, ?_, ?_, ?_, ?_, ?_, ?_⟩
    · rw [upF_ne (by decide)]; exact mr
    · rw [upF_ne (by decide), m4 _ (by decide) (by decide) (by decide)]; exact c
    · rw [upF_same, up_ne (by decide), up_ne (by decide), mf _ (by decide)]; exact q4
    · rw [upF_same, up_ne (by decide), up_ne (by decide), mf _ (by decide)]; exact e
    · rw [upF_same, up_ne (by decide), up_ne (by decide), mf _ (by decide)]; exact f
    · rw [upF_same, up_ne (by decide), up_ne (by decide), mf _ (by decide)]; exact g'
    · rw [upF_same, up_at]
    · rw [upF_same, up_ne (by decide), up_at]
    · rw [upF_same, up_ne (by decide), up_ne (by decide), mf _ (by decide)]; exact k'
    · rw [upF_same, up_ne (by decide), up_ne (by decide), mf _ (by decide)]; exact l
    · rw [upF_same, up_ne (by decide), up_ne (by decide), mf _ (by decide)]; exact m
    · rw [upF_same, up_ne (by decide), up_ne (by decide), mf _ (by decide)]; exact o
