/-! ===== the reference: what a leader agrees ===== -/
abbrev T4 : Type := Int32 × Int32 × Int32 × Int32
def M3 (μ : Mi) (t : T4) (A : Rw) : Mi := upF (setM μ t) 2738 A
theorem M3_row {μ : Mi} {t : T4} {A : Rw} : M3 μ t A 2738 = A := upF_same
theorem M3_8 {μ : Mi} {t : T4} {A : Rw} : M3 μ t A 2737 8 = t.1 := by unfold M3; rw [upF_ne (by decide), setM_8]
theorem M3_9 {μ : Mi} {t : T4} {A : Rw} : M3 μ t A 2737 9 = t.2.1 := by unfold M3; rw [upF_ne (by decide), setM_9]
theorem M3_10 {μ : Mi} {t : T4} {A : Rw} : M3 μ t A 2737 10 = t.2.2.1 := by unfold M3; rw [upF_ne (by decide), setM_10]
theorem M3_11 {μ : Mi} {t : T4} {A : Rw} : M3 μ t A 2737 11 = t.2.2.2 := by unfold M3; rw [upF_ne (by decide), setM_11]
theorem M3_ne {μ : Mi} {t : T4} {A : Rw} {a : Nat} (h1 : a ≠ 2737) (h2 : a ≠ 2738) : M3 μ t A a = μ a := by unfold M3 setM; rw [upF_ne h2, upF_ne h1]
theorem M3_m {μ : Mi} {t : T4} {A : Rw} : M3 μ t A 2744 = μ 2744 := M3_ne (by decide) (by decide)
theorem setM_setM {μ : Mi} {t t' : T4} : setM (setM μ t) t' = setM μ t' := by
  unfold setM upF
  funext x i
  by_cases h : x = 2737
  · subst h
    by_cases i8 : i = 8
    · simp [i8]
    by_cases i9 : i = 9
    · simp [i9]
    by_cases i10 : i = 10
    · simp [i10]
    by_cases i11 : i = 11
    · simp [i11]
    simp [i8, i9, i10, i11]
  · simp [h]
theorem M3_setM {μ : Mi} {t t' : T4} {A : Rw} : setM (M3 μ t A) t' = M3 μ t' A := by unfold M3; rw [← setM_upF, setM_setM]
theorem M3_upF {μ : Mi} {t : T4} {A B : Rw} : upF (M3 μ t A) 2738 B = M3 μ t B := upF_upF
theorem M3_M3 {μ : Mi} {t t' : T4} {A B : Rw} : M3 (M3 μ t A) t' B = M3 μ t' B := by show upF (setM (M3 μ t A) t') 2738 B = _; rw [M3_setM, M3_upF]
theorem setM_self {μ : Mi} : setM μ (μ 2737 8, μ 2737 9, μ 2737 10, μ 2737 11) = μ := by
  unfold setM upF
  funext x i
  by_cases h : x = 2737
  · subst h
    by_cases i8 : i = 8
    · simp [i8]
    by_cases i9 : i = 9
    · simp [i9]
    by_cases i10 : i = 10
    · simp [i10]
    by_cases i11 : i = 11
    · simp [i11]
    simp [i8, i9, i10, i11]
  · simp [h]
theorem M3_self (μ : Mi) : ∃ t : T4, μ = M3 μ t (μ 2738) := ⟨_, by unfold M3; rw [setM_self, upF_id]⟩
/-- what a leader needs so that it can agree -/
def agOK (A : Rw) (s : Nat) : Prop := sdOK A s ∧ rg (A (514 * s + 7)) 0 120 ∧ opOK A s (A (514 * s + 7)).toNatClampNeg (A (514 * s + 4)).toNatClampNeg
theorem dosF_out {s : Nat} : ∀ (n p : Nat) (A : Rw) (i : Nat), s < 5 → p + n ≤ 121 → opOK A s (p - 1) (p + n - 1) → 1 ≤ p → (i < 514 * s + 16 ∨ 514 * s + 20 ≤ i) → i < 3830 ∨ 4310 ≤ i → dosF s n p A i = A i := by
  intro n
  induction n with
  | zero => intro p A i _ _ _ _ _ _; rfl
  | succ n ih =>
    intro p A i hs hpn hop hp h1 h2
    have hx := hop p (by omega) (by omega)
    show dosF s n (p + 1) (qDo1 A s p) i = A i
    rw [ih (p + 1) (qDo1 A s p) i hs (by omega) ?_ (by omega) h1 h2, qDo1_out hx (by omega)]
    intro q hq1 hq2
    rw [qDo1_out hx (by omega), qDo1_out hx (by omega)]
    exact hop q (by omega) (by omega)
theorem qDoes_out {A : Rw} {s i : Nat} {to : Int32} (hs : s < 5) (ha : agOK A s) (ht : rg to 0 120) (hto : to.toInt ≤ (A (514 * s + 4)).toInt ∨ to.toInt ≤ (A (514 * s + 7)).toInt) (h1 : i < 514 * s + 16 ∨ 514 * s + 20 ≤ i) (h2 : i < 3830 ∨ 4310 ≤ i) (h3 : i ≠ 514 * s + 7) : qDoes A s to i = A i := by
  obtain ⟨⟨-, hl, -⟩, hg, hop⟩ := ha
  obtain ⟨l, el, el0, -, el1⟩ := rg_ex hl
  obtain ⟨g, eg, eg0, -, eg1⟩ := rg_ex hg
  obtain ⟨t, rfl, t0, -, t1⟩ := rg_ex ht
  unfold qDoes
  rw [el, eg, nI_clamp eg0, nI_clamp el0] at hop
  rw [el, eg, nI_toInt t0, nI_toInt el0, nI_toInt eg0] at hto
  rw [up_ne h3, eg, nI_clamp eg0, nI_clamp t0]
  exact dosF_out _ _ A i hs (by omega) (fun q q1 q2 => hop q (by omega) (by omega)) (by omega) h1 h2
theorem qDoes_7 {A : Rw} {s : Nat} {to : Int32} (hs : s < 5) (ha : agOK A s) (ht : rg to 0 120) (hto : to.toInt ≤ (A (514 * s + 4)).toInt ∨ to.toInt ≤ (A (514 * s + 7)).toInt) : qDoes A s to (514 * s + 7) = if A (514 * s + 7) < to then to else A (514 * s + 7) := by
  obtain ⟨⟨-, hl, -⟩, hg, hop⟩ := ha
  obtain ⟨l, el, el0, -, el1⟩ := rg_ex hl
  obtain ⟨g, eg, eg0, -, eg1⟩ := rg_ex hg
  obtain ⟨t, rfl, t0, -, t1⟩ := rg_ex ht
  unfold qDoes
  rw [el, eg, nI_clamp eg0, nI_clamp el0] at hop
  rw [el, eg, nI_toInt t0, nI_toInt el0, nI_toInt eg0] at hto
  rw [up_at, eg, nI_clamp eg0, nI_clamp t0, dosF_out _ _ A _ hs (by omega) (fun q q1 q2 => hop q (by omega) (by omega)) (by omega) (by omega) (by omega), eg]
theorem agOK_does {A : Rw} {s : Nat} {to : Int32} (hs : s < 5) (ha : agOK A s) (ht : rg to 0 120) (hto : to.toInt ≤ (A (514 * s + 4)).toInt ∨ to.toInt ≤ (A (514 * s + 7)).toInt) : agOK (qDoes A s to) s := by
  have ho : ∀ i, (i < 514 * s + 16 ∨ 514 * s + 20 ≤ i) → (i < 3830 ∨ 4310 ≤ i) → i ≠ 514 * s + 7 → qDoes A s to i = A i := fun i h1 h2 h3 => qDoes_out hs ha ht hto h1 h2 h3
  have h7 := qDoes_7 hs ha ht hto
  obtain ⟨⟨k1, k2, k3, k4⟩, hg, hop⟩ := ha
  refine ⟨⟨?_, ?_, ?_, fun t ht => ?_⟩, ?_, ?_⟩
  · rw [ho _ (by omega) (by omega) (by omega)]; exact k1
  · rw [ho _ (by omega) (by omega) (by omega)]; exact k2
  · rw [ho _ (by omega) (by omega) (by omega)]; exact k3
  · rw [ho _ (by omega) (by omega) (by omega)]; exact k4 t ht
  · rw [h7]; split
    · exact ht
    · exact hg
  · rw [h7, ho _ (by omega) (by omega) (by omega)]
    intro p hp1 hp2
    obtain ⟨l, el, el0, -, el1⟩ := rg_ex k2
    rw [el, nI_clamp el0] at hp2
    rw [ho _ (by omega) (by omega) (by omega), ho _ (by omega) (by omega) (by omega)]
    refine hop p ?_ (by rw [el, nI_clamp el0]; exact hp2)
    obtain ⟨g, eg, eg0, -, eg1⟩ := rg_ex hg
    obtain ⟨t, rfl, t0, -, t1⟩ := rg_ex ht
    rw [eg] at hp1 ⊢
    rw [nI_clamp eg0]
    by_cases z : nI g < nI t
    · rw [if_pos z, nI_clamp t0] at hp1
      rw [nI_ltI eg0 t0] at z
      omega
    · rw [if_neg z, nI_clamp eg0] at hp1; exact hp1
theorem qTop_le {A : Rw} {s : Nat} : ∀ p, qTop A s p ≤ p := by
  intro p
  induction p with
  | zero => exact Nat.le_refl _
  | succ p ih =>
    unfold qTop
    split
    · exact Nat.le_refl _
    · split
      · exact Nat.le_refl _
      · omega
theorem top_ok {A : Rw} {s : Nat} (ha : agOK A s) : rg (nI (qTop A s (A (514 * s + 4)).toNatClampNeg)) 0 120 ∧ (nI (qTop A s (A (514 * s + 4)).toNatClampNeg)).toInt ≤ (A (514 * s + 4)).toInt := by
  obtain ⟨l, el, el0, -, el1⟩ := rg_ex ha.1.2.1
  rw [el, nI_clamp el0]
  have := qTop_le (A := A) (s := s) l
  rw [rg_nI (by omega), nI_toInt (by omega), nI_toInt el0]
  omega
theorem agOK_1 {A : Rw} {s : Nat} (hs : s < 5) (ha : agOK A s) : agOK (qAgr1 A s) s := agOK_does hs ha (top_ok ha).1 (Or.inl (top_ok ha).2)
theorem qPut_out {A : Rw} {s l i : Nat} {tm kd x y : Int32} (hl : A (514 * s + 4) = nI l) (hl0 : l < 2 ^ 31) (h1 : i ≠ 514 * s + 4) (h2 : i < 514 * s + 34 + 4 * l ∨ 514 * s + 34 + 4 * l + 4 ≤ i) : qPut A s tm kd x y i = A i := by
  unfold qPut
  rw [hl, nI_clamp hl0, up_ne h1, up_ne (by omega), up_ne (by omega), up_ne (by omega), up_ne (by omega)]
theorem qPut_4 {A : Rw} {s l : Nat} {tm kd x y : Int32} (hl : A (514 * s + 4) = nI l) : qPut A s tm kd x y (514 * s + 4) = nI (l + 1) := by
  unfold qPut
  rw [up_at, hl, nI_1]
theorem qPut_e {A : Rw} {s l : Nat} {tm kd x y : Int32} (hl : A (514 * s + 4) = nI l) (hl0 : l < 2 ^ 31) : qPut A s tm kd x y (514 * s + 34 + 4 * l) = tm ∧ qPut A s tm kd x y (514 * s + 34 + 4 * l + 1) = kd ∧ qPut A s tm kd x y (514 * s + 34 + 4 * l + 2) = x ∧ qPut A s tm kd x y (514 * s + 34 + 4 * l + 3) = y := by
  unfold qPut
  rw [hl, nI_clamp hl0]
  refine ⟨?_, ?_, ?_, ?_⟩
  · rw [up_ne (by omega), up_ne (by omega), up_ne (by omega), up_ne (by omega), up_at]
  · rw [up_ne (by omega), up_ne (by omega), up_ne (by omega), up_at]
  · rw [up_ne (by omega), up_ne (by omega), up_at]
  · rw [up_ne (by omega), up_at]
theorem agOK_put {A : Rw} {s : Nat} {tm kd x y : Int32} (hs : s < 5) (ha : agOK A s) (hl : rg (A (514 * s + 4)) 0 119) (hk : kd = 1 ∨ kd = 2 → rg x 0 3) : agOK (qPut A s tm kd x y) s := by
  obtain ⟨⟨k1, k2, k3, k4⟩, hg, hop⟩ := ha
  obtain ⟨l, el, el0, -, el1⟩ := rg_ex hl
  have ho : ∀ i, i ≠ 514 * s + 4 → (i < 514 * s + 34 + 4 * l ∨ 514 * s + 34 + 4 * l + 4 ≤ i) → qPut A s tm kd x y i = A i := fun i h1 h2 => qPut_out el el0 h1 h2
  have he := qPut_e (tm := tm) (kd := kd) (x := x) (y := y) el el0
  refine ⟨⟨?_, ?_, ?_, fun t ht => ?_⟩, ?_, ?_⟩
  · rw [ho _ (by omega) (by omega)]; exact k1
  · rw [qPut_4 el, rg_nI (by omega)]; omega
  · rw [ho _ (by omega) (by omega)]; exact k3
  · rw [ho _ (by omega) (by omega)]; exact k4 t ht
  · rw [ho _ (by omega) (by omega)]; exact hg
  · rw [ho (514 * s + 7) (by omega) (by omega), qPut_4 el, nI_clamp (by omega)]
    intro p hp1 hp2
    by_cases hp : p = l + 1
    · subst hp
      rw [show 514 * s + 30 + 4 * (l + 1) + 1 = 514 * s + 34 + 4 * l + 1 by omega, show 514 * s + 30 + 4 * (l + 1) + 2 = 514 * s + 34 + 4 * l + 2 by omega, he.2.1, he.2.2.1]
      exact hk
    · rw [ho _ (by omega) (by omega), ho _ (by omega) (by omega)]
      exact hop p hp1 (by rw [el, nI_clamp el0]; omega)
theorem qFeeds5_lo {A : Rw} {s i : Nat} {set : Int32} (h : i < 2570) : qFeeds5 s set A i = A i := by unfold qFeeds5; rw [ff_lo h, ff_lo h, ff_lo h, ff_lo h, ff_lo h]
theorem qFeeds5_w {A : Rw} {s : Nat} {set : Int32} (h : rg (A 4510) 0 60) : rg (qFeeds5 s set A 4510) 0 60 := ff_w (ff_w (ff_w (ff_w (ff_w h))))
theorem qFeedsAll_lo {A : Rw} {s i : Nat} (h : i < 2570) : qFeedsAll A s i = A i := qFeeds5_lo h
theorem agOK_lo {A B : Rw} {s : Nat} (hs : s < 5) (ha : agOK A s) (hB : ∀ i, i < 2570 → B i = A i) (hw : rg (B 4510) 0 60) : agOK B s := by
  obtain ⟨⟨k1, k2, k3, k4⟩, hg, hop⟩ := ha
  refine ⟨⟨hw, ?_, ?_, fun t ht => ?_⟩, ?_, ?_⟩
  · rw [hB _ (by omega)]; exact k2
  · rw [hB _ (by omega)]; exact k3
  · rw [hB _ (by omega)]; exact k4 t ht
  · rw [hB _ (by omega)]; exact hg
  · rw [hB _ (by omega), hB _ (by omega)]
    obtain ⟨l, el, el0, -, el1⟩ := rg_ex k2
    intro p hp1 hp2
    rw [el, nI_clamp el0] at hp2
    rw [hB _ (by omega), hB _ (by omega)]
    exact hop p hp1 (by rw [el, nI_clamp el0]; exact hp2)
theorem agOK_feeds {A : Rw} {s : Nat} (hs : s < 5) (ha : agOK A s) : agOK (qFeedsAll A s) s := agOK_lo hs ha (fun i hi => qFeedsAll_lo hi) (qFeeds5_w ha.1.1)
theorem agOK_join {A : Rw} {s : Nat} (hs : s < 5) (ha : agOK A s) (hl : (qAgr1 A s) (514 * s + 4) < 120) : agOK (qJoin A s) s := by
  have h1 := agOK_1 hs ha
  refine agOK_feeds hs (agOK_put hs h1 ?_ (fun z => by rcases z with z | z <;> exact absurd z (by decide)))
  obtain ⟨l, el, el0, -, el1⟩ := rg_ex h1.1.2.1
  rw [el, show (120 : Int32) = nI 120 from rfl, nI_ltI el0 (by decide)] at hl
  rw [el, rg_nI el0]
  omega
/-- behind an entry NEW there is one set -/
theorem qMem_new {A : Rw} {s l : Nat} {tm x y : Int32} (hs : s < 5) (hl : A (514 * s + 4) = nI l) (hl0 : l < 120) (hsn : rg (A (514 * s + 5)) 0 120) (hsl : (A (514 * s + 5)).toInt ≤ l) : qMem (qPut A s tm 4 x y) s = (x, 0, 4, nI (l + 1)) := by
  unfold qMem
  rw [qPut_4 hl, nI_clamp (by omega)]
  have he := qPut_e (A := A) (s := s) (tm := tm) (kd := 4) (x := x) (y := y) hl (by omega)
  have h5 : qPut A s tm 4 x y (514 * s + 5) = A (514 * s + 5) := qPut_out hl (by omega) (by omega) (by omega)
  have hn : ¬ nI (l + 1) ≤ A (514 * s + 5) := by
    rw [Int32.le_iff_toInt_le, nI_toInt (by omega)]
    omega
  unfold qCfg
  rw [h5, if_neg hn, show 514 * s + 30 + 4 * (l + 1) + 1 = 514 * s + 34 + 4 * l + 1 by omega, show 514 * s + 30 + 4 * (l + 1) + 2 = 514 * s + 34 + 4 * l + 2 by omega, he.2.1, he.2.2.1, if_pos (Or.inr rfl), if_neg (by decide)]
theorem qCfg_lo {A B : Rw} {s : Nat} (hs : s < 5) (hB : ∀ i, 514 * s ≤ i → i < 514 * s + 514 → B i = A i) (h4 : B 4514 = A 4514) : ∀ p, p ≤ 120 → qCfg B s p = qCfg A s p := by
  intro p
  induction p with
  | zero => intro _; unfold qCfg qBase; rw [hB (514 * s + 9) (by omega) (by omega), hB (514 * s + 10) (by omega) (by omega), h4]
  | succ p ih =>
    intro hp
    unfold qCfg
    rw [hB (514 * s + 5) (by omega) (by omega), hB (514 * s + 30 + 4 * (p + 1) + 1) (by omega) (by omega), hB (514 * s + 30 + 4 * (p + 1) + 2) (by omega) (by omega), hB (514 * s + 30 + 4 * (p + 1) + 3) (by omega) (by omega), ih (by omega)]
    unfold qBase
    rw [hB (514 * s + 9) (by omega) (by omega), hB (514 * s + 10) (by omega) (by omega), h4]
theorem qMem_lo {A B : Rw} {s : Nat} (hs : s < 5) (hl : rg (A (514 * s + 4)) 0 120) (hB : ∀ i, 514 * s ≤ i → i < 514 * s + 514 → B i = A i) (h4 : B 4514 = A 4514) : qMem B s = qMem A s := by
  unfold qMem
  rw [hB (514 * s + 4) (by omega) (by omega)]
  obtain ⟨l, el, el0, -, el1⟩ := rg_ex hl
  rw [el, nI_clamp el0]
  exact qCfg_lo hs hB h4 l (by omega)
theorem qPost_4514 {A row : Rw} {f t : Nat} (hw : rg (A 4510) 0 60) : qPost A f t row 4514 = A 4514 := by
  unfold qPost
  split
  · rfl
  · split
    · rename_i h1 h2
      obtain ⟨w, ew, hw0, -, hw1⟩ := rg_ex hw
      have hw60 : w < 60 := by
        rcases Nat.lt_or_ge w 60 with z | z
        · exact z
        · exact absurd (by rw [ew, show w = 60 by omega]; rfl) h2.2.1
      unfold qPush
      rw [ew, nI_clamp hw0, if_neg (by omega), if_neg (by decide)]
    · exact up_ne (by decide)
theorem ff_4514 {A : Rw} {s t : Nat} {set : Int32} (hw : rg (A 4510) 0 60) : ff s set A t 4514 = A 4514 := by
  unfold ff qFeed
  split
  · split <;> exact qPost_4514 hw
  · rfl
theorem qFeeds5_4514 {A : Rw} {s : Nat} {set : Int32} (h : rg (A 4510) 0 60) : qFeeds5 s set A 4514 = A 4514 := by
  unfold qFeeds5
  rw [ff_4514 (ff_w (ff_w (ff_w (ff_w h)))), ff_4514 (ff_w (ff_w (ff_w h))), ff_4514 (ff_w (ff_w h)), ff_4514 (ff_w h), ff_4514 h]
theorem qPlays_out {A : Rw} {s i : Nat} {r : Int32} (h : i ≠ 514 * s + 3 ∧ i ≠ 514 * s + 8 ∧ i ≠ 514 * s + 11 ∧ i ≠ 514 * s + 12 ∧ i ≠ 514 * s + 13 ∧ i ≠ 514 * s + 15) : qPlays A s r i = A i := by
  unfold qPlays
  split
  · rfl
  · split
    · unfold qReadsNothing
      rw [up_ne (by omega), up_ne (by omega), up_ne (by omega), up_ne (by omega), up_ne (by omega), up_ne (by omega)]
    · rw [up_ne (by omega), up_ne (by omega)]
/-- other fields of the store don't matter for that -/
theorem agOK_of {A B : Rw} {s : Nat} (hs : s < 5) (ha : agOK A s) (hw : rg (B 4510) 0 60) (h4 : B (514 * s + 4) = A (514 * s + 4)) (h5 : B (514 * s + 5) = A (514 * s + 5)) (h7 : B (514 * s + 7) = A (514 * s + 7)) (hn : ∀ t, t < 5 → rg (B (514 * s + 24 + t)) 0 121) (hlog : ∀ i, 514 * s + 34 ≤ i → i < 514 * s + 514 → B i = A i) : agOK B s := by
  obtain ⟨⟨k1, k2, k3, k4⟩, hg, hop⟩ := ha
  refine ⟨⟨hw, by rw [h4]; exact k2, by rw [h5]; exact k3, hn⟩, by rw [h7]; exact hg, ?_⟩
  rw [h7, h4]
  obtain ⟨l, el, el0, -, el1⟩ := rg_ex k2
  intro p hp1 hp2
  rw [el, nI_clamp el0] at hp2
  rw [hlog _ (by omega) (by omega), hlog _ (by omega) (by omega)]
  exact hop p hp1 (by rw [el, nI_clamp el0]; exact hp2)
theorem agOK_plays {A : Rw} {s : Nat} {r : Int32} (hs : s < 5) (ha : agOK A s) : agOK (qPlays A s r) s := by
  have ho : ∀ i, (i ≠ 514 * s + 3 ∧ i ≠ 514 * s + 8 ∧ i ≠ 514 * s + 11 ∧ i ≠ 514 * s + 12 ∧ i ≠ 514 * s + 13 ∧ i ≠ 514 * s + 15) → qPlays A s r i = A i := fun i h => qPlays_out h
  refine agOK_of hs ha (by rw [ho _ (by omega)]; exact ha.1.1) (ho _ (by omega)) (ho _ (by omega)) (ho _ (by omega)) (fun t ht => by rw [ho _ (by omega)]; exact ha.1.2.2.2 t ht) (fun i h1 h2 => ho _ (by omega))
theorem agOK_fin {A : Rw} {s : Nat} (hs : s < 5) (ha : agOK A s) : agOK (qFin A s) s := by
  unfold qFin
  split
  · exact agOK_plays hs ha
  · exact ha
theorem agOK_0 {A : Rw} {s : Nat} (hs : s < 5) (ha : agOK A s) : agOK (qAgr0 A s) s := agOK_fin hs (agOK_1 hs ha)
theorem agOK_agr {A : Rw} {s : Nat} (hs : s < 5) (ha : agOK A s) : agOK (qAgr A s) s := by
  unfold qAgr
  split
  · rename_i h
    exact agOK_fin hs (agOK_0 hs (agOK_join hs ha h.2.2))
  · exact agOK_0 hs ha
