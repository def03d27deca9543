/-! ===== the class and the row: what is alike ===== -/
theorem nI_s1 {n : Nat} : nI n + 1 = nI (n + 1) := by rw [show (1 : Int32) = nI 1 from rfl, nI_add]
def entOK (e : Int32) : Prop := ¬ eTm e = 0 ∧ rg (eKd e) 0 4 ∧ (eKd e = 4 → eY e = 0) ∧ (eKd e = 3 → rg (eY e) 1 31) ∧ ((eKd e = 3 ∨ eKd e = 4) → ¬ eX e = 0) ∧ ((eKd e = 1 ∨ eKd e = 2) → rg (eX e) 0 3)
def enR (e : Int32) (A : Rw) (k : Nat) : Prop := (eTm e = A k ∧ eKd e = A (k + 1) ∧ eX e = A (k + 2) ∧ eY e = A (k + 3)) ∧ entOK e
def StA (A : Rw) (s x : Nat) (μ : Mi) : Prop :=
  μ x 0 = nI s ∧ μ x 1 = A (514 * s) ∧ μ x 2 = A (514 * s + 1) ∧ μ x 3 = A (514 * s + 2) ∧ μ x 4 = A (514 * s + 3) ∧ μ x 5 = A (514 * s + 8) ∧ μ x 6 = A (514 * s + 14) ∧ μ x 7 = A (514 * s + 4) ∧ μ x 8 = A (514 * s + 7) ∧
  μ (x + 5) 0 = A (514 * s + 5) ∧ μ (x + 5) 1 = A (514 * s + 6) ∧ μ (x + 5) 3 = A (514 * s + 10) ∧ μ (x + 7) 0 = A (514 * s + 11) ∧ μ (x + 7) 1 = A (514 * s + 12) ∧ μ (x + 7) 2 = A (514 * s + 13) ∧ μ (x + 7) 3 = A (514 * s + 15)
def StB (A : Rw) (s : Nat) : Prop := (A (514 * s) = 0 ∨ A (514 * s) = 1) ∧ rg (A (514 * s + 4)) 0 120 ∧ rg (A (514 * s + 5)) 0 120 ∧ (A (514 * s + 5)).toInt ≤ (A (514 * s + 4)).toInt ∧ rg (A (514 * s + 9)) 0 31 ∧ rg (A (514 * s + 10)) 0 31 ∧ (A (514 * s + 9) = 0 → A (514 * s + 10) = 0) ∧ rg (A 4514) 1 31
def fst1 (f o : Int32) : Int32 := if o = 0 then f else o
def StC (A : Rw) (s x : Nat) (μ : Mi) : Prop := (∀ i, i < 4 → μ (x + 2) i = A (514 * s + 16 + i)) ∧ (∀ i, i < 4 → μ (x + 6) i = A (514 * s + 20 + i)) ∧ μ (x + 5) 2 = fst1 (A 4514) (A (514 * s + 9))
def StL (A : Rw) (s x : Nat) (μ : Mi) : Prop := ∀ p, (A (514 * s + 5)).toNatClampNeg < p → p ≤ (A (514 * s + 4)).toNatClampNeg → enR (μ (x + 1) p) A (514 * s + 30 + 4 * p)
def StQ (A : Rw) (s x : Nat) (μ : Mi) : Prop := μ x 9 = (qMem A s).2.2.2 ∧ μ x 10 = (qMem A s).1 ∧ μ x 11 = (qMem A s).2.1
def St (A : Rw) (s x : Nat) (μ : Mi) : Prop := StA A s x μ ∧ StB A s ∧ StC A s x μ ∧ StL A s x μ ∧ StQ A s x μ
theorem enR_congr {e : Int32} {A A' : Rw} {k k' : Nat} (h : enR e A k) (h0 : A' k' = A k) (h1 : A' (k' + 1) = A (k + 1)) (h2 : A' (k' + 2) = A (k + 2)) (h3 : A' (k' + 3) = A (k + 3)) : enR e A' k' := by
  unfold enR at *
  rw [h0, h1, h2, h3]
  exact h
theorem St_congr {A A' : Rw} {s x : Nat} {μ μ' : Mi} (hs : s < 5) (h : St A s x μ) (hA : ∀ i, 514 * s ≤ i → i < 514 * s + 514 → A' i = A i) (h4 : A' 4514 = A 4514) (hμ : ∀ y, x ≤ y → y < x + 8 → μ' y = μ y) : St A' s x μ' := by
  obtain ⟨h1, h2, h3, h5, h6⟩ := h
  have hm : qMem A' s = qMem A s := qMem_lo hs h2.2.1 hA h4
  refine ⟨?_, ?_, ⟨?_, ?_, ?_⟩, ?_, ?_⟩
  · unfold StA at *
    rw [hμ x (by omega) (by omega), hμ (x + 5) (by omega) (by omega), hμ (x + 7) (by omega) (by omega)]
    simp (disch := omega) only [hA]
    exact h1
  · unfold StB at *
    rw [h4]
    simp (disch := omega) only [hA]
    exact h2
  · intro i hi
    rw [hμ (x + 2) (by omega) (by omega), hA _ (by omega) (by omega)]
    exact h3.1 i hi
  · intro i hi
    rw [hμ (x + 6) (by omega) (by omega), hA _ (by omega) (by omega)]
    exact h3.2.1 i hi
  · rw [hμ (x + 5) (by omega) (by omega), h4, hA _ (by omega) (by omega)]
    exact h3.2.2
  · intro p p1 p2
    rw [hA _ (by omega) (by omega)] at p1 p2
    have hp : p ≤ 120 := by
      obtain ⟨n, e1, e2, -, e3⟩ := rg_ex h2.2.1
      rw [e1, nI_clamp e2] at p2
      omega
    rw [hμ (x + 1) (by omega) (by omega)]
    exact enR_congr (h5 p p1 p2) (hA _ (by omega) (by omega)) (hA _ (by omega) (by omega)) (hA _ (by omega) (by omega)) (hA _ (by omega) (by omega))
  · unfold StQ at *
    rw [hm, hμ x (by omega) (by omega)]
    exact h6
/-! messages -/
def MsR (g : Rw) (f : Int32) (q : Nat) (μ : Mi) : Prop :=
  (μ q 0 = g 0 ∧ μ q 1 = g 1 ∧ μ q 2 = g 3 ∧ μ q 3 = g 2 ∧ μ q 4 = g 4 ∧ μ q 5 = g 5 ∧ μ q 6 = g 6 ∧ μ q 7 = g 7 ∧ μ q 8 = g 8) ∧
  (rg (g 0) 0 4 ∧ rg (g 1) 0 4 ∧ ¬ g 0 = g 1) ∧ (g 3 = 2 → ∀ k, k < (g 6).toNatClampNeg → k < 3 → enR (μ (q + 1) k) g (9 + 4 * k)) ∧
  (g 3 = 4 → (∀ k, k < 4 → μ (q + 1) k = g (9 + k)) ∧ μ (q + 1) 4 = fst1 f (g 13) ∧ μ (q + 1) 5 = g 14 ∧ rg (g 13) 0 31 ∧ rg (g 14) 0 31 ∧ (g 13 = 0 → g 14 = 0))
theorem MsR_congr {g g' : Rw} {f f' : Int32} {q : Nat} {μ μ' : Mi} (h : MsR g f q μ) (hg : ∀ k, k < 21 → g' k = g k) (hf : f' = f) (h0 : μ' q = μ q) (h1 : μ' (q + 1) = μ (q + 1)) : MsR g' f' q μ' := by
  subst hf
  unfold MsR at *
  rw [h0, h1]
  simp (disch := omega) only [hg]
  refine ⟨h.1, h.2.1, fun z k k1 k2 => ?_, fun z => ⟨fun k hk => ?_, (h.2.2.2 z).2⟩⟩
  · exact enR_congr (h.2.2.1 z k k1 k2) (hg _ (by omega)) (hg _ (by omega)) (hg _ (by omega)) (hg _ (by omega))
  · rw [hg _ (by omega)]
    exact (h.2.2.2 z).1 k hk
def BX (w : Nat) (ρ : Mr) : Prop := (∀ i, i ≤ 60 → ∃ j, j ≤ 60 ∧ ρ (w + 3) i = w + 6 + 2 * j) ∧ ∀ i j, i ≤ 60 → j ≤ 60 → ρ (w + 3) i = ρ (w + 3) j → i = j
def WOK (w : Nat) (S : Sh) (ρ : Mr) : Prop := 1 ≤ w ∧
  (S.2 w = (10, 6) ∧ S.2 (w + 1) = (37, 5) ∧ S.2 (w + 2) = (1, 6) ∧ S.2 (w + 3) = (32, 61) ∧ S.2 (w + 128) = (20, 121) ∧ S.2 (w + 129) = (20, 201)) ∧
  (∀ i, i ≤ 61 → S.2 (w + 4 + 2 * i) = (2, 10) ∧ S.2 (w + 5 + 2 * i) = (20, 6) ∧ ρ (w + 4 + 2 * i) 9 = w + 5 + 2 * i) ∧
  (∀ s, s < 5 → S.2 (w + 130 + 8 * s) = (7, 18) ∧ StS S ρ (w + 130 + 8 * s) ∧ ρ (w + 1) s = w + 130 + 8 * s) ∧
  (ρ w 0 = w + 1 ∧ ρ w 1 = w + 2 ∧ ρ w 2 = w + 128 ∧ ρ w 3 = w + 129 ∧ ρ (w + 2) 0 = w + 3 ∧ ρ (w + 2) 1 = w + 4) ∧ BX w ρ
def lkS (L : Int32) : Prop := ∀ a b, a < 5 → b < 5 → ((L >>> ((5 * nI a + nI b) &&& 31)) &&& 1 = 1 ↔ (L >>> ((5 * nI b + nI a) &&& 31)) &&& 1 = 1)
def Ml (A : Rw) (w : Nat) (μ : Mi) (ρ : Mr) : Prop := (μ (w + 2) 2 = A 4510 ∧ μ (w + 2) 3 = A 4511 ∧ μ (w + 2) 4 = A 4512 ∧ μ (w + 2) 5 = A 4513 ^^^ 33554431) ∧ (rg (A 4510) 0 60 ∧ lkS (A 4513)) ∧
  ∀ i, i < (A 4510).toNatClampNeg → MsR (rowM A i) (A 4514) (ρ (w + 3) i) μ
def fiR (e : Int32) (A : Rw) (k : Nat) : Prop := (e = 0 ∧ A k = 0) ∨ enR e A k
def Fa (A : Rw) (w : Nat) (μ : Mi) : Prop := (∀ p, 1 ≤ p → p ≤ 120 → fiR (μ (w + 128) p) A (3826 + 4 * p)) ∧ ∀ t, 1 ≤ t → t ≤ 200 → μ (w + 129) t = A (4309 + t)
def Wd (A : Rw) (w : Nat) (μ : Mi) : Prop := μ w 4 = A 4514 ∧ μ w 5 = A 4515 ∧ (A 4515 = 0 ∨ A 4515 = 1)
def R0 (A : Rw) (w : Nat) (S : Sh) (μ : Mi) (ρ : Mr) : Prop := WOK w S ρ ∧ (∀ s, s < 5 → St A s (w + 130 + 8 * s) μ) ∧ Ml A w μ ρ ∧ Fa A w μ ∧ Wd A w μ
def Nx (A : Rw) (w : Nat) (μ : Mi) : Prop := ∀ s, s < 5 → A (514 * s + 3) = 2 → ∀ t, t < 5 → μ (w + 130 + 8 * s + 3) t = A (514 * s + 24 + t) ∧ μ (w + 130 + 8 * s + 4) t = A (514 * s + 29 + t)
def RR (A : Rw) (w : Nat) (S : Sh) (μ : Mi) (ρ : Mr) : Prop := R0 A w S μ ρ ∧ Nx A w μ
/-- nothing outside a world changes -/
def Ot (w : Nat) (μ μ' : Mi) : Prop := ∀ y, (y < w ∨ w + 170 ≤ y) → μ' y = μ y
/-- a store alone changes -/
theorem R0_store {A A' : Rw} {w s : Nat} {S : Sh} {μ μ' : Mi} {ρ : Mr} (hs : s < 5) (h : R0 A w S μ ρ) (hA : ∀ i, (i < 514 * s ∨ 514 * s + 514 ≤ i) → A' i = A i) (hμ : ∀ y, (y < w + 130 + 8 * s ∨ w + 130 + 8 * s + 8 ≤ y) → μ' y = μ y) (hn : St A' s (w + 130 + 8 * s) μ') : R0 A' w S μ' ρ := by
  obtain ⟨h1, h2, h3, h4, h5⟩ := h
  refine ⟨h1, fun t ht => ?_, ⟨?_, ?_, fun i hi => ?_⟩, ⟨fun p p1 p2 => ?_, fun t t1 t2 => ?_⟩, ?_⟩
  · by_cases e : t = s
    · subst e; exact hn
    · exact St_congr ht (h2 t ht) (fun i i1 i2 => hA i (by omega)) (hA _ (by omega)) (fun y y1 y2 => hμ y (by omega))
  · rw [hμ _ (by omega)]
    simp (disch := omega) only [hA]
    exact h3.1
  · rw [hA _ (by omega), hA _ (by omega)]
    exact h3.2.1
  · rw [hA _ (by omega)] at hi
    obtain ⟨n, e1, e2, -, e3⟩ := rg_ex h3.2.1.1
    have hi' := hi
    rw [e1, nI_clamp e2] at hi'
    obtain ⟨j, j1, j2⟩ := h1.2.2.2.2.2.1 i (by omega)
    refine MsR_congr (h3.2.2 i hi) (fun k hk => hA _ (by omega)) (hA _ (by omega)) ?_ ?_
    · rw [j2]; exact hμ _ (by omega)
    · rw [j2]; exact hμ _ (by omega)
  · rw [hμ _ (by omega)]
    have := h4.1 p p1 p2
    rcases this with z | z
    · exact Or.inl ⟨z.1, by rw [hA _ (by omega)]; exact z.2⟩
    · exact Or.inr (enR_congr z (hA _ (by omega)) (hA _ (by omega)) (hA _ (by omega)) (hA _ (by omega)))
  · rw [hμ _ (by omega), hA _ (by omega)]
    exact h4.2 t t1 t2
  · unfold Wd at *
    rw [hμ _ (by omega), hA _ (by omega), hA _ (by omega)]
    exact h5
/-! what the class needs of a row -/
def ext2 (A : Rw) : Prop := (∀ s, s < 5 → ((A (514 * s + 5)).toInt ≤ (A (514 * s + 7)).toInt ∧ (A (514 * s + 7)).toInt ≤ (A (514 * s + 4)).toInt) ∧ (A (514 * s + 3) = 2 → 1 ≤ (A (514 * s + 1)).toInt) ∧ 0 ≤ (A (514 * s + 6)).toInt) ∧
  (∀ i, i < (A 4510).toNatClampNeg → A (2570 + 21 * i + 3) = 2 → ∀ s, s < 5 → A (2570 + 21 * i + 1) = nI s → ¬ (A (514 * s + 3) = 2 ∧ A (514 * s + 1) = A (2570 + 21 * i + 2))) ∧
  (∀ i, i < (A 4510).toNatClampNeg → A (2570 + 21 * i + 3) = 4 → rg (A (2570 + 21 * i + 4)) 0 120 ∧ 0 ≤ (A (2570 + 21 * i + 5)).toInt) ∧
  ∀ i, i < (A 4510).toNatClampNeg → A (2570 + 21 * i + 3) = 8 → A (2570 + 21 * i + 4) = 0 ∨ A (2570 + 21 * i + 4) = 1
def Gd (A : Rw) : Prop := ∃ I : Rw → Prop, I A ∧ ∀ A, I A → (loc A ∧ ext2 A) ∧ ∀ B, Sp A B → I B
theorem Gd_good {A : Rw} (h : Gd A) : good A := by obtain ⟨I, h1, h2⟩ := h; exact ⟨I, h1, fun A hA => ⟨(h2 A hA).1.1, (h2 A hA).2⟩⟩
theorem Gd_ext {A : Rw} (h : Gd A) : ext2 A := by obtain ⟨I, h1, h2⟩ := h; exact (h2 A h1).1.2
theorem Gd_step {A B : Rw} (h : Gd A) (hs : Sp A B) : Gd B := by obtain ⟨I, h1, h2⟩ := h; exact ⟨I, (h2 A h1).2 B hs, h2⟩
