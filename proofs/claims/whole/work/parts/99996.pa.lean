/-! ===== agreement: logs, sets, majorities ===== -/
abbrev En : Type := Int32 × Int32 × Int32 × Int32
abbrev Lg : Type := Nat → En
def tmE (e : En) : Nat := e.1.toNatClampNeg
abbrev isC (e : En) : Prop := e.2.1 = 3 ∨ e.2.1 = 4
def cfE (e : En) : Int32 × Int32 := (e.2.2.1, if e.2.1 = 3 then e.2.2.2 else 0)
def cfg (x : Int32) (f : Lg) : Nat → Int32 × Int32 := fun p => match p with
  | 0 => (x, 0)
  | p + 1 => if isC (f (p + 1)) then cfE (f (p + 1)) else cfg x f p
def lcp (f : Lg) : Nat → Nat := fun p => match p with
  | 0 => 0
  | p + 1 => if isC (f (p + 1)) then p + 1 else lcp f p
theorem cfg_s {x : Int32} {f : Lg} {p : Nat} : cfg x f (p + 1) = if isC (f (p + 1)) then cfE (f (p + 1)) else cfg x f p := rfl
theorem lcp_s {f : Lg} {p : Nat} : lcp f (p + 1) = if isC (f (p + 1)) then p + 1 else lcp f p := rfl
def Eqp (f g : Lg) (n : Nat) : Prop := ∀ i, 1 ≤ i → i ≤ n → f i = g i
def ltm (f : Lg) (n : Nat) : Nat := if n = 0 then 0 else tmE (f n)
def far (f : Lg) (n : Nat) (g : Lg) (k : Nat) : Prop := ltm g k < ltm f n ∨ (ltm g k = ltm f n ∧ k ≤ n)
theorem Eqp.symm {f g : Lg} {n : Nat} (h : Eqp f g n) : Eqp g f n := fun i a b => (h i a b).symm
theorem Eqp.trans {f g k : Lg} {n : Nat} (h : Eqp f g n) (h' : Eqp g k n) : Eqp f k n := fun i a b => (h i a b).trans (h' i a b)
theorem Eqp.mono {f g : Lg} {n m : Nat} (h : Eqp f g n) (hm : m ≤ n) : Eqp f g m := fun i a b => h i a (by omega)
theorem Eqp.refl {f : Lg} {n : Nat} : Eqp f f n := fun _ _ _ => rfl
theorem Eqp.zero {f g : Lg} : Eqp f g 0 := fun i a b => by omega
theorem cfg_eq {x : Int32} {f g : Lg} : ∀ {n : Nat}, Eqp f g n → cfg x f n = cfg x g n := by
  intro n
  induction n with
  | zero => intro _; rfl
  | succ n ih => intro h; rw [cfg_s, cfg_s, h (n + 1) (by omega) (by omega), ih (h.mono (by omega))]
theorem lcp_eq {f g : Lg} : ∀ {n : Nat}, Eqp f g n → lcp f n = lcp g n := by
  intro n
  induction n with
  | zero => intro _; rfl
  | succ n ih => intro h; rw [lcp_s, lcp_s, h (n + 1) (by omega) (by omega), ih (h.mono (by omega))]
theorem lcp_le {f : Lg} : ∀ {n : Nat}, lcp f n ≤ n := by
  intro n
  induction n with
  | zero => exact Nat.le_refl _
  | succ n ih => rw [lcp_s]; split <;> omega
theorem lcp_c {f : Lg} : ∀ {n : Nat}, 1 ≤ lcp f n → isC (f (lcp f n)) := by
  intro n
  induction n with
  | zero => intro h; exact absurd h (by show ¬ 1 ≤ 0; omega)
  | succ n ih =>
    rw [lcp_s]
    split
    · intro _; assumption
    · exact ih
theorem lcp_no {f : Lg} : ∀ {n i : Nat}, lcp f n < i → i ≤ n → ¬ isC (f i) := by
  intro n
  induction n with
  | zero => intro i h1 h2; have h1 : 0 < i := h1; omega
  | succ n ih =>
    intro i
    rw [lcp_s]
    split
    · intro h1 h2; omega
    · rename_i c
      intro h1 h2
      by_cases e : i = n + 1
      · rw [e]; exact c
      · exact ih h1 (by omega)
theorem cfg_down {x : Int32} {f : Lg} {d : Nat} : ∀ {n : Nat}, d ≤ n → lcp f n ≤ d → cfg x f n = cfg x f d := by
  intro n
  induction n with
  | zero =>
    intro h _
    have e : d = 0 := by omega
    rw [e]
  | succ n ih =>
    intro h1 h2
    by_cases e : d = n + 1
    · rw [e]
    · rw [lcp_s] at h2
      rw [cfg_s]
      split at h2
      · omega
      · rename_i c
        rw [if_neg c]
        exact ih (by omega) h2
theorem cfg_lcp {x : Int32} {f : Lg} : ∀ {n : Nat}, 1 ≤ lcp f n → cfg x f n = cfE (f (lcp f n)) := by
  intro n
  induction n with
  | zero => intro h; exact absurd h (by show ¬ 1 ≤ 0; omega)
  | succ n ih =>
    rw [lcp_s, cfg_s]
    split
    · intro _; rfl
    · exact ih
/-! majorities meet -/
def maj1 (x Q : Int32) : Prop := cnt5 x < 2 * cnt5 (Q &&& x)
def maj2 (c : Int32 × Int32) (Q : Int32) : Prop := maj1 c.1 Q ∧ (c.2 = 0 ∨ maj1 c.2 Q)
def w2 (c : Int32 × Int32) : Int32 := if c.2 = 0 then c.1 else c.2
theorem maj_w {c : Int32 × Int32} {Q : Int32} (h : maj2 c Q) : maj1 (w2 c) Q := by
  unfold w2
  split
  · exact h.1
  · rename_i e; exact h.2.elim (fun z => absurd z e) id
def b01 (x : Int32) (k : Nat) : Nat := if x.toBitVec.getLsbD k = true then 1 else 0
theorem b01_1 (x : Int32) {k : Nat} (hk : k < 25) : (x >>> (nI k &&& 31)) &&& 1 = nI (b01 x k) := by
  have h1 : ∀ x : Int32, (x &&& 1) = 0 ∨ (x &&& 1) = 1 := by
    intro x
    rcases Nat.mod_two_eq_zero_or_one x.toBitVec.toNat with z | z
    · left
      refine Int32.toBitVec_inj.mp (BitVec.eq_of_toNat_eq ?_)
      rw [Int32.toBitVec_and, BitVec.toNat_and]
      show x.toBitVec.toNat &&& 1 = 0
      rw [Nat.and_one_is_mod]; exact z
    · right
      refine Int32.toBitVec_inj.mp (BitVec.eq_of_toNat_eq ?_)
      rw [Int32.toBitVec_and, BitVec.toNat_and]
      show x.toBitVec.toNat &&& 1 = 1
      rw [Nat.and_one_is_mod]; exact z
  have hb := bit_lsb (x := x) hk
  unfold b01
  rcases h1 (x >>> (nI k &&& 31)) with z | z
  · rw [z] at hb ⊢
    rw [if_neg (fun q => absurd (hb.mpr q) (by decide))]; rfl
  · rw [z] at hb ⊢
    rw [if_pos (hb.mp rfl)]; rfl
theorem cnt5_n (x : Int32) : cnt5 x = nI (b01 x 0 + b01 x 1 + b01 x 2 + b01 x 3 + b01 x 4) := by
  have e0 := b01_1 x (k := 0) (by decide)
  have e1 := b01_1 x (k := 1) (by decide)
  have e2 := b01_1 x (k := 2) (by decide)
  have e3 := b01_1 x (k := 3) (by decide)
  have e4 := b01_1 x (k := 4) (by decide)
  have f0 : x >>> (nI 0 &&& 31) = x := by
    rw [show nI 0 &&& 31 = 0 from by decide]
    exact Int32.shiftRight_zero
  rw [f0] at e0
  rw [show nI 1 &&& 31 = (1 : Int32) from by decide] at e1
  rw [show nI 2 &&& 31 = (2 : Int32) from by decide] at e2
  rw [show nI 3 &&& 31 = (3 : Int32) from by decide] at e3
  rw [show nI 4 &&& 31 = (4 : Int32) from by decide] at e4
  unfold cnt5
  rw [e0, e1, e2, e3, e4, nI_add, nI_add, nI_add, nI_add]
theorem b01_le (x : Int32) (k : Nat) : b01 x k ≤ 1 := by unfold b01; split <;> omega
theorem b01_and (x y : Int32) (k : Nat) : b01 (x &&& y) k ≤ b01 x k ∧ b01 (x &&& y) k ≤ b01 y k := by
  unfold b01
  rw [Int32.toBitVec_and, BitVec.getLsbD_and]
  cases x.toBitVec.getLsbD k <;> cases y.toBitVec.getLsbD k <;> decide
theorem b01_bit {x : Int32} {k : Nat} (hk : k < 25) (h : 1 ≤ b01 x k) : bit x k := by
  unfold b01 at h
  split at h
  · exact (bit_lsb hk).mpr (by assumption)
  · omega
theorem maj1_n {x Q : Int32} (h : maj1 x Q) : b01 x 0 + b01 x 1 + b01 x 2 + b01 x 3 + b01 x 4 < 2 * (b01 (Q &&& x) 0 + b01 (Q &&& x) 1 + b01 (Q &&& x) 2 + b01 (Q &&& x) 3 + b01 (Q &&& x) 4) := by
  unfold maj1 at h
  have hl := b01_le x
  have hq := b01_le (Q &&& x)
  have a0 := hl 0; have a1 := hl 1; have a2 := hl 2; have a3 := hl 3; have a4 := hl 4
  have c0 := hq 0; have c1 := hq 1; have c2 := hq 2; have c3 := hq 3; have c4 := hq 4
  rw [cnt5_n, cnt5_n, show (2 : Int32) = nI 2 from rfl, pk_mul, nI_ltI (by omega) (by omega)] at h
  exact h
theorem meet {x P Q : Int32} (hP : maj1 x P) (hQ : maj1 x Q) : ∃ t, t < 5 ∧ bit P t ∧ bit Q t := by
  have hp := maj1_n hP
  have hq := maj1_n hQ
  have key : ∀ k, k < 5 → (¬ ∃ t, t < 5 ∧ bit P t ∧ bit Q t) → b01 (P &&& x) k + b01 (Q &&& x) k ≤ b01 x k := by
    intro k hk hn
    obtain ⟨p1, p2⟩ := b01_and P x k
    obtain ⟨q1, q2⟩ := b01_and Q x k
    have l1 := b01_le P k
    have l2 := b01_le Q k
    have l3 := b01_le x k
    rcases Nat.eq_zero_or_pos (b01 (P &&& x) k) with z | z
    · omega
    · rcases Nat.eq_zero_or_pos (b01 (Q &&& x) k) with z2 | z2
      · omega
      · exact absurd ⟨k, hk, b01_bit (by omega) (by omega), b01_bit (by omega) (by omega)⟩ hn
  apply Classical.byContradiction
  intro hn
  have k0 := key 0 (by decide) hn
  have k1 := key 1 (by decide) hn
  have k2 := key 2 (by decide) hn
  have k3 := key 3 (by decide) hn
  have k4 := key 4 (by decide) hn
  omega
/-- a log's set and the one before: what a majority of it holds a majority of -/
theorem maj_near {x : Int32} {f : Lg} {n d : Nat} {Q : Int32} (hd : d ≤ n) (h1 : lcp f (lcp f n - 1) ≤ d) (hc : 1 ≤ lcp f n → (cfE (f (lcp f n))).1 = w2 (cfg x f (lcp f n - 1))) (h : maj2 (cfg x f n) Q) : maj1 (w2 (cfg x f d)) Q := by
  by_cases c : lcp f n ≤ d
  · rw [cfg_down hd c] at h
    exact maj_w h
  · have c1 : 1 ≤ lcp f n := by omega
    rw [cfg_lcp c1] at h
    rw [← cfg_down (n := lcp f n - 1) (by omega) h1, ← hc c1]
    exact h.1
/-! ===== what has been: who led, with what log; who voted; what was taken; what was agreed ===== -/
abbrev Gh : Type := (Nat → Nat) × (Nat → Lg) × (Nat → Nat) × (Nat → Nat) × (Nat → Nat → Nat) × (Nat → Nat → Nat × Lg × Nat) × (Nat → Nat × Nat × Nat × Int32) × Nat × Int32
def gI (H : Gh) : Nat → Nat := H.1
def gL (H : Gh) : Nat → Lg := H.2.1
def gN (H : Gh) : Nat → Nat := H.2.2.1
def gB (H : Gh) : Nat → Nat := H.2.2.2.1
def gK (H : Gh) : Nat → Nat → Nat := H.2.2.2.2.1
def gV (H : Gh) : Nat → Nat → Nat × Lg × Nat := H.2.2.2.2.2.1
def gE (H : Gh) : Nat → Nat × Nat × Nat × Int32 := H.2.2.2.2.2.2.1
def gM (H : Gh) : Nat := H.2.2.2.2.2.2.2.1
def gX (H : Gh) : Int32 := H.2.2.2.2.2.2.2.2
/-- the leader of t has what that of T had up to p -/
def hasP (H : Gh) (T p t : Nat) : Prop := p ≤ gB H t ∧ Eqp (gL H t) (gL H T) p
def LM (H : Gh) (f : Lg) (n : Nat) : Prop := ∀ p, 1 ≤ p → p ≤ n → 1 ≤ gI H (tmE (f p)) ∧ p ≤ gN H (tmE (f p)) ∧ Eqp f (gL H (tmE (f p))) p
def HsA (H : Gh) : Prop := ∀ T, 1 ≤ gI H T → 1 ≤ T ∧ gI H T ≤ 5 ∧ gB H T ≤ gN H T ∧ (∀ p, gB H T < p → p ≤ gN H T → tmE (gL H T p) = T) ∧ ∀ p, 1 ≤ p → p ≤ gB H T → tmE (gL H T p) < T
def HsM (H : Gh) : Prop := ∀ T, 1 ≤ gI H T → LM H (gL H T) (gN H T)
/-- a quorum chose c at T, whose log was (f, n); who had taken something had it still -/
def HsV (H : Gh) : Prop := ∀ T, 1 ≤ gI H T → ∃ Q, maj2 (cfg (gX H) (gL H T) (gB H T)) Q ∧ ∀ v, v < 5 → bit Q v → (gV H T v).1 = gI H T ∧ far (gL H T) (gB H T) (gV H T v).2.1 (gV H T v).2.2 ∧
  ∀ T0, T0 < T → ∀ p, p ≤ gK H T0 v → (∀ t, T0 < t → t < T → 1 ≤ gI H t → hasP H T0 p t) → p ≤ (gV H T v).2.2 ∧ Eqp (gV H T v).2.1 (gL H T0) p
def HsW (H : Gh) : Prop := ∀ T v, 1 ≤ (gV H T v).1 → LM H (gV H T v).2.1 (gV H T v).2.2
def HsK (H : Gh) : Prop := ∀ T v, 1 ≤ (gV H T v).1 → ∀ T0, T0 < T → ∀ p, p ≤ gK H T0 v → (∀ t, T0 < t → t ≤ T → 1 ≤ gI H t → hasP H T0 p t) → p ≤ (gV H T v).2.2 ∧ Eqp (gV H T v).2.1 (gL H T0) p
def HsN (H : Gh) : Prop := ∀ T v, gK H T v ≤ gN H T ∧ (1 ≤ gK H T v → 1 ≤ gI H T)
def HsE (H : Gh) : Prop := ∀ i, i < gM H → 1 ≤ gI H (gE H i).1 ∧ 1 ≤ (gE H i).2.1 ∧ (gE H i).2.1 ≤ (gE H i).2.2.1 ∧ (gE H i).2.2.1 ≤ gN H (gE H i).1 ∧ tmE (gL H (gE H i).1 (gE H i).2.1) = (gE H i).1 ∧
  maj2 (cfg (gX H) (gL H (gE H i).1) (gE H i).2.2.1) (gE H i).2.2.2 ∧ ∀ v, v < 5 → bit (gE H i).2.2.2 v → (gE H i).2.1 ≤ gK H (gE H i).1 v
/-- what was agreed, number i, covers a log up to q -/
def cov (H : Gh) (f : Lg) (q T i : Nat) : Prop := (gE H i).1 ≤ T ∧ q ≤ (gE H i).2.1 ∧ Eqp f (gL H (gE H i).1) q
def HsC (H : Gh) : Prop := ∀ T, 1 ≤ gI H T → ∀ q, 1 ≤ q → q ≤ gN H T → isC (gL H T q) → (cfE (gL H T q)).1 = w2 (cfg (gX H) (gL H T) (q - 1)) ∧ (1 ≤ lcp (gL H T) (q - 1) → ∃ i, i < gM H ∧ cov H (gL H T) (lcp (gL H T) (q - 1)) (tmE (gL H T q)) i)
def HsD (H : Gh) : Prop := ∀ j, j < gM H → ∀ q, 1 ≤ q → q ≤ (gE H j).2.2.1 → isC (gL H (gE H j).1 q) → 1 ≤ lcp (gL H (gE H j).1) (q - 1) → ∃ i, i < j ∧ cov H (gL H (gE H j).1) (lcp (gL H (gE H j).1) (q - 1)) (tmE (gL H (gE H j).1 q)) i
def Hst (H : Gh) : Prop := HsA H ∧ HsM H ∧ HsV H ∧ HsW H ∧ HsK H ∧ HsN H ∧ HsE H ∧ HsC H ∧ HsD H
/-- one that wins in T' -/
def Win (H : Gh) (T' : Nat) (f : Lg) (n c : Nat) : Prop := (∃ Q, maj2 (cfg (gX H) f n) Q ∧ ∀ v, v < 5 → bit Q v → (gV H T' v).1 = c ∧ far f n (gV H T' v).2.1 (gV H T' v).2.2 ∧
  ∀ i, i < gM H → (gE H i).1 < T' → (gE H i).2.1 ≤ gK H (gE H i).1 v → (∀ t, (gE H i).1 < t → t < T' → 1 ≤ gI H t → hasP H (gE H i).1 (gE H i).2.1 t) → (gE H i).2.1 ≤ (gV H T' v).2.2 ∧ Eqp (gV H T' v).2.1 (gL H (gE H i).1) (gE H i).2.1) ∧
  LM H f n ∧ (∀ p, 1 ≤ p → p ≤ n → tmE (f p) < T') ∧ 1 ≤ c
theorem win_ld {H : Gh} (h : Hst H) {T : Nat} (hT : 1 ≤ gI H T) : Win H T (gL H T) (gB H T) (gI H T) := by
  obtain ⟨a, m, v, -⟩ := h
  obtain ⟨Q, q1, q2⟩ := v T hT
  obtain ⟨a1, -, a2, a3, a4⟩ := a T hT
  refine ⟨⟨Q, q1, fun w hw hb => ?_⟩, fun p p1 p2 => m T hT p p1 (by omega), a4, hT⟩
  obtain ⟨r1, r2, r3⟩ := q2 w hw hb
  exact ⟨r1, r2, fun i _ hi hk ht => r3 _ hi _ hk ht⟩
theorem ld_tm {H : Gh} (h : Hst H) {T p : Nat} (hT : 1 ≤ gI H T) (h1 : 1 ≤ p) (h2 : p ≤ gN H T) : tmE (gL H T p) ≤ T := by
  obtain ⟨-, -, a2, a3, a4⟩ := h.1 T hT
  by_cases c : p ≤ gB H T
  · have := a4 p h1 c; omega
  · rw [a3 p (by omega) h2]; omega
theorem LM_mono {H : Gh} (h : Hst H) {f : Lg} {n p q : Nat} (hf : LM H f n) (h1 : 1 ≤ p) (h2 : p ≤ q) (h3 : q ≤ n) : tmE (f p) ≤ tmE (f q) := by
  obtain ⟨l1, l2, l3⟩ := hf q (by omega) h3
  rw [l3 p h1 h2]
  exact ld_tm h l1 h1 (by omega)
/-- what a log of leaders' entries tells of its sets -/
theorem LM_ch {H : Gh} (h : Hst H) {f : Lg} {n q : Nat} (hf : LM H f n) (h1 : 1 ≤ q) (h2 : q ≤ n) (hc : isC (f q)) : (cfE (f q)).1 = w2 (cfg (gX H) f (q - 1)) ∧ (1 ≤ lcp f (q - 1) → ∃ i, i < gM H ∧ cov H f (lcp f (q - 1)) (tmE (f q)) i) := by
  obtain ⟨l1, l2, l3⟩ := hf q h1 h2
  have e : f q = gL H (tmE (f q)) q := l3 q h1 (Nat.le_refl _)
  obtain ⟨c1, c2⟩ := h.2.2.2.2.2.2.2.1 _ l1 q h1 l2 (by rw [← e]; exact hc)
  have l4 : Eqp f (gL H (tmE (f q))) (q - 1) := l3.mono (by omega)
  rw [← lcp_eq l4, ← e] at c2
  rw [← e, ← cfg_eq l4] at c1
  refine ⟨c1, fun z => ?_⟩
  obtain ⟨i, i1, i2, i3, i4⟩ := c2 z
  exact ⟨i, i1, i2, i3, (l3.mono (by have := lcp_le (f := f) (n := q - 1); omega)).trans i4⟩
/-- two logs that are alike up to the places before their last sets -/
theorem two_meet {H : Gh} (h : Hst H) {f g : Lg} {n k : Nat} {P Q : Int32} (hf : LM H f n) (hg : LM H g k) (h1 : lcp f (lcp f n - 1) ≤ k) (h2 : Eqp f g (lcp f (lcp f n - 1))) (h3 : lcp g (lcp g k - 1) ≤ n) (h4 : Eqp f g (lcp g (lcp g k - 1))) (hP : maj2 (cfg (gX H) f n) P) (hQ : maj2 (cfg (gX H) g k) Q) : ∃ t, t < 5 ∧ bit P t ∧ bit Q t := by
  have a1 := lcp_le (f := f) (n := n)
  have a2 := lcp_le (f := f) (n := lcp f n - 1)
  have a3 := lcp_le (f := g) (n := k)
  have a4 := lcp_le (f := g) (n := lcp g k - 1)
  obtain ⟨d, hd⟩ : ∃ d, d = max (lcp f (lcp f n - 1)) (lcp g (lcp g k - 1)) := ⟨_, rfl⟩
  have e : Eqp f g d := by
    rcases Nat.le_total (lcp f (lcp f n - 1)) (lcp g (lcp g k - 1)) with z | z
    · rw [hd, Nat.max_eq_right z]; exact h4
    · rw [hd, Nat.max_eq_left z]; exact h2
  have m1 := maj_near (d := d) (by omega) (by omega) (fun z => (LM_ch h hf z a1 (lcp_c z)).1) hP
  have m2 := maj_near (d := d) (by omega) (by omega) (fun z => (LM_ch h hg z a3 (lcp_c z)).1) hQ
  rw [← cfg_eq e] at m2
  exact meet m1 m2
/-- who wins has all that was agreed in lesser terms -/
theorem LC {H : Gh} (h : Hst H) : ∀ (T' i : Nat), i < gM H → (gE H i).1 < T' → ∀ (f : Lg) (n c : Nat), Win H T' f n c → (gE H i).2.1 ≤ n ∧ Eqp f (gL H (gE H i).1) (gE H i).2.1 := by
  intro T'
  induction T' using Nat.strongRecOn with
  | ind T' ih1 =>
    intro i
    induction i using Nat.strongRecOn with
    | ind i ih2 =>
      intro hi hT f n c hw
      obtain ⟨⟨Q, q1, q2⟩, w1, w2_, w3⟩ := id hw
      obtain ⟨e1, e2, e3, e4, e5, e6, e7⟩ := h.2.2.2.2.2.2.1 i hi
      have mC : LM H (gL H (gE H i).1) (gE H i).2.2.1 := by
        intro r r1 r2
        exact h.2.1 (gE H i).1 e1 r r1 (by omega)
      have ld : ∀ t, (gE H i).1 < t → t < T' → 1 ≤ gI H t → hasP H (gE H i).1 (gE H i).2.1 t := by
        intro t t1 t2 t3
        have := ih1 t t2 i hi t1 _ _ _ (win_ld h t3)
        exact this
      by_cases big : ∃ r, 1 ≤ r ∧ r ≤ n ∧ (gE H i).1 < tmE (f r)
      · obtain ⟨r, r1, r2, r3⟩ := big
        obtain ⟨l1, l2, l3⟩ := w1 r r1 r2
        obtain ⟨b1, b2⟩ := ld _ r3 (w2_ r r1 r2) l1
        obtain ⟨-, -, a2, a3, a4⟩ := h.1 _ l1
        have hr : gB H (tmE (f r)) < r := by
          apply Classical.byContradiction
          intro z
          have := a4 r r1 (by omega)
          rw [← l3 r r1 (Nat.le_refl _)] at this
          omega
        exact ⟨by omega, (l3.mono (by omega)).trans b2⟩
      · have small : ∀ r, 1 ≤ r → r ≤ n → tmE (f r) ≤ (gE H i).1 := fun r r1 r2 => by
          apply Classical.byContradiction
          intro z
          exact big ⟨r, r1, r2, by omega⟩
        have cq := lcp_le (f := gL H (gE H i).1) (n := (gE H i).2.2.1)
        have cq' := lcp_le (f := gL H (gE H i).1) (n := lcp (gL H (gE H i).1) (gE H i).2.2.1 - 1)
        have cr := lcp_le (f := f) (n := n)
        have cr' := lcp_le (f := f) (n := lcp f n - 1)
        have claim1 : lcp (gL H (gE H i).1) (lcp (gL H (gE H i).1) (gE H i).2.2.1 - 1) ≤ n ∧ Eqp f (gL H (gE H i).1) (lcp (gL H (gE H i).1) (lcp (gL H (gE H i).1) (gE H i).2.2.1 - 1)) := by
          rcases Nat.eq_zero_or_pos (lcp (gL H (gE H i).1) (lcp (gL H (gE H i).1) (gE H i).2.2.1 - 1)) with z | z
          · rw [z]; exact ⟨by omega, Eqp.zero⟩
          · have z1 : 1 ≤ lcp (gL H (gE H i).1) (gE H i).2.2.1 := by omega
            have hD' := h.2.2.2.2.2.2.2.2 i hi (lcp (gL H (gE H i).1) (gE H i).2.2.1) z1
            obtain ⟨j, j1, j2, j3, j4⟩ := hD' cq (lcp_c z1) z
            have tq := ld_tm h (T := (gE H i).1) (p := lcp (gL H (gE H i).1) (gE H i).2.2.1) e1 z1 (by omega)
            obtain ⟨k1, k2⟩ := ih2 j j1 (by omega) (by omega) f n c hw
            exact ⟨by omega, (k2.mono j3).trans j4.symm⟩
        have claim2 : lcp f (lcp f n - 1) ≤ gN H (gE H i).1 ∧ Eqp f (gL H (gE H i).1) (lcp f (lcp f n - 1)) := by
          rcases Nat.eq_zero_or_pos (lcp f (lcp f n - 1)) with z | z
          · rw [z]; exact ⟨by omega, Eqp.zero⟩
          · have z1 : 1 ≤ lcp f n := by omega
            obtain ⟨-, ch⟩ := LM_ch h w1 z1 cr (lcp_c z1)
            obtain ⟨j, j1, j2, j3, j4⟩ := ch z
            have tq := small _ z1 cr
            by_cases ce : (gE H j).1 = (gE H i).1
            · obtain ⟨-, -, f3, f4, -⟩ := h.2.2.2.2.2.2.1 j j1
              rw [ce] at j4 f4
              exact ⟨by omega, j4⟩
            · have hTl : 1 ≤ gI H (gE H i).1 := e1
              obtain ⟨k1, k2⟩ := ih1 (gE H i).1 hT j j1 (by omega) _ _ _ (win_ld h hTl)
              have := (h.1 (gE H i).1 hTl).2.2.1
              exact ⟨by omega, j4.trans (k2.mono j3).symm⟩
        by_cases cr2 : (gE H i).2.2.1 < lcp f (lcp f n - 1)
        · exact ⟨by omega, claim2.2.mono (by omega)⟩
        · obtain ⟨v, v1, v2, v3⟩ := two_meet h w1 mC (by omega) claim2.2 claim1.1 claim1.2 q1 e6
          obtain ⟨u1, u2, u3⟩ := q2 v v1 v2
          have u4 := u3 i hi hT
          obtain ⟨u5, u6⟩ := u4 (e7 v v1 v3) ld
          have hW1 : LM H (gV H T' v).2.1 (gV H T' v).2.2 := h.2.2.2.1 T' v (by omega)
          have m1 := LM_mono h hW1 e2 u5 (Nat.le_refl _)
          rw [u6 _ e2 (Nat.le_refl _), e5] at m1
          have hwn : ltm (gV H T' v).2.1 (gV H T' v).2.2 = tmE ((gV H T' v).2.1 (gV H T' v).2.2) := by unfold ltm; rw [if_neg (by omega)]
          have hT1 : 1 ≤ (gE H i).1 := (h.1 _ e1).1
          have hn : n ≠ 0 := by
            intro z
            have : ltm f n = 0 := by unfold ltm; rw [if_pos z]
            unfold far at u2
            omega
          have hfn : ltm f n = tmE (f n) := by unfold ltm; rw [if_neg hn]
          have sm := small n (by omega) (Nat.le_refl _)
          unfold far at u2
          have hk : tmE (f n) = (gE H i).1 := by omega
          have hkn : (gV H T' v).2.2 ≤ n := by omega
          obtain ⟨l1, l2, l3⟩ := w1 n (by omega) (Nat.le_refl _)
          rw [hk] at l3
          exact ⟨by omega, l3.mono (by omega)⟩
/-- at most one wins -/
theorem ES {H : Gh} (h : Hst H) {T' : Nat} {f g : Lg} {n k c c' : Nat} (hf : Win H T' f n c) (hg : Win H T' g k c') : c = c' := by
  have cover : ∀ (f g : Lg) (n k c c' : Nat), Win H T' f n c → Win H T' g k c' → lcp f (lcp f n - 1) ≤ k ∧ Eqp f g (lcp f (lcp f n - 1)) := by
    intro f g n k c c' hf hg
    have cr := lcp_le (f := f) (n := n)
    rcases Nat.eq_zero_or_pos (lcp f (lcp f n - 1)) with z | z
    · rw [z]; exact ⟨by omega, Eqp.zero⟩
    · have z2 := lcp_le (f := f) (n := lcp f n - 1)
      have z1 : 1 ≤ lcp f n := by omega
      obtain ⟨-, ch⟩ := LM_ch h hf.2.1 z1 cr (lcp_c z1)
      obtain ⟨j, j1, j2, j3, j4⟩ := ch z
      have := hf.2.2.1 _ z1 cr
      obtain ⟨k1, k2⟩ := LC h T' j j1 (by omega) g k c' hg
      exact ⟨by omega, j4.trans (k2.mono j3).symm⟩
  obtain ⟨a1, a2⟩ := cover f g n k c c' hf hg
  obtain ⟨b1, b2⟩ := cover g f k n c' c hg hf
  obtain ⟨⟨P, p1, p2⟩, w1, -⟩ := hf
  obtain ⟨⟨Q, q1, q2⟩, w2, -⟩ := hg
  obtain ⟨v, v1, v2, v3⟩ := two_meet h w1 w2 a1 a2 b1 b2.symm p1 q1
  rw [← (p2 v v1 v2).1, ← (q2 v v1 v3).1]
