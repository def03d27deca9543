/-! ===== the law: what holds between the class and the reference ===== -/
theorem RR_lo {A A' : Rw} {w : Nat} {S : Sh} {μ : Mi} {ρ : Mr} (h : RR A w S μ ρ) (hA : ∀ k, k < 4516 → A' k = A k) : RR A' w S μ ρ := by
  obtain ⟨⟨h1, h2, h3, h4, h5⟩, h6⟩ := h
  have e10 := hA 4510 (by omega)
  refine ⟨⟨h1, fun s hs => St_congr hs (h2 s hs) (fun i _ i2 => hA i (by omega)) (hA 4514 (by omega)) (fun _ _ _ => rfl), ⟨?_, ?_, fun i hi => ?_⟩, ⟨fun p p1 p2 => ?_, fun t t1 t2 => ?_⟩, ?_⟩, fun s hs hr t ht => ?_⟩
  · rw [e10, hA 4511 (by omega), hA 4512 (by omega), hA 4513 (by omega)]; exact h3.1
  · rw [e10, hA 4513 (by omega)]; exact h3.2.1
  · rw [e10] at hi
    obtain ⟨n, e1, e2, -, e3⟩ := rg_ex h3.2.1.1
    have hi' := hi
    rw [e1, nI_clamp e2] at hi'
    exact MsR_congr (h3.2.2 i hi) (fun k hk => hA _ (by omega)) (hA _ (by omega)) rfl rfl
  · have := h4.1 p p1 p2
    rcases this with z | z
    · exact Or.inl ⟨z.1, by rw [hA _ (by omega)]; exact z.2⟩
    · exact Or.inr (enR_congr z (hA _ (by omega)) (hA _ (by omega)) (hA _ (by omega)) (hA _ (by omega)))
  · rw [hA _ (by omega)]; exact h4.2 t t1 t2
  · unfold Wd at *
    rw [hA 4514 (by omega), hA 4515 (by omega)]; exact h5
  · rw [hA _ (by omega)] at hr
    rw [hA _ (by omega), hA _ (by omega)]
    exact h6 s hs hr t ht
theorem Gd_lo {A A' : Rw} (h : Gd A) (hA : ∀ k, k < 4516 → A' k = A k) : Gd A' := Gd_step h (Sp.same hA)
theorem TC_lo {A A' : Rw} {u : Nat} {D D' : Nat → Rw} {S : Sh} {μ : Mi} {ρ : Mr} (h : TC A u D S μ ρ) (hA : ∀ k, k < 4516 → A' k = A k) (hD : ∀ j, j < u → ∀ k, k < 4516 → D' j k = D j k) : TC A' u D' S μ ρ := by
  obtain ⟨hT, hR, sp, e6, hsp, e7, hu, hP⟩ := h
  exact ⟨hT, RR_lo hR hA, sp, e6, hsp, e7, hu, fun j hj => RR_lo (hP j hj) (hD j hj)⟩
/-- what can be undone, out of the reference's row -/
def DrR (D : Rw) : Nat → Rw := fun j i => D (4516 * j + i)
theorem push_ok {A D : Rw} {u : Nat} (hu : u ≤ 8) : (pushD A D (nI u)).2 = nI (min (u + 1) 8) ∧ ∀ j, j < min (u + 1) 8 → ∀ i, i < 4516 → DrR (pushD A D (nI u)).1 j i = pD A u (DrR D) j i := by
  unfold pushD
  by_cases c : u = 8
  · subst c
    rw [if_pos (show nI 8 = 8 from rfl)]
    refine ⟨rfl, fun j hj i hi => ?_⟩
    show cpF A (cpF D D 4516 0 31612) 0 31612 4516 (4516 * j + i) = (if (8 : Nat) < 8 then (if j = 8 then A else DrR D j) else (if j = 7 then A else DrR D (j + 1))) i
    rw [if_neg (show ¬ (8 : Nat) < 8 by omega)]
    unfold cpF
    by_cases c2 : j = 7
    · rw [if_pos (show 31612 ≤ 4516 * j + i ∧ 4516 * j + i < 31612 + 4516 by omega), if_pos c2, show 0 + (4516 * j + i - 31612) = i by omega]
    · rw [if_neg (show ¬ (31612 ≤ 4516 * j + i ∧ 4516 * j + i < 31612 + 4516) by omega), if_pos (show 0 ≤ 4516 * j + i ∧ 4516 * j + i < 0 + 31612 by omega), if_neg c2, show 4516 + (4516 * j + i - 0) = 4516 * (j + 1) + i by omega]
      rfl
  · have hne : ¬ nI u = 8 := by
      rw [show (8 : Int32) = nI 8 from rfl, nI_eq (by omega) (by decide)]
      exact c
    rw [if_neg hne, nI_clamp (by omega)]
    refine ⟨?_, fun j hj i hi => ?_⟩
    · show nI u + 1 = _
      rw [nI_s1, show min (u + 1) 8 = u + 1 by omega]
    · unfold DrR pD cpF
      dsimp only
      rw [if_pos (show u < 8 by omega)]
      by_cases c2 : j = u
      · subst c2
        rw [if_pos rfl, if_pos (by omega)]
        congr 1
        omega
      · rw [if_neg c2, if_neg (by omega)]
/-- the image by a number: both have it, or neither -/
def ImS (S : Sh) (μ : Mi) (ρ : Mr) (m : Nat) : Prop := (μ 2743 m = 0 ∧ ¬ (μ 1 8 >>> (nI m &&& 31)) &&& 1 = 1) ∨ (¬ μ 2743 m = 0 ∧ (μ 1 8 >>> (nI m &&& 31)) &&& 1 = 1 ∧ RR (DrR (μ 2738) (m + 1)) (2397 + 170 * m) S μ ρ ∧ Gd (DrR (μ 2738) (m + 1)))
def SkS (S : Sh) (ρ : Mr) : Prop := RS S ρ ∧ TpS S ρ ∧ PgS S ρ
def TpZ (z : Nat) (μ : Mi) : Prop := μ 2737 14 = nI z ∧ μ 856 2 = nI z ∧ z ≤ 300 ∧ (∀ i, i < z → μ 857 i = μ 2745 i &&& 255) ∧ byT (μ 2745) z
def FtS (μ : Mi) : Prop := μ 856 3 = μ 2737 17 ∧ μ 856 4 = μ 2737 18 ∧ μ 1 9 = μ 2737 19 ∧ μ 1 10 = μ 2737 20
def LwU (u z : Nat) (S : Sh) (μ : Mi) (ρ : Mr) : Prop := TC (μ 2738) u (DrR (μ 2739)) S μ ρ ∧ Gd (μ 2738) ∧ (∀ j, j < u → Gd (DrR (μ 2739) j)) ∧ μ 2737 6 = nI u ∧ SkS S ρ ∧ (∀ m, m < 2 → ImS S μ ρ m) ∧ TpZ z μ ∧ FtS μ ∧ wdOK (μ 2746)
def LwI (S : Sh) (μ : Mi) (ρ : Mr) : Prop := ∃ u z, LwU u z S μ ρ
theorem SkS_r {S : Sh} {ρ ρ' : Mr} (h : SkS S ρ) (r : ∀ y, (856 ≤ y ∧ y < 867) ∨ 2397 ≤ y → ρ' y = ρ y) : SkS S ρ' := by
  obtain ⟨h1, h2, h3⟩ := h
  refine ⟨?_, ?_, ?_⟩
  · unfold RS at *
    rw [r 2737 (by omega)]; exact h1
  · unfold TpS at *
    rw [r 856 (by omega)]; exact h2
  · unfold PgS at *
    rw [r 859 (by omega)]; exact h3
/-- an image stays -/
theorem Im_keep {S : Sh} {μ μ' : Mi} {ρ ρ' : Mr} {m : Nat} (h : ImS S μ ρ m) (hm : m < 2) (h3 : μ' 2743 m = μ 2743 m) (h8 : μ' 1 8 = μ 1 8) (hr : ∀ i, i < 4516 → μ' 2738 (4516 * (m + 1) + i) = μ 2738 (4516 * (m + 1) + i)) (hμ : ∀ y, 2397 ≤ y → y < 2737 → μ' y = μ y) (hρ : ∀ y, 2397 ≤ y → ρ' y = ρ y) : ImS S μ' ρ' m := by
  unfold ImS at *
  rw [h3, h8]
  rcases h with h | ⟨a, b, c, d⟩
  · exact Or.inl h
  · exact Or.inr ⟨a, b, RR_lo (RR_blk c (fun _ _ _ => rfl) (fun y y1 y2 => hμ y (by omega) (by omega)) (fun y y1 y2 => hρ y (by omega))) hr, Gd_lo d hr⟩
theorem LwU_8 {u z : Nat} {S : Sh} {μ : Mi} {ρ : Mr} (h : LwU u z S μ ρ) : u ≤ 8 := by
  obtain ⟨⟨-, -, sp, -, -, -, hu, -⟩, -⟩ := h
  exact hu
theorem LU_rg {u z : Nat} {S : Sh} {μ : Mi} {ρ : Mr} (h : LwU u z S μ ρ) : rg (μ 2737 6) 0 8 := by
  have := LwU_8 h
  rw [h.2.2.2.1, rg_nI (by omega)]
  omega
/-- the class has acted, then the reference -/
theorem LI_act {u z : Nat} {S : Sh} {μ μ1 μ2 : Mi} {ρ ρ1 : Mr} {v : Int32} {B : Rw} (h : LwU u z S μ ρ) (hB : Gd B) (hj : Hj (μ 2738) B) (ht : TP v (μ 2738) B u (DrR (μ 2739)) S μ1 ρ1) (kt : KT μ μ1) (kr : KR ρ ρ1)
    (rq : RQ μ1 μ2 B (if v < 0 then μ 2739 else (pushD (μ 2738) (μ 2739) (μ 2737 6)).1) (if v < 0 then μ 2737 6 else (pushD (μ 2738) (μ 2739) (μ 2737 6)).2)) : LwI S μ2 ρ1 := by
  have hu := LwU_8 h
  obtain ⟨-, hg, hgd, h6, hk, hi, ht2, hf, hw⟩ := h
  obtain ⟨q1, q2, q3, q4, q5, q6, q7, q8⟩ := rq
  have c1 : ∀ y, 2397 ≤ y → μ1 y = μ y := fun y hy => kt.1 y (Or.inr hy)
  have c2 : ∀ y, y < 2737 → μ2 y = μ1 y := fun y hy => q1 y (Or.inl hy)
  have c3 : ∀ f, 14 ≤ f → f ≤ 20 → f ≠ 15 → f ≠ 16 → μ2 2737 f = μ 2737 f := fun f a b c d => by rw [q8 f a b c d, c1 2737 (by omega)]
  have c4 : ∀ y, 856 ≤ y → y < 867 → μ2 y = μ y := fun y a b => by rw [c2 y (by omega)]; exact kt.1 y (Or.inl ⟨a, b⟩)
  have c5 : ∀ i, i ≠ 6 → i ≠ 7 → μ2 1 i = μ 1 i := fun i a b => by rw [c2 1 (by omega)]; exact kt.2 i a b
  have tc : ∀ (u' : Nat) (D' : Nat → Rw), TC B u' D' S μ1 ρ1 → TC (μ2 2738) u' D' S μ2 ρ1 := fun u' D' t => by
    rw [q2]
    exact TC_in t (fun y hy => c2 y (by omega)) (by rw [c2 1 (by omega)]) (by rw [c2 1 (by omega)])
  have rest : SkS S ρ1 ∧ (∀ m, m < 2 → ImS S μ2 ρ1 m) ∧ TpZ z μ2 ∧ FtS μ2 ∧ wdOK (μ2 2746) := by
    refine ⟨SkS_r hk (fun y hy => kr y (by omega)), fun m hm => Im_keep (hi m hm) hm ?_ (c5 8 (by omega) (by omega)) (fun i _ => ?_) (fun y y1 y2 => ?_) (fun y hy => kr y (by omega)), ?_, ?_, ?_⟩
    · rw [q5, c1 2743 (by omega)]
    · rw [q2]; exact hj _ (by omega)
    · rw [c2 y y2, c1 y y1]
    · unfold TpZ at *
      rw [c3 14 (by omega) (by omega) (by omega) (by omega), c4 856 (by omega) (by omega), c4 857 (by omega) (by omega), q6, c1 2745 (by omega)]
      exact ht2
    · unfold FtS at *
      rw [c3 17 (by omega) (by omega) (by omega) (by omega), c3 18 (by omega) (by omega) (by omega) (by omega), c3 19 (by omega) (by omega) (by omega) (by omega), c3 20 (by omega) (by omega) (by omega) (by omega), c4 856 (by omega) (by omega), c5 9 (by omega) (by omega), c5 10 (by omega) (by omega)]
      exact hf
    · rw [q7, c1 2746 (by omega)]; exact hw
  have gB : Gd (μ2 2738) := by rw [q2]; exact hB
  rcases ht with ⟨hv, t⟩ | ⟨hv, t⟩
  · rw [if_pos hv] at q3 q4
    exact ⟨u, z, tc _ _ (by rw [q3]; exact t), gB, fun j hj => by rw [q3]; exact hgd j hj, by rw [q4]; exact h6, rest⟩
  · rw [if_neg hv, h6] at q3 q4
    obtain ⟨p1, p2⟩ := push_ok (A := μ 2738) (D := μ 2739) hu
    refine ⟨min (u + 1) 8, z, tc _ _ (TC_lo t (fun _ _ => rfl) (fun j hj k hk => by rw [q3]; exact p2 j hj k hk)), gB, fun j hj => ?_, by rw [q4]; exact p1, rest⟩
    rw [q3]
    have e := p2 j hj
    have g : Gd (pD (μ 2738) u (DrR (μ 2739)) j) := by
      unfold pD
      by_cases c : u < 8
      · rw [if_pos c]
        by_cases c2 : j = u
        · rw [if_pos c2]; exact hg
        · rw [if_neg c2]; exact hgd j (by omega)
      · rw [if_neg c]
        by_cases c2 : j = 7
        · rw [if_pos c2]; exact hg
        · rw [if_neg c2]; exact hgd (j + 1) (by omega)
    exact Gd_lo g e
/-- both were asked -/
theorem LI_ask {u z : Nat} {S : Sh} {μ μ1 μ2 : Mi} {ρ ρ1 : Mr} (h : LwU u z S μ ρ) (t : TC (μ 2738) u (DrR (μ 2739)) S μ1 ρ1) (kt : KT μ μ1) (kr : KR ρ ρ1) (rq : RQ μ1 μ2 (μ1 2738) (μ1 2739) (μ1 2737 6)) : LwI S μ2 ρ1 := by
  have c1 : ∀ y, 2397 ≤ y → μ1 y = μ y := fun y hy => kt.1 y (Or.inr hy)
  rw [c1 2737 (by omega), c1 2738 (by omega), c1 2739 (by omega)] at rq
  exact LI_act (v := -1) h h.2.1 Hj.rf (Or.inl ⟨by decide, t⟩) kt kr (by rw [if_pos (by decide), if_pos (by decide)]; exact rq)
theorem KT_rf {μ : Mi} : KT μ μ := ⟨fun _ _ => rfl, fun _ _ _ => rfl⟩
theorem KR_rf {ρ : Mr} : KR ρ ρ := fun _ _ => rfl
theorem KT_KP {μ μ' : Mi} (h : KP μ μ') : KT μ μ' := ⟨fun y hy => h y (by omega), fun i _ _ => by rw [h 1 (by omega)]⟩
theorem KR_KP {ρ ρ' : Mr} (h : KPr ρ ρ') : KR ρ ρ' := fun y hy => h y (by omega)
/-- undone -/
theorem LI_undo {u z m : Nat} {S : Sh} {μ μ1 μ2 : Mi} {ρ : Mr} (h : LwU u z S μ ρ) (h1 : 1 ≤ m) (hm : m ≤ u) (t : TC (DrR (μ 2739) (u - m)) (u - m) (DrR (μ 2739)) S μ1 ρ) (kt : KT μ μ1) (rq : RQ μ1 μ2 (cpF (μ 2739) (μ 2738) (4516 * (u - m)) 0 4516) (μ 2739) (nI (u - m))) : LwI S μ2 ρ := by
  obtain ⟨-, hg, hgd, h6, hk, hi, ht2, hf, hw⟩ := h
  obtain ⟨q1, q2, q3, q4, q5, q6, q7, q8⟩ := rq
  have c1 : ∀ y, 2397 ≤ y → μ1 y = μ y := fun y hy => kt.1 y (Or.inr hy)
  have c2 : ∀ y, y < 2737 → μ2 y = μ1 y := fun y hy => q1 y (Or.inl hy)
  have c3 : ∀ f, 14 ≤ f → f ≤ 20 → f ≠ 15 → f ≠ 16 → μ2 2737 f = μ 2737 f := fun f a b c d => by rw [q8 f a b c d, c1 2737 (by omega)]
  have c4 : ∀ y, 856 ≤ y → y < 867 → μ2 y = μ y := fun y a b => by rw [c2 y (by omega)]; exact kt.1 y (Or.inl ⟨a, b⟩)
  have c5 : ∀ i, i ≠ 6 → i ≠ 7 → μ2 1 i = μ 1 i := fun i a b => by rw [c2 1 (by omega)]; exact kt.2 i a b
  have lo : ∀ k, k < 4516 → μ2 2738 k = DrR (μ 2739) (u - m) k := fun k hk => by
    rw [q2]
    unfold cpF DrR
    rw [if_pos (by omega)]
    rfl
  have hi2 : ∀ k, 4516 ≤ k → μ2 2738 k = μ 2738 k := fun k hk => by
    rw [q2]
    unfold cpF
    rw [if_neg (by omega)]
  refine ⟨u - m, z, TC_lo (TC_in t (fun y hy => c2 y (by omega)) (by rw [c2 1 (by omega)]) (by rw [c2 1 (by omega)])) lo (fun j hj k hk => by rw [q3]), Gd_lo (hgd (u - m) (by omega)) lo, fun j hj => by rw [q3]; exact hgd j (by omega), q4, hk, fun m hm => Im_keep (hi m hm) hm ?_ (c5 8 (by omega) (by omega)) (fun i _ => hi2 _ (by omega)) (fun y y1 y2 => ?_) (fun _ _ => rfl), ?_, ?_, ?_⟩
  · rw [q5, c1 2743 (by omega)]
  · rw [c2 y y2, c1 y y1]
  · unfold TpZ at *
    rw [c3 14 (by omega) (by omega) (by omega) (by omega), c4 856 (by omega) (by omega), c4 857 (by omega) (by omega), q6, c1 2745 (by omega)]
    exact ht2
  · unfold FtS at *
    rw [c3 17 (by omega) (by omega) (by omega) (by omega), c3 18 (by omega) (by omega) (by omega) (by omega), c3 19 (by omega) (by omega) (by omega) (by omega), c3 20 (by omega) (by omega) (by omega) (by omega), c4 856 (by omega) (by omega), c5 9 (by omega) (by omega), c5 10 (by omega) (by omega)]
    exact hf
  · rw [q7, c1 2746 (by omega)]; exact hw
/-- restored -/
theorem LI_restore {u z m : Nat} {S : Sh} {μ μ1 μ2 : Mi} {ρ : Mr} (h : LwU u z S μ ρ) (hm : m < 2) (hG : Gd (DrR (μ 2738) (m + 1))) {D : Nat → Rw} (t : TC (DrR (μ 2738) (m + 1)) 0 D S μ1 ρ) (kt : KT μ μ1) (rq : RQ μ1 μ2 (cpF (μ 2738) (μ 2738) (4516 * (m + 1)) 0 4516) (μ 2739) 0) : LwI S μ2 ρ := by
  obtain ⟨-, hg, hgd, h6, hk, hi, ht2, hf, hw⟩ := h
  obtain ⟨q1, q2, q3, q4, q5, q6, q7, q8⟩ := rq
  have c1 : ∀ y, 2397 ≤ y → μ1 y = μ y := fun y hy => kt.1 y (Or.inr hy)
  have c2 : ∀ y, y < 2737 → μ2 y = μ1 y := fun y hy => q1 y (Or.inl hy)
  have c3 : ∀ f, 14 ≤ f → f ≤ 20 → f ≠ 15 → f ≠ 16 → μ2 2737 f = μ 2737 f := fun f a b c d => by rw [q8 f a b c d, c1 2737 (by omega)]
  have c4 : ∀ y, 856 ≤ y → y < 867 → μ2 y = μ y := fun y a b => by rw [c2 y (by omega)]; exact kt.1 y (Or.inl ⟨a, b⟩)
  have c5 : ∀ i, i ≠ 6 → i ≠ 7 → μ2 1 i = μ 1 i := fun i a b => by rw [c2 1 (by omega)]; exact kt.2 i a b
  have lo : ∀ k, k < 4516 → μ2 2738 k = DrR (μ 2738) (m + 1) k := fun k hk => by
    rw [q2]
    unfold cpF DrR
    rw [if_pos (by omega)]
    rfl
  have hi2 : ∀ k, 4516 ≤ k → μ2 2738 k = μ 2738 k := fun k hk => by
    rw [q2]
    unfold cpF
    rw [if_neg (by omega)]
  refine ⟨0, z, TC_lo (TC_in t (fun y hy => c2 y (by omega)) (by rw [c2 1 (by omega)]) (by rw [c2 1 (by omega)])) lo (fun j hj => by omega), Gd_lo hG lo, fun j hj => by omega, q4, hk, fun m hm => Im_keep (hi m hm) hm ?_ (c5 8 (by omega) (by omega)) (fun i _ => hi2 _ (by omega)) (fun y y1 y2 => ?_) (fun _ _ => rfl), ?_, ?_, ?_⟩
  · rw [q5, c1 2743 (by omega)]
  · rw [c2 y y2, c1 y y1]
  · unfold TpZ at *
    rw [c3 14 (by omega) (by omega) (by omega) (by omega), c4 856 (by omega) (by omega), c4 857 (by omega) (by omega), q6, c1 2745 (by omega)]
    exact ht2
  · unfold FtS at *
    rw [c3 17 (by omega) (by omega) (by omega) (by omega), c3 18 (by omega) (by omega) (by omega) (by omega), c3 19 (by omega) (by omega) (by omega) (by omega), c3 20 (by omega) (by omega) (by omega) (by omega), c4 856 (by omega) (by omega), c5 9 (by omega) (by omega), c5 10 (by omega) (by omega)]
    exact hf
  · rw [q7, c1 2746 (by omega)]; exact hw
theorem b8_same {x : Int32} {m : Nat} (hm : m < 2) : (x ||| (1 : Int32) <<< (nI m &&& 31)) >>> (nI m &&& 31) &&& 1 = 1 := (bit_or (x := x) (y := (1 : Int32) <<< (nI m &&& 31)) (v := m) (by omega)).mpr (Or.inr ((bit_sh (by omega) (by omega)).mpr rfl))
theorem b8_other {x : Int32} {m k : Nat} (hm : m < 2) (hk : k < 2) (h : k ≠ m) : ((x ||| (1 : Int32) <<< (nI m &&& 31)) >>> (nI k &&& 31) &&& 1 = 1) ↔ (x >>> (nI k &&& 31) &&& 1 = 1) := by
  have e := bit_or (x := x) (y := (1 : Int32) <<< (nI m &&& 31)) (v := k) (by omega)
  rw [bit_sh (by omega) (by omega)] at e
  exact e.trans ⟨fun z => z.elim id (fun q => absurd q h), Or.inl⟩
/-- an image is made -/
theorem LI_image {u z m : Nat} {S : Sh} {μ μ1 μ2 : Mi} {ρ : Mr} (h : LwU u z S μ ρ) (hm : m < 2) (t : TC (μ 2738) u (DrR (μ 2739)) S μ1 ρ) (r : RR (μ 2738) (2397 + 170 * m) S μ1 ρ) (h8 : μ1 1 8 = μ 1 8 ||| (1 : Int32) <<< (nI m &&& 31)) (k1 : ∀ i, i ≠ 8 → μ1 1 i = μ 1 i) (k2 : ∀ y : Nat, y ≠ 1 → (y < 2397 + 170 * m ∨ 2397 + 170 * m + 170 ≤ y) → μ1 y = μ y)
    (rq : RQ (upI μ1 2743 m 1) μ2 (cpF (μ 2738) (μ 2738) 0 (4516 * (m + 1)) 4516) (μ 2739) (μ 2737 6)) : LwI S μ2 ρ := by
  obtain ⟨-, hg, hgd, h6, hk, hi, ht2, hf, hw⟩ := h
  obtain ⟨q1, q2, q3, q4, q5, q6, q7, q8⟩ := rq
  have c0 : ∀ y, 2737 ≤ y → μ1 y = μ y := fun y hy => k2 y (by omega) (by omega)
  have c2 : ∀ y, y < 2737 → μ2 y = μ1 y := fun y hy => by rw [q1 y (Or.inl hy), upI_ne (by omega)]
  have c3 : ∀ f, 14 ≤ f → f ≤ 20 → f ≠ 15 → f ≠ 16 → μ2 2737 f = μ 2737 f := fun f a b c d => by rw [q8 f a b c d, upI_ne (by omega), c0 2737 (by omega)]
  have c4 : ∀ y, 856 ≤ y → y < 867 → μ2 y = μ y := fun y a b => by rw [c2 y (by omega)]; exact k2 y (by omega) (by omega)
  have c5 : ∀ i, i ≠ 8 → μ2 1 i = μ 1 i := fun i a => by rw [c2 1 (by omega)]; exact k1 i a
  have lo : ∀ k, k < 4516 → μ2 2738 k = μ 2738 k := fun k hk => by
    rw [q2]
    unfold cpF
    rw [if_neg (by omega)]
  have e8 : μ2 1 8 = μ 1 8 ||| (1 : Int32) <<< (nI m &&& 31) := by rw [c2 1 (by omega)]; exact h8
  refine ⟨u, z, TC_lo (TC_in t (fun y hy => c2 y (by omega)) (by rw [c2 1 (by omega)]) (by rw [c2 1 (by omega)])) lo (fun j hj k hk => by rw [q3]), Gd_lo hg lo, fun j hj => by rw [q3]; exact hgd j hj, by rw [q4]; exact h6, hk, fun k hk2 => ?_, ?_, ?_, ?_⟩
  · by_cases c : k = m
    · subst c
      have lo2 : ∀ i, i < 4516 → DrR (μ2 2738) (k + 1) i = μ 2738 i := fun i hi => by
        unfold DrR
        rw [q2]
        unfold cpF
        rw [if_pos (by omega), show 0 + (4516 * (k + 1) + i - 4516 * (k + 1)) = i by omega]
      refine Or.inr ⟨?_, by rw [e8]; exact b8_same hm, RR_lo (RR_in r (fun y y1 y2 => c2 y (by omega))) lo2, Gd_lo hg lo2⟩
      rw [q5, upI_at]
      decide
    · have e1 : μ2 2743 k = μ 2743 k := by rw [q5, upI_k c, c0 2743 (by omega)]
      have lo3 : ∀ i, i < 4516 → DrR (μ2 2738) (k + 1) i = DrR (μ 2738) (k + 1) i := fun i hi => by
        unfold DrR
        rw [q2]
        unfold cpF
        rw [if_neg (by omega)]
      have e2 := b8_other (x := μ 1 8) hm hk2 c
      rcases hi k hk2 with ⟨a1, a2⟩ | ⟨a1, a2, a3, a4⟩
      · exact Or.inl ⟨e1.trans a1, by rw [e8]; exact fun q => a2 (e2.mp q)⟩
      · refine Or.inr ⟨by rw [e1]; exact a1, by rw [e8]; exact e2.mpr a2, RR_lo (RR_in a3 (fun y y1 y2 => ?_)) lo3, Gd_lo a4 lo3⟩
        rw [c2 y (by omega)]
        exact k2 y (by omega) (by omega)
  · unfold TpZ at *
    rw [c3 14 (by omega) (by omega) (by omega) (by omega), c4 856 (by omega) (by omega), c4 857 (by omega) (by omega), q6, upI_ne (by omega), c0 2745 (by omega)]
    exact ht2
  · unfold FtS at *
    rw [c3 17 (by omega) (by omega) (by omega) (by omega), c3 18 (by omega) (by omega) (by omega) (by omega), c3 19 (by omega) (by omega) (by omega) (by omega), c3 20 (by omega) (by omega) (by omega) (by omega), c4 856 (by omega) (by omega), c5 9 (by omega), c5 10 (by omega)]
    exact hf
  · rw [q7, upI_ne (by omega), c0 2746 (by omega)]; exact hw
