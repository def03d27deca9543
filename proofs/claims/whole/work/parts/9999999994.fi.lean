/-! ===== the law: the tape, scripts ===== -/
theorem b_255 : ∀ k : Fin 32, ¬ k.val < 8 → (Int32.toBitVec 255).getLsbD k.val = false := by decide
theorem b_tw (w : Int32) : (w.toInt8.toInt32.toInt8.toInt32) &&& 255 = w &&& 255 := by
  have e : w.toInt8.toInt32.toInt8 = w.toInt8 := by simp
  rw [e]
  apply Int32.toBitVec_inj.mp
  rw [Int32.toBitVec_and, Int32.toBitVec_and, Int8.toBitVec_toInt32, Int32.toBitVec_toInt8]
  apply BitVec.eq_of_getLsbD_eq
  intro i hi
  rw [BitVec.getLsbD_and, BitVec.getLsbD_and]
  by_cases c : i < 8
  · rw [BitVec.getLsbD_signExtend, BitVec.getLsbD_signExtend, if_pos c, if_pos hi]
    simp [c, hi]
  · rw [b_255 ⟨i, hi⟩ c, Bool.and_false, Bool.and_false]
theorem b_rg (w : Int32) : rg (w.toInt8.toInt32) (-128) 127 := by
  unfold rg
  rw [Int8.toInt_toInt32]
  have h1 := Int8.le_toInt w.toInt8
  have h2 := Int8.toInt_lt w.toInt8
  omega
/-- a byte, as the class lays it -/
def btC (v : Int32) (k : Nat) : Int32 := v >>> (((24 : Int32) - 8 * (nI k - nI k / 4 * 4)) &&& 31) &&& 255
theorem bt_C (v : Int32) (k : Nat) : bt v k &&& 255 = btC v k := b_tw _
theorem bt_rg (v : Int32) (k : Nat) : rg (bt v k) (-128) 127 := b_rg _
theorem sh_k : ∀ k : Fin 20, ((24 : Int32) - 8 * (nI k.val - nI k.val / 4 * 4)) &&& 31 = (if k.val % 4 = 0 then 24 else if k.val % 4 = 1 then 16 else if k.val % 4 = 2 then 8 else 0 : Int32) &&& 31 := by decide +kernel
theorem fdV_k {x y z u v : Int32} : ∀ k : Nat, k < 20 → fdV x y z u v k = if k < 4 then x else if k < 8 then y else if k < 12 then z else if k < 16 then u else v := by
  intro k hk
  have l : ∀ m : Nat, m < 2 ^ 31 → ((nI m ≤ nI k) ↔ m ≤ k) := fun m hm => by rw [nI_leI hm (by omega)]
  have l4 : (4 : Int32) ≤ nI k ↔ 4 ≤ k := l 4 (by decide)
  have l8 : (8 : Int32) ≤ nI k ↔ 8 ≤ k := l 8 (by decide)
  have l12 : (12 : Int32) ≤ nI k ↔ 12 ≤ k := l 12 (by decide)
  have l16 : (16 : Int32) ≤ nI k ↔ 16 ≤ k := l 16 (by decide)
  unfold fdV
  by_cases c1 : k < 4
  · rw [if_pos (fun q => by have := l4.mp q; omega), if_pos c1]
  rw [if_neg (fun q => q (l4.mpr (by omega))), if_neg c1]
  by_cases c2 : k < 8
  · rw [if_pos (fun q => by have := l8.mp q; omega), if_pos c2]
  rw [if_neg (fun q => q (l8.mpr (by omega))), if_neg c2]
  by_cases c3 : k < 12
  · rw [if_pos (fun q => by have := l12.mp q; omega), if_pos c3]
  rw [if_neg (fun q => q (l12.mpr (by omega))), if_neg c3]
  by_cases c4 : k < 16
  · rw [if_pos (fun q => by have := l16.mp q; omega), if_pos c4]
  rw [if_neg (fun q => q (l16.mpr (by omega))), if_neg c4]
/-- what four letters lay -/
theorem ap4_at {f : Rw} {z i : Nat} {v : Int32} : ap4 f z v i = if z ≤ i ∧ i < z + 4 then v >>> ((if (i - z) % 4 = 0 then 24 else if (i - z) % 4 = 1 then 16 else if (i - z) % 4 = 2 then 8 else 0 : Int32) &&& 31) &&& 255 else f i := by
  unfold ap4
  by_cases c : z ≤ i ∧ i < z + 4
  · rw [if_pos c]
    have : i = z ∨ i = z + 1 ∨ i = z + 2 ∨ i = z + 3 := by omega
    rcases this with rfl | rfl | rfl | rfl
    · rw [up_ne (by omega), up_ne (by omega), up_ne (by omega), up_at, Nat.sub_self, if_pos (by omega)]
    · rw [up_ne (by omega), up_ne (by omega), up_at, if_neg (by omega), if_pos (by omega)]
    · rw [up_ne (by omega), up_at, if_neg (by omega), if_neg (by omega), if_pos (by omega)]
    · rw [up_at, if_neg (by omega), if_neg (by omega), if_neg (by omega)]
  · rw [if_neg c, up_ne (by omega), up_ne (by omega), up_ne (by omega), up_ne (by omega)]
theorem apM_ne {μ : Mi} {z : Nat} {v : Int32} {y : Nat} (h1 : y ≠ 856) (h2 : y ≠ 857) : apM μ z v y = μ y := by
  unfold apM
  rw [upI_ne h1, upF_ne h2]
theorem apM_7 {μ : Mi} {z : Nat} {v : Int32} : apM μ z v 857 = ap4 (μ 857) z v := by
  unfold apM
  rw [upI_ne (by omega), upF_same]
theorem apM_6 {μ : Mi} {z : Nat} {v : Int32} {k : Nat} (h : k ≠ 2) : apM μ z v 856 k = μ 856 k := by
  unfold apM
  rw [upI_k h, upF_ne (by omega)]
theorem fdM_ne {μ : Mi} {z : Nat} {a b c d e : Int32} {y : Nat} (h1 : y ≠ 856) (h2 : y ≠ 857) : fdM μ z a b c d e y = μ y := by
  unfold fdM
  rw [apM_ne h1 h2, apM_ne h1 h2, apM_ne h1 h2, apM_ne h1 h2, apM_ne h1 h2]
theorem fdM_6 {μ : Mi} {z : Nat} {a b c d e : Int32} {k : Nat} (h : k ≠ 2) : fdM μ z a b c d e 856 k = μ 856 k := by
  unfold fdM
  rw [apM_6 h, apM_6 h, apM_6 h, apM_6 h, apM_6 h]
theorem fdM_z {μ : Mi} {z : Nat} {a b c d e : Int32} : fdM μ z a b c d e 856 2 = nI (z + 20) := by
  unfold fdM
  rw [apM_2]
theorem fdM_7 {μ : Mi} {z : Nat} {a b c d e : Int32} {i : Nat} : fdM μ z a b c d e 857 i = if z ≤ i ∧ i < z + 20 then btC (fdV a b c d e (i - z)) (i - z) else μ 857 i := by
  unfold fdM
  simp only [apM_7, ap4_at]
  by_cases h : z ≤ i ∧ i < z + 20
  · rw [if_pos h, fdV_k (i - z) (by omega)]
    unfold btC
    rw [sh_k ⟨i - z, by omega⟩]
    by_cases c5 : i < z + 4
    · rw [if_neg (by omega), if_neg (by omega), if_neg (by omega), if_neg (by omega), if_pos (by omega), if_pos (show i - z < 4 by omega)]
    · by_cases c4 : i < z + 8
      · rw [if_neg (by omega), if_neg (by omega), if_neg (by omega), if_pos (by omega), if_neg (show ¬ i - z < 4 by omega), if_pos (show i - z < 8 by omega), show (i - (z + 4)) % 4 = (i - z) % 4 by omega]
      · by_cases c3 : i < z + 12
        · rw [if_neg (by omega), if_neg (by omega), if_pos (by omega), if_neg (show ¬ i - z < 4 by omega), if_neg (show ¬ i - z < 8 by omega), if_pos (show i - z < 12 by omega), show (i - (z + 8)) % 4 = (i - z) % 4 by omega]
        · by_cases c2 : i < z + 16
          · rw [if_neg (by omega), if_pos (by omega), if_neg (show ¬ i - z < 4 by omega), if_neg (show ¬ i - z < 8 by omega), if_neg (show ¬ i - z < 12 by omega), if_pos (show i - z < 16 by omega), show (i - (z + 12)) % 4 = (i - z) % 4 by omega]
          · rw [if_pos (by omega), if_neg (show ¬ i - z < 4 by omega), if_neg (show ¬ i - z < 8 by omega), if_neg (show ¬ i - z < 12 by omega), if_neg (show ¬ i - z < 16 by omega), show (i - (z + 16)) % 4 = (i - z) % 4 by omega]
  · rw [if_neg h, if_neg (by omega), if_neg (by omega), if_neg (by omega), if_neg (by omega), if_neg (by omega)]
/-- fed -/
theorem LI_feed {u z : Nat} {S : Sh} {μ μ2 : Mi} {ρ : Mr} {a b c d e : Int32} (h : LwU u z S μ ρ) (hz : z + 20 ≤ 300) (k : ∀ y, y ≠ 2737 → y ≠ 2745 → μ2 y = fdM μ z a b c d e y) (k1 : μ2 2745 = fdT (μ 2745) z a b c d e 20) (k2 : μ2 2737 14 = nI (z + 20)) (k3 : ∀ f, f ≠ 0 → f ≠ 14 → μ2 2737 f = μ 2737 f) : LwI S μ2 ρ := by
  obtain ⟨ht, hg, hgd, h6, hk, hi, ht2, hf, hw⟩ := h
  have c : ∀ y, y ≠ 2737 → y ≠ 2745 → y ≠ 856 → y ≠ 857 → μ2 y = μ y := fun y a b c d => by rw [k y a b, fdM_ne c d]
  have e38 : μ2 2738 = μ 2738 := c _ (by omega) (by omega) (by omega) (by omega)
  have e39 : μ2 2739 = μ 2739 := c _ (by omega) (by omega) (by omega) (by omega)
  have e1 : μ2 1 = μ 1 := c _ (by omega) (by omega) (by omega) (by omega)
  refine ⟨u, z + 20, ?_, by rw [e38]; exact hg, fun j hj => by rw [e39]; exact hgd j hj, by rw [k3 6 (by omega) (by omega)]; exact h6, hk, fun m hm => Im_keep (hi m hm) hm ?_ (by rw [e1]) (fun i _ => by rw [e38]) (fun y y1 y2 => c y (by omega) (by omega) (by omega) (by omega)) (fun _ _ => rfl), ?_, ?_, ?_⟩
  · rw [e38, e39]
    exact TC_in ht (fun y hy => c y (by omega) (by omega) (by omega) (by omega)) (by rw [e1]) (by rw [e1])
  · rw [c 2743 (by omega) (by omega) (by omega) (by omega)]
  · obtain ⟨t1, t2, t3, t4, t5⟩ := ht2
    refine ⟨k2, ?_, hz, fun i hi => ?_, fun i hi => ?_⟩
    · rw [k 856 (by omega) (by omega), fdM_z]
    · rw [k 857 (by omega) (by omega), fdM_7, k1]
      unfold fdT
      by_cases q : z ≤ i ∧ i < z + 20
      · rw [if_pos q, if_pos q, bt_C]
      · rw [if_neg q, if_neg q]; exact t4 i (by omega)
    · rw [k1]
      unfold fdT
      by_cases q : z ≤ i ∧ i < z + 20
      · rw [if_pos q]; exact bt_rg _ _
      · rw [if_neg q]; exact t5 i (by omega)
  · unfold FtS at *
    rw [k 856 (by omega) (by omega), fdM_6 (by omega), fdM_6 (by omega), e1, k3 17 (by omega) (by omega), k3 18 (by omega) (by omega), k3 19 (by omega) (by omega), k3 20 (by omega) (by omega)]
    exact hf
  · rw [c 2746 (by omega) (by omega) (by omega) (by omega)]; exact hw
/-- only what was thrown is noted -/
theorem LI_0 {u z : Nat} {S : Sh} {μ : Mi} {ρ : Mr} (h : LwU u z S μ ρ) : LwI S (M6 μ) ρ := LI_ask h h.1 KT_rf KR_rf RQ_0
/-- a script could not be read -/
theorem LI_bad {u z : Nat} {S : Sh} {μ μ1 μ2 : Mi} {ρ : Mr} {w wa hc ha : Int32} (h : LwU u z S μ ρ) (t : TC (μ 2738) u (DrR (μ 2739)) S μ1 ρ) (k1 : ∀ y, 2397 ≤ y → μ1 y = μ y) (k2 : μ1 1 = μ 1) (k3 : μ1 856 2 = 0) (k4 : μ1 856 3 = w) (k5 : μ1 856 4 = wa) (k6 : hc = μ 2737 19) (k7 : ha = μ 2737 20)
    (sq : SQ μ1 μ2 (μ 2738) (μ 2739) (μ 2737 6) 0 w wa hc ha) : LwI S μ2 ρ := by
  obtain ⟨-, hg, hgd, h6, hk, hi, ht2, hf, hw⟩ := h
  obtain ⟨q1, q2, q3, q4, q5, q6, q7, q8, q9, q10, q11, q12⟩ := sq
  have c2 : ∀ y, y < 2737 → μ2 y = μ1 y := fun y hy => q1 y (Or.inl hy)
  refine ⟨u, 0, ?_, by rw [q2]; exact hg, fun j hj => by rw [q3]; exact hgd j hj, by rw [q4]; exact h6, hk, fun m hm => Im_keep (hi m hm) hm ?_ (by rw [c2 1 (by omega), k2]) (fun i _ => by rw [q2]) (fun y y1 y2 => by rw [c2 y y2, k1 y y1]) (fun _ _ => rfl), ⟨q8, ?_, by omega, fun i hi => by omega, fun i hi => by omega⟩, ⟨?_, ?_, ?_, ?_⟩, ?_⟩
  · rw [q2, q3]
    exact TC_in t (fun y hy => c2 y (by omega)) (by rw [c2 1 (by omega)]) (by rw [c2 1 (by omega)])
  · rw [q5, k1 2743 (by omega)]
  · rw [c2 856 (by omega)]; exact k3
  · rw [c2 856 (by omega), q9]; exact k4
  · rw [c2 856 (by omega), q10]; exact k5
  · rw [c2 1 (by omega), k2, q11, k6]; exact hf.2.2.1
  · rw [c2 1 (by omega), k2, q12, k7]; exact hf.2.2.2
  · rw [q7, k1 2746 (by omega)]; exact hw
/-- a script was done -/
theorem LI_done {u z : Nat} {S : Sh} {μ μ1 μ2 : Mi} {ρ ρ1 : Mr} {E : Es} {n' : Int32} {D' : Rw} (h : LwU u z S μ ρ) (hs : ScZ (μ 2738) u (DrR (μ 2739)) S μ ρ (un E) μ1 ρ1) (hI : ScI (μ 2738) E)
    (hD : (E.2.1 = 0 ∧ D' = μ 2739 ∧ n' = μ 2737 6) ∨ (¬ E.2.1 = 0 ∧ D' = (pushD (μ 2738) (μ 2739) (μ 2737 6)).1 ∧ n' = (pushD (μ 2738) (μ 2739) (μ 2737 6)).2))
    (sq : SQ μ1 μ2 E.2.2.2.2.2 D' n' 0 0 (-1) E.2.2.1 E.2.2.2.1) : LwI S μ2 ρ1 := by
  have hu := LwU_8 h
  obtain ⟨-, hg, hgd, h6, hk, hi, ht2, hf, hw⟩ := h
  obtain ⟨q1, q2, q3, q4, q5, q6, q7, q8, q9, q10, q11, q12⟩ := sq
  obtain ⟨⟨s1, s2⟩, ⟨s3, s4⟩, ⟨s5, s6⟩, ⟨s7, s8, s9⟩, kr⟩ := hs
  obtain ⟨-, gB, hj⟩ := hI
  have c2 : ∀ y, y < 2737 → μ2 y = μ1 y := fun y hy => q1 y (Or.inl hy)
  have tc : ∀ (u' : Nat) (D' : Nat → Rw), TC E.2.2.2.2.2 u' D' S μ1 ρ1 → TC (μ2 2738) u' D' S μ2 ρ1 := fun u' D' t => by
    rw [q2]
    exact TC_in t (fun y hy => c2 y (by omega)) (by rw [c2 1 (by omega)]) (by rw [c2 1 (by omega)])
  have rest : SkS S ρ1 ∧ (∀ m, m < 2 → ImS S μ2 ρ1 m) ∧ TpZ 0 μ2 ∧ FtS μ2 ∧ wdOK (μ2 2746) := by
    refine ⟨SkS_r hk (fun y hy => kr y (by omega)), fun m hm => Im_keep (hi m hm) hm ?_ ?_ (fun i _ => ?_) (fun y y1 y2 => ?_) (fun y hy => kr y (by omega)), ⟨q8, ?_, by omega, fun i hi => by omega, fun i hi => by omega⟩, ⟨?_, ?_, ?_, ?_⟩, ?_⟩
    · rw [q5, s3 2743 (by omega)]
    · rw [c2 1 (by omega)]; exact s4 8 (by omega) (by omega) (by omega) (by omega)
    · rw [q2]; exact hj _ (by omega)
    · rw [c2 y y2, s3 y y1]
    · rw [c2 856 (by omega)]; exact s7
    · rw [c2 856 (by omega), q9]; exact s8
    · rw [c2 856 (by omega), q10]; exact s9
    · rw [c2 1 (by omega), q11]; exact s5
    · rw [c2 1 (by omega), q12]; exact s6
    · rw [q7, s3 2746 (by omega)]; exact hw
  have gB2 : Gd (μ2 2738) := by rw [q2]; exact gB
  rcases hD with ⟨hv, d1, d2⟩ | ⟨hv, d1, d2⟩
  · rw [d1] at q3
    rw [d2] at q4
    exact ⟨u, 0, tc _ _ (by rw [q3]; exact s1 hv), gB2, fun j hj => by rw [q3]; exact hgd j hj, by rw [q4]; exact h6, rest⟩
  · rw [d1, h6] at q3
    rw [d2, h6] at q4
    obtain ⟨p1, p2⟩ := push_ok (A := μ 2738) (D := μ 2739) hu
    refine ⟨min (u + 1) 8, 0, tc _ _ (TC_lo (s2 hv) (fun _ _ => rfl) (fun j hj k hk => by rw [q3]; exact p2 j hj k hk)), gB2, fun j hj => ?_, by rw [q4]; exact p1, rest⟩
    rw [q3]
    have e := p2 j hj
    have g : Gd (pD (μ 2738) u (DrR (μ 2739)) j) := by
      unfold pD
      by_cases c : u < 8
      · rw [if_pos c]
        by_cases c2 : j = u
        · rw [if_pos c2]; exact hg
        · rw [if_neg c2]; exact hgd j (by omega)
      · rw [if_neg c]
        by_cases c2 : j = 7
        · rw [if_pos c2]; exact hg
        · rw [if_neg c2]; exact hgd (j + 1) (by omega)
    exact Gd_lo g e
/-- what is wrong with a script, as both see it -/
theorem sw_eq {T : Rw} {n : Nat} {E : Es} {t : Rw} (hE : E.1 = 0) : sWr n (pActs T n 0 3 ((0, 0, -1), E)) = cWr n (cActs T n 3 0 ((0, 0, -1), t)) := by
  have e := (pActs_0 (T := T) (n := n) 3 (0, 0, -1) E t 0 hE).1
  unfold sWr cWr
  rw [e]
  split
  · rfl
  · rename_i c
    unfold fl
    rw [if_neg (fun z => c (Or.inl z))]
theorem sw_ok {T : Rw} {n : Nat} {t : Rw} (h : (cWr n (cActs T n 3 0 ((0, 0, -1), t))).1 = 0) : cWr n (cActs T n 3 0 ((0, 0, -1), t)) = (0, -1) := by
  have ok : okw (cActs T n 3 0 ((0, 0, -1), t)).1.1.2 := cActs_ok 3 0 _ (Or.inl rfl)
  unfold cWr at h ⊢
  split
  · rename_i c
    rw [if_pos c] at h
    exact okw_0 ok h
  · rename_i c
    rw [if_neg c] at h
    exact absurd (show (1 : Int32) = 0 from h) (by decide)
