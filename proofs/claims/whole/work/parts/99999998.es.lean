/-! ===== who could lead: three steps ===== -/
section Cl3
variable {A B g : Rw} {s t f i j : Nat}
theorem heard_post (ht : t < 5) (h : Lc t A B) (hl : rg (A (514 * t + 4)) 0 120) (hk : g 3 = 0 ∨ g 3 = 7) : ∃ CA CB r, qHeard A g t f = qPost CA t f r ∧ qHeard B g t f = qPost CB t f r ∧ (∀ k, 2570 ≤ k → CA k = A k) ∧ ∀ k, 2570 ≤ k → CB k = B k := by
  have e1 := h.at (j := 1) (by omega)
  unfold qHeard
  rcases hk with hk | hk
  · rw [if_pos hk, if_pos hk]
    unfold qAsked
    have eG : gives B t (nI f) (g 2 = B (514 * t + 1)) (g 4) (g 5) ↔ gives A t (nI f) (g 2 = A (514 * t + 1)) (g 4) (g 5) := by
      unfold gives
      rw [Lc_tm ht h hl, h.at (j := 2) (by omega), h.at (j := 4) (by omega), e1]
    by_cases c : gives A t (nI f) (g 2 = A (514 * t + 1)) (g 4) (g 5)
    · rw [if_pos c, if_pos (eG.mpr c), e1]
      exact ⟨_, _, _, rfl, rfl, fun k hk => up_ne (by omega), fun k hk => up_ne (by omega)⟩
    · rw [if_neg c, if_neg (fun q => c (eG.mp q)), e1]
      exact ⟨_, _, _, rfl, rfl, fun k hk => rfl, fun k hk => rfl⟩
  · have n : ∀ v : Int32, ¬ v = 7 → ¬ g 3 = v := fun v hv q => hv (q.symm.trans hk)
    rw [if_neg (n 0 (by decide)), if_neg (n 1 (by decide)), if_neg (n 2 (by decide)), if_neg (n 3 (by decide)), if_neg (n 4 (by decide)), if_neg (n 6 (by decide)), if_pos hk, if_neg (n 0 (by decide)), if_neg (n 1 (by decide)), if_neg (n 2 (by decide)), if_neg (n 3 (by decide)), if_neg (n 4 (by decide)), if_neg (n 6 (by decide)), if_pos hk]
    unfold qWouldBe
    rw [Lc_tm ht h hl, h.at (j := 3) (by omega), h.at (j := 4) (by omega), e1]
    split
    · exact ⟨_, _, _, rfl, rfl, fun k hk => rfl, fun k hk => rfl⟩
    · exact ⟨_, _, _, rfl, rfl, fun k hk => rfl, fun k hk => rfl⟩
theorem post_has {C r : Rw} {w : Nat} (hw : C 4510 = nI w) (hw1 : w ≤ 60) (ho : okS C t f) : (qPost C t f r 4510).toNatClampNeg = w + 1 ∧ Eg r (rowM (qPost C t f r) w) := by
  have w60 : ¬ w = 60 := fun z => ho.2.1 (by rw [hw, z]; rfl)
  unfold qPost
  rw [if_neg ho.1, if_pos ho]
  refine ⟨?_, fun k hk => ?_⟩
  · unfold qPush
    rw [hw, nI_clamp (by omega), if_neg (by omega), if_pos rfl, nI_s1, nI_clamp (by omega)]
  · unfold rowM qPush
    rw [hw, nI_clamp (by omega), if_pos (by omega), show 2570 + 21 * w + k - (2570 + 21 * w) = k by omega]
theorem post_new {C r : Rw} {w k : Nat} (hw : C 4510 = nI w) (hw1 : w ≤ 60) (k1 : w ≤ k) (k2 : k < (qPost C t f r 4510).toNatClampNeg) : k = w ∧ okS C t f := by
  by_cases ho : okS C t f
  · rw [(post_has hw hw1 ho).1] at k2
    exact ⟨by omega, ho⟩
  · exfalso
    unfold qPost at k2
    split at k2
    · rw [hw, nI_clamp (by omega)] at k2; omega
    · rw [up_ne (by omega), hw, nI_clamp (by omega)] at k2; omega
theorem cmA_hi {k : Nat} (ht : t < 5) (h1 : 2570 ≤ k) (h2 : k ≠ 4512) : cmA A i t k = qOut A i k := by
  have hB : cmB A i k = qOut A i k := by unfold cmB; rw [up_ne h2]
  unfold cmA
  split
  · unfold qFollow
    rw [qPlays_out (by omega), up_ne (by omega), up_ne (by omega)]
    exact hB
  · exact hB
theorem out_w {w : Nat} (hw : A 4510 = nI w) (h1 : 1 ≤ w) : qOut A i 4510 = nI (w - 1) := by rw [qOut_w, hw, show (1 : Int32) = nI 1 from rfl, pk_sub (by omega)]
set_option maxHeartbeats 1000000 in
theorem C3 (hs : s < 5) (hG : Gd A) (hw8 : (A 4510).toNatClampNeg ≤ 8) (h : bP s 3 A) : kR s 3 A := by
  have ca := good_cm (Gd_good hG)
  rw [bP_s] at h
  rcases h with c | ⟨t, t1, t3, t4⟩ | ⟨i, i1, i4⟩
  · exact Or.inl c
  · have gB := Gd_step hG (Sp.asks t1 (by rw [canT_eq]; exact t3))
    rw [kR_s]
    exact Or.inr (Or.inl ⟨t, t1, Or.inr (by omega), t3, C2 hs gB t4⟩)
  have gB := Gd_step hG (Sp.comes i1)
  have r2 := C2 hs gB i4
  by_cases nc : canC A i
  · rw [kR_s]
    exact Or.inr (Or.inr ⟨i, i1, by unfold mayH; rw [if_neg (by decide), if_neg (by decide)]; trivial, nc, r2⟩)
  have cb := good_cm (Gd_good gB)
  have gr := fun k (hk : k < (qComes A i 4510).toNatClampNeg) => gone_row ca i1 nc hk
  have all : ∀ s', s' < 5 → Lc s' A (qComes A i) := fun s' hs' => ⟨fun k a b => gone_k ca i1 nc (by omega), fun k a => gone_k ca i1 nc (by omega)⟩
  generalize qComes A i = B at *
  have iA : ∀ w', A 4510 = nI w' → w' < 2 ^ 31 → w' ≤ 8 := fun w' h1 h2 => by rw [h1, nI_clamp h2] at hw8; exact hw8
  rw [kR_s] at r2
  rcases r2 with c | ⟨t, t1, t2, t3, t4⟩ | ⟨j, j1, j2, j3, j4⟩
  · exact Or.inl (by rw [← (all s hs).at (j := 3) (by omega)]; exact c)
  · obtain rfl : t = s := by omega
    have cT := (Lc_canT hs (all t hs) (ca.1 t hs).1.1.2.1).mp t3
    have gA' := Gd_step hG (Sp.asks t1 (by rw [canT_eq]; exact cT))
    have gB' := Gd_step gB (Sp.asks t1 (by rw [canT_eq]; exact t3))
    have ca' := good_cm (Gd_good gA')
    have cb' := good_cm (Gd_good gB')
    rw [kR_s]
    refine Or.inr (Or.inl ⟨t, t1, Or.inl rfl, cT, up12 (back1 hs ca' cb' (Lc_asks hs (all t hs) (suOK_to (ca.1 t hs) cT) (suOK_to (cb.1 t hs) t3)) (fun k k1 k2 k3 => ?_) t4)⟩)
    rcases (asks_in t1 cb cb' t3).1 k k1 with ⟨q, q1, q2⟩ | q
    · obtain ⟨g1, -, g2⟩ := gr q q1
      obtain ⟨k', l1, l2⟩ := (asks_in t1 ca ca' cT).2 _ g1
      exact ⟨k', l1, Eg_tr (Eg_sym l2) (Eg_tr g2 q2)⟩
    · exact absurd k3 q.2
  · obtain ⟨g1, g2, e⟩ := gr j j1
    obtain ⟨t, et, et0, -, et1⟩ := rg_ex (ca.2 _ g1).2.1
    have ht : t < 5 := by omega
    have etB : rowM B j 1 = nI t := (e 1 (by omega)).trans et
    have cA := (canC_of (all t ht) ht e et).mp j3
    have gA' := Gd_step hG (Sp.comes g1)
    have gB' := Gd_step gB (Sp.comes j1)
    have ca' := good_cm (Gd_good gA')
    have cb' := good_cm (Gd_good gB')
    rw [kR_s]
    refine Or.inr (Or.inr ⟨ix i j, g1, by unfold mayH; rw [if_neg (by decide), if_neg (by decide)]; trivial, cA, up12 (back1 hs ca' cb' ?_ (fun k k1 k2 k3 => ?_) j4)⟩)
    · by_cases c : t = s
      · subst c
        exact Lc_comes hs (all t hs) ca cb g1 j1 e et
      · have fa := Fr_comes ca g1
        have fb := Fr_comes cb j1
        rw [show A (2570 + 21 * ix i j + 1) = nI t from et, nI_clamp et0] at fa
        rw [show B (2570 + 21 * j + 1) = nI t from etB, nI_clamp et0] at fb
        exact Lc_tr (Lc_sym (Fr_Lc hs c fa)) (Lc_tr (all s hs) (Fr_Lc hs c fb))
    · rcases (comes_in cb cb' j1 ht etB).1 k k1 with ⟨q, q1, q2, q3⟩ | ⟨q, q4⟩
      · obtain ⟨h1, -, h2⟩ := gr q q1
        have hne : ix i q ≠ ix i j := by unfold ix; split <;> split <;> omega
        obtain ⟨k', l1, l2⟩ := (comes_in ca ca' g1 ht et).2 _ h1 hne
        exact ⟨k', l1, Eg_tr (Eg_sym l2) (Eg_tr h2 q3)⟩
      · obtain ⟨x1, x2⟩ := q.2 k3
        have efB : rowM B j 0 = nI s := x2.symm.trans k2
        have ef : rowM A (ix i j) 0 = nI s := (e 0 (by omega)).symm.trans efB
        have hts : ¬ t = s := fun z => q.1 (by rw [z]; exact k2)
        have cmAk : canCm A s t := by
          unfold canC at cA
          rw [ef, et, nI_clamp (by omega), nI_clamp (by omega)] at cA
          exact cA
        have cmBk : canCm B s t := (Lc_can (all t ht)).mpr cmAk
        have lc := Lc_cmA ht (all t ht) ca cb e
        obtain ⟨CA, CB, r, p1, p2, p3, p4⟩ := heard_post (g := rowM A (ix i j)) (f := s) ht lc (cmA_ok ca g1 ht).1.1.2.1 (by rw [← e 3 (by omega)]; exact x1)
        have eA : qComes A (ix i j) = qPost CA t s r := by
          rw [comes_eq ef hs et ht, if_neg (not_not_intro ((can_out ca ht).mpr cmAk))]
          exact p1
        have eB : qComes B j = qPost CB t s r := by
          rw [comes_eq efB hs etB ht, if_neg (not_not_intro ((can_out cb ht).mpr cmBk)), heard_g e (ca.2 _ g1)]
          exact p2
        obtain ⟨wa, wa1, wa2, -, wa3⟩ := rg_ex (ca.1 0 (by decide)).1.1.1
        obtain ⟨wb, wb1, wb2, -, wb3⟩ := rg_ex (cb.1 0 (by decide)).1.1.1
        have wa8 := iA wa wa1 wa2
        rw [wa1, nI_clamp wa2] at g1
        rw [wb1, nI_clamp wb2] at j1 q4
        have a10 : CA 4510 = nI (wa - 1) := by rw [p3 _ (by omega), cmA_hi ht (by omega) (by omega), out_w wa1 (by omega)]
        have b10 : CB 4510 = nI (wb - 1) := by rw [p4 _ (by omega), cmA_hi ht (by omega) (by omega), out_w wb1 (by omega)]
        have l13 : CB 4513 = CA 4513 := by rw [p3 _ (by omega), p4 _ (by omega)]; exact lc.2 4513 (by omega)
        rw [eB] at k1 ⊢
        obtain ⟨k4, ok⟩ := post_new b10 (by omega) (by omega) k1
        have okA : okS CA t s := ⟨hts, by
          rw [a10]
          intro z
          rw [show (60 : Int32) = nI 60 from rfl, nI_eq (by omega) (by decide)] at z
          omega, by rw [← l13]; exact ok.2.2⟩
        obtain ⟨o1, o2⟩ := post_has (r := r) b10 (by omega) ok
        obtain ⟨v1, v2⟩ := post_has (r := r) a10 (by omega) okA
        rw [eA]
        refine ⟨wa - 1, by omega, ?_⟩
        rw [k4]
        exact Eg_tr (Eg_sym v2) o2
theorem lpC_0 {F : Rw → Int32} : ∀ {m k : Nat}, lpC F A m k = 0 ↔ ∀ q, k ≤ q → q < k + m → (q < (A 4510).toNatClampNeg → F (qComes A q) = 0) ∧ (¬ q < (A 4510).toNatClampNeg → canT A (q - (A 4510).toNatClampNeg) → F (qAsks A (q - (A 4510).toNatClampNeg)) = 0) := by
  intro m
  induction m with
  | zero => intro k; exact ⟨fun _ q q1 q2 => by omega, fun _ => rfl⟩
  | succ m ih =>
    intro k
    have step : (lpC F A m (k + 1) = 0) ↔ ∀ q, k + 1 ≤ q → q < k + (m + 1) → (q < (A 4510).toNatClampNeg → F (qComes A q) = 0) ∧ (¬ q < (A 4510).toNatClampNeg → canT A (q - (A 4510).toNatClampNeg) → F (qAsks A (q - (A 4510).toNatClampNeg)) = 0) := by
      rw [ih]
      exact ⟨fun h q q1 q2 => h q q1 (by omega), fun h q q1 q2 => h q q1 (by omega)⟩
    rw [lpC_s]
    constructor
    · intro h q q1 q2
      have key : lpC F A m (k + 1) = 0 ∧ (k < (A 4510).toNatClampNeg → F (qComes A k) = 0) ∧ (¬ k < (A 4510).toNatClampNeg → canT A (k - (A 4510).toNatClampNeg) → F (qAsks A (k - (A 4510).toNatClampNeg)) = 0) := by
        split at h
        · rename_i c
          split at h
          · rename_i c2; exact ⟨h, fun _ => c2, fun x => absurd c x⟩
          · exact absurd h (by decide)
        · rename_i c
          split at h
          · split at h
            · rename_i c2; exact ⟨h, fun x => absurd x c, fun _ _ => c2⟩
            · exact absurd h (by decide)
          · rename_i c2; exact ⟨h, fun x => absurd x c, fun _ x => absurd x c2⟩
      by_cases e : q = k
      · subst e; exact key.2
      · exact step.mp key.1 q (by omega) q2
    · intro h
      have h1 := step.mpr (fun q q1 q2 => h q (by omega) q2)
      obtain ⟨h2, h3⟩ := h k (by omega) (by omega)
      split
      · rename_i c; rw [if_pos (h2 c)]; exact h1
      · rename_i c
        split
        · rename_i c2; rw [if_pos (h3 c c2)]; exact h1
        · exact h1
theorem bC_P : ∀ (n : Nat) (A : Rw), bC s n A = 0 ↔ ¬ bP s n A := by
  intro n
  induction n with
  | zero =>
    intro A
    show (if A (514 * s + 3) = 2 then (1 : Int32) else 0) = 0 ↔ ¬ A (514 * s + 3) = 2
    split
    · rename_i c; exact ⟨fun z => absurd z (by decide), fun z => absurd c z⟩
    · rename_i c; exact ⟨fun _ => c, fun _ => rfl⟩
  | succ n ih =>
    intro A
    rw [bC_s, bP_s]
    by_cases c : A (514 * s + 3) = 2
    · rw [if_pos c]
      exact ⟨fun z => absurd z (by decide), fun z => absurd (Or.inl c) z⟩
    · rw [if_neg c, lpC_0]
      constructor
      · intro h z
        rcases z with z | ⟨t, t1, t2, t3⟩ | ⟨i, i1, i2⟩
        · exact c z
        · have := (h ((A 4510).toNatClampNeg + t) (by omega) (by omega)).2 (by omega)
          rw [Nat.add_sub_cancel_left] at this
          exact (ih _).mp (this t2) t3
        · exact (ih _).mp ((h i (by omega) (by omega)).1 i1) i2
      · intro z q q1 q2
        refine ⟨fun x => (ih _).mpr (fun y => z (Or.inr (Or.inr ⟨q, x, y⟩))), fun x y => (ih _).mpr (fun w => z (Or.inr (Or.inl ⟨_, by omega, y, w⟩)))⟩
theorem kR_iff (hs : s < 5) {n : Nat} (hn : n ≤ 3) (hG : Gd A) (hw8 : (A 4510).toNatClampNeg ≤ 8) : kR s n A ↔ ¬ bC s n A = 0 := by
  rw [bC_P, Classical.not_not]
  refine ⟨kR_bP, fun h => ?_⟩
  rcases (by omega : n = 0 ∨ n = 1 ∨ n = 2 ∨ n = 3) with rfl | rfl | rfl | rfl
  · exact h
  · exact C1 hs (good_cm (Gd_good hG)) h
  · exact C2 hs hG h
  · exact C3 hs hG hw8 h
end Cl3
