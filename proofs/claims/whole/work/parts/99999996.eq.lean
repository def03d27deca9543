/-! ===== a message comes: what depends on what ===== -/
def Eg (g g' : Rw) : Prop := ∀ k, k < 21 → g' k = g k
section Cm
variable {A B g g' : Rw} {s f t i j : Nat}
theorem tks_g (e : Eg g g') : ∀ (n k : Nat) (A : Rw), n + k ≤ 3 → tksF g' s n k A = tksF g s n k A := by
  intro n
  induction n with
  | zero => intro k A _; rfl
  | succ n ih =>
    intro k A hk
    have e1 : qTk1 A g' s k = qTk1 A g s k := by
      rw [tk1_eq, tk1_eq]
      unfold tk1a
      rw [e 4 (by omega), e (9 + 4 * k) (by omega), e (9 + 4 * k + 1) (by omega), e (9 + 4 * k + 2) (by omega), e (9 + 4 * k + 3) (by omega)]
    show tksF g' s n (k + 1) (qTk1 A g' s k) = tksF g s n (k + 1) (qTk1 A g s k)
    rw [e1]
    exact ih (k + 1) _ (by omega)
theorem takes_g (e : Eg g g') (hg : tkOK g) {p : Prop} [Decidable p] : qTakes A g' s f p = qTakes A g s f p := by
  obtain ⟨m, em, em0, -, em1⟩ := rg_ex hg.2.1
  rw [takes_eq, takes_eq, e 4 (by omega), e 5 (by omega), e 6 (by omega), e 7 (by omega), e 8 (by omega), tks_g e _ _ _ (by rw [em, nI_clamp em0]; omega)]
theorem installs_g (e : Eg g g') {p : Prop} [Decidable p] : qInstalls A g' s f p = qInstalls A g s f p := by
  have si : ∀ (C : Rw) (x y : Int32), qSnapIn C g' s x y = qSnapIn C g s x y := fun C x y => by
    have : ∀ D : Rw, sib D g' s = sib D g s := fun D => by
      funext k
      unfold sib
      split
      · exact e _ (by omega)
      · split
        · exact e _ (by omega)
        · rfl
    rw [si_eq, si_eq, this, e 13 (by omega), e 14 (by omega)]
  have : ina A g' s p = ina A g s p := by
    unfold ina
    rw [e 4 (by omega), e 5 (by omega), si]
  rw [in_eq, in_eq, this, e 4 (by omega), e 8 (by omega)]
theorem heard_g (e : Eg g g') (hg : mOK g) : qHeard A g' s f = qHeard A g s f := by
  unfold qHeard
  rw [e 2 (by omega), e 3 (by omega), e 4 (by omega), e 5 (by omega), e 8 (by omega), installs_g e]
  by_cases c : g 3 = 2
  · rw [takes_g e (hg.2.2.2.2.1 c)]
  · rw [if_neg c, if_neg c]
theorem post_3 {C r : Rw} {t u : Nat} (hs : s < 5) : qPost C t u r (514 * s + 3) = C (514 * s + 3) := qPost_lo (by omega)
theorem plays_0 (hs : s < 5) (h : qPlays A s 0 (514 * s + 3) = 2) : A (514 * s + 3) = 2 := by
  unfold qPlays at h
  split at h
  · exact h
  · split at h
    · unfold qReadsNothing at h
      rw [up_ne (by omega), up_ne (by omega), up_ne (by omega), up_ne (by omega), up_ne (by omega), up_at] at h
      exact absurd h (by decide)
    · rw [up_ne (by omega), up_at] at h
      exact absurd h (by decide)
theorem tk1_3 {k : Nat} : qTk1 A g s k (514 * s + 3) = A (514 * s + 3) := by
  rw [tk1_eq]
  have h1 : tk1a A g s k (514 * s + 3) = A (514 * s + 3) := by
    unfold tk1a
    split
    · exact up_ne (by omega)
    · rfl
  split
  · rfl
  · split
    · unfold qPut
      rw [up_ne (by omega), up_ne (by omega), up_ne (by omega), up_ne (by omega), up_ne (by omega)]
      exact h1
    · exact h1
theorem tks_3 : ∀ (n k : Nat) (A : Rw), tksF g s n k A (514 * s + 3) = A (514 * s + 3) := by
  intro n
  induction n with
  | zero => intro k A; rfl
  | succ n ih =>
    intro k A
    show tksF g s n (k + 1) (qTk1 A g s k) (514 * s + 3) = _
    rw [ih, tk1_3]
/-- who isn't elected doesn't lead -/
theorem heard_ne (hs : s < 5) (ha : stOK A s) (hg : mOK g) (hk : ¬ elK (g 3)) (hr : ¬ A (514 * s + 3) = 2) : ¬ qHeard A g s f (514 * s + 3) = 2 := by
  obtain ⟨gf, gt_, gtm, gk, gtk, gtook, gins⟩ := hg
  intro h
  apply hr
  unfold qHeard at h
  split at h
  · unfold qAsked at h
    split at h
    · rw [post_3 hs, up_ne (by omega)] at h; exact h
    · rw [post_3 hs] at h; exact h
  · split at h
    · rename_i c; exact absurd (Or.inl c) hk
    · split at h
      · rename_i c
        rw [takes_eq] at h
        unfold qAnsTook at h
        have ta : tka A s (514 * s + 3) = 2 → A (514 * s + 3) = 2 := fun q => by
          unfold tka at q
          split at q
          · exact q
          · exact plays_0 hs q
        split at h
        · rw [post_3 hs] at h; exact h
        · split at h
          · rw [post_3 hs] at h; exact ta h
          · rename_i c1
            split at h
            · rw [post_3 hs] at h; exact ta h
            · obtain ⟨a1, a2⟩ := tka_ok hs ha.1 ha.2.1
              obtain ⟨b, eb, eb0, -, eb1⟩ := rg_ex (gtk c).1
              have hI : tkI (tka A s) s (b + 0) := ⟨a1, a2, by
                have := Int32.not_lt.mp c1
                rw [Int32.le_iff_toInt_le, eb, nI_toInt eb0] at this
                exact this⟩
              have h2 := tks_ok hs eb eb0 (gtk c) (g 6).toNatClampNeg 0 (tka A s) (by omega) hI
              have h3 := qTakes_to eb eb0 (gtk c) h2
              rw [post_3 hs, qDoes_out hs h2.1 h3.1 (Or.inl h3.2) (by omega) (by omega) (by omega), tks_3] at h
              exact ta h
      · split at h
        · split at h
          · rename_i c; exact c.2
          · exact h
        · split at h
          · rw [in_eq, post_3 hs] at h
            unfold ina at h
            split at h
            · split at h
              · rw [si_eq, up_ne (by omega), up_ne (by omega)] at h
                unfold sib at h
                rw [if_neg (by omega), if_neg (by omega), up_ne (by omega), up_ne (by omega), up_ne (by omega)] at h
                unfold sia at h
                split at h
                · exact plays_0 hs h
                · rw [up_ne (by omega)] at h; exact plays_0 hs h
              · exact plays_0 hs h
            · exact h
          · split at h
            · rename_i c; exact absurd (Or.inr (Or.inl c)) hk
            · split at h
              · unfold qWouldBe at h
                split at h
                · rw [post_3 hs] at h; exact h
                · rw [post_3 hs] at h; exact h
              · split at h
                · rename_i c; exact absurd (Or.inr (Or.inr c)) hk
                · split at h
                  · rename_i c; exact c.2
                  · exact h
def cmB (A : Rw) (i : Nat) : Rw := up (qOut A i) 4512 (qOut A i 4512 + 1)
def cmA (A : Rw) (i t : Nat) : Rw := if cmB A i (514 * t + 1) < rowM A i 2 ∧ rowM A i 3 < 7 then qFollow (cmB A i) t (rowM A i 2) else cmB A i
theorem comes_eq (hf : rowM A i 0 = nI f) (hf5 : f < 5) (ht : rowM A i 1 = nI t) (ht5 : t < 5) : qComes A i = if ¬ canCm (qOut A i) f t then up (qOut A i) 4511 (qOut A i 4511 + 1) else qHeard (cmA A i t) (rowM A i) t f := by
  unfold qComes cmA cmB
  simp only [hf, ht, nI_clamp (show f < 2 ^ 31 by omega), nI_clamp (show t < 2 ^ 31 by omega)]
theorem out_k (hc : cmOK A) {k : Nat} (hk : k < 2570 ∨ 4513 ≤ k) : qOut A i k = A k := by
  obtain ⟨w, ew, ew0, -, ew1⟩ := rg_ex ((hc.1 0 (by decide)).1.1.1)
  rcases hk with h | h
  · exact qOut_lo h
  · exact qOut_hi ew (by omega) (by omega) (by omega)
theorem cmB_k (hc : cmOK A) {k : Nat} (hk : k < 2570 ∨ 4513 ≤ k) : cmB A i k = A k := by
  unfold cmB
  rw [up_ne (by omega)]
  exact out_k hc hk
theorem cmA_ok (hc : cmOK A) (hi : i < (A 4510).toNatClampNeg) (ht : t < 5) : stOK (cmA A i t) t := by
  have h := cm_A2 hc hi ht
  unfold cmA
  split
  · exact stOK_follow ht h (hc.2 i hi).2.2.1
  · exact h
theorem cmA_3 (hc : cmOK A) (ht : t < 5) (h : cmA A i t (514 * t + 3) = 2) : A (514 * t + 3) = 2 := by
  unfold cmA at h
  split at h
  · unfold qFollow at h
    have := plays_0 ht h
    rw [up_ne (by omega), up_ne (by omega), cmB_k hc (by omega)] at this
    exact this
  · rw [cmB_k hc (by omega)] at h; exact h
theorem Lc_cmA (hs : s < 5) (h : Lc s A B) (ca : cmOK A) (cb : cmOK B) (e : Eg (rowM A i) (rowM B j)) : Lc s (cmA A i s) (cmA B j s) := by
  have h1 : Lc s (cmB A i) (cmB B j) := Lc_lo hs h (fun k hk => cmB_k ca hk) (fun k hk => cmB_k cb hk)
  unfold cmA
  rw [e 2 (by omega), e 3 (by omega)]
  exact Lc_if (by rw [h1.at (j := 1) (by omega)]) (fun _ => Lc_follow h1) (fun _ => h1)
theorem can_out (hc : cmOK A) (ht : t < 5) : canCm (qOut A i) f t ↔ canCm A f t := by unfold canCm; rw [out_k hc (by omega), out_k hc (by omega)]
theorem Lc_can (h : Lc s A B) : canCm B f s ↔ canCm A f s := by
  unfold canCm
  rw [h.2 4513 (by omega), h.1 (514 * s) (by omega) (by omega)]
theorem Lc_comes (hs : s < 5) (h : Lc s A B) (ca : cmOK A) (cb : cmOK B) (hi : i < (A 4510).toNatClampNeg) (hj : j < (B 4510).toNatClampNeg) (e : Eg (rowM A i) (rowM B j)) (hto : rowM A i 1 = nI s) : Lc s (qComes A i) (qComes B j) := by
  obtain ⟨f, ef, ef0, -, ef1⟩ := rg_ex (ca.2 i hi).1
  rw [comes_eq ef (by omega) hto hs, comes_eq ((e 0 (by omega)).trans ef) (by omega) ((e 1 (by omega)).trans hto) hs, heard_g e (ca.2 i hi)]
  have h1 : Lc s (qOut A i) (qOut B j) := Lc_lo hs h (fun k hk => out_k ca hk) (fun k hk => out_k cb hk)
  exact Lc_if (by rw [Lc_can h1]) (fun _ => Lc_lo hs h1 (fun k hk => up_ne (by omega)) (fun k hk => up_ne (by omega))) (fun _ => Lc_heard hs (by omega) (Lc_cmA hs h ca cb e) (cmA_ok ca hi hs) (cmA_ok cb hj hs) (ca.2 i hi))
/-- who is elected by a message -/
theorem comes_ne (hs : s < 5) (ca : cmOK A) (hi : i < (A 4510).toNatClampNeg) (hr : ¬ A (514 * s + 3) = 2) (h : qComes A i (514 * s + 3) = 2) : rowM A i 1 = nI s ∧ elK (rowM A i 3) ∧ ∃ f, f < 5 ∧ rowM A i 0 = nI f ∧ canCm A f s := by
  obtain ⟨f, ef, ef0, -, ef1⟩ := rg_ex (ca.2 i hi).1
  obtain ⟨t, et, et0, -, et1⟩ := rg_ex (ca.2 i hi).2.1
  have fr := Fr_comes ca hi
  have et' : A (2570 + 21 * i + 1) = nI t := et
  rw [et', nI_clamp et0] at fr
  by_cases cs : t = s
  · subst cs
    rw [comes_eq ef (by omega) et (by omega)] at h
    by_cases cc : canCm (qOut A i) f t
    · rw [if_neg (not_not_intro cc)] at h
      refine ⟨et, ?_, f, by omega, ef, (can_out ca (by omega)).mp cc⟩
      apply Classical.byContradiction
      intro ck
      exact heard_ne (by omega) (cmA_ok ca hi (by omega)) (ca.2 i hi) ck (fun q => hr (cmA_3 ca (by omega) q)) h
    · rw [if_pos cc, up_ne (by omega), out_k ca (by omega)] at h
      exact absurd h hr
  · rw [fr (514 * s + 3) (by omega)] at h
    exact absurd h hr
/-! the mail after a step -/
def ix (i k : Nat) : Nat := if i ≤ k then k + 1 else k
def Xk (A : Rw) (i : Nat) : Int32 → Prop := fun v => (rowM A i 3 = 0 ∨ rowM A i 3 = 7) ∧ v = rowM A i 0
theorem out_row {v : Nat} (hv : (A 4510).toNatClampNeg = v + 1) (hv2 : v < 60) (hi : i ≤ v) {k : Nat} (hk : k < v) : Eg (rowM A (ix i k)) (rowM (qOut A i) k) := by
  intro q hq
  rw [qOut_row hv hv2 hi hk q hq]
  unfold sg ix
  by_cases c : i ≤ k
  · rw [if_neg (by omega), if_neg (by omega), if_pos (by omega), if_pos c]
  · rw [if_neg (by omega), if_neg (by omega), if_neg (by omega), if_neg c]
theorem comes_mp (ca : cmOK A) (hi : i < (A 4510).toNatClampNeg) (ht : t < 5) (et : rowM A i 1 = nI t) : Mp (Xk A i) t (qOut A i) (qComes A i) := by
  obtain ⟨f, ef, ef0, -, ef1⟩ := rg_ex (ca.2 i hi).1
  rw [comes_eq ef (by omega) et ht]
  split
  · exact Mp_same (fun k hk => up_ne (by omega))
  · refine Mp.tr (B := cmA A i t) ?_ (Mp_heard ht (by omega) (fun q => ⟨q, ef.symm⟩) (cmA_ok ca hi ht) (ca.2 i hi))
    have h1 : Mp (Xk A i) t (qOut A i) (cmB A i) := Mp_same (fun k hk => up_ne (by omega))
    unfold cmA
    split
    · exact h1.tr (Mp_follow ht)
    · exact h1
end Cm
