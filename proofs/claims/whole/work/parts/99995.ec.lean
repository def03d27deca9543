/-! ===== scripts: what the class made does what the script means ===== -/
theorem wfF_r {T : Rw} {b p : Nat} : ∀ (m j : Nat), m + j ≤ 18 → wfF T b p m j = -1 ∨ ∃ i, i < 18 ∧ wfF T b p m j = nI i := by
  intro m
  induction m with
  | zero => intro j h; exact Or.inl rfl
  | succ m ih =>
    intro j h
    rw [wfF_s]
    split
    · exact ih _ (by omega)
    · exact Or.inr ⟨j, by omega, rfl⟩
theorem pWordV_r {T : Rw} {n : Nat} {P : Ps} : pWordV T n P = -1 ∨ ∃ i, i < 18 ∧ pWordV T n P = nI i := wfF_r 18 0 (by decide)
theorem pWord_v {T : Rw} {n : Nat} {P : Ps} (h0 : P.2.1 = 0) (h : (pWord T n P).2.1 = 0) : ¬ pWordV T n P = -1 := by
  intro c
  unfold pWord at h
  rw [if_neg (fun z => z c)] at h
  unfold fl at h
  rw [if_neg (fun z => z h0)] at h
  exact absurd (show (1 : Int32) = 0 from h) (by decide)
theorem pWordV_no {T : Rw} {n : Nat} {P : Ps} : ¬ pWordV T n P = 100 ∧ ¬ pWordV T n P = 101 := by
  rcases pWordV_r (T := T) (n := n) (P := P) with h | ⟨i, hi, h⟩
  · rw [h]; decide
  · rw [h, show (100 : Int32) = nI 100 from rfl, show (101 : Int32) = nI 101 from rfl, nI_eq (by omega) (by decide), nI_eq (by omega) (by decide)]
    omega
theorem nOf_3 {w : Int32} : (nOf w).toNatClampNeg ≤ 3 := by
  unfold nOf
  split
  · decide
  · split <;> decide
theorem tHead_0 {T : Rw} {n : Nat} {P : Ps} : ¬ (tHead T n 0 P).2.1 = 0 := by
  unfold tHead
  dsimp only
  generalize (if ¬ (pNum T n 0 P).2.1 = 0 ∨ rgd (pNumV T n 0 P) 1 50 then (pNum T n 0 P).2 else fl (pNum T n 0 P).2.1 (pNum T n 0 P).2.2 2 (nI (pBeg T n 0 P.1))) = w
  unfold pSign
  dsimp only
  rw [blk_blk]
  by_cases c : seeT T n (blk T n (pNum T n 0 P).1) = 123
  · rw [if_pos c, if_neg (by intro z; rcases z with z | z; exact z c; exact z rfl)]
    unfold fl
    split
    · assumption
    · show ¬ (3 : Int32) = 0
      decide
  · rw [if_neg c, if_pos (Or.inl c)]
    unfold fl
    split
    · assumption
    · show ¬ (1 : Int32) = 0
      decide
theorem tHead_r {T : Rw} {n dd : Nat} {P : Ps} (h : (tHead T n dd P).2.1 = 0) : rgd (pNumV T n 0 P) 1 50 := by
  apply Classical.byContradiction
  intro c
  revert h
  unfold tHead
  dsimp only
  have h2 : ¬ (if ¬ (pNum T n 0 P).2.1 = 0 ∨ rgd (pNumV T n 0 P) 1 50 then (pNum T n 0 P).2 else fl (pNum T n 0 P).2.1 (pNum T n 0 P).2.2 2 (nI (pBeg T n 0 P.1))).1 = 0 := by
    by_cases c2 : (pNum T n 0 P).2.1 = 0
    · rw [if_neg (fun z => z.elim (fun q => q c2) c)]
      unfold fl
      rw [if_neg (fun z => z c2)]
      show ¬ (2 : Int32) = 0
      decide
    · rw [if_pos (Or.inl c2)]
      exact c2
  generalize (if ¬ (pNum T n 0 P).2.1 = 0 ∨ rgd (pNumV T n 0 P) 1 50 then (pNum T n 0 P).2 else fl (pNum T n 0 P).2.1 (pNum T n 0 P).2.2 2 (nI (pBeg T n 0 P.1))) = w at h2 ⊢
  intro h
  have h3 : ¬ (if ¬ seeT T n (blk T n (pNum T n 0 P).1) = 123 ∨ ¬ dd = 0 then w else fl w.1 w.2 3 (nI (blk T n (pNum T n 0 P).1))).1 = 0 := by
    split
    · exact h2
    · rw [fl_st h2]; exact h2
  rw [pSign_st (by exact h3)] at h
  exact h3 h
section Run
variable {T : Rw} {n : Nat} {ops pl x y z : Rw} {sz : Nat} {Hd : Ec → Nat → Nat → Rw → Prop} {Fin : Ec → Prop}
theorem K_act (hHd : ∀ e i o L, e.1 = 0 → KK ops pl x y z sz Hd Fin e 0 i o L → Hd e i o L) {e : Ec} {c i o : Nat} {L : Rw} {w wat a b v : Int32} (hi : itAt ops pl x y z (w, wat, a, b, v) i) (h100 : ¬ w = 100) (h101 : ¬ w = 101) (hs : i < sz) (hc : c < 300)
    (h1 : ¬ (cAct w wat (t3 a b v) e).1 = 0 → Fin (cAct w wat (t3 a b v) e)) (h2 : (cAct w wat (t3 a b v) e).1 = 0 → KK ops pl x y z sz Hd Fin (cAct w wat (t3 a b v) e) 0 (i + 1) o L) : KK ops pl x y z sz Hd Fin e c i o L := by
  unfold KK
  rw [show 300 - c = (299 - c) + 1 by omega, mvP_s]
  obtain ⟨e1, e2, e3, e4⟩ := hi
  obtain ⟨e4, e5⟩ := e4 h100 h101
  dsimp only at e1 e2 e3 e4 e5
  refine ⟨fun q => by omega, fun _ => ⟨fun q => absurd (e1.symm.trans q) h100, fun q => absurd (e1.symm.trans q) h101, fun _ _ => ?_⟩⟩
  unfold acK
  rw [e1, e2, e3, e4, e5]
  exact ⟨h1, fun q => hHd _ _ _ _ q (h2 q)⟩
theorem K_open {e : Ec} {c i o : Nat} {L : Rw} {v a b : Int32} (hi : itAt ops pl x y z (100, -1, v, a, b) i) (hs : i < sz) (hc : c < 300) (ho : o < 3) (h : KK ops pl x y z sz Hd Fin e (c + 1) (i + 1) (o + 1) (up L o v)) : KK ops pl x y z sz Hd Fin e c i o L := by
  unfold KK at h ⊢
  rw [show 300 - c = (300 - (c + 1)) + 1 by omega, mvP_s]
  obtain ⟨e1, e2, e3, -⟩ := hi
  dsimp only at e1 e2 e3
  rw [e1, e3]
  exact ⟨fun q => by omega, fun _ => ⟨fun _ => ⟨ho, h⟩, fun q => absurd q (by decide), fun q => absurd rfl q⟩⟩
theorem K_close {e : Ec} {c i o q : Nat} {L : Rw} {a b : Int32} (hi : itAt ops pl x y z (101, -1, nI q, a, b) i) (hs : i < sz) (hc : c < 300) (ho : o < 3) (hq : q < 300) (h1 : ¬ L o - 1 ≤ 0 → KK ops pl x y z sz Hd Fin e (c + 1) (q + 1) (o + 1) (up L o (L o - 1))) (h2 : L o - 1 ≤ 0 → KK ops pl x y z sz Hd Fin e (c + 1) (i + 1) o (up L o (L o - 1))) : KK ops pl x y z sz Hd Fin e c i (o + 1) L := by
  unfold KK at h1 h2 ⊢
  rw [show 300 - c = (300 - (c + 1)) + 1 by omega, mvP_s]
  obtain ⟨e1, e2, e3, -⟩ := hi
  dsimp only at e1 e2 e3
  rw [e1, e3]
  exact ⟨fun q => by omega, fun _ => ⟨fun q => absurd q (by decide), fun _ => ⟨by omega, by omega, fun g => ⟨q, rfl, hq, h1 g⟩, fun g => h2 g⟩, fun _ q => absurd rfl q⟩⟩
/-- acts of a depth are done as they are meant -/
def RnOK (ops pl x y z : Rw) (sz : Nat) (Hd : Ec → Nat → Nat → Rw → Prop) (Fin : Ec → Prop) (dd : Nat) (bE : Ps × Es → Ps × Es) (bC : Nat → Cs → Cs × List In) : Prop :=
  ∀ (k : Nat) (P : Ps) (t : Rw) (B : Cs × List In), bC k (P, t) = B → P.2 = (0, -1) → B.1.1.2.1 = 0 → codeAt ops pl x y z B.2 k → (B.2.length = 0 ∨ k + B.2.length ≤ sz) → ∀ (E : Es) (Y : Ps × Es), E.1 = 0 → bE (P, E) = Y →
    Y.1.2 = (0, -1) ∧ (Y.2.1 = 0 → Y.1 = B.1.1) ∧ (B.2.length = 0 → un Y.2 = un E) ∧
    ∀ (c o : Nat) (L : Rw), c + dd ≤ 10 → o + dd ≤ 3 → (¬ Y.2.1 = 0 → Fin (un Y.2)) → (Y.2.1 = 0 → ∀ (c' : Nat) (L' : Rw), (c' ≤ dd ∨ (B.2.length = 0 ∧ c' = c)) → (∀ i, i < o → L' i = L i) → KK ops pl x y z sz Hd Fin (un Y.2) c' (k + B.2.length) o L') → KK ops pl x y z sz Hd Fin (un E) c k o L
theorem rn_rep {dd : Nat} {bE : Ps × Es → Ps × Es} {bC : Nat → Cs → Cs × List In} (hb : RnOK ops pl x y z sz Hd Fin dd bE bC) (hdd : dd ≤ 2) {k : Nat} {H : Ps} {t : Rw} {B : Cs × List In} (hB : bC (k + 1) (H, t) = B) (hH : H.2 = (0, -1)) (hw : B.1.1.2.1 = 0) (hcd : codeAt ops pl x y z B.2 (k + 1)) (hsz : B.2.length = 0 ∨ k + 1 + B.2.length ≤ sz) (hQ : (pSign T n 125 B.1.1).2 = (0, -1)) :
    ∀ (r : Nat) (X Z : Ps × Es), X.1.2 = (0, -1) → X.2.1 = 0 → rep T n H.1 bE r X = Z → Z.1.2 = (0, -1) ∧ (Z.2.1 = 0 → 1 ≤ r → Z.1 = pSign T n 125 B.1.1) ∧ (B.2.length = 0 → un Z.2 = un X.2) ∧
      (¬ B.2.length = 0 → itAt ops pl x y z (101, -1, nI k, 0, 0) (k + 1 + B.2.length) → k < 300 → k + 1 + B.2.length < sz → 1 ≤ r → r ≤ 50 → ∀ (c o : Nat) (L : Rw), c + dd ≤ 10 → o + 1 + dd ≤ 3 → L o = nI r → (¬ Z.2.1 = 0 → Fin (un Z.2)) →
        (Z.2.1 = 0 → ∀ (c' : Nat) (L' : Rw), c' ≤ dd + 1 → (∀ i, i < o → L' i = L i) → KK ops pl x y z sz Hd Fin (un Z.2) c' (k + 1 + B.2.length + 1) o L') → KK ops pl x y z sz Hd Fin (un X.2) c (k + 1) (o + 1) L) := by
  intro r
  induction r with
  | zero =>
    intro X Z hX hE hZ
    have e : Z = X := hZ.symm
    subst e
    exact ⟨hX, fun _ q => absurd q (by omega), fun _ => rfl, fun _ _ _ _ q => absurd q (by omega)⟩
  | succ r ih =>
    intro X Z hX hE hZ
    have eH : (H.1, X.1.2) = H := by rw [hX, ← hH]
    obtain ⟨Y, hY⟩ : ∃ Y, bE (H, X.2) = Y := ⟨_, rfl⟩
    obtain ⟨b1, b2, b3, b4⟩ := hb (k + 1) H t B hB hH hw hcd hsz X.2 Y hE hY
    have hX0 : X.1.2.1 = 0 := by rw [hX]
    by_cases cy : Y.2.1 = 0
    · have y1 := b2 cy
      have eZ : rep T n H.1 bE (r + 1) X = rep T n H.1 bE r (pSign T n 125 Y.1, Y.2) := rep_ok hX0 hE (by rw [eH]; exact hY) cy (by rw [y1]; exact hw)
      rw [eZ, y1] at hZ
      obtain ⟨i1, i2, i3, i4⟩ := ih (pSign T n 125 B.1.1, Y.2) Z hQ cy hZ
      refine ⟨i1, fun q _ => ?_, fun q => (i3 q).trans (b3 q), fun h0 hit hk hs2 _ hr c o L hc ho hL hf hz => ?_⟩
      · rcases Nat.eq_zero_or_pos r with hr | hr
        · subst hr
          rw [← hZ]; rfl
        · exact i2 q hr
      · refine b4 c (o + 1) L hc (by omega) (fun q => absurd cy q) (fun _ c' L' hc' hL' => ?_)
        have eL : L' o = nI (r + 1) := by rw [hL' o (by omega)]; exact hL
        have eL1 : L' o - 1 = nI r := by rw [eL, show (1 : Int32) = nI 1 from rfl, pk_sub (by omega)]; congr 1
        have hc2 : c' ≤ dd := hc'.elim id (fun q => absurd q.1 h0)
        refine K_close hit hs2 (by omega) (by omega) hk (fun g => ?_) (fun g => ?_)
        · rw [eL1] at g ⊢
          have hr1 : 1 ≤ r := by
            rcases Nat.eq_zero_or_pos r with hr | hr
            · subst hr; exact absurd (by decide) g
            · exact hr
          refine i4 h0 hit hk hs2 hr1 (by omega) (c' + 1) o _ (by omega) (by omega) up_at hf (fun q c'' L'' hc'' hL'' => hz q c'' L'' hc'' (fun i hi => ?_))
          rw [hL'' i hi, up_ne (by omega), hL' i (by omega)]
        · rw [eL1] at g
          have hr0 : r = 0 := by
            rcases Nat.eq_zero_or_pos r with hr | hr
            · exact hr
            · exfalso
              rw [show (0 : Int32) = nI 0 from rfl, nI_leI (by omega) (by decide)] at g
              omega
          subst hr0
          have e : Z = (pSign T n 125 B.1.1, Y.2) := hZ.symm
          rw [e] at hz
          refine hz cy (c' + 1) _ (by omega) (fun i hi => ?_)
          rw [up_ne (by omega), hL' i (by omega)]
    · have eZ : rep T n H.1 bE (r + 1) X = Y := rep_bad hX0 hE (by rw [eH]; exact hY) (Or.inl cy)
      rw [eZ] at hZ
      subst hZ
      refine ⟨b1, fun q => absurd q cy, b3, fun h0 hit hk hs2 _ hr c o L hc ho hL hf hz => ?_⟩
      exact b4 c (o + 1) L hc (by omega) hf (fun q => absurd q cy)
end Run
