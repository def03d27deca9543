/-! ===== scripts: acts of any depth ===== -/
section Run2
variable {T : Rw} {n : Nat} {ops pl x y z : Rw} {sz : Nat} {Hd : Ec → Nat → Nat → Rw → Prop} {Fin : Ec → Prop}
/-- an item is done as it is meant -/
theorem rn_item (hHd : ∀ e i o L, e.1 = 0 → KK ops pl x y z sz Hd Fin e 0 i o L → Hd e i o L) (hsz : sz ≤ 300) {dd : Nat} {bE : Ps × Es → Ps × Es} {bC : Nat → Cs → Cs × List In} (hb : ∀ d0, dd = d0 + 1 → RnOK ops pl x y z sz Hd Fin d0 bE bC) (hbo : ∀ k X, okw X.1.2 → okw (bC k X).1.1.2) (hdd : dd ≤ 3)
    {k : Nat} {P : Ps} {t : Rw} {V : Cs × List In} (hV : cItem T n dd bC k (P, t) = V) (hP : P.2 = (0, -1)) (hw0 : (pWord T n P).2.1 = 0) (hv : V.1.1.2.1 = 0) (hcd : codeAt ops pl x y z V.2 k) (hk : V.2.length = 0 ∨ k + V.2.length ≤ sz) {E : Es} {Y : Ps × Es} (hE : E.1 = 0) (hY : aItem T n dd 1 bE (P, E) = Y) :
    Y.1.2 = (0, -1) ∧ (Y.2.1 = 0 → Y.1 = V.1.1) ∧ (V.2.length = 0 → un Y.2 = un E) ∧
    ∀ (c o : Nat) (L : Rw), c + dd ≤ 10 → o + dd ≤ 3 → (¬ Y.2.1 = 0 → Fin (un Y.2)) → (Y.2.1 = 0 → ∀ (c' : Nat) (L' : Rw), (c' ≤ dd ∨ (V.2.length = 0 ∧ c' = c)) → (∀ i, i < o → L' i = L i) → KK ops pl x y z sz Hd Fin (un Y.2) c' (k + V.2.length) o L') → KK ops pl x y z sz Hd Fin (un E) c k o L := by
  have okP : okw P.2 := Or.inl hP
  have okW : okw (pWord T n P).2 := pWord_ok okP
  have eW : (pWord T n P).2 = (0, -1) := okw_0 okW hw0
  unfold cItem at hV
  unfold aItem at hY
  by_cases cw : pWordV T n P = 17
  · rw [if_neg (fun q => q cw)] at hV hY
    dsimp only at hV hY
    obtain ⟨H, hH⟩ : ∃ H, tHead T n dd (pWord T n P) = H := ⟨_, rfl⟩
    by_cases c1 : H.2.1 = 0
    · have hdd0 : ∃ d0, dd = d0 + 1 := by
        cases dd with
        | zero => rw [← hH] at c1; exact absurd c1 tHead_0
        | succ d => exact ⟨d, rfl⟩
      obtain ⟨d0, hd0⟩ := hdd0
      have okH : okw H.2 := by rw [← hH]; exact tHead_ok okW
      have eH : H.2 = (0, -1) := okw_0 okH c1
      obtain ⟨B, hB⟩ : ∃ B, bC (k + 1) (H, t) = B := ⟨_, rfl⟩
      by_cases c2 : B.1.1.2.1 = 0
      · have eV := cTimes_g (T := T) (n := n) (dd := dd) (k := k) (bC := bC) (X := (pWord T n P, t)) (B := B) (by rw [hH]; exact hB) (by rw [hH]; exact c1) c2
        have eV2 : V = ((pSign T n 125 B.1.1, B.1.2), if B.2.length = 0 then [] else (100, -1, pNumV T n 0 (pWord T n P), 0, 0) :: (B.2 ++ [(101, -1, nI k, 0, 0)])) := hV.symm.trans eV
        have okB : okw B.1.1.2 := by rw [← hB]; exact hbo _ _ okH
        have hQ : (pSign T n 125 B.1.1).2 = (0, -1) := okw_0 (pSign_ok okB) (by rw [eV2] at hv; exact hv)
        have eY := pTimes_e (T := T) (n := n) (dd := dd) (me := 1) (bE := bE) (P := pWord T n P) (E := E)
        rw [if_neg (by decide), hH] at eY
        have hr := tHead_r (T := T) (n := n) (dd := dd) (P := pWord T n P) (by rw [hH]; exact c1)
        obtain ⟨r, er, r0, r1, r2⟩ := rg_ex (lo := 1) (hi := 50) hr
        have ern : (pNumV T n 0 (pWord T n P)).toNatClampNeg = r := by rw [er, nI_clamp r0]
        rw [ern] at eY
        have eY2 : rep T n H.1 bE r (H, E) = Y := eY.symm.trans hY
        have base := fun (q1 : codeAt ops pl x y z B.2 (k + 1)) (q2 : B.2.length = 0 ∨ k + 1 + B.2.length ≤ sz) => rn_rep (T := T) (n := n) (hb d0 hd0) (by omega) hB eH c2 q1 q2 hQ r (H, E) Y eH hE eY2
        by_cases c3 : B.2.length = 0
        · have e2 : V.2 = [] := by rw [eV2]; exact if_pos c3
          have e0 : B.2 = [] := List.length_eq_zero_iff.mp c3
          obtain ⟨z1, z2, z3, z4⟩ := base (by rw [e0]; trivial) (Or.inl c3)
          refine ⟨z1, fun q => by rw [z2 q (by omega), eV2], fun _ => z3 c3, fun c o L hc ho hf hz => ?_⟩
          have hy0 : Y.2.1 = 0 := by rw [un_1 (z3 c3)]; exact hE
          have := hz hy0 c L (Or.inr ⟨by rw [e2]; rfl, rfl⟩) (fun _ _ => rfl)
          rw [z3 c3, e2] at this
          exact this
        · have e2 : V.2 = (100, -1, pNumV T n 0 (pWord T n P), 0, 0) :: (B.2 ++ [(101, -1, nI k, 0, 0)]) := by rw [eV2]; exact if_neg c3
          have el : V.2.length = B.2.length + 2 := by rw [e2]; simp
          rw [e2] at hcd
          obtain ⟨i1, i2⟩ := hcd
          rw [codeAt_app] at i2
          obtain ⟨i2, i3, -⟩ := i2
          obtain ⟨z1, z2, z3, z4⟩ := base i2 (Or.inr (by omega))
          refine ⟨z1, fun q => by rw [z2 q (by omega), eV2], fun q => by omega, fun c o L hc ho hf hz => ?_⟩
          refine K_open i1 (by omega) (by omega) (by omega) ?_
          refine z4 c3 i3 (by omega) (by omega) (by omega) (by omega) (c + 1) o _ (by omega) (by omega) (by rw [up_at]; exact er) hf (fun q c' L' hc' hL' => ?_)
          have := hz q c' L' (Or.inl (by omega)) (fun i hi => by rw [hL' i hi, up_ne (by omega)])
          rw [el] at this
          rw [show k + 1 + B.2.length + 1 = k + (B.2.length + 2) by omega]
          exact this
      · have eV := cTimes_b (T := T) (n := n) (dd := dd) (k := k) (bC := bC) (X := (pWord T n P, t)) (B := B) (by rw [hH]; exact hB) (by rw [hH]; exact c1) c2
        rw [← hV, eV] at hv
        exact absurd hv c2
    · have eV := cTimes_w (T := T) (n := n) (dd := dd) (k := k) (bC := bC) (X := (pWord T n P, t)) (by rw [hH]; exact c1)
      rw [← hV, eV] at hv
      rw [← hH] at c1
      exact absurd hv c1
  · rw [if_pos cw] at hV hY
    dsimp only at hV hY
    rw [pPlain_1] at hY
    have e1 := pNums_1 (T := T) (n := n) (nOf (pWordV T n P)).toNatClampNeg 0 (pWord T n P) E.2.2.2.2.1 t
    unfold cPlain at hV
    dsimp only at hV
    have eV1 : V.1.1 = pSign T n 59 (pNums T n (nOf (pWordV T n P)).toNatClampNeg 0 (pWord T n P) t).1 := by rw [← hV]
    have eY1 : Y.1 = V.1.1 := by rw [← hY, eV1, e1]
    have okN : okw (pNums T n (nOf (pWordV T n P)).toNatClampNeg 0 (pWord T n P) t).1.2 := pNums_ok _ _ _ _ okW
    have okV : okw V.1.1.2 := by rw [eV1]; exact pSign_ok okN
    have eV2 : V.1.1.2 = (0, -1) := okw_0 okV hv
    have el : V.2 = [(pWordV T n P, nI (blk T n P.1), (pNums T n (nOf (pWordV T n P)).toNatClampNeg 0 (pWord T n P) t).2 0, (pNums T n (nOf (pWordV T n P)).toNatClampNeg 0 (pWord T n P) t).2 1, (pNums T n (nOf (pWordV T n P)).toNatClampNeg 0 (pWord T n P) t).2 2)] := by rw [← hV]
    have hlen : V.2.length = 1 := by rw [el]; rfl
    have eu : un Y.2 = cAct (pWordV T n P) (nI (blk T n P.1)) (t3 ((pNums T n (nOf (pWordV T n P)).toNatClampNeg 0 (pWord T n P) t).2 0) ((pNums T n (nOf (pWordV T n P)).toNatClampNeg 0 (pWord T n P) t).2 1) ((pNums T n (nOf (pWordV T n P)).toNatClampNeg 0 (pWord T n P) t).2 2)) (un E) := by
      rw [← hY]
      rw [un_act (t := t3 ((pNums T n (nOf (pWordV T n P)).toNatClampNeg 0 (pWord T n P) t).2 0) ((pNums T n (nOf (pWordV T n P)).toNatClampNeg 0 (pWord T n P) t).2 1) ((pNums T n (nOf (pWordV T n P)).toNatClampNeg 0 (pWord T n P) t).2 2)) (fun i hi => ?_)]
      · rfl
      · show (pNums T n (nOf (pWordV T n P)).toNatClampNeg 0 (pWord T n P) E.2.2.2.2.1).2 i = _
        rw [pNums_2 _ 0 _ _ t i (by omega) (by omega)]
        have := nOf_3 (w := pWordV T n P)
        have : i = 0 ∨ i = 1 ∨ i = 2 := by omega
        rcases this with rfl | rfl | rfl <;> rfl
    have y1 : Y.2.1 = (un Y.2).1 := rfl
    rw [el] at hcd
    obtain ⟨i1, -⟩ := hcd
    refine ⟨by rw [eY1]; exact eV2, fun _ => eY1, fun q => by omega, fun c o L hc ho hf hz => ?_⟩
    obtain ⟨n1, n2⟩ := pWordV_no (T := T) (n := n) (P := P)
    refine K_act hHd i1 n1 n2 (by omega) (by omega) (fun q => ?_) (fun q => ?_)
    · rw [← eu] at q ⊢
      exact hf q
    · rw [← eu] at q ⊢
      have := hz q 0 L (Or.inl (by omega)) (fun _ _ => rfl)
      rw [hlen] at this
      exact this
theorem rn_loop (hHd : ∀ e i o L, e.1 = 0 → KK ops pl x y z sz Hd Fin e 0 i o L → Hd e i o L) (hsz : sz ≤ 300) {dd : Nat} {bE : Ps × Es → Ps × Es} {bC : Nat → Cs → Cs × List In} (hb : ∀ d0, dd = d0 + 1 → RnOK ops pl x y z sz Hd Fin d0 bE bC) (hbo : ∀ k X, okw X.1.2 → okw (bC k X).1.1.2) (hdd : dd ≤ 3) :
    ∀ m, RnOK ops pl x y z sz Hd Fin dd (fun X => aLoop T n dd 1 bE m X) (fun k X => cLoop T n dd bC m k X) := by
  intro m
  have triv : ∀ (k : Nat) (P : Ps) (t : Rw) (B : Cs × List In), ((P, t), []) = B → P.2 = (0, -1) → ∀ (E : Es) (Y : Ps × Es), E.1 = 0 → (P, E) = Y → Y.1.2 = (0, -1) ∧ (Y.2.1 = 0 → Y.1 = B.1.1) ∧ (B.2.length = 0 → un Y.2 = un E) ∧
    ∀ (c o : Nat) (L : Rw), c + dd ≤ 10 → o + dd ≤ 3 → (¬ Y.2.1 = 0 → Fin (un Y.2)) → (Y.2.1 = 0 → ∀ (c' : Nat) (L' : Rw), (c' ≤ dd ∨ (B.2.length = 0 ∧ c' = c)) → (∀ i, i < o → L' i = L i) → KK ops pl x y z sz Hd Fin (un Y.2) c' (k + B.2.length) o L') → KK ops pl x y z sz Hd Fin (un E) c k o L := by
    intro k P t B hB hP E Y hE hY
    rw [← hB, ← hY]
    exact ⟨hP, fun _ => rfl, fun _ => rfl, fun c o L _ _ _ hz => hz hE c L (Or.inr ⟨rfl, rfl⟩) (fun _ _ => rfl)⟩
  induction m with
  | zero =>
    intro k P t B hB hP hB0 hcd hk E Y hE hY
    exact triv k P t B hB hP E Y hE hY
  | succ m ih =>
    intro k P t B hB hP hB0 hcd hk E Y hE hY
    have hP1 : P.2.1 = 0 := by rw [hP]
    dsimp only at hB hY
    by_cases c1 : rgd (seeT T n P.1) 97 122
    · by_cases c2 : (pWord T n P).2.1 = 0
      · obtain ⟨V, hV⟩ : ∃ V, cItem T n dd bC k (P, t) = V := ⟨_, rfl⟩
        obtain ⟨Yi, hYi⟩ : ∃ Yi, aItem T n dd 1 bE (P, E) = Yi := ⟨_, rfl⟩
        rw [cLoop_go (X := (P, t)) hV hP1 c1 c2] at hB
        rw [aLoop_go (X := (P, E)) hP1 hE c1 c2, hYi] at hY
        obtain ⟨W, hW⟩ : ∃ W, cLoop T n dd bC m (k + V.2.length) ((blk T n V.1.1.1, V.1.1.2), V.1.2) = W := ⟨_, rfl⟩
        rw [hW] at hB
        have eB1 : B.1 = W.1 := by rw [← hB]
        have eB2 : B.2 = V.2 ++ W.2 := by rw [← hB]
        have hv : V.1.1.2.1 = 0 := by
          apply Classical.byContradiction
          intro q
          rw [cLoop_x (X := ((blk T n V.1.1.1, V.1.1.2), V.1.2)) (Or.inl q)] at hW
          rw [eB1, ← hW] at hB0
          exact q hB0
        have el : B.2.length = V.2.length + W.2.length := by rw [eB2, List.length_append]
        rw [eB2, codeAt_app] at hcd
        obtain ⟨z1, z2, z3, z4⟩ := rn_item hHd hsz hb hbo hdd hV hP c2 hv hcd.1 (by omega) hE hYi
        have okV : okw V.1.1.2 := by rw [← hV]; exact cItem_ok hbo (Or.inl hP)
        have eV : V.1.1.2 = (0, -1) := okw_0 okV hv
        by_cases cy : Yi.2.1 = 0
        · have e1 := z2 cy
          rw [e1] at hY
          obtain ⟨w1, w2, w3, w4⟩ := ih (k + V.2.length) (blk T n V.1.1.1, V.1.1.2) V.1.2 W hW eV (by rw [← eB1]; exact hB0) hcd.2 (by omega) Yi.2 Y cy hY
          refine ⟨w1, fun q => by rw [w2 q, eB1], fun q => ?_, fun c o L hc ho hf hz => ?_⟩
          · rw [w3 (by omega), z3 (by omega)]
          · refine z4 c o L hc ho (fun q => absurd cy q) (fun _ c' L' hc' hL' => ?_)
            refine w4 c' o L' (by omega) ho hf (fun q c'' L'' hc'' hL'' => ?_)
            rw [show k + V.2.length + W.2.length = k + B.2.length by omega]
            exact hz q c'' L'' (by omega) (fun i hi => by rw [hL'' i hi, hL' i hi])
        · have eY : Y = ((blk T n Yi.1.1, Yi.1.2), Yi.2) := by
            rw [← hY]
            exact aLoop_x (X := ((blk T n Yi.1.1, Yi.1.2), Yi.2)) (Or.inr (Or.inl cy)) _
          have eY2 : Y.2 = Yi.2 := by rw [eY]
          refine ⟨by rw [eY]; exact z1, fun q => absurd (by rw [← eY2]; exact q) cy, fun q => by rw [eY2]; exact z3 (by omega), fun c o L hc ho hf hz => ?_⟩
          rw [eY2] at hf
          exact z4 c o L hc ho hf (fun q => absurd q cy)
      · rw [cLoop_no (X := (P, t)) hP1 c1 c2] at hB
        rw [← hB] at hB0
        exact absurd hB0 c2
    · rw [cLoop_x (X := (P, t)) (Or.inr c1)] at hB
      rw [aLoop_x (X := (P, E)) (Or.inr (Or.inr c1))] at hY
      exact triv k P t B hB hP E Y hE hY
theorem rn_acts (hHd : ∀ e i o L, e.1 = 0 → KK ops pl x y z sz Hd Fin e 0 i o L → Hd e i o L) (hsz : sz ≤ 300) : ∀ dd, dd ≤ 3 → RnOK ops pl x y z sz Hd Fin dd (pActs T n 1 dd) (cActs T n dd) := by
  intro dd
  have shift : ∀ (dd : Nat) (f : Ps × Es → Ps × Es) (g : Nat → Cs → Cs × List In), RnOK ops pl x y z sz Hd Fin dd f g → RnOK ops pl x y z sz Hd Fin dd (fun X => f ((blk T n X.1.1, X.1.2), X.2)) (fun k X => g k ((blk T n X.1.1, X.1.2), X.2)) := by
    intro dd f g h k P t B hB hP hB0 hcd hk E Y hE hY
    exact h k (blk T n P.1, P.2) t B hB hP hB0 hcd hk E Y hE hY
  induction dd with
  | zero =>
    intro _
    exact shift 0 _ _ (rn_loop hHd hsz (bE := fun Y => Y) (bC := fun _ Y => (Y, [])) (fun d0 q => by omega) (fun _ _ h => h) (by omega) (n + 1))
  | succ d ih =>
    intro hd
    exact shift (d + 1) _ _ (rn_loop hHd hsz (bE := pActs T n 1 d) (bC := cActs T n d) (fun d0 q => by
      obtain rfl : d = d0 := by omega
      exact ih (by omega)) (fun k X h => cActs_ok d k X h) hd (n + 1))
end Run2
