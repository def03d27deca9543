/-! ===== the class: an item of a script is read ===== -/
def w_X9_parseItem_76 (M : CT) (G : Nat → PT) (Rp : RT) : PT := tVret Rp
def w_X9_parseItem_69 (M : CT) (G : Nat → PT) (Rp : RT) : PT := tAload 0 <| tAload 1 <| tIload 3 <| tIload 2 <| tCallV M jX9_parseAct 9 7 3 <| w_X9_parseItem_76 M G Rp
def w_X9_parseItem_55 (M : CT) (G : Nat → PT) (Rp : RT) : PT := tIload 3 <| tConst 17 <| tIf2 (fun x y => x ≠ y) (w_X9_parseItem_69 M G Rp) <| tAload 0 <| tAload 1 <| tFn 2 F_X9_parseTimes <| tGoto (w_X9_parseItem_76 M G Rp)
def w_X9_parseItem_36 (M : CT) (G : Nat → PT) (Rp : RT) : PT := tAload 0 <| tCallV M jX9_parseWord 9 7 0 <| tIstore 3 <| tIload 3 <| tConst (-1) <| tIf2 (fun x y => x ≠ y) (w_X9_parseItem_55 M G Rp) <| tAload 0 <| tConst 1 <| tIload 2 <| tFn 3 F_X9_fail <| tGoto (w_X9_parseItem_76 M G Rp)
def w_X9_parseItem_0 (M : CT) (G : Nat → PT) (Rp : RT) : PT := tAload 0 <| tGetI 9 7 6 <| tIstore 2 <| tAload 0 <| tFn 1 F_X9_here <| tConst 125 <| tIf2 (fun x y => x ≠ y) (w_X9_parseItem_36 M G Rp) <| tAload 1 <| tGetI 4 10 8 <| tIf (fun x => x ≤ 0) (w_X9_parseItem_36 M G Rp) <| tAload 0 <| tDup <| tGetI 9 7 6 <| tConst 1 <| tBin (fun x y => x + y) <| tPutI 9 7 6 <| tAload 1 <| tFn 1 F_X4_closeLoop <| tVret Rp
set_option maxRecDepth 20000 in
theorem b_X9_parseItem_76 {Z : Zt} {d : Nat} {p : Program} {e : Env} {R : Room} {s : State} {m : MethodId} {args : Array Value} {below : List Frame} {meth : Method} {c : Code} {Rp : RT} (C : Cx Z (d + 7) jX9_parseItem RX9 p R s m args meth c) : Sd Z jX9_parseItem p e R s m args below meth c (MQ below (QcS Z Rp) args s 0 0 (fun a => Z.2.2.1 < a)) 76 (w_X9_parseItem_76 (MS Z (d + 7)) (Gw Z 4 p e R s m args below meth c (MQ below (QcS Z Rp) args s 0 0 (fun a => Z.2.2.1 < a))) Rp) := by
  unfold w_X9_parseItem_76
  exact s_vret C rfl (by decide +kernel)
set_option maxRecDepth 20000 in
theorem b_X9_parseItem_69 {Z : Zt} {d : Nat} {p : Program} {e : Env} {R : Room} {s : State} {m : MethodId} {args : Array Value} {below : List Frame} {meth : Method} {c : Code} {Rp : RT} (C : Cx Z (d + 7) jX9_parseItem RX9 p R s m args meth c) : Sd Z jX9_parseItem p e R s m args below meth c (MQ below (QcS Z Rp) args s 0 0 (fun a => Z.2.2.1 < a)) 69 (w_X9_parseItem_69 (MS Z (d + 7)) (Gw Z 4 p e R s m args below meth c (MQ below (QcS Z Rp) args s 0 0 (fun a => Z.2.2.1 < a))) Rp) := by
  unfold w_X9_parseItem_69
  refine s_aload_n (k := 0) C (by decide +kernel) ?_
  refine s_aload_n (k := 1) C (by decide +kernel) ?_
  refine s_iload_n (k := 3) C (by decide +kernel) ?_
  refine s_iload_n (k := 2) C (by decide +kernel) ?_
  refine s_callV C rfl rfl (by decide +kernel) rfl w_5_37 w_5_39 w_p3_0 w_1_11 w_5_40 (by decide +kernel) ?_
  exact (b_X9_parseItem_76 C)
set_option maxRecDepth 20000 in
theorem b_X9_parseItem_55 {Z : Zt} {d : Nat} {p : Program} {e : Env} {R : Room} {s : State} {m : MethodId} {args : Array Value} {below : List Frame} {meth : Method} {c : Code} {Rp : RT} (C : Cx Z (d + 7) jX9_parseItem RX9 p R s m args meth c) : Sd Z jX9_parseItem p e R s m args below meth c (MQ below (QcS Z Rp) args s 0 0 (fun a => Z.2.2.1 < a)) 55 (w_X9_parseItem_55 (MS Z (d + 7)) (Gw Z 4 p e R s m args below meth c (MQ below (QcS Z Rp) args s 0 0 (fun a => Z.2.2.1 < a))) Rp) := by
  unfold w_X9_parseItem_55
  refine s_iload_n (k := 3) C (by decide +kernel) ?_
  refine s_bipush (n := 17) C (by decide +kernel) (by decide) ?_
  refine s_icmp_ne (off := 11) (tgt := 69) C (by decide +kernel) (by decide) (b_X9_parseItem_69 C) ?_
  refine s_aload_n (k := 0) C (by decide +kernel) ?_
  refine s_aload_n (k := 1) C (by decide +kernel) ?_
  refine s_fnV C (j2 := jX9_parseTimes) (cl := 9) (nf := 7) rfl rfl (by decide +kernel) rfl w_5_25 w_5_27 w_p2_14 w_1_11 w_5_28 (by decide +kernel) (fun _ _ _ _ _ h => f_X9_parseTimes h) (fun _ _ _ _ _ h => r_X9_parseTimes h) ?_
  exact s_goto (off := 10) (tgt := 76) C (by decide +kernel) (by decide) (b_X9_parseItem_76 C)
set_option maxRecDepth 20000 in
theorem b_X9_parseItem_36 {Z : Zt} {d : Nat} {p : Program} {e : Env} {R : Room} {s : State} {m : MethodId} {args : Array Value} {below : List Frame} {meth : Method} {c : Code} {Rp : RT} (C : Cx Z (d + 7) jX9_parseItem RX9 p R s m args meth c) : Sd Z jX9_parseItem p e R s m args below meth c (MQ below (QcS Z Rp) args s 0 0 (fun a => Z.2.2.1 < a)) 36 (w_X9_parseItem_36 (MS Z (d + 7)) (Gw Z 4 p e R s m args below meth c (MQ below (QcS Z Rp) args s 0 0 (fun a => Z.2.2.1 < a))) Rp) := by
  unfold w_X9_parseItem_36
  refine s_aload_n (k := 0) C (by decide +kernel) ?_
  refine s_callV C rfl rfl (by decide +kernel) rfl w_4_204 w_4_206 w_p2_11 w_1_11 w_4_207 (by decide +kernel) ?_
  refine s_istore_n (k := 3) C (by decide +kernel) ?_
  refine s_iload_n (k := 3) C (by decide +kernel) ?_
  refine s_iconst (n := (-1)) C (by decide +kernel) (by decide) ?_
  refine s_icmp_ne (off := 12) (tgt := 55) C (by decide +kernel) (by decide) (b_X9_parseItem_55 C) ?_
  refine s_aload_n (k := 0) C (by decide +kernel) ?_
  refine s_iconst (n := 1) C (by decide +kernel) (by decide) ?_
  refine s_iload_n (k := 2) C (by decide +kernel) ?_
  refine s_fnV C (j2 := jX9_fail) (cl := 9) (nf := 7) rfl rfl (by decide +kernel) rfl w_5_21 w_5_23 w_p2_13 w_1_11 w_5_24 (by decide +kernel) (fun _ _ _ _ _ h => f_X9_fail h) (fun _ _ _ _ _ h => r_X9_fail h) ?_
  exact s_goto (off := 24) (tgt := 76) C (by decide +kernel) (by decide) (b_X9_parseItem_76 C)
set_option maxRecDepth 20000 in
theorem b_X9_parseItem_0 {Z : Zt} {d : Nat} {p : Program} {e : Env} {R : Room} {s : State} {m : MethodId} {args : Array Value} {below : List Frame} {meth : Method} {c : Code} {Rp : RT} (C : Cx Z (d + 7) jX9_parseItem RX9 p R s m args meth c) : Sd Z jX9_parseItem p e R s m args below meth c (MQ below (QcS Z Rp) args s 0 0 (fun a => Z.2.2.1 < a)) 0 (w_X9_parseItem_0 (MS Z (d + 7)) (Gw Z 4 p e R s m args below meth c (MQ below (QcS Z Rp) args s 0 0 (fun a => Z.2.2.1 < a))) Rp) := by
  unfold w_X9_parseItem_0
  refine s_aload_n (k := 0) C (by decide +kernel) ?_
  refine s_getI C w_2_174 (by decide +kernel) rfl ?_
  refine s_istore_n (k := 2) C (by decide +kernel) ?_
  refine s_aload_n (k := 0) C (by decide +kernel) ?_
  refine s_fnV C (j2 := jX9_here) (cl := 9) (nf := 7) rfl rfl (by decide +kernel) rfl w_4_192 w_4_194 w_p2_9 w_1_11 w_4_195 (by decide +kernel) (fun _ _ _ _ _ h => f_X9_here h) (fun _ _ _ _ _ h => r_X9_here h) ?_
  refine s_bipush (n := 125) C (by decide +kernel) (by decide) ?_
  refine s_icmp_ne (off := 25) (tgt := 36) C (by decide +kernel) (by decide) (b_X9_parseItem_36 C) ?_
  refine s_aload_n (k := 1) C (by decide +kernel) ?_
  refine s_getI C w_2_210 (by decide +kernel) rfl ?_
  refine s_if_le (off := 18) (tgt := 36) C (by decide +kernel) (by decide) (b_X9_parseItem_36 C) ?_
  refine s_aload_n (k := 0) C (by decide +kernel) ?_
  refine s_dup C (by decide +kernel) ?_
  refine s_getI C w_2_174 (by decide +kernel) rfl ?_
  refine s_iconst (n := 1) C (by decide +kernel) (by decide) ?_
  refine s_iadd C (by decide +kernel) ?_
  refine s_putI C w_2_174 (by decide +kernel) rfl (Or.inl rfl) ?_
  refine s_aload_n (k := 1) C (by decide +kernel) ?_
  refine s_fnV C (j2 := jX4_closeLoop) (cl := 4) (nf := 10) rfl rfl (by decide +kernel) rfl w_4_196 w_4_197 w_4_198 w_1_12 w_4_199 (by decide +kernel) (fun _ _ _ _ _ h => f_X4_closeLoop h) (fun _ _ _ _ _ h => r_X4_closeLoop h) ?_
  exact s_vret C rfl (by decide +kernel)
theorem ms_X9_parseItem {Z : Zt} {d : Nat} {S : Sh} {μ : Mi} {ρ : Mr} {Rp : RT} (a0 : Nat) (a1 : Nat) (h : ∀ G : Nat → PT, w_X9_parseItem_0 (MS Z (d + 7)) G Rp [.ref a0, .ref a1, .null, .null] [] S (0, 0) μ ρ) : MS Z (d + 8) jX9_parseItem [.ref a0, .ref a1] S μ ρ Rp :=
  MS_of [.ref a0, .ref a1, .null, .null] (by decide +kernel) rfl rfl (Nat.le_of_ble_eq_true rfl) rfl (fun p e R s m args below meth c C => b_X9_parseItem_0 C _ _ _ _ _ _ (h _ ))
theorem pSign_n {T : Rw} {n : Nat} {c : Int32} {P : Ps} (hc : ¬ c = -1) (hp : P.1 ≤ n) (h : (pSign T n c P).2.1 = 0) : (pSign T n c P).1 ≤ n ∧ P.1 + 1 ≤ (pSign T n c P).1 ∧ P.2.1 = 0 ∧ (pSign T n c P).1 = blk T n P.1 + 1 ∧ seeT T n (blk T n P.1) = c := by
  obtain ⟨b1, b2⟩ := blk_n (T := T) hp
  unfold pSign at *
  dsimp only at *
  by_cases cs : seeT T n (blk T n P.1) = c
  · rw [if_pos cs] at h
    have : blk T n P.1 < n := by
      apply Classical.byContradiction
      intro q
      rw [seeT_hi (by omega)] at cs
      exact hc cs.symm
    exact ⟨by omega, by omega, h, rfl, cs⟩
  · rw [if_neg cs] at h
    unfold fl at h
    split at h
    · exact absurd h (by assumption)
    · exact absurd h (by show ¬ (1 : Int32) = 0; decide)
theorem pNum_n {T : Rw} {n : Nat} {b : Int32} {P : Ps} (hp : P.1 ≤ n) : P.1 ≤ (pNum T n b P).1 ∧ (pNum T n b P).1 ≤ n := by
  obtain ⟨b1, b2⟩ := pBeg_n (T := T) (b := b) hp
  obtain ⟨d1, d2⟩ := dg_n (T := T) b2
  rw [pNum_1]
  omega
theorem pNums_n {T : Rw} {n : Nat} : ∀ (m k : Nat) (P : Ps) (t : Rw), P.1 ≤ n → P.1 ≤ (pNums T n m k P t).1.1 ∧ (pNums T n m k P t).1.1 ≤ n := by
  intro m
  induction m with
  | zero => intro k P t h; exact ⟨Nat.le_refl _, h⟩
  | succ m ih =>
    intro k P t h
    rw [pNums_s]
    obtain ⟨a1, a2⟩ := pNum_n (T := T) (b := if k = 2 then 1 else 0) h
    obtain ⟨i1, i2⟩ := ih (k + 1) _ (up t k (pNumV T n (if k = 2 then 1 else 0) P)) a2
    exact ⟨by omega, i2⟩
theorem tHead_n {T : Rw} {n dd : Nat} {P : Ps} (hp : P.1 ≤ n) (h : (tHead T n dd P).2.1 = 0) : P.1 + 1 ≤ (tHead T n dd P).1 ∧ (tHead T n dd P).1 ≤ n := by
  obtain ⟨a1, a2⟩ := pNum_n (T := T) (b := 0) hp
  obtain ⟨c1, c2⟩ := blk_n (T := T) a2
  unfold tHead at *
  dsimp only at *
  obtain ⟨s1, s2, -⟩ := pSign_n (by decide) c2 h
  dsimp only at s2
  exact ⟨by omega, s1⟩
section It
variable {Z : Zt} {d : Nat} {S : Sh} {μ : Mi} {ρ : Mr} {Rp : RT}
/-- an item, by what stands there -/
theorem f_X9_parseItem (hZ : ZX Z) {T : Rw} {n q z o : Nat} (hP : PgS S ρ) (hT : TpR T n q S μ ρ) (hby : byT T n) (hqn : q ≤ n) (e3 : μ 856 3 = 0) (e4 : μ 856 4 = -1) (e7 : μ 859 7 = nI z) (hz : z < 300) (e8 : μ 859 8 = nI o) (ho : o ≤ 3)
    (c1 : seeT T n q = 125 → 1 ≤ o → ∃ y, μ 865 (o - 1) = nI y ∧ y < z ∧ (z = y + 1 → Rp none S (upI (upI (tM μ (q + 1) (μ 858)) 859 8 (nI (o - 1))) 859 7 (nI y)) ρ) ∧ (¬ z = y + 1 → Rp none S (pgA (upI (tM μ (q + 1) (μ 858)) 859 8 (nI (o - 1))) z 101 (-1) (nI y)) ρ))
    (c2 : ¬ (seeT T n q = 125 ∧ 1 ≤ o) → qWordFrom T q (ltr T n q) = -1 → ∀ μ', FtF μ μ' 1 (nI q) → Rp none S μ' ρ)
    (c3 : ¬ (seeT T n q = 125 ∧ 1 ≤ o) → qWordFrom T q (ltr T n q) = 17 → (¬ (tHead T n (3 - o) (ltr T n q, 0, -1)).2.1 = 0 → ∀ μ', FtF μ μ' (tHead T n (3 - o) (ltr T n q, 0, -1)).2.1 (tHead T n (3 - o) (ltr T n q, 0, -1)).2.2 → Rp none S μ' ρ) ∧ ((tHead T n (3 - o) (ltr T n q, 0, -1)).2.1 = 0 → Rp none S (pgA (upI (upI (tM μ (tHead T n (3 - o) (ltr T n q, 0, -1)).1 (μ 858)) 865 o (nI z)) 859 8 (nI (o + 1))) z 100 (-1) (pNumV T n 0 (ltr T n q, 0, -1))) ρ))
    (c4 : ¬ (seeT T n q = 125 ∧ 1 ≤ o) → ∀ wi, wi < 17 → qWordFrom T q (ltr T n q) = nI wi → (¬ (pSign T n 59 (pNums T n (nOf (nI wi)).toNatClampNeg 0 (ltr T n q, 0, -1) (μ 858)).1).2.1 = 0 → ∀ μ', FtF μ μ' (pSign T n 59 (pNums T n (nOf (nI wi)).toNatClampNeg 0 (ltr T n q, 0, -1) (μ 858)).1).2.1 (pSign T n 59 (pNums T n (nOf (nI wi)).toNatClampNeg 0 (ltr T n q, 0, -1) (μ 858)).1).2.2 → Rp none S μ' ρ) ∧
      ((pSign T n 59 (pNums T n (nOf (nI wi)).toNatClampNeg 0 (ltr T n q, 0, -1) (μ 858)).1).2.1 = 0 → ∀ N, N = pNums T n (nOf (nI wi)).toNatClampNeg 0 (ltr T n q, 0, -1) (μ 858) → Rp none S (pgA (upI (upI (tM μ (pSign T n 59 N.1).1 N.2) 863 z (N.2 1)) 864 z (N.2 2)) z (nI wi) (nI q) (N.2 0)) ρ)) :
    MS Z (d + 8) jX9_parseItem [.ref 856, .ref 859] S μ ρ Rp := by
  have hPs := hP.1
  obtain ⟨⟨t1, t2, t3, t4, t5⟩, en, hn, ep, hp, hbt⟩ := id hT
  obtain ⟨l1, l2⟩ := ltr_le (T := T) hqn
  have hself := tM_self ep
  have eu : ∀ q', upI μ 856 6 (nI q') = tM μ q' (μ 858) := fun q' => by
    have := tM_u (μ := μ) (q := q) (q' := q') (t := μ 858)
    rw [hself] at this
    exact this
  refine ms_X9_parseItem _ _ (fun G => ?_)
  have word : ¬ (seeT T n q = 125 ∧ 1 ≤ o) → ∀ v3 : Value, w_X9_parseItem_36 (MS Z (d + 7)) G Rp [.ref 856, .ref 859, .int (nI q), v3] [] S (0, 0) μ ρ := by
    intro hn1 v3
    have a2 := c2 hn1
    have a3 := c3 hn1
    have a4 := c4 hn1
    simp only [w_X9_parseItem_36, tAload, tIload, nth, tGetI, tGetR, tConst, tLconst, tBin, tUn, tI2l, tAld, tAldR, tAlen, tIast, tBast, tZast, tAast, tIret, tZret, tVret, tAret, tIf, tIf2, tGoto, tIstore, tAstore, sset, tIinc, tDup, tDup2, tPop, tPutI, tPutZ, tPutR, tCallV, tCallS, popN, tFn, tCopy, tMax, tMin, tSw, swc, tRem, tObjI, Option.toList, List.nil_append, List.cons_append, okR, true_and, and_true, true_or, or_true, Nat.zero_le, ne_eq, not_false_eq_true, Nat.reduceEqDiff, t1]
    refine f_X9_parseWord (d := d) hZ hT hby hqn ?_
    rw [eu]
    have r := wfF_r (T := T) (b := q) (p := ltr T n q) 18 0 (by decide)
    refine ⟨fun c => ?_, fun c => ?_⟩
    · have x3 : tM μ (ltr T n q) (μ 858) 856 3 = 0 := by rw [tM_k (by omega)]; exact e3
      have x4 : tM μ (ltr T n q) (μ 858) 856 4 = -1 := by rw [tM_k (by omega)]; exact e4
      have x7 : tM μ (ltr T n q) (μ 858) 859 7 = nI z := by rw [tM_o (by omega) (by omega)]; exact e7
      have x8 : tM μ (ltr T n q) (μ 858) 859 8 = nI o := by rw [tM_o (by omega) (by omega)]; exact e8
      have hT2 : TpR T n (ltr T n q) S (tM μ (ltr T n q) (μ 858)) ρ := TpR_tM hT (by omega)
      have ft : ∀ μ' w wa, FtF (tM μ (ltr T n q) (μ 858)) μ' w wa → FtF μ μ' w wa := by
        intro μ' w wa hf
        exact ⟨fun a b1 b2 => by rw [hf.1 a b1 b2, tM_o b1 b2], hf.2.1, hf.2.2.1, fun i i1 i2 i3 => by rw [hf.2.2.2 i i1 i2 i3, tM_k i3]⟩
      have tt : ∀ q' t', tM (tM μ (ltr T n q) (μ 858)) q' t' = tM μ q' t' := by
        intro q' t'
        unfold tM
        funext b i
        unfold upI upF
        by_cases hb : b = 858
        · simp [hb]
        · by_cases hb2 : b = 856
          · subst hb2
            by_cases h6 : i = 6
            · simp [h6]
            · simp [h6]
          · simp [hb, hb2]
      simp only [w_X9_parseItem_55, w_X9_parseItem_69, w_X9_parseItem_76, tAload, tIload, nth, tGetI, tGetR, tConst, tLconst, tBin, tUn, tI2l, tAld, tAldR, tAlen, tIast, tBast, tZast, tAast, tIret, tZret, tVret, tAret, tIf, tIf2, tGoto, tIstore, tAstore, sset, tIinc, tDup, tDup2, tPop, tPutI, tPutZ, tPutR, tCallV, tCallS, popN, tFn, tCopy, tMax, tMin, tSw, swc, tRem, tObjI, Option.toList, List.nil_append, List.cons_append, okR, true_and, and_true, true_or, or_true, Nat.zero_le, ne_eq, not_false_eq_true, Nat.reduceEqDiff, F_X9_parseTimes, t1]
      refine ⟨fun cw => ?_, fun cw => ?_⟩
      · rcases r with r | ⟨wi, r1, r2⟩
        · exact absurd r c
        · have hw17 : wi < 17 := by
            have : ¬ wi = 17 := fun e => cw (by show qWordFrom T q (ltr T n q) = 17; rw [show qWordFrom T q (ltr T n q) = nI wi from r2, e]; rfl)
            omega
          have ew : qWordFrom T q (ltr T n q) = nI wi := r2
          obtain ⟨b1, b2⟩ := a4 wi hw17 ew
          rw [ew]
          refine ⟨trivial, f_X9_parseAct (d := d + 4) hZ hP hT2 (by omega) x3 x4 x7 hz hw17 ?_ ?_⟩
          · intro hb μ' hf
            rw [tM_t] at hb hf
            exact b1 hb μ' (ft _ _ _ hf)
          · intro hb N hN
            rw [tM_t] at hb hN
            rw [tt]
            exact b2 hb N hN
      · have ew : qWordFrom T q (ltr T n q) = 17 := Classical.not_not.mp cw
        obtain ⟨b1, b2⟩ := a3 ew
        refine ⟨trivial, hP, T, n, ltr T n q, z, o, hT2, l2, x3, x4, x7, hz, x8, ho, fun hb μ' hf => b1 hb μ' (ft _ _ _ hf), fun hb => ?_⟩
        rw [tM_t, tt]
        exact b2 hb
    · have ew := Classical.not_not.mp c
      simp only [w_X9_parseItem_76, tAload, tIload, nth, tGetI, tGetR, tConst, tLconst, tBin, tUn, tI2l, tAld, tAldR, tAlen, tIast, tBast, tZast, tAast, tIret, tZret, tVret, tAret, tIf, tIf2, tGoto, tIstore, tAstore, sset, tIinc, tDup, tDup2, tPop, tPutI, tPutZ, tPutR, tCallV, tCallS, popN, tFn, tCopy, tMax, tMin, tSw, swc, tRem, tObjI, Option.toList, List.nil_append, List.cons_append, okR, true_and, and_true, true_or, or_true, Nat.zero_le, ne_eq, not_false_eq_true, Nat.reduceEqDiff, F_X9_fail, t1]
      exact ⟨trivial, a2 ew _ FtF_tM⟩
  simp only [w_X9_parseItem_0, tAload, tIload, nth, tGetI, tGetR, tConst, tLconst, tBin, tUn, tI2l, tAld, tAldR, tAlen, tIast, tBast, tZast, tAast, tIret, tZret, tVret, tAret, tIf, tIf2, tGoto, tIstore, tAstore, sset, tIinc, tDup, tDup2, tPop, tPutI, tPutZ, tPutR, tCallV, tCallS, popN, tFn, tCopy, tMax, tMin, tSw, swc, tRem, tObjI, Option.toList, List.nil_append, List.cons_append, okR, true_and, and_true, true_or, or_true, Nat.zero_le, ne_eq, not_false_eq_true, Nat.reduceEqDiff, F_X9_here, t1, ep]
  refine ⟨T, n, q, hT, fun c => word (fun y => c y.1) _, fun c => ?_⟩
  have cs : seeT T n q = 125 := Classical.not_not.mp c
  simp only [tAload, tIload, nth, tGetI, tGetR, tConst, tLconst, tBin, tUn, tI2l, tAld, tAldR, tAlen, tIast, tBast, tZast, tAast, tIret, tZret, tVret, tAret, tIf, tIf2, tGoto, tIstore, tAstore, sset, tIinc, tDup, tDup2, tPop, tPutI, tPutZ, tPutR, tCallV, tCallS, popN, tFn, tCopy, tMax, tMin, tSw, swc, tRem, tObjI, Option.toList, List.nil_append, List.cons_append, okR, true_and, and_true, true_or, or_true, Nat.zero_le, ne_eq, not_false_eq_true, Nat.reduceEqDiff, F_X4_closeLoop, hPs, e8]
  refine ⟨fun c' => word (fun y => ?_) _, fun c' => ?_⟩
  · rw [show (0 : Int32) = nI 0 from rfl, nI_leI (by omega) (by decide)] at c'
    omega
  · rw [show (0 : Int32) = nI 0 from rfl, nI_leI (by omega) (by decide)] at c'
    obtain ⟨y, y1, y2, y3, y4⟩ := c1 cs (by omega)
    rw [nI_s1, eu]
    have g7 : tM μ (q + 1) (μ 858) 859 7 = nI z := by rw [tM_o (by omega) (by omega)]; exact e7
    have g8 : tM μ (q + 1) (μ 858) 859 8 = nI (o - 1 + 1) := by rw [tM_o (by omega) (by omega), e8]; congr 1; omega
    have g5 : tM μ (q + 1) (μ 858) 865 (o - 1) = nI y := by rw [tM_o (by omega) (by omega)]; exact y1
    exact ⟨hP, z, o - 1, y, g7, hz, g8, by omega, g5, y2, y3, y4⟩
end It
