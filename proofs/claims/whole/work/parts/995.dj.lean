/-! ===== the class: a world is copied ===== -/
def apW (a b : Nat) : Prop := a + 170 ≤ b ∨ b + 170 ≤ a
def w_X1_copyFrom_31 (M : CT) (G : Nat → PT) (Rp : RT) : PT := tAload 0 <| tAload 1 <| tGetI 1 6 2 <| tPutI 1 6 2 <| tAload 0 <| tAload 1 <| tGetI 1 6 3 <| tPutI 1 6 3 <| tAload 0 <| tAload 1 <| tGetI 1 6 4 <| tPutI 1 6 4 <| tAload 0 <| tAload 1 <| tGetI 1 6 5 <| tPutI 1 6 5 <| tVret Rp
def w_X1_copyFrom_2 (M : CT) (G : Nat → PT) (Rp : RT) : PT := tIload 2 <| tAload 1 <| tGetI 1 6 2 <| tIf2 (fun x y => y ≤ x) (w_X1_copyFrom_31 M G Rp) <| tAload 0 <| tGetR 1 6 0 <| tIload 2 <| tAldR 32 <| tAload 1 <| tGetR 1 6 0 <| tIload 2 <| tAldR 32 <| tFn 2 F_X2_copyFrom <| tIinc 2 1 <| tGoto (G 2)
def w_X1_copyFrom_0 (M : CT) (G : Nat → PT) (Rp : RT) : PT := tConst 0 <| tIstore 2 <| G 2
set_option maxRecDepth 20000 in
theorem b_X1_copyFrom_31 {Z : Zt} {d : Nat} {p : Program} {e : Env} {R : Room} {s : State} {m : MethodId} {args : Array Value} {below : List Frame} {meth : Method} {c : Code} {Rp : RT} (C : Cx Z (d + 1) jX1_copyFrom RX1 p R s m args meth c) : Sd Z jX1_copyFrom p e R s m args below meth c (MQ below (QcS Z Rp) args s 0 0 (fun a => Z.2.2.1 < a)) 31 (w_X1_copyFrom_31 (MS Z (d + 1)) (Gw Z 3 p e R s m args below meth c (MQ below (QcS Z Rp) args s 0 0 (fun a => Z.2.2.1 < a))) Rp) := by
  unfold w_X1_copyFrom_31
  refine s_aload_n (k := 0) C (by decide +kernel) ?_
  refine s_aload_n (k := 1) C (by decide +kernel) ?_
  refine s_getI C w_1_123 (by decide +kernel) rfl ?_
  refine s_putI C w_1_123 (by decide +kernel) rfl (Or.inl rfl) ?_
  refine s_aload_n (k := 0) C (by decide +kernel) ?_
  refine s_aload_n (k := 1) C (by decide +kernel) ?_
  refine s_getI C w_1_128 (by decide +kernel) rfl ?_
  refine s_putI C w_1_128 (by decide +kernel) rfl (Or.inl rfl) ?_
  refine s_aload_n (k := 0) C (by decide +kernel) ?_
  refine s_aload_n (k := 1) C (by decide +kernel) ?_
  refine s_getI C w_1_132 (by decide +kernel) rfl ?_
  refine s_putI C w_1_132 (by decide +kernel) rfl (Or.inl rfl) ?_
  refine s_aload_n (k := 0) C (by decide +kernel) ?_
  refine s_aload_n (k := 1) C (by decide +kernel) ?_
  refine s_getI C w_1_135 (by decide +kernel) rfl ?_
  refine s_putI C w_1_135 (by decide +kernel) rfl (Or.inl rfl) ?_
  exact s_vret C rfl (by decide +kernel)
set_option maxRecDepth 20000 in
theorem b_X1_copyFrom_2 {Z : Zt} {d : Nat} {p : Program} {e : Env} {R : Room} {s : State} {m : MethodId} {args : Array Value} {below : List Frame} {meth : Method} {c : Code} {Rp : RT} (C : Cx Z (d + 1) jX1_copyFrom RX1 p R s m args meth c) : Sd Z jX1_copyFrom p e R s m args below meth c (MQ below (QcS Z Rp) args s 0 0 (fun a => Z.2.2.1 < a)) 2 (w_X1_copyFrom_2 (MS Z (d + 1)) (Gw Z 3 p e R s m args below meth c (MQ below (QcS Z Rp) args s 0 0 (fun a => Z.2.2.1 < a))) Rp) := by
  unfold w_X1_copyFrom_2
  refine s_iload_n (k := 2) C (by decide +kernel) ?_
  refine s_aload_n (k := 1) C (by decide +kernel) ?_
  refine s_getI C w_1_123 (by decide +kernel) rfl ?_
  refine s_icmp_ge (off := 24) (tgt := 31) C (by decide +kernel) (by decide) (b_X1_copyFrom_31 C) ?_
  refine s_aload_n (k := 0) C (by decide +kernel) ?_
  refine s_getR C w_1_118 (by decide +kernel) rfl ?_
  refine s_iload_n (k := 2) C (by decide +kernel) ?_
  refine s_aald C rfl (by decide +kernel) ?_
  refine s_aload_n (k := 1) C (by decide +kernel) ?_
  refine s_getR C w_1_118 (by decide +kernel) rfl ?_
  refine s_iload_n (k := 2) C (by decide +kernel) ?_
  refine s_aald C rfl (by decide +kernel) ?_
  refine s_fnV C (j2 := jX2_copyFrom) (cl := 2) (nf := 10) rfl rfl (by decide +kernel) rfl w_3_60 w_3_61 w_3_62 w_1_4 w_3_63 (by decide +kernel) (fun _ _ _ _ _ h => f_X2_copyFrom h) (fun _ _ _ _ _ h => r_X2_copyFrom h) ?_
  refine s_iinc (n := 1) C (by decide +kernel) (by decide) ?_
  exact s_goto (off := (-26)) (tgt := 2) C (by decide +kernel) (by decide) (fun _ _ _ _ _ _ h => h)
set_option maxRecDepth 20000 in
theorem b_X1_copyFrom_0 {Z : Zt} {d : Nat} {p : Program} {e : Env} {R : Room} {s : State} {m : MethodId} {args : Array Value} {below : List Frame} {meth : Method} {c : Code} {Rp : RT} (C : Cx Z (d + 1) jX1_copyFrom RX1 p R s m args meth c) : Sd Z jX1_copyFrom p e R s m args below meth c (MQ below (QcS Z Rp) args s 0 0 (fun a => Z.2.2.1 < a)) 0 (w_X1_copyFrom_0 (MS Z (d + 1)) (Gw Z 3 p e R s m args below meth c (MQ below (QcS Z Rp) args s 0 0 (fun a => Z.2.2.1 < a))) Rp) := by
  unfold w_X1_copyFrom_0
  refine s_iconst (n := 0) C (by decide +kernel) (by decide) ?_
  refine s_istore_n (k := 2) C (by decide +kernel) ?_
  exact (fun _ _ _ _ _ _ h => h)
theorem ms_X1_copyFrom {Z : Zt} {d : Nat} {S : Sh} {μ : Mi} {ρ : Mr} {Rp : RT} (a0 : Nat) (a1 : Nat) (h : ∀ G : Nat → PT, (∀ (L st : List Value) (S : Sh) (q : Nat × Nat) (μ : Mi) (ρ : Mr), w_X1_copyFrom_2 (MS Z (d + 1)) G Rp L st S q μ ρ → G 2 L st S q μ ρ) → w_X1_copyFrom_0 (MS Z (d + 1)) G Rp [.ref a0, .ref a1, .null] [] S (0, 0) μ ρ) : MS Z (d + 2) jX1_copyFrom [.ref a0, .ref a1] S μ ρ Rp :=
  MS_of [.ref a0, .ref a1, .null] (by decide +kernel) rfl rfl (Nat.le_of_ble_eq_true rfl) rfl (fun p e R s m args below meth c C => b_X1_copyFrom_0 C _ _ _ _ _ _ (h _ (b_X1_copyFrom_2 C)))
def F_X1_copyFrom : FT := fun As S μ ρ k => match As with
  | [.ref a, .ref b] => S.2 a = (1, 6) ∧ S.2 b = (1, 6) ∧ ∃ (w v : Nat) (A : Rw), a = w + 2 ∧ b = v + 2 ∧ WOK w S ρ ∧ WOK v S ρ ∧ apW w v ∧ Ml A v μ ρ ∧ ∀ μ', Ml A w μ' ρ → Fm w μ μ' → k none μ'
  | _ => False
theorem r_X1_copyFrom {As S μ ρ k} (h : F_X1_copyFrom As S μ ρ k) : ∃ a As', As = Value.ref a :: As' ∧ S.2 a = (1, 6) := by
  unfold F_X1_copyFrom at h
  split at h
  · exact ⟨_, _, rfl, h.1⟩
  · exact h.elim
set_option maxHeartbeats 1000000 in
theorem f_X1_copyFrom {Z : Zt} {d : Nat} {As : List Value} {S : Sh} {μ : Mi} {ρ : Mr} {Rp : RT} (h : F_X1_copyFrom As S μ ρ (fun r μ' => Rp r S μ' ρ)) : MS Z (d + 2) jX1_copyFrom As S μ ρ Rp := by
  unfold F_X1_copyFrom at h
  split at h
  · rename_i a b
    obtain ⟨a, hNa⟩ : ∃ n : Nat, n = a := ⟨a, rfl⟩
    subst hNa
    obtain ⟨b, hNb⟩ : ∃ n : Nat, n = b := ⟨b, rfl⟩
    subst hNb
    obtain ⟨h1, h2, w, v, A, rfl, rfl, hW, hV, hp, hM, h⟩ := h
    unfold apW at hp
    refine ms_X1_copyFrom _ _ (fun G g2 => ?_)
    obtain ⟨wn, w1, w2, -, w3⟩ := rg_ex hM.2.1.1
    have ec : (A 4510).toNatClampNeg = wn := by rw [w1, nI_clamp w2]
    have e2 : μ (v + 2) 2 = nI wn := hM.1.1.trans w1
    have loop : ∀ (j k : Nat) (ν : Mi), j + k = wn → (∀ y : Nat, (y < w + 4 ∨ w + 128 ≤ y) → ν y = μ y) → (∀ i, i < k → MsR (rowM A i) (A 4514) (ρ (w + 3) i) ν) → G 2 [.ref (w + 2), .ref (v + 2), .int (nI k)] [] S (0, 0) ν ρ := by
      intro j
      induction j with
      | zero =>
        intro k ν hk hf hm
        obtain rfl : k = wn := by omega
        have ev : ν (v + 2) = μ (v + 2) := hf _ (by omega)
        apply g2
        simp only [w_X1_copyFrom_2, w_X1_copyFrom_31, tAload, tIload, nth, tGetI, tGetR, tConst, tLconst, tBin, tUn, tI2l, tAld, tAldR, tAlen, tIast, tBast, tZast, tAast, tIret, tZret, tVret, tAret, tIf, tIf2, tGoto, tIstore, tAstore, sset, tIinc, tDup, tDup2, tPop, tPutI, tPutZ, tPutR, tCallV, tCallS, popN, tFn, tCopy, tMax, tMin, tSw, swc, tRem, tObjI, Option.toList, List.nil_append, List.cons_append, okR, true_and, and_true, true_or, or_true, Nat.zero_le, ne_eq, not_false_eq_true, Nat.reduceEqDiff, h1, h2, ev, e2]
        simp (disch := omega) only [upI_ne, ev, e2]
        refine ⟨fun _ => h _ ⟨?_, hM.2.1, fun i hi => ?_⟩ (fun y hy => ?_), fun z => absurd (Int32.le_refl _) z⟩
        · simp (disch := omega) only [upI_k, upI_at]
          rw [← w1]
          exact ⟨rfl, hM.1.2⟩
        · rw [ec] at hi
          obtain ⟨l, l1, l2, -⟩ := WOK_box hW (i := i) (by omega)
          refine MsR_congr (hm i hi) (fun _ _ => rfl) rfl ?_ ?_
          · simp (disch := omega) only [upI_ne]
          · simp (disch := omega) only [upI_ne]
        · simp (disch := omega) only [upI_ne]
          exact hf y (by omega)
      | succ j ih =>
        intro k ν hk hf hm
        have ev : ν (v + 2) 2 = nI wn := by rw [hf _ (by omega)]; exact e2
        obtain ⟨l, l1, l2, l3, l4, l5⟩ := WOK_box hW (i := k) (by omega)
        obtain ⟨m, m1, m2, m3, m4, m5⟩ := WOK_box hV (i := k) (by omega)
        apply g2
        simp only [w_X1_copyFrom_2, tAload, tIload, nth, tGetI, tGetR, tConst, tLconst, tBin, tUn, tI2l, tAld, tAldR, tAlen, tIast, tBast, tZast, tAast, tIret, tZret, tVret, tAret, tIf, tIf2, tGoto, tIstore, tAstore, sset, tIinc, tDup, tDup2, tPop, tPutI, tPutZ, tPutR, tCallV, tCallS, popN, tFn, tCopy, tMax, tMin, tSw, swc, tRem, tObjI, Option.toList, List.nil_append, List.cons_append, okR, true_and, and_true, true_or, or_true, Nat.zero_le, ne_eq, not_false_eq_true, Nat.reduceEqDiff, F_X2_copyFrom, h1, h2, ev, hW.2.2.2.2.1, hV.2.2.2.2.1, hW.2.1, hV.2.1, nI_s1]
        simp (disch := omega) only [nI_clamp, l3, l4, l5, m3, m4, m5]
        refine ⟨fun z => absurd z (by rw [nI_leI (by omega) (by omega)]; omega), fun _ => ⟨inb_nI (by omega) (by decide), by omega, inb_nI (by omega) (by decide), by omega, trivial, trivial, trivial, trivial, trivial, trivial, by unfold ap2; omega, fun μ1 q1 q2 q3 => ?_⟩⟩
        refine ih (k + 1) μ1 (by omega) (fun y hy => by rw [q3 y (by omega) (by omega)]; exact hf y hy) (fun i hi => ?_)
        by_cases c : i = k
        · subst c
          refine MsR_copy (hM.2.2 i (by omega)) (fun j hj => ?_) (fun j hj => ?_)
          · rw [q1 j hj, hf _ (by omega)]
          · rw [q2 j hj, hf _ (by omega)]
        · obtain ⟨p, p1, p2, -⟩ := WOK_box hW (i := i) (by omega)
          have hne : ρ (w + 3) i ≠ ρ (w + 3) k := fun z => c (hW.2.2.2.2.2.2 i k (by omega) (by omega) z)
          exact MsR_congr (hm i (by omega)) (fun _ _ => rfl) rfl (q3 _ hne (by omega)) (q3 _ (by omega) (by omega))
    simp only [w_X1_copyFrom_0, tAload, tIload, nth, tGetI, tGetR, tConst, tLconst, tBin, tUn, tI2l, tAld, tAldR, tAlen, tIast, tBast, tZast, tAast, tIret, tZret, tVret, tAret, tIf, tIf2, tGoto, tIstore, tAstore, sset, tIinc, tDup, tDup2, tPop, tPutI, tPutZ, tPutR, tCallV, tCallS, popN, tFn, tCopy, tMax, tMin, tSw, swc, tRem, tObjI, Option.toList, List.nil_append, List.cons_append, okR, true_and, and_true, true_or, or_true, Nat.zero_le, ne_eq, not_false_eq_true, Nat.reduceEqDiff]
    exact loop wn 0 μ (by omega) (fun _ _ => rfl) (fun i hi => by omega)
  · exact h.elim
def WI (w : Nat) (μ : Mi) : Prop := ∀ s, s < 5 → μ (w + 130 + 8 * s) 0 = nI s
def w_X10_copyFrom_28 (M : CT) (G : Nat → PT) (Rp : RT) : PT := tAload 0 <| tGetR 10 6 1 <| tAload 1 <| tGetR 10 6 1 <| tFn 2 F_X1_copyFrom <| tAload 1 <| tGetR 10 6 2 <| tConst 0 <| tAload 0 <| tGetR 10 6 2 <| tConst 0 <| tAload 0 <| tGetR 10 6 2 <| tAlen <| tCopy <| tAload 1 <| tGetR 10 6 3 <| tConst 0 <| tAload 0 <| tGetR 10 6 3 <| tConst 0 <| tAload 0 <| tGetR 10 6 3 <| tAlen <| tCopy <| tAload 0 <| tAload 1 <| tGetI 10 6 4 <| tPutI 10 6 4 <| tAload 0 <| tAload 1 <| tGetI 10 6 5 <| tPutZ 10 6 5 <| tVret Rp
def w_X10_copyFrom_2 (M : CT) (G : Nat → PT) (Rp : RT) : PT := tIload 2 <| tConst 5 <| tIf2 (fun x y => y ≤ x) (w_X10_copyFrom_28 M G Rp) <| tAload 0 <| tGetR 10 6 0 <| tIload 2 <| tAldR 37 <| tAload 1 <| tGetR 10 6 0 <| tIload 2 <| tAldR 37 <| tFn 2 F_X7_copyFrom <| tIinc 2 1 <| tGoto (G 2)
def w_X10_copyFrom_0 (M : CT) (G : Nat → PT) (Rp : RT) : PT := tConst 0 <| tIstore 2 <| G 2
set_option maxRecDepth 20000 in
theorem b_X10_copyFrom_28 {Z : Zt} {d : Nat} {p : Program} {e : Env} {R : Room} {s : State} {m : MethodId} {args : Array Value} {below : List Frame} {meth : Method} {c : Code} {Rp : RT} (C : Cx Z (d + 2) jX10_copyFrom RX10 p R s m args meth c) : Sd Z jX10_copyFrom p e R s m args below meth c (MQ below (QcS Z Rp) args s 0 0 (fun a => Z.2.2.1 < a)) 28 (w_X10_copyFrom_28 (MS Z (d + 2)) (Gw Z 3 p e R s m args below meth c (MQ below (QcS Z Rp) args s 0 0 (fun a => Z.2.2.1 < a))) Rp) := by
  unfold w_X10_copyFrom_28
  refine s_aload_n (k := 0) C (by decide +kernel) ?_
  refine s_getR C w_2_117 (by decide +kernel) rfl ?_
  refine s_aload_n (k := 1) C (by decide +kernel) ?_
  refine s_getR C w_2_117 (by decide +kernel) rfl ?_
  refine s_fnV C (j2 := jX1_copyFrom) (cl := 1) (nf := 6) rfl rfl (by decide +kernel) rfl w_3_56 w_3_57 w_3_58 w_1_3 w_3_59 (by decide +kernel) (fun _ _ _ _ _ h => f_X1_copyFrom h) (fun _ _ _ _ _ h => r_X1_copyFrom h) ?_
  refine s_aload_n (k := 1) C (by decide +kernel) ?_
  refine s_getR C w_2_121 (by decide +kernel) rfl ?_
  refine s_iconst (n := 0) C (by decide +kernel) (by decide) ?_
  refine s_aload_n (k := 0) C (by decide +kernel) ?_
  refine s_getR C w_2_121 (by decide +kernel) rfl ?_
  refine s_iconst (n := 0) C (by decide +kernel) (by decide) ?_
  refine s_aload_n (k := 0) C (by decide +kernel) ?_
  refine s_getR C w_2_121 (by decide +kernel) rfl ?_
  refine s_alen C (by decide +kernel) ?_
  refine s_copy C w_3_65 w_3_46 w_3_45 w_1_14 (by decide +kernel) ?_
  refine s_aload_n (k := 1) C (by decide +kernel) ?_
  refine s_getR C w_2_124 (by decide +kernel) rfl ?_
  refine s_iconst (n := 0) C (by decide +kernel) (by decide) ?_
  refine s_aload_n (k := 0) C (by decide +kernel) ?_
  refine s_getR C w_2_124 (by decide +kernel) rfl ?_
  refine s_iconst (n := 0) C (by decide +kernel) (by decide) ?_
  refine s_aload_n (k := 0) C (by decide +kernel) ?_
  refine s_getR C w_2_124 (by decide +kernel) rfl ?_
  refine s_alen C (by decide +kernel) ?_
  refine s_copy C w_3_65 w_3_46 w_3_45 w_1_14 (by decide +kernel) ?_
  refine s_aload_n (k := 0) C (by decide +kernel) ?_
  refine s_aload_n (k := 1) C (by decide +kernel) ?_
  refine s_getI C w_2_126 (by decide +kernel) rfl ?_
  refine s_putI C w_2_126 (by decide +kernel) rfl (Or.inl rfl) ?_
  refine s_aload_n (k := 0) C (by decide +kernel) ?_
  refine s_aload_n (k := 1) C (by decide +kernel) ?_
  refine s_getI C w_2_128 (by decide +kernel) rfl ?_
  refine s_putZ C w_2_128 (by decide +kernel) rfl (Or.inl rfl) ?_
  exact s_vret C rfl (by decide +kernel)
set_option maxRecDepth 20000 in
theorem b_X10_copyFrom_2 {Z : Zt} {d : Nat} {p : Program} {e : Env} {R : Room} {s : State} {m : MethodId} {args : Array Value} {below : List Frame} {meth : Method} {c : Code} {Rp : RT} (C : Cx Z (d + 2) jX10_copyFrom RX10 p R s m args meth c) : Sd Z jX10_copyFrom p e R s m args below meth c (MQ below (QcS Z Rp) args s 0 0 (fun a => Z.2.2.1 < a)) 2 (w_X10_copyFrom_2 (MS Z (d + 2)) (Gw Z 3 p e R s m args below meth c (MQ below (QcS Z Rp) args s 0 0 (fun a => Z.2.2.1 < a))) Rp) := by
  unfold w_X10_copyFrom_2
  refine s_iload_n (k := 2) C (by decide +kernel) ?_
  refine s_iconst (n := 5) C (by decide +kernel) (by decide) ?_
  refine s_icmp_ge (off := 24) (tgt := 28) C (by decide +kernel) (by decide) (b_X10_copyFrom_28 C) ?_
  refine s_aload_n (k := 0) C (by decide +kernel) ?_
  refine s_getR C w_2_113 (by decide +kernel) rfl ?_
  refine s_iload_n (k := 2) C (by decide +kernel) ?_
  refine s_aald C rfl (by decide +kernel) ?_
  refine s_aload_n (k := 1) C (by decide +kernel) ?_
  refine s_getR C w_2_113 (by decide +kernel) rfl ?_
  refine s_iload_n (k := 2) C (by decide +kernel) ?_
  refine s_aald C rfl (by decide +kernel) ?_
  refine s_fnV C (j2 := jX7_copyFrom) (cl := 7) (nf := 18) rfl rfl (by decide +kernel) rfl w_3_40 w_3_41 w_3_42 w_1_5 w_3_43 (by decide +kernel) (fun _ _ _ _ _ h => f_X7_copyFrom h) (fun _ _ _ _ _ h => r_X7_copyFrom h) ?_
  refine s_iinc (n := 1) C (by decide +kernel) (by decide) ?_
  exact s_goto (off := (-23)) (tgt := 2) C (by decide +kernel) (by decide) (fun _ _ _ _ _ _ h => h)
set_option maxRecDepth 20000 in
theorem b_X10_copyFrom_0 {Z : Zt} {d : Nat} {p : Program} {e : Env} {R : Room} {s : State} {m : MethodId} {args : Array Value} {below : List Frame} {meth : Method} {c : Code} {Rp : RT} (C : Cx Z (d + 2) jX10_copyFrom RX10 p R s m args meth c) : Sd Z jX10_copyFrom p e R s m args below meth c (MQ below (QcS Z Rp) args s 0 0 (fun a => Z.2.2.1 < a)) 0 (w_X10_copyFrom_0 (MS Z (d + 2)) (Gw Z 3 p e R s m args below meth c (MQ below (QcS Z Rp) args s 0 0 (fun a => Z.2.2.1 < a))) Rp) := by
  unfold w_X10_copyFrom_0
  refine s_iconst (n := 0) C (by decide +kernel) (by decide) ?_
  refine s_istore_n (k := 2) C (by decide +kernel) ?_
  exact (fun _ _ _ _ _ _ h => h)
theorem ms_X10_copyFrom {Z : Zt} {d : Nat} {S : Sh} {μ : Mi} {ρ : Mr} {Rp : RT} (a0 : Nat) (a1 : Nat) (h : ∀ G : Nat → PT, (∀ (L st : List Value) (S : Sh) (q : Nat × Nat) (μ : Mi) (ρ : Mr), w_X10_copyFrom_2 (MS Z (d + 2)) G Rp L st S q μ ρ → G 2 L st S q μ ρ) → w_X10_copyFrom_0 (MS Z (d + 2)) G Rp [.ref a0, .ref a1, .null] [] S (0, 0) μ ρ) : MS Z (d + 3) jX10_copyFrom [.ref a0, .ref a1] S μ ρ Rp :=
  MS_of [.ref a0, .ref a1, .null] (by decide +kernel) rfl rfl (Nat.le_of_ble_eq_true rfl) rfl (fun p e R s m args below meth c C => b_X10_copyFrom_0 C _ _ _ _ _ _ (h _ (b_X10_copyFrom_2 C)))
def F_X10_copyFrom : FT := fun As S μ ρ k => match As with
  | [.ref a, .ref b] => S.2 a = (10, 6) ∧ S.2 b = (10, 6) ∧ WOK a S ρ ∧ WI a μ ∧ apW a b ∧ ∃ A : Rw, RR A b S μ ρ ∧ ∀ μ', RR A a S μ' ρ → Ot a μ μ' → k none μ'
  | _ => False
theorem r_X10_copyFrom {As S μ ρ k} (h : F_X10_copyFrom As S μ ρ k) : ∃ a As', As = Value.ref a :: As' ∧ S.2 a = (10, 6) := by
  unfold F_X10_copyFrom at h
  split at h
  · exact ⟨_, _, rfl, h.1⟩
  · exact h.elim
set_option maxHeartbeats 1000000 in
theorem f_X10_copyFrom {Z : Zt} {d : Nat} {As : List Value} {S : Sh} {μ : Mi} {ρ : Mr} {Rp : RT} (h : F_X10_copyFrom As S μ ρ (fun r μ' => Rp r S μ' ρ)) : MS Z (d + 3) jX10_copyFrom As S μ ρ Rp := by
  unfold F_X10_copyFrom at h
  split at h
  · rename_i a b
    obtain ⟨a, hNa⟩ : ∃ n : Nat, n = a := ⟨a, rfl⟩
    subst hNa
    obtain ⟨b, hNb⟩ : ∃ n : Nat, n = b := ⟨b, rfl⟩
    subst hNb
    obtain ⟨h1, h2, hW, hI, hp, A, hR, h⟩ := h
    have hp' := hp
    unfold apW at hp
    refine ms_X10_copyFrom _ _ (fun G g2 => ?_)
    have hV := RR_W hR
    have loop : ∀ (j k : Nat) (ν : Mi), j + k = 5 → (∀ y : Nat, (y < a + 130 ∨ a + 130 + 8 * k ≤ y) → ν y = μ y) → (∀ s, s < k → St A s (a + 130 + 8 * s) ν) → (∀ s, s < k → A (514 * s + 3) = 2 → ∀ t, t < 5 → ν (a + 130 + 8 * s + 3) t = A (514 * s + 24 + t) ∧ ν (a + 130 + 8 * s + 4) t = A (514 * s + 29 + t)) → G 2 [.ref a, .ref b, .int (nI k)] [] S (0, 0) ν ρ := by
      intro j
      induction j with
      | zero =>
        intro k ν hk hf hs hn
        obtain rfl : k = 5 := by omega
        have hMl : Ml A b ν ρ := by
          have hM := hR.1.2.2.1
          obtain ⟨wn, w1, w2, -, w3⟩ := rg_ex hM.2.1.1
          refine ⟨by rw [hf _ (by omega)]; exact hM.1, hM.2.1, fun i hi => ?_⟩
          have hi' := hi
          rw [w1, nI_clamp w2] at hi'
          obtain ⟨l, l1, l2, -⟩ := WOK_box hV (i := i) (by omega)
          exact MsR_congr (hM.2.2 i hi) (fun _ _ => rfl) rfl (hf _ (by omega)) (hf _ (by omega))
        have hb := hR.1.2.2.2
        have e4 : ν b 4 = A 4514 := by rw [hf _ (by omega)]; exact hb.2.1
        have e5 : ν b 5 = A 4515 := by rw [hf _ (by omega)]; exact hb.2.2.1
        apply g2
        simp only [w_X10_copyFrom_2, w_X10_copyFrom_28, tAload, tIload, nth, tGetI, tGetR, tConst, tLconst, tBin, tUn, tI2l, tAld, tAldR, tAlen, tIast, tBast, tZast, tAast, tIret, tZret, tVret, tAret, tIf, tIf2, tGoto, tIstore, tAstore, sset, tIinc, tDup, tDup2, tPop, tPutI, tPutZ, tPutR, tCallV, tCallS, popN, tFn, tCopy, tMax, tMin, tSw, swc, tRem, tObjI, Option.toList, List.nil_append, List.cons_append, okR, true_and, and_true, true_or, or_true, Nat.zero_le, ne_eq, not_false_eq_true, Nat.reduceEqDiff, F_X1_copyFrom, h1, h2, hW.2.2.2.2.1, hV.2.2.2.2.1, hW.2.1, hV.2.1]
        refine ⟨fun _ => ⟨a, b, A, rfl, rfl, hW, hV, hp', hMl, fun μ1 m1 f1 => ?_⟩, fun z => absurd ((nI_le5 (by decide)).mpr rfl) z⟩
        have z0 : (0 : Int32).toNatClampNeg = 0 := rfl
        have z121 : (Int32.ofNat 121).toNatClampNeg = 121 := by decide
        have z201 : (Int32.ofNat 201).toNatClampNeg = 201 := by decide
        have g4 : μ1 b 4 = A 4514 := by rw [f1 _ (by omega)]; exact e4
        have g5 : μ1 b 5 = A 4515 := by rw [f1 _ (by omega)]; exact e5
        simp (disch := omega) only [upI_ne, upF_ne, z0, z121, z201, g4, g5]
        refine ⟨by decide, by decide, by decide, by decide, by decide, by decide, by decide, by decide, by decide, by decide, by decide, by decide, hb.2.2.2, ?_⟩
        generalize hκ : upI (upI (upF (upF μ1 (a + 128) (va_cpy (μ1 (b + 128)) (μ1 (a + 128)) 0 0 121)) (a + 129) (va_cpy (μ1 (b + 129)) (μ1 (a + 129)) 0 0 201)) a 4 (A 4514)) a 5 (A 4515) = κ
        have k1 : ∀ y : Nat, y ≠ a → y ≠ a + 128 → y ≠ a + 129 → κ y = μ1 y := fun y y1 y2 y3 => by rw [← hκ, upI_ne y1, upI_ne y1, upF_ne y3, upF_ne y2]
        have k128 : ∀ i, i < 121 → κ (a + 128) i = μ (b + 128) i := fun i hi => by rw [← hκ, upI_ne (by omega), upI_ne (by omega), upF_ne (by omega), upF_same, cpy_at hi, Nat.zero_add, f1 _ (by omega), hf _ (by omega)]
        have k129 : ∀ i, i < 201 → κ (a + 129) i = μ (b + 129) i := fun i hi => by rw [← hκ, upI_ne (by omega), upI_ne (by omega), upF_same, cpy_at hi, Nat.zero_add, f1 _ (by omega), hf _ (by omega)]
        have k4 : κ a 4 = A 4514 := by rw [← hκ, upI_k (by omega), upI_at]
        have k5 : κ a 5 = A 4515 := by rw [← hκ, upI_at]
        clear hκ
        refine h κ ⟨⟨hW, fun s hs' => ?_, ⟨?_, m1.2.1, fun i hi => ?_⟩, ⟨fun p p1 p2 => ?_, fun t t1 t2 => ?_⟩, k4, k5, hb.2.2.2⟩, fun s hs' hr t ht => ?_⟩ (fun y hy => ?_)
        · exact St_congr hs' (hs s hs') (fun _ _ _ => rfl) rfl (fun y y1 y2 => by rw [k1 _ (by omega) (by omega) (by omega), f1 _ (by omega)])
        · rw [k1 _ (by omega) (by omega) (by omega)]; exact m1.1
        · obtain ⟨wn, w1, w2, -, w3⟩ := rg_ex m1.2.1.1
          have hi' := hi
          rw [w1, nI_clamp w2] at hi'
          obtain ⟨l, l1, l2, -⟩ := WOK_box hW (i := i) (by omega)
          exact MsR_congr (m1.2.2 i hi) (fun _ _ => rfl) rfl (k1 _ (by omega) (by omega) (by omega)) (k1 _ (by omega) (by omega) (by omega))
        · rw [k128 p (by omega)]; exact hb.1.1 p p1 p2
        · rw [k129 t (by omega)]; exact hb.1.2 t t1 t2
        · rw [k1 _ (by omega) (by omega) (by omega), k1 _ (by omega) (by omega) (by omega), f1 _ (by omega), f1 _ (by omega)]
          exact hn s hs' hr t ht
        · rw [k1 _ (by omega) (by omega) (by omega), f1 _ (by omega), hf _ (by omega)]
      | succ j ih =>
        intro k ν hk hf hs hn
        have hk5 : k < 5 := by omega
        obtain ⟨x1, x2, x3⟩ := W_st hW hk5
        obtain ⟨y1, y2, y3⟩ := W_st hV hk5
        have hStb : St A k (b + 130 + 8 * k) ν := St_congr hk5 (RR_st hR hk5) (fun _ _ _ => rfl) rfl (fun y y1 y2 => hf y (by omega))
        apply g2
        simp only [w_X10_copyFrom_2, tAload, tIload, nth, tGetI, tGetR, tConst, tLconst, tBin, tUn, tI2l, tAld, tAldR, tAlen, tIast, tBast, tZast, tAast, tIret, tZret, tVret, tAret, tIf, tIf2, tGoto, tIstore, tAstore, sset, tIinc, tDup, tDup2, tPop, tPutI, tPutZ, tPutR, tCallV, tCallS, popN, tFn, tCopy, tMax, tMin, tSw, swc, tRem, tObjI, Option.toList, List.nil_append, List.cons_append, okR, true_and, and_true, true_or, or_true, Nat.zero_le, ne_eq, not_false_eq_true, Nat.reduceEqDiff, F_X7_copyFrom, h1, h2, hW.2.2.2.2.1, hV.2.2.2.2.1, hW.2.1, hV.2.1, nI_s1]
        simp (disch := omega) only [nI_clamp, x3, y3, x1, y1]
        rw [nI_le5 (by omega)]
        refine ⟨fun z => absurd z (by omega), fun _ => ⟨inb_nI hk5 (by decide), by omega, inb_nI hk5 (by decide), by omega, trivial, x2, trivial, y2, by unfold ap8; omega, ?_, fun μ1 c1 f1 => ?_⟩⟩
        · rw [hStb.1.2.1]; exact hStb.2.1.1
        · refine ih (k + 1) μ1 (by omega) (fun y hy => by rw [f1 y (by omega)]; exact hf y (by omega)) (fun s hs' => ?_) (fun s hs' hr t ht => ?_)
          · by_cases c : s = k
            · subst c
              exact St_copy hStb c1 (by rw [hf _ (by omega)]; exact hI s hk5)
            · exact St_congr (by omega) (hs s (by omega)) (fun _ _ _ => rfl) rfl (fun y y1 y2 => f1 y (by omega))
          · by_cases c : s = k
            · subst c
              have := hR.2 s hk5 hr t ht
              rw [c1.2.2.2.1 t ht, c1.2.2.2.2.1 t ht, hf _ (by omega), hf _ (by omega)]
              exact this
            · rw [f1 _ (by omega), f1 _ (by omega)]
              exact hn s (by omega) hr t ht
    simp only [w_X10_copyFrom_0, tAload, tIload, nth, tGetI, tGetR, tConst, tLconst, tBin, tUn, tI2l, tAld, tAldR, tAlen, tIast, tBast, tZast, tAast, tIret, tZret, tVret, tAret, tIf, tIf2, tGoto, tIstore, tAstore, sset, tIinc, tDup, tDup2, tPop, tPutI, tPutZ, tPutR, tCallV, tCallS, popN, tFn, tCopy, tMax, tMin, tSw, swc, tRem, tObjI, Option.toList, List.nil_append, List.cons_append, okR, true_and, and_true, true_or, or_true, Nat.zero_le, ne_eq, not_false_eq_true, Nat.reduceEqDiff]
    exact loop 5 0 μ rfl (fun _ _ => rfl) (fun s hs => by omega) (fun s hs => by omega)
  · exact h.elim
