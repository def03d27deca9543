def cIn1 (μ : Mi) (x q : Nat) : Mi := if cTermAt μ x (μ q 4) = μ q 5 then μ else upI μ x 7 (μ q 4)
def cIn2 (ν : Mi) (x q : Nat) : Mi := upI (upI (upI (upI ν (x + 5) 0 (ν q 4)) (x + 5) 1 (ν q 5)) (x + 5) 2 (ν (q + 1) 4)) (x + 5) 3 (ν (q + 1) 5)
def cIn3 (ν : Mi) (x q : Nat) : Mi := upI (upF (upF (cIn2 ν x q) (x + 6) (va_cpy (ν (q + 1)) (ν (x + 6)) 0 0 4)) (x + 2) (va_cpy (ν (q + 1)) (ν (x + 2)) 0 0 4)) x 8 (ν q 4)
def cInst (μ : Mi) (x q : Nat) : Mi := cSet (cIn3 (cIn1 μ x q) x q) x (cCfg (cIn3 (cIn1 μ x q) x q) x (cIn1 μ x q x 7).toNatClampNeg)
def w_X7_install_23 (M : CT) (G : Nat → PT) (Rp : RT) : PT := tAload 0 <| tGetR 7 18 16 <| tAload 1 <| tGetI 2 10 4 <| tPutI 6 5 0 <| tAload 0 <| tGetR 7 18 16 <| tAload 1 <| tGetI 2 10 5 <| tPutI 6 5 1 <| tAload 0 <| tGetR 7 18 16 <| tAload 1 <| tGetR 2 10 9 <| tConst 4 <| tAld 20 <| tPutI 6 5 2 <| tAload 0 <| tGetR 7 18 16 <| tAload 1 <| tGetR 2 10 9 <| tConst 5 <| tAld 20 <| tPutI 6 5 3 <| tAload 1 <| tGetR 2 10 9 <| tConst 0 <| tAload 0 <| tGetR 7 18 16 <| tGetR 6 5 4 <| tConst 0 <| tConst 4 <| tCopy <| tAload 1 <| tGetR 2 10 9 <| tConst 0 <| tAload 0 <| tGetR 7 18 13 <| tConst 0 <| tConst 4 <| tCopy <| tAload 0 <| tAload 1 <| tGetI 2 10 4 <| tPutI 7 18 8 <| tAload 0 <| tFn 1 F_X7_findMembers <| tVret Rp
def w_X7_install_0 (M : CT) (G : Nat → PT) (Rp : RT) : PT := tAload 0 <| tAload 1 <| tGetI 2 10 4 <| tFn 2 F_X7_termAt <| tAload 1 <| tGetI 2 10 5 <| tIf2 (fun x y => x = y) (w_X7_install_23 M G Rp) <| tAload 0 <| tAload 1 <| tGetI 2 10 4 <| tPutI 7 18 7 <| w_X7_install_23 M G Rp
set_option maxRecDepth 20000 in
theorem b_X7_install_23 {Z : Zt} {d : Nat} {p : Program} {e : Env} {R : Room} {s : State} {m : MethodId} {args : Array Value} {below : List Frame} {meth : Method} {c : Code} {Rp : RT} (C : Cx Z (d + 2) jX7_install RX7 p R s m args meth c) : Sd Z jX7_install p e R s m args below meth c (MQ below (QcS Z Rp) args s 0 0 (fun a => Z.2.2.1 < a)) 23 (w_X7_install_23 (MS Z (d + 2)) (Gw Z 2 p e R s m args below meth c (MQ below (QcS Z Rp) args s 0 0 (fun a => Z.2.2.1 < a))) Rp) := by
  unfold w_X7_install_23
  refine s_aload_n (k := 0) C (by decide +kernel) ?_
  refine s_getR C w_2_32 (by decide +kernel) rfl ?_
  refine s_aload_n (k := 1) C (by decide +kernel) ?_
  refine s_getI C w_1_73 (by decide +kernel) rfl ?_
  refine s_putI C w_1_162 (by decide +kernel) rfl (Or.inl rfl) ?_
  refine s_aload_n (k := 0) C (by decide +kernel) ?_
  refine s_getR C w_2_32 (by decide +kernel) rfl ?_
  refine s_aload_n (k := 1) C (by decide +kernel) ?_
  refine s_getI C w_1_78 (by decide +kernel) rfl ?_
  refine s_putI C w_1_166 (by decide +kernel) rfl (Or.inl rfl) ?_
  refine s_aload_n (k := 0) C (by decide +kernel) ?_
  refine s_getR C w_2_32 (by decide +kernel) rfl ?_
  refine s_aload_n (k := 1) C (by decide +kernel) ?_
  refine s_getR C w_1_94 (by decide +kernel) rfl ?_
  refine s_iconst (n := 4) C (by decide +kernel) (by decide) ?_
  refine s_iald C (by decide +kernel) ?_
  refine s_putI C w_1_169 (by decide +kernel) rfl (Or.inl rfl) ?_
  refine s_aload_n (k := 0) C (by decide +kernel) ?_
  refine s_getR C w_2_32 (by decide +kernel) rfl ?_
  refine s_aload_n (k := 1) C (by decide +kernel) ?_
  refine s_getR C w_1_94 (by decide +kernel) rfl ?_
  refine s_iconst (n := 5) C (by decide +kernel) (by decide) ?_
  refine s_iald C (by decide +kernel) ?_
  refine s_putI C w_1_172 (by decide +kernel) rfl (Or.inl rfl) ?_
  refine s_aload_n (k := 1) C (by decide +kernel) ?_
  refine s_getR C w_1_94 (by decide +kernel) rfl ?_
  refine s_iconst (n := 0) C (by decide +kernel) (by decide) ?_
  refine s_aload_n (k := 0) C (by decide +kernel) ?_
  refine s_getR C w_2_32 (by decide +kernel) rfl ?_
  refine s_getR C w_1_175 (by decide +kernel) rfl ?_
  refine s_iconst (n := 0) C (by decide +kernel) (by decide) ?_
  refine s_iconst (n := 4) C (by decide +kernel) (by decide) ?_
  refine s_copy C w_3_44 w_3_46 w_3_45 w_1_14 (by decide +kernel) ?_
  refine s_aload_n (k := 1) C (by decide +kernel) ?_
  refine s_getR C w_1_94 (by decide +kernel) rfl ?_
  refine s_iconst (n := 0) C (by decide +kernel) (by decide) ?_
  refine s_aload_n (k := 0) C (by decide +kernel) ?_
  refine s_getR C w_2_23 (by decide +kernel) rfl ?_
  refine s_iconst (n := 0) C (by decide +kernel) (by decide) ?_
  refine s_iconst (n := 4) C (by decide +kernel) (by decide) ?_
  refine s_copy C w_3_44 w_3_46 w_3_45 w_1_14 (by decide +kernel) ?_
  refine s_aload_n (k := 0) C (by decide +kernel) ?_
  refine s_aload_n (k := 1) C (by decide +kernel) ?_
  refine s_getI C w_1_73 (by decide +kernel) rfl ?_
  refine s_putI C w_2_6 (by decide +kernel) rfl (Or.inl rfl) ?_
  refine s_aload_n (k := 0) C (by decide +kernel) ?_
  refine s_fnV C (j2 := jX7_findMembers) (cl := 7) (nf := 18) rfl rfl (by decide +kernel) rfl w_2_95 w_2_96 w_2_97 w_1_5 w_2_98 (by decide +kernel) (fun _ _ _ _ _ h => f_X7_findMembers h) (fun _ _ _ _ _ h => r_X7_findMembers h) ?_
  exact s_vret C rfl (by decide +kernel)
set_option maxRecDepth 20000 in
theorem b_X7_install_0 {Z : Zt} {d : Nat} {p : Program} {e : Env} {R : Room} {s : State} {m : MethodId} {args : Array Value} {below : List Frame} {meth : Method} {c : Code} {Rp : RT} (C : Cx Z (d + 2) jX7_install RX7 p R s m args meth c) : Sd Z jX7_install p e R s m args below meth c (MQ below (QcS Z Rp) args s 0 0 (fun a => Z.2.2.1 < a)) 0 (w_X7_install_0 (MS Z (d + 2)) (Gw Z 2 p e R s m args below meth c (MQ below (QcS Z Rp) args s 0 0 (fun a => Z.2.2.1 < a))) Rp) := by
  unfold w_X7_install_0
  refine s_aload_n (k := 0) C (by decide +kernel) ?_
  refine s_aload_n (k := 1) C (by decide +kernel) ?_
  refine s_getI C w_1_73 (by decide +kernel) rfl ?_
  refine s_fnV C (j2 := jX7_termAt) (cl := 7) (nf := 18) rfl rfl (by decide +kernel) rfl w_4_17 w_3_130 w_3_131 w_1_5 w_3_132 (by decide +kernel) (fun _ _ _ _ _ h => f_X7_termAt h) (fun _ _ _ _ _ h => r_X7_termAt h) ?_
  refine s_aload_n (k := 1) C (by decide +kernel) ?_
  refine s_getI C w_1_78 (by decide +kernel) rfl ?_
  refine s_icmp_eq (off := 11) (tgt := 23) C (by decide +kernel) (by decide) (b_X7_install_23 C) ?_
  refine s_aload_n (k := 0) C (by decide +kernel) ?_
  refine s_aload_n (k := 1) C (by decide +kernel) ?_
  refine s_getI C w_1_73 (by decide +kernel) rfl ?_
  refine s_putI C w_2_2 (by decide +kernel) rfl (Or.inl rfl) ?_
  exact (b_X7_install_23 C)
theorem ms_X7_install {Z : Zt} {d : Nat} {S : Sh} {μ : Mi} {ρ : Mr} {Rp : RT} (a0 : Nat) (a1 : Nat) (h : ∀ G : Nat → PT, w_X7_install_0 (MS Z (d + 2)) G Rp [.ref a0, .ref a1] [] S (0, 0) μ ρ) : MS Z (d + 3) jX7_install [.ref a0, .ref a1] S μ ρ Rp :=
  MS_of [.ref a0, .ref a1] (by decide +kernel) rfl rfl (Nat.le_of_ble_eq_true rfl) rfl (fun p e R s m args below meth c C => b_X7_install_0 C _ _ _ _ _ _ (h _ ))
def F_X7_install : FT := fun As S μ ρ k => match As with
  | [.ref a, .ref q] => S.2 a = (7, 18) ∧ StS S ρ a ∧ S.2 q = (2, 10) ∧ S.2 (q + 1) = (20, 6) ∧ ρ q 9 = q + 1 ∧ apt q a ∧ rg (μ a 7) 0 120 ∧ rg (μ (a + 5) 0) 0 120 ∧ rg (μ q 4) 0 120 ∧ k none (cInst μ a q)
  | _ => False
theorem r_X7_install {As S μ ρ k} (h : F_X7_install As S μ ρ k) : ∃ a As', As = Value.ref a :: As' ∧ S.2 a = (7, 18) := by
  unfold F_X7_install at h
  split at h
  · exact ⟨_, _, rfl, h.1⟩
  · exact h.elim
set_option maxHeartbeats 1000000 in
theorem f_X7_install {Z : Zt} {d : Nat} {As : List Value} {S : Sh} {μ : Mi} {ρ : Mr} {Rp : RT} (h : F_X7_install As S μ ρ (fun r μ' => Rp r S μ' ρ)) : MS Z (d + 3) jX7_install As S μ ρ Rp := by
  unfold F_X7_install at h
  split at h
  · rename_i a q
    obtain ⟨a, hNa⟩ : ∃ n : Nat, n = a := ⟨a, rfl⟩
    subst hNa
    obtain ⟨q, hNq⟩ : ∃ n : Nat, n = q := ⟨q, rfl⟩
    subst hNq
    obtain ⟨h1, h2, h3, h4, h5, h6, h7, h8, h9, h⟩ := h
    have h2' := h2
    unfold StS at h2
    unfold apt at h6
    refine ms_X7_install _ _ (fun G => ?_)
    have main : ∀ ν : Mi, rg (ν a 7) 0 120 → ν q 4 = μ q 4 → Rp none S (cSet (cIn3 ν a q) a (cCfg (cIn3 ν a q) a (ν a 7).toNatClampNeg)) ρ → w_X7_install_23 (MS Z (d + 2)) G Rp [.ref a, .ref q] [] S (0, 0) ν ρ := by
      intro ν n1 n2 hc
      simp only [w_X7_install_23, tAload, tIload, nth, tGetI, tGetR, tConst, tLconst, tBin, tUn, tI2l, tAld, tAldR, tAlen, tIast, tBast, tZast, tAast, tIret, tZret, tVret, tAret, tIf, tIf2, tGoto, tIstore, tAstore, sset, tIinc, tDup, tDup2, tPop, tPutI, tPutZ, tPutR, tCallV, tCallS, popN, tFn, tCopy, tMax, tMin, tSw, swc, tRem, tObjI, Option.toList, List.nil_append, List.cons_append, okR, true_and, and_true, true_or, or_true, Nat.zero_le, ne_eq, not_false_eq_true, Nat.reduceEqDiff, F_X7_findMembers, h1, h2, h2', h3, h4, h5]
      unfold cIn3 cIn2 at hc
      simp (disch := omega) only [upI_ne, upI_k, upF_ne, upF_same, upI_at] at hc ⊢
      refine ⟨inb_nI (k := 4) (by decide) (by decide), inb_nI (k := 5) (by decide) (by decide), by decide, by decide, by decide, by decide, by decide, by decide, by decide, by decide, by decide, by decide, n1, by rw [n2]; exact h9.1, ?_⟩
      exact hc
    unfold cInst cIn1 at h
    simp only [w_X7_install_0, tAload, tIload, nth, tGetI, tGetR, tConst, tLconst, tBin, tUn, tI2l, tAld, tAldR, tAlen, tIast, tBast, tZast, tAast, tIret, tZret, tVret, tAret, tIf, tIf2, tGoto, tIstore, tAstore, sset, tIinc, tDup, tDup2, tPop, tPutI, tPutZ, tPutR, tCallV, tCallS, popN, tFn, tCopy, tMax, tMin, tSw, swc, tRem, tObjI, Option.toList, List.nil_append, List.cons_append, okR, true_and, and_true, true_or, or_true, Nat.zero_le, ne_eq, not_false_eq_true, Nat.reduceEqDiff, F_X7_termAt, h1, h2', h3]
    refine ⟨h8.1, h7.2, fun c => ?_, fun c => ?_⟩
    · rw [if_pos c] at h
      exact main μ h7 rfl h
    · rw [if_neg c] at h
      exact main _ (by rw [upI_at]; exact h9) (by rw [upI_ne (by omega)]) h
  · exact h.elim
def w_X7_answersRead_21 (M : CT) (G : Nat → PT) (Rp : RT) : PT := tAload 0 <| tGetR 7 18 17 <| tDup <| tGetI 5 4 3 <| tConst 1 <| tIload 1 <| tBin (fun x y => x <<< (y &&& 31)) <| tBin (fun x y => x ||| y) <| tPutI 5 4 3 <| tAload 0 <| tAload 0 <| tGetR 7 18 17 <| tGetI 5 4 3 <| tFn 2 F_X7_isMajority <| tZret Rp
def w_X7_answersRead_19 (M : CT) (G : Nat → PT) (Rp : RT) : PT := tConst 0 <| tZret Rp
def w_X7_answersRead_0 (M : CT) (G : Nat → PT) (Rp : RT) : PT := tAload 0 <| tGetR 7 18 17 <| tGetI 5 4 0 <| tConst 1 <| tIf2 (fun x y => x ≠ y) (w_X7_answersRead_19 M G Rp) <| tIload 2 <| tAload 0 <| tGetI 7 18 6 <| tIf2 (fun x y => y ≤ x) (w_X7_answersRead_21 M G Rp) <| w_X7_answersRead_19 M G Rp
set_option maxRecDepth 20000 in
theorem b_X7_answersRead_21 {Z : Zt} {d : Nat} {p : Program} {e : Env} {R : Room} {s : State} {m : MethodId} {args : Array Value} {below : List Frame} {meth : Method} {c : Code} {Rp : RT} (C : Cx Z (d + 2) jX7_answersRead RX7 p R s m args meth c) : Sd Z jX7_answersRead p e R s m args below meth c (MQ below (QcS Z Rp) args s 0 0 (fun a => Z.2.2.1 < a)) 21 (w_X7_answersRead_21 (MS Z (d + 2)) (Gw Z 3 p e R s m args below meth c (MQ below (QcS Z Rp) args s 0 0 (fun a => Z.2.2.1 < a))) Rp) := by
  unfold w_X7_answersRead_21
  refine s_aload_n (k := 0) C (by decide +kernel) ?_
  refine s_getR C w_2_35 (by decide +kernel) rfl ?_
  refine s_dup C (by decide +kernel) ?_
  refine s_getI C w_1_209 (by decide +kernel) rfl ?_
  refine s_iconst (n := 1) C (by decide +kernel) (by decide) ?_
  refine s_iload_n (k := 1) C (by decide +kernel) ?_
  refine s_ishl C (by decide +kernel) ?_
  refine s_ior C (by decide +kernel) ?_
  refine s_putI C w_1_209 (by decide +kernel) rfl (Or.inl rfl) ?_
  refine s_aload_n (k := 0) C (by decide +kernel) ?_
  refine s_aload_n (k := 0) C (by decide +kernel) ?_
  refine s_getR C w_2_35 (by decide +kernel) rfl ?_
  refine s_getI C w_1_209 (by decide +kernel) rfl ?_
  refine s_fnV C (j2 := jX7_isMajority) (cl := 7) (nf := 18) rfl rfl (by decide +kernel) rfl w_4_113 w_3_134 w_3_135 w_1_5 w_3_136 (by decide +kernel) (fun _ _ _ _ _ h => f_X7_isMajority h) (fun _ _ _ _ _ h => r_X7_isMajority h) ?_
  exact s_zret C rfl (by decide +kernel)
set_option maxRecDepth 20000 in
theorem b_X7_answersRead_19 {Z : Zt} {d : Nat} {p : Program} {e : Env} {R : Room} {s : State} {m : MethodId} {args : Array Value} {below : List Frame} {meth : Method} {c : Code} {Rp : RT} (C : Cx Z (d + 2) jX7_answersRead RX7 p R s m args meth c) : Sd Z jX7_answersRead p e R s m args below meth c (MQ below (QcS Z Rp) args s 0 0 (fun a => Z.2.2.1 < a)) 19 (w_X7_answersRead_19 (MS Z (d + 2)) (Gw Z 3 p e R s m args below meth c (MQ below (QcS Z Rp) args s 0 0 (fun a => Z.2.2.1 < a))) Rp) := by
  unfold w_X7_answersRead_19
  refine s_iconst (n := 0) C (by decide +kernel) (by decide) ?_
  exact s_zret C rfl (by decide +kernel)
set_option maxRecDepth 20000 in
theorem b_X7_answersRead_0 {Z : Zt} {d : Nat} {p : Program} {e : Env} {R : Room} {s : State} {m : MethodId} {args : Array Value} {below : List Frame} {meth : Method} {c : Code} {Rp : RT} (C : Cx Z (d + 2) jX7_answersRead RX7 p R s m args meth c) : Sd Z jX7_answersRead p e R s m args below meth c (MQ below (QcS Z Rp) args s 0 0 (fun a => Z.2.2.1 < a)) 0 (w_X7_answersRead_0 (MS Z (d + 2)) (Gw Z 3 p e R s m args below meth c (MQ below (QcS Z Rp) args s 0 0 (fun a => Z.2.2.1 < a))) Rp) := by
  unfold w_X7_answersRead_0
  refine s_aload_n (k := 0) C (by decide +kernel) ?_
  refine s_getR C w_2_35 (by decide +kernel) rfl ?_
  refine s_getI C w_1_196 (by decide +kernel) rfl ?_
  refine s_iconst (n := 1) C (by decide +kernel) (by decide) ?_
  refine s_icmp_ne (off := 11) (tgt := 19) C (by decide +kernel) (by decide) (b_X7_answersRead_19 C) ?_
  refine s_iload_n (k := 2) C (by decide +kernel) ?_
  refine s_aload_n (k := 0) C (by decide +kernel) ?_
  refine s_getI C w_1_239 (by decide +kernel) rfl ?_
  refine s_icmp_ge (off := 5) (tgt := 21) C (by decide +kernel) (by decide) (b_X7_answersRead_21 C) ?_
  exact (b_X7_answersRead_19 C)
theorem ms_X7_answersRead {Z : Zt} {d : Nat} {S : Sh} {μ : Mi} {ρ : Mr} {Rp : RT} (a0 : Nat) (x1 : Int32) (x2 : Int32) (h : ∀ G : Nat → PT, w_X7_answersRead_0 (MS Z (d + 2)) G Rp [.ref a0, .int x1, .int x2] [] S (0, 0) μ ρ) : MS Z (d + 3) jX7_answersRead [.ref a0, .int x1, .int x2] S μ ρ Rp :=
  MS_of [.ref a0, .int x1, .int x2] (by decide +kernel) rfl rfl (Nat.le_of_ble_eq_true rfl) rfl (fun p e R s m args below meth c C => b_X7_answersRead_0 C _ _ _ _ _ _ (h _ ))
def F_X7_answersRead : FT := fun As S μ ρ k => match As with
  | [.ref a, .int f, .int r] => S.2 a = (7, 18) ∧ StS S ρ a ∧ rg (μ a 10) 0 31 ∧ rg (μ a 11) 0 31 ∧ ((¬ μ (a + 7) 0 = 1 ∨ r < μ a 6) → k (some (.int 0)) μ) ∧ (¬ (¬ μ (a + 7) 0 = 1 ∨ r < μ a 6) → (cMaj (μ a 10) (μ a 11) (μ (a + 7) 3 ||| (1 : Int32) <<< (f &&& 31)) → k (some (.int 1)) (upI μ (a + 7) 3 (μ (a + 7) 3 ||| (1 : Int32) <<< (f &&& 31)))) ∧ (¬ cMaj (μ a 10) (μ a 11) (μ (a + 7) 3 ||| (1 : Int32) <<< (f &&& 31)) → k (some (.int 0)) (upI μ (a + 7) 3 (μ (a + 7) 3 ||| (1 : Int32) <<< (f &&& 31)))))
  | _ => False
theorem r_X7_answersRead {As S μ ρ k} (h : F_X7_answersRead As S μ ρ k) : ∃ a As', As = Value.ref a :: As' ∧ S.2 a = (7, 18) := by
  unfold F_X7_answersRead at h
  split at h
  · exact ⟨_, _, rfl, h.1⟩
  · exact h.elim
set_option maxHeartbeats 1000000 in
theorem f_X7_answersRead {Z : Zt} {d : Nat} {As : List Value} {S : Sh} {μ : Mi} {ρ : Mr} {Rp : RT} (h : F_X7_answersRead As S μ ρ (fun r μ' => Rp r S μ' ρ)) : MS Z (d + 3) jX7_answersRead As S μ ρ Rp := by
  unfold F_X7_answersRead at h
  split at h
  · rename_i a f r
    obtain ⟨a, hNa⟩ : ∃ n : Nat, n = a := ⟨a, rfl⟩
    subst hNa
    obtain ⟨h1, h2, h3, h4, h5, h6⟩ := h
    have h2' := h2
    unfold StS at h2
    refine ms_X7_answersRead _ _ _ (fun G => ?_)
    simp only [w_X7_answersRead_0, w_X7_answersRead_19, w_X7_answersRead_21, tAload, tIload, nth, tGetI, tGetR, tConst, tLconst, tBin, tUn, tI2l, tAld, tAldR, tAlen, tIast, tBast, tZast, tAast, tIret, tZret, tVret, tAret, tIf, tIf2, tGoto, tIstore, tAstore, sset, tIinc, tDup, tDup2, tPop, tPutI, tPutZ, tPutR, tCallV, tCallS, popN, tFn, tCopy, tMax, tMin, tSw, swc, tRem, tObjI, Option.toList, List.nil_append, List.cons_append, okR, true_and, and_true, true_or, or_true, Nat.zero_le, ne_eq, not_false_eq_true, Nat.reduceEqDiff, F_X7_isMajority, h1, h2, Decidable.not_not]
    simp (disch := omega) only [upI_ne, upI_at, h3, h4, true_and]
    refine ⟨fun c => h5 (Or.inl c), fun c => ⟨fun c2 => ?_, fun c2 => h5 (Or.inr (Int32.not_le.mp c2))⟩⟩
    have h7 := h6 (fun z => z.elim (fun z => z c) (fun z => absurd z (Int32.not_lt.mpr c2)))
    refine ⟨fun c3 => ?_, fun c3 => ?_⟩
    · exact h7.1 c3
    · exact h7.2 c3
  · exact h.elim
def cAns (μ : Mi) (x : Nat) : Mi := upI (upI (upI μ (x + 7) 0 2) (x + 7) 2 (μ (x + 2) (μ (x + 7) 1).toNatClampNeg)) (x + 7) 3 0
def w_X7_answerRead_0 (M : CT) (G : Nat → PT) (Rp : RT) : PT := tAload 0 <| tGetR 7 18 17 <| tConst 2 <| tPutI 5 4 0 <| tAload 0 <| tGetR 7 18 17 <| tAload 0 <| tGetR 7 18 13 <| tAload 0 <| tGetR 7 18 17 <| tGetI 5 4 1 <| tAld 20 <| tPutI 5 4 2 <| tAload 0 <| tGetR 7 18 17 <| tConst 0 <| tPutI 5 4 3 <| tVret Rp
set_option maxRecDepth 20000 in
theorem b_X7_answerRead_0 {Z : Zt} {d : Nat} {p : Program} {e : Env} {R : Room} {s : State} {m : MethodId} {args : Array Value} {below : List Frame} {meth : Method} {c : Code} {Rp : RT} (C : Cx Z d jX7_answerRead RX7 p R s m args meth c) : Sd Z jX7_answerRead p e R s m args below meth c (MQ below (QcS Z Rp) args s 0 0 (fun a => Z.2.2.1 < a)) 0 (w_X7_answerRead_0 (MS Z d) (Gw Z 1 p e R s m args below meth c (MQ below (QcS Z Rp) args s 0 0 (fun a => Z.2.2.1 < a))) Rp) := by
  unfold w_X7_answerRead_0
  refine s_aload_n (k := 0) C (by decide +kernel) ?_
  refine s_getR C w_2_35 (by decide +kernel) rfl ?_
  refine s_iconst (n := 2) C (by decide +kernel) (by decide) ?_
  refine s_putI C w_1_196 (by decide +kernel) rfl (Or.inl rfl) ?_
  refine s_aload_n (k := 0) C (by decide +kernel) ?_
  refine s_getR C w_2_35 (by decide +kernel) rfl ?_
  refine s_aload_n (k := 0) C (by decide +kernel) ?_
  refine s_getR C w_2_23 (by decide +kernel) rfl ?_
  refine s_aload_n (k := 0) C (by decide +kernel) ?_
  refine s_getR C w_2_35 (by decide +kernel) rfl ?_
  refine s_getI C w_1_201 (by decide +kernel) rfl ?_
  refine s_iald C (by decide +kernel) ?_
  refine s_putI C w_1_205 (by decide +kernel) rfl (Or.inl rfl) ?_
  refine s_aload_n (k := 0) C (by decide +kernel) ?_
  refine s_getR C w_2_35 (by decide +kernel) rfl ?_
  refine s_iconst (n := 0) C (by decide +kernel) (by decide) ?_
  refine s_putI C w_1_209 (by decide +kernel) rfl (Or.inl rfl) ?_
  exact s_vret C rfl (by decide +kernel)
theorem ms_X7_answerRead {Z : Zt} {d : Nat} {S : Sh} {μ : Mi} {ρ : Mr} {Rp : RT} (a0 : Nat) (h : ∀ G : Nat → PT, w_X7_answerRead_0 (MS Z d) G Rp [.ref a0] [] S (0, 0) μ ρ) : MS Z (d + 1) jX7_answerRead [.ref a0] S μ ρ Rp :=
  MS_of [.ref a0] (by decide +kernel) rfl rfl (Nat.le_of_ble_eq_true rfl) rfl (fun p e R s m args below meth c C => b_X7_answerRead_0 C _ _ _ _ _ _ (h _ ))
def F_X7_answerRead : FT := fun As S μ ρ k => match As with
  | [.ref a] => S.2 a = (7, 18) ∧ StS S ρ a ∧ rg (μ (a + 7) 1) 0 3 ∧ k none (cAns μ a)
  | _ => False
theorem r_X7_answerRead {As S μ ρ k} (h : F_X7_answerRead As S μ ρ k) : ∃ a As', As = Value.ref a :: As' ∧ S.2 a = (7, 18) := by
  unfold F_X7_answerRead at h
  split at h
  · exact ⟨_, _, rfl, h.1⟩
  · exact h.elim
set_option maxHeartbeats 1000000 in
theorem f_X7_answerRead {Z : Zt} {d : Nat} {As : List Value} {S : Sh} {μ : Mi} {ρ : Mr} {Rp : RT} (h : F_X7_answerRead As S μ ρ (fun r μ' => Rp r S μ' ρ)) : MS Z (d + 1) jX7_answerRead As S μ ρ Rp := by
  unfold F_X7_answerRead at h
  split at h
  · rename_i a
    obtain ⟨a, hNa⟩ : ∃ n : Nat, n = a := ⟨a, rfl⟩
    subst hNa
    obtain ⟨h1, h2, h3, h⟩ := h
    unfold StS at h2
    refine ms_X7_answerRead _ (fun G => ?_)
    simp only [w_X7_answerRead_0, tAload, tIload, nth, tGetI, tGetR, tConst, tLconst, tBin, tUn, tI2l, tAld, tAldR, tAlen, tIast, tBast, tZast, tAast, tIret, tZret, tVret, tAret, tIf, tIf2, tGoto, tIstore, tAstore, sset, tIinc, tDup, tDup2, tPop, tPutI, tPutZ, tPutR, tCallV, tCallS, popN, tFn, tCopy, tMax, tMin, tSw, swc, tRem, tObjI, Option.toList, List.nil_append, List.cons_append, okR, true_and, and_true, true_or, or_true, Nat.zero_le, ne_eq, not_false_eq_true, Nat.reduceEqDiff, h1, h2]
    simp (disch := omega) only [upI_ne, upI_k]
    obtain ⟨n, e1, e2, -, e3⟩ := rg_ex h3
    exact ⟨by rw [e1]; exact inb_nI (by omega) (by decide), h⟩
  · exact h.elim
