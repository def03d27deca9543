/-! ===== the class: a program that was read ===== -/
def PgS (S : Sh) (ρ : Mr) : Prop := S.2 859 = (4, 10) ∧ (S.2 860 = (20, 300) ∧ S.2 861 = (20, 300) ∧ S.2 862 = (20, 300) ∧ S.2 863 = (20, 300) ∧ S.2 864 = (20, 300) ∧ S.2 865 = (20, 3) ∧ S.2 866 = (20, 3)) ∧ (ρ 859 0 = 860 ∧ ρ 859 1 = 861 ∧ ρ 859 2 = 862 ∧ ρ 859 3 = 863 ∧ ρ 859 4 = 864 ∧ ρ 859 5 = 865 ∧ ρ 859 6 = 866)
def w_X4_clear_0 (M : CT) (G : Nat → PT) (Rp : RT) : PT := tAload 0 <| tConst 0 <| tPutI 4 10 7 <| tAload 0 <| tConst 0 <| tPutI 4 10 8 <| tVret Rp
set_option maxRecDepth 20000 in
theorem b_X4_clear_0 {Z : Zt} {d : Nat} {p : Program} {e : Env} {R : Room} {s : State} {m : MethodId} {args : Array Value} {below : List Frame} {meth : Method} {c : Code} {Rp : RT} (C : Cx Z d jX4_clear RX4 p R s m args meth c) : Sd Z jX4_clear p e R s m args below meth c (MQ below (QcS Z Rp) args s 0 0 (fun a => Z.2.2.1 < a)) 0 (w_X4_clear_0 (MS Z d) (Gw Z 1 p e R s m args below meth c (MQ below (QcS Z Rp) args s 0 0 (fun a => Z.2.2.1 < a))) Rp) := by
  unfold w_X4_clear_0
  refine s_aload_n (k := 0) C (by decide +kernel) ?_
  refine s_iconst (n := 0) C (by decide +kernel) (by decide) ?_
  refine s_putI C w_2_208 (by decide +kernel) rfl (Or.inl rfl) ?_
  refine s_aload_n (k := 0) C (by decide +kernel) ?_
  refine s_iconst (n := 0) C (by decide +kernel) (by decide) ?_
  refine s_putI C w_2_209 (by decide +kernel) rfl (Or.inl rfl) ?_
  exact s_vret C rfl (by decide +kernel)
theorem ms_X4_clear {Z : Zt} {d : Nat} {S : Sh} {μ : Mi} {ρ : Mr} {Rp : RT} (a0 : Nat) (h : ∀ G : Nat → PT, w_X4_clear_0 (MS Z d) G Rp [.ref a0] [] S (0, 0) μ ρ) : MS Z (d + 1) jX4_clear [.ref a0] S μ ρ Rp :=
  MS_of [.ref a0] (by decide +kernel) rfl rfl (Nat.le_of_ble_eq_true rfl) rfl (fun p e R s m args below meth c C => b_X4_clear_0 C _ _ _ _ _ _ (h _ ))
def F_X4_clear : FT := fun As S μ ρ k => match As with
  | [.ref a] => S.2 a = (4, 10) ∧ k none (upI (upI μ a 7 0) a 8 0)
  | _ => False
theorem r_X4_clear {As S μ ρ k} (h : F_X4_clear As S μ ρ k) : ∃ a As', As = Value.ref a :: As' ∧ S.2 a = (4, 10) := by
  unfold F_X4_clear at h
  split at h
  · exact ⟨_, _, rfl, h.1⟩
  · exact h.elim
set_option maxHeartbeats 1000000 in
theorem f_X4_clear {Z : Zt} {d : Nat} {As : List Value} {S : Sh} {μ : Mi} {ρ : Mr} {Rp : RT} (h : F_X4_clear As S μ ρ (fun r μ' => Rp r S μ' ρ)) : MS Z (d + 1) jX4_clear As S μ ρ Rp := by
  unfold F_X4_clear at h
  split at h
  · rename_i a
    obtain ⟨h1, h⟩ := h
    refine ms_X4_clear _ (fun G => ?_)
    simp only [w_X4_clear_0, tAload, tIload, nth, tGetI, tGetR, tConst, tLconst, tBin, tUn, tI2l, tAld, tAldR, tAlen, tIast, tBast, tZast, tAast, tIret, tZret, tVret, tAret, tIf, tIf2, tGoto, tIstore, tAstore, sset, tIinc, tDup, tDup2, tPop, tPutI, tPutZ, tPutR, tCallV, tCallS, popN, tFn, tCopy, tMax, tMin, tSw, swc, tRem, tObjI, Option.toList, List.nil_append, List.cons_append, okR, true_and, and_true, true_or, or_true, Nat.zero_le, ne_eq, not_false_eq_true, Nat.reduceEqDiff, h1]
    exact h
  · exact h.elim
def w_X4_rewind_0 (M : CT) (G : Nat → PT) (Rp : RT) : PT := tAload 0 <| tConst (-1) <| tPutI 4 10 9 <| tAload 0 <| tConst 0 <| tPutI 4 10 8 <| tVret Rp
set_option maxRecDepth 20000 in
theorem b_X4_rewind_0 {Z : Zt} {d : Nat} {p : Program} {e : Env} {R : Room} {s : State} {m : MethodId} {args : Array Value} {below : List Frame} {meth : Method} {c : Code} {Rp : RT} (C : Cx Z d jX4_rewind RX4 p R s m args meth c) : Sd Z jX4_rewind p e R s m args below meth c (MQ below (QcS Z Rp) args s 0 0 (fun a => Z.2.2.1 < a)) 0 (w_X4_rewind_0 (MS Z d) (Gw Z 1 p e R s m args below meth c (MQ below (QcS Z Rp) args s 0 0 (fun a => Z.2.2.1 < a))) Rp) := by
  unfold w_X4_rewind_0
  refine s_aload_n (k := 0) C (by decide +kernel) ?_
  refine s_iconst (n := (-1)) C (by decide +kernel) (by decide) ?_
  refine s_putI C w_2_211 (by decide +kernel) rfl (Or.inl rfl) ?_
  refine s_aload_n (k := 0) C (by decide +kernel) ?_
  refine s_iconst (n := 0) C (by decide +kernel) (by decide) ?_
  refine s_putI C w_2_209 (by decide +kernel) rfl (Or.inl rfl) ?_
  exact s_vret C rfl (by decide +kernel)
theorem ms_X4_rewind {Z : Zt} {d : Nat} {S : Sh} {μ : Mi} {ρ : Mr} {Rp : RT} (a0 : Nat) (h : ∀ G : Nat → PT, w_X4_rewind_0 (MS Z d) G Rp [.ref a0] [] S (0, 0) μ ρ) : MS Z (d + 1) jX4_rewind [.ref a0] S μ ρ Rp :=
  MS_of [.ref a0] (by decide +kernel) rfl rfl (Nat.le_of_ble_eq_true rfl) rfl (fun p e R s m args below meth c C => b_X4_rewind_0 C _ _ _ _ _ _ (h _ ))
def F_X4_rewind : FT := fun As S μ ρ k => match As with
  | [.ref a] => S.2 a = (4, 10) ∧ k none (upI (upI μ a 9 (-1)) a 8 0)
  | _ => False
theorem r_X4_rewind {As S μ ρ k} (h : F_X4_rewind As S μ ρ k) : ∃ a As', As = Value.ref a :: As' ∧ S.2 a = (4, 10) := by
  unfold F_X4_rewind at h
  split at h
  · exact ⟨_, _, rfl, h.1⟩
  · exact h.elim
set_option maxHeartbeats 1000000 in
theorem f_X4_rewind {Z : Zt} {d : Nat} {As : List Value} {S : Sh} {μ : Mi} {ρ : Mr} {Rp : RT} (h : F_X4_rewind As S μ ρ (fun r μ' => Rp r S μ' ρ)) : MS Z (d + 1) jX4_rewind As S μ ρ Rp := by
  unfold F_X4_rewind at h
  split at h
  · rename_i a
    obtain ⟨h1, h⟩ := h
    refine ms_X4_rewind _ (fun G => ?_)
    simp only [w_X4_rewind_0, tAload, tIload, nth, tGetI, tGetR, tConst, tLconst, tBin, tUn, tI2l, tAld, tAldR, tAlen, tIast, tBast, tZast, tAast, tIret, tZret, tVret, tAret, tIf, tIf2, tGoto, tIstore, tAstore, sset, tIinc, tDup, tDup2, tPop, tPutI, tPutZ, tPutR, tCallV, tCallS, popN, tFn, tCopy, tMax, tMin, tSw, swc, tRem, tObjI, Option.toList, List.nil_append, List.cons_append, okR, true_and, and_true, true_or, or_true, Nat.zero_le, ne_eq, not_false_eq_true, Nat.reduceEqDiff, h1]
    exact h
  · exact h.elim
/-- an item is put behind -/
def pgA (μ : Mi) (z : Nat) (op pl x : Int32) : Mi := upI (upI (upI (upI μ 860 z op) 861 z pl) 862 z x) 859 7 (nI (z + 1))
def w_X4_add_50 (M : CT) (G : Nat → PT) (Rp : RT) : PT := tVret Rp
def w_X4_add_0 (M : CT) (G : Nat → PT) (Rp : RT) : PT := tAload 0 <| tGetI 4 10 7 <| tConst 300 <| tIf2 (fun x y => y ≤ x) (w_X4_add_50 M G Rp) <| tAload 0 <| tGetR 4 10 0 <| tAload 0 <| tGetI 4 10 7 <| tIload 1 <| tIast <| tAload 0 <| tGetR 4 10 1 <| tAload 0 <| tGetI 4 10 7 <| tIload 2 <| tIast <| tAload 0 <| tGetR 4 10 2 <| tAload 0 <| tGetI 4 10 7 <| tIload 3 <| tIast <| tAload 0 <| tDup <| tGetI 4 10 7 <| tConst 1 <| tBin (fun x y => x + y) <| tPutI 4 10 7 <| w_X4_add_50 M G Rp
set_option maxRecDepth 20000 in
theorem b_X4_add_50 {Z : Zt} {d : Nat} {p : Program} {e : Env} {R : Room} {s : State} {m : MethodId} {args : Array Value} {below : List Frame} {meth : Method} {c : Code} {Rp : RT} (C : Cx Z d jX4_add RX4 p R s m args meth c) : Sd Z jX4_add p e R s m args below meth c (MQ below (QcS Z Rp) args s 0 0 (fun a => Z.2.2.1 < a)) 50 (w_X4_add_50 (MS Z d) (Gw Z 4 p e R s m args below meth c (MQ below (QcS Z Rp) args s 0 0 (fun a => Z.2.2.1 < a))) Rp) := by
  unfold w_X4_add_50
  exact s_vret C rfl (by decide +kernel)
set_option maxRecDepth 20000 in
theorem b_X4_add_0 {Z : Zt} {d : Nat} {p : Program} {e : Env} {R : Room} {s : State} {m : MethodId} {args : Array Value} {below : List Frame} {meth : Method} {c : Code} {Rp : RT} (C : Cx Z d jX4_add RX4 p R s m args meth c) : Sd Z jX4_add p e R s m args below meth c (MQ below (QcS Z Rp) args s 0 0 (fun a => Z.2.2.1 < a)) 0 (w_X4_add_0 (MS Z d) (Gw Z 4 p e R s m args below meth c (MQ below (QcS Z Rp) args s 0 0 (fun a => Z.2.2.1 < a))) Rp) := by
  unfold w_X4_add_0
  refine s_aload_n (k := 0) C (by decide +kernel) ?_
  refine s_getI C w_2_208 (by decide +kernel) rfl ?_
  refine s_sipush (n := 300) C (by decide +kernel) (by decide) ?_
  refine s_icmp_ge (off := 43) (tgt := 50) C (by decide +kernel) (by decide) (b_X4_add_50 C) ?_
  refine s_aload_n (k := 0) C (by decide +kernel) ?_
  refine s_getR C w_2_196 (by decide +kernel) rfl ?_
  refine s_aload_n (k := 0) C (by decide +kernel) ?_
  refine s_getI C w_2_208 (by decide +kernel) rfl ?_
  refine s_iload_n (k := 1) C (by decide +kernel) ?_
  refine s_iast C (by decide +kernel) ?_
  refine s_aload_n (k := 0) C (by decide +kernel) ?_
  refine s_getR C w_2_198 (by decide +kernel) rfl ?_
  refine s_aload_n (k := 0) C (by decide +kernel) ?_
  refine s_getI C w_2_208 (by decide +kernel) rfl ?_
  refine s_iload_n (k := 2) C (by decide +kernel) ?_
  refine s_iast C (by decide +kernel) ?_
  refine s_aload_n (k := 0) C (by decide +kernel) ?_
  refine s_getR C w_2_200 (by decide +kernel) rfl ?_
  refine s_aload_n (k := 0) C (by decide +kernel) ?_
  refine s_getI C w_2_208 (by decide +kernel) rfl ?_
  refine s_iload_n (k := 3) C (by decide +kernel) ?_
  refine s_iast C (by decide +kernel) ?_
  refine s_aload_n (k := 0) C (by decide +kernel) ?_
  refine s_dup C (by decide +kernel) ?_
  refine s_getI C w_2_208 (by decide +kernel) rfl ?_
  refine s_iconst (n := 1) C (by decide +kernel) (by decide) ?_
  refine s_iadd C (by decide +kernel) ?_
  refine s_putI C w_2_208 (by decide +kernel) rfl (Or.inl rfl) ?_
  exact (b_X4_add_50 C)
theorem ms_X4_add {Z : Zt} {d : Nat} {S : Sh} {μ : Mi} {ρ : Mr} {Rp : RT} (a0 : Nat) (x1 : Int32) (x2 : Int32) (x3 : Int32) (h : ∀ G : Nat → PT, w_X4_add_0 (MS Z d) G Rp [.ref a0, .int x1, .int x2, .int x3] [] S (0, 0) μ ρ) : MS Z (d + 1) jX4_add [.ref a0, .int x1, .int x2, .int x3] S μ ρ Rp :=
  MS_of [.ref a0, .int x1, .int x2, .int x3] (by decide +kernel) rfl rfl (Nat.le_of_ble_eq_true rfl) rfl (fun p e R s m args below meth c C => b_X4_add_0 C _ _ _ _ _ _ (h _ ))
def F_X4_add : FT := fun As S μ ρ k => match As with
  | [.ref a, .int op, .int pl, .int x] => S.2 a = (4, 10) ∧ a = 859 ∧ PgS S ρ ∧ ∃ z : Nat, μ 859 7 = nI z ∧ z < 300 ∧ k none (pgA μ z op pl x)
  | _ => False
theorem r_X4_add {As S μ ρ k} (h : F_X4_add As S μ ρ k) : ∃ a As', As = Value.ref a :: As' ∧ S.2 a = (4, 10) := by
  unfold F_X4_add at h
  split at h
  · exact ⟨_, _, rfl, h.1⟩
  · exact h.elim
set_option maxHeartbeats 1000000 in
theorem f_X4_add {Z : Zt} {d : Nat} {As : List Value} {S : Sh} {μ : Mi} {ρ : Mr} {Rp : RT} (h : F_X4_add As S μ ρ (fun r μ' => Rp r S μ' ρ)) : MS Z (d + 1) jX4_add As S μ ρ Rp := by
  unfold F_X4_add at h
  split at h
  · rename_i a op pl x
    obtain ⟨h1, rfl, ⟨-, ⟨s0, s1, s2, s3, s4, s5, s6⟩, r0, r1, r2, r3, r4, r5, r6⟩, z, ez, hz, h⟩ := h
    refine ms_X4_add _ _ _ _ (fun G => ?_)
    simp only [w_X4_add_0, w_X4_add_50, tAload, tIload, nth, tGetI, tGetR, tConst, tLconst, tBin, tUn, tI2l, tAld, tAldR, tAlen, tIast, tBast, tZast, tAast, tIret, tZret, tVret, tAret, tIf, tIf2, tGoto, tIstore, tAstore, sset, tIinc, tDup, tDup2, tPop, tPutI, tPutZ, tPutR, tCallV, tCallS, popN, tFn, tCopy, tMax, tMin, tSw, swc, tRem, tObjI, Option.toList, List.nil_append, List.cons_append, okR, true_and, and_true, true_or, or_true, Nat.zero_le, ne_eq, not_false_eq_true, Nat.reduceEqDiff, h1, s0, s1, s2, r0, r1, r2, ez]
    rw [show (300 : Int32) = nI 300 from rfl, nI_leI (by decide) (by omega)]
    simp (disch := omega) only [upI_ne, ez, nI_s1, nI_clamp]
    exact ⟨fun c => absurd c (by omega), fun _ => ⟨inb_nI hz (by decide), inb_nI hz (by decide), inb_nI hz (by decide), h⟩⟩
  · exact h.elim
def w_X4_addAct_43 (M : CT) (G : Nat → PT) (Rp : RT) : PT := tVret Rp
def w_X4_addAct_0 (M : CT) (G : Nat → PT) (Rp : RT) : PT := tAload 0 <| tGetI 4 10 7 <| tConst 300 <| tIf2 (fun x y => y ≤ x) (w_X4_addAct_43 M G Rp) <| tAload 0 <| tGetR 4 10 3 <| tAload 0 <| tGetI 4 10 7 <| tAload 3 <| tConst 1 <| tAld 20 <| tIast <| tAload 0 <| tGetR 4 10 4 <| tAload 0 <| tGetI 4 10 7 <| tAload 3 <| tConst 2 <| tAld 20 <| tIast <| tAload 0 <| tIload 1 <| tIload 2 <| tAload 3 <| tConst 0 <| tAld 20 <| tFn 4 F_X4_add <| w_X4_addAct_43 M G Rp
set_option maxRecDepth 20000 in
theorem b_X4_addAct_43 {Z : Zt} {d : Nat} {p : Program} {e : Env} {R : Room} {s : State} {m : MethodId} {args : Array Value} {below : List Frame} {meth : Method} {c : Code} {Rp : RT} (C : Cx Z (d + 1) jX4_addAct RX4 p R s m args meth c) : Sd Z jX4_addAct p e R s m args below meth c (MQ below (QcS Z Rp) args s 0 0 (fun a => Z.2.2.1 < a)) 43 (w_X4_addAct_43 (MS Z (d + 1)) (Gw Z 4 p e R s m args below meth c (MQ below (QcS Z Rp) args s 0 0 (fun a => Z.2.2.1 < a))) Rp) := by
  unfold w_X4_addAct_43
  exact s_vret C rfl (by decide +kernel)
set_option maxRecDepth 20000 in
theorem b_X4_addAct_0 {Z : Zt} {d : Nat} {p : Program} {e : Env} {R : Room} {s : State} {m : MethodId} {args : Array Value} {below : List Frame} {meth : Method} {c : Code} {Rp : RT} (C : Cx Z (d + 1) jX4_addAct RX4 p R s m args meth c) : Sd Z jX4_addAct p e R s m args below meth c (MQ below (QcS Z Rp) args s 0 0 (fun a => Z.2.2.1 < a)) 0 (w_X4_addAct_0 (MS Z (d + 1)) (Gw Z 4 p e R s m args below meth c (MQ below (QcS Z Rp) args s 0 0 (fun a => Z.2.2.1 < a))) Rp) := by
  unfold w_X4_addAct_0
  refine s_aload_n (k := 0) C (by decide +kernel) ?_
  refine s_getI C w_2_208 (by decide +kernel) rfl ?_
  refine s_sipush (n := 300) C (by decide +kernel) (by decide) ?_
  refine s_icmp_ge (off := 36) (tgt := 43) C (by decide +kernel) (by decide) (b_X4_addAct_43 C) ?_
  refine s_aload_n (k := 0) C (by decide +kernel) ?_
  refine s_getR C w_2_202 (by decide +kernel) rfl ?_
  refine s_aload_n (k := 0) C (by decide +kernel) ?_
  refine s_getI C w_2_208 (by decide +kernel) rfl ?_
  refine s_aload_n (k := 3) C (by decide +kernel) ?_
  refine s_iconst (n := 1) C (by decide +kernel) (by decide) ?_
  refine s_iald C (by decide +kernel) ?_
  refine s_iast C (by decide +kernel) ?_
  refine s_aload_n (k := 0) C (by decide +kernel) ?_
  refine s_getR C w_2_204 (by decide +kernel) rfl ?_
  refine s_aload_n (k := 0) C (by decide +kernel) ?_
  refine s_getI C w_2_208 (by decide +kernel) rfl ?_
  refine s_aload_n (k := 3) C (by decide +kernel) ?_
  refine s_iconst (n := 2) C (by decide +kernel) (by decide) ?_
  refine s_iald C (by decide +kernel) ?_
  refine s_iast C (by decide +kernel) ?_
  refine s_aload_n (k := 0) C (by decide +kernel) ?_
  refine s_iload_n (k := 1) C (by decide +kernel) ?_
  refine s_iload_n (k := 2) C (by decide +kernel) ?_
  refine s_aload_n (k := 3) C (by decide +kernel) ?_
  refine s_iconst (n := 0) C (by decide +kernel) (by decide) ?_
  refine s_iald C (by decide +kernel) ?_
  refine s_fnV C (j2 := jX4_add) (cl := 4) (nf := 10) rfl rfl (by decide +kernel) rfl w_4_200 w_4_202 w_p2_10 w_1_12 w_4_203 (by decide +kernel) (fun _ _ _ _ _ h => f_X4_add h) (fun _ _ _ _ _ h => r_X4_add h) ?_
  exact (b_X4_addAct_43 C)
theorem ms_X4_addAct {Z : Zt} {d : Nat} {S : Sh} {μ : Mi} {ρ : Mr} {Rp : RT} (a0 : Nat) (x1 : Int32) (x2 : Int32) (a3 : Nat) (h : ∀ G : Nat → PT, w_X4_addAct_0 (MS Z (d + 1)) G Rp [.ref a0, .int x1, .int x2, .ref a3] [] S (0, 0) μ ρ) : MS Z (d + 2) jX4_addAct [.ref a0, .int x1, .int x2, .ref a3] S μ ρ Rp :=
  MS_of [.ref a0, .int x1, .int x2, .ref a3] (by decide +kernel) rfl rfl (Nat.le_of_ble_eq_true rfl) rfl (fun p e R s m args below meth c C => b_X4_addAct_0 C _ _ _ _ _ _ (h _ ))
def F_X4_addAct : FT := fun As S μ ρ k => match As with
  | [.ref a, .int op, .int pl, .ref b] => S.2 a = (4, 10) ∧ a = 859 ∧ b = 858 ∧ S.2 858 = (20, 3) ∧ PgS S ρ ∧ ∃ z : Nat, μ 859 7 = nI z ∧ z < 300 ∧ k none (pgA (upI (upI μ 863 z (μ 858 1)) 864 z (μ 858 2)) z op pl (μ 858 0))
  | _ => False
theorem r_X4_addAct {As S μ ρ k} (h : F_X4_addAct As S μ ρ k) : ∃ a As', As = Value.ref a :: As' ∧ S.2 a = (4, 10) := by
  unfold F_X4_addAct at h
  split at h
  · exact ⟨_, _, rfl, h.1⟩
  · exact h.elim
set_option maxHeartbeats 1000000 in
theorem f_X4_addAct {Z : Zt} {d : Nat} {As : List Value} {S : Sh} {μ : Mi} {ρ : Mr} {Rp : RT} (h : F_X4_addAct As S μ ρ (fun r μ' => Rp r S μ' ρ)) : MS Z (d + 2) jX4_addAct As S μ ρ Rp := by
  unfold F_X4_addAct at h
  split at h
  · rename_i a op pl b
    obtain ⟨h1, rfl, rfl, s8, hP, z, ez, hz, h⟩ := h
    have hP' := hP
    obtain ⟨-, ⟨s0, s1, s2, s3, s4, s5, s6⟩, r0, r1, r2, r3, r4, r5, r6⟩ := hP
    refine ms_X4_addAct _ _ _ _ (fun G => ?_)
    simp only [w_X4_addAct_0, w_X4_addAct_43, tAload, tIload, nth, tGetI, tGetR, tConst, tLconst, tBin, tUn, tI2l, tAld, tAldR, tAlen, tIast, tBast, tZast, tAast, tIret, tZret, tVret, tAret, tIf, tIf2, tGoto, tIstore, tAstore, sset, tIinc, tDup, tDup2, tPop, tPutI, tPutZ, tPutR, tCallV, tCallS, popN, tFn, tCopy, tMax, tMin, tSw, swc, tRem, tObjI, Option.toList, List.nil_append, List.cons_append, okR, true_and, and_true, true_or, or_true, Nat.zero_le, ne_eq, not_false_eq_true, Nat.reduceEqDiff, F_X4_add, h1, s8, s3, s4, r3, r4, ez]
    rw [show (300 : Int32) = nI 300 from rfl, nI_leI (by decide) (by omega)]
    simp (disch := omega) only [upI_ne, ez, nI_clamp, cl_0, cl_1, cl_2]
    exact ⟨fun c => absurd c (by omega), fun _ => ⟨show inb (nI 1) 3 from inb_nI (by decide) (by decide), inb_nI hz (by decide), show inb (nI 2) 3 from inb_nI (by decide) (by decide), inb_nI hz (by decide), show inb (nI 0) 3 from inb_nI (by decide) (by decide), hP', z, rfl, hz, h⟩⟩
  · exact h.elim
def w_X4_openLoop_39 (M : CT) (G : Nat → PT) (Rp : RT) : PT := tVret Rp
def w_X4_openLoop_0 (M : CT) (G : Nat → PT) (Rp : RT) : PT := tAload 0 <| tGetI 4 10 8 <| tConst 3 <| tIf2 (fun x y => y ≤ x) (w_X4_openLoop_39 M G Rp) <| tAload 0 <| tGetR 4 10 5 <| tAload 0 <| tGetI 4 10 8 <| tAload 0 <| tGetI 4 10 7 <| tIast <| tAload 0 <| tDup <| tGetI 4 10 8 <| tConst 1 <| tBin (fun x y => x + y) <| tPutI 4 10 8 <| tAload 0 <| tConst 100 <| tConst (-1) <| tIload 1 <| tFn 4 F_X4_add <| w_X4_openLoop_39 M G Rp
set_option maxRecDepth 20000 in
theorem b_X4_openLoop_39 {Z : Zt} {d : Nat} {p : Program} {e : Env} {R : Room} {s : State} {m : MethodId} {args : Array Value} {below : List Frame} {meth : Method} {c : Code} {Rp : RT} (C : Cx Z (d + 1) jX4_openLoop RX4 p R s m args meth c) : Sd Z jX4_openLoop p e R s m args below meth c (MQ below (QcS Z Rp) args s 0 0 (fun a => Z.2.2.1 < a)) 39 (w_X4_openLoop_39 (MS Z (d + 1)) (Gw Z 2 p e R s m args below meth c (MQ below (QcS Z Rp) args s 0 0 (fun a => Z.2.2.1 < a))) Rp) := by
  unfold w_X4_openLoop_39
  exact s_vret C rfl (by decide +kernel)
set_option maxRecDepth 20000 in
theorem b_X4_openLoop_0 {Z : Zt} {d : Nat} {p : Program} {e : Env} {R : Room} {s : State} {m : MethodId} {args : Array Value} {below : List Frame} {meth : Method} {c : Code} {Rp : RT} (C : Cx Z (d + 1) jX4_openLoop RX4 p R s m args meth c) : Sd Z jX4_openLoop p e R s m args below meth c (MQ below (QcS Z Rp) args s 0 0 (fun a => Z.2.2.1 < a)) 0 (w_X4_openLoop_0 (MS Z (d + 1)) (Gw Z 2 p e R s m args below meth c (MQ below (QcS Z Rp) args s 0 0 (fun a => Z.2.2.1 < a))) Rp) := by
  unfold w_X4_openLoop_0
  refine s_aload_n (k := 0) C (by decide +kernel) ?_
  refine s_getI C w_2_209 (by decide +kernel) rfl ?_
  refine s_iconst (n := 3) C (by decide +kernel) (by decide) ?_
  refine s_icmp_ge (off := 34) (tgt := 39) C (by decide +kernel) (by decide) (b_X4_openLoop_39 C) ?_
  refine s_aload_n (k := 0) C (by decide +kernel) ?_
  refine s_getR C w_2_206 (by decide +kernel) rfl ?_
  refine s_aload_n (k := 0) C (by decide +kernel) ?_
  refine s_getI C w_2_209 (by decide +kernel) rfl ?_
  refine s_aload_n (k := 0) C (by decide +kernel) ?_
  refine s_getI C w_2_208 (by decide +kernel) rfl ?_
  refine s_iast C (by decide +kernel) ?_
  refine s_aload_n (k := 0) C (by decide +kernel) ?_
  refine s_dup C (by decide +kernel) ?_
  refine s_getI C w_2_209 (by decide +kernel) rfl ?_
  refine s_iconst (n := 1) C (by decide +kernel) (by decide) ?_
  refine s_iadd C (by decide +kernel) ?_
  refine s_putI C w_2_209 (by decide +kernel) rfl (Or.inl rfl) ?_
  refine s_aload_n (k := 0) C (by decide +kernel) ?_
  refine s_bipush (n := 100) C (by decide +kernel) (by decide) ?_
  refine s_iconst (n := (-1)) C (by decide +kernel) (by decide) ?_
  refine s_iload_n (k := 1) C (by decide +kernel) ?_
  refine s_fnV C (j2 := jX4_add) (cl := 4) (nf := 10) rfl rfl (by decide +kernel) rfl w_4_200 w_4_202 w_p2_10 w_1_12 w_4_203 (by decide +kernel) (fun _ _ _ _ _ h => f_X4_add h) (fun _ _ _ _ _ h => r_X4_add h) ?_
  exact (b_X4_openLoop_39 C)
theorem ms_X4_openLoop {Z : Zt} {d : Nat} {S : Sh} {μ : Mi} {ρ : Mr} {Rp : RT} (a0 : Nat) (x1 : Int32) (h : ∀ G : Nat → PT, w_X4_openLoop_0 (MS Z (d + 1)) G Rp [.ref a0, .int x1] [] S (0, 0) μ ρ) : MS Z (d + 2) jX4_openLoop [.ref a0, .int x1] S μ ρ Rp :=
  MS_of [.ref a0, .int x1] (by decide +kernel) rfl rfl (Nat.le_of_ble_eq_true rfl) rfl (fun p e R s m args below meth c C => b_X4_openLoop_0 C _ _ _ _ _ _ (h _ ))
def F_X4_openLoop : FT := fun As S μ ρ k => match As with
  | [.ref a, .int x] => S.2 a = (4, 10) ∧ a = 859 ∧ PgS S ρ ∧ ∃ z o : Nat, μ 859 7 = nI z ∧ z < 300 ∧ μ 859 8 = nI o ∧ o < 3 ∧ k none (pgA (upI (upI μ 865 o (nI z)) 859 8 (nI (o + 1))) z 100 (-1) x)
  | _ => False
theorem r_X4_openLoop {As S μ ρ k} (h : F_X4_openLoop As S μ ρ k) : ∃ a As', As = Value.ref a :: As' ∧ S.2 a = (4, 10) := by
  unfold F_X4_openLoop at h
  split at h
  · exact ⟨_, _, rfl, h.1⟩
  · exact h.elim
set_option maxHeartbeats 1000000 in
theorem f_X4_openLoop {Z : Zt} {d : Nat} {As : List Value} {S : Sh} {μ : Mi} {ρ : Mr} {Rp : RT} (h : F_X4_openLoop As S μ ρ (fun r μ' => Rp r S μ' ρ)) : MS Z (d + 2) jX4_openLoop As S μ ρ Rp := by
  unfold F_X4_openLoop at h
  split at h
  · rename_i a x
    obtain ⟨h1, rfl, hP, z, o, ez, hz, eo, ho, h⟩ := h
    have hP' := hP
    obtain ⟨-, ⟨s0, s1, s2, s3, s4, s5, s6⟩, r0, r1, r2, r3, r4, r5, r6⟩ := hP
    refine ms_X4_openLoop _ _ (fun G => ?_)
    simp only [w_X4_openLoop_0, w_X4_openLoop_39, tAload, tIload, nth, tGetI, tGetR, tConst, tLconst, tBin, tUn, tI2l, tAld, tAldR, tAlen, tIast, tBast, tZast, tAast, tIret, tZret, tVret, tAret, tIf, tIf2, tGoto, tIstore, tAstore, sset, tIinc, tDup, tDup2, tPop, tPutI, tPutZ, tPutR, tCallV, tCallS, popN, tFn, tCopy, tMax, tMin, tSw, swc, tRem, tObjI, Option.toList, List.nil_append, List.cons_append, okR, true_and, and_true, true_or, or_true, Nat.zero_le, ne_eq, not_false_eq_true, Nat.reduceEqDiff, F_X4_add, h1, s5, r5, ez, eo]
    rw [show (3 : Int32) = nI 3 from rfl, nI_leI (by decide) (by omega), nI_clamp (by omega)]
    simp (disch := omega) only [upI_ne, eo, nI_s1]
    refine ⟨fun c => absurd c (by omega), fun _ => ⟨inb_nI ho (by decide), hP', z, ?_, hz, h⟩⟩
    rw [upI_k (by omega), upI_ne (by omega)]
    exact ez
  · exact h.elim
def w_X4_closeLoop_64 (M : CT) (G : Nat → PT) (Rp : RT) : PT := tVret Rp
def w_X4_closeLoop_48 (M : CT) (G : Nat → PT) (Rp : RT) : PT := tAload 0 <| tConst 101 <| tConst (-1) <| tAload 0 <| tGetR 4 10 5 <| tAload 0 <| tGetI 4 10 8 <| tAld 20 <| tFn 4 F_X4_add <| w_X4_closeLoop_64 M G Rp
def w_X4_closeLoop_0 (M : CT) (G : Nat → PT) (Rp : RT) : PT := tAload 0 <| tGetI 4 10 8 <| tIf (fun x => x ≤ 0) (w_X4_closeLoop_64 M G Rp) <| tAload 0 <| tDup <| tGetI 4 10 8 <| tConst 1 <| tBin (fun x y => x - y) <| tPutI 4 10 8 <| tAload 0 <| tGetI 4 10 7 <| tAload 0 <| tGetR 4 10 5 <| tAload 0 <| tGetI 4 10 8 <| tAld 20 <| tConst 1 <| tBin (fun x y => x + y) <| tIf2 (fun x y => x ≠ y) (w_X4_closeLoop_48 M G Rp) <| tAload 0 <| tDup <| tGetI 4 10 7 <| tConst 1 <| tBin (fun x y => x - y) <| tPutI 4 10 7 <| tGoto (w_X4_closeLoop_64 M G Rp)
set_option maxRecDepth 20000 in
theorem b_X4_closeLoop_64 {Z : Zt} {d : Nat} {p : Program} {e : Env} {R : Room} {s : State} {m : MethodId} {args : Array Value} {below : List Frame} {meth : Method} {c : Code} {Rp : RT} (C : Cx Z (d + 1) jX4_closeLoop RX4 p R s m args meth c) : Sd Z jX4_closeLoop p e R s m args below meth c (MQ below (QcS Z Rp) args s 0 0 (fun a => Z.2.2.1 < a)) 64 (w_X4_closeLoop_64 (MS Z (d + 1)) (Gw Z 1 p e R s m args below meth c (MQ below (QcS Z Rp) args s 0 0 (fun a => Z.2.2.1 < a))) Rp) := by
  unfold w_X4_closeLoop_64
  exact s_vret C rfl (by decide +kernel)
set_option maxRecDepth 20000 in
theorem b_X4_closeLoop_48 {Z : Zt} {d : Nat} {p : Program} {e : Env} {R : Room} {s : State} {m : MethodId} {args : Array Value} {below : List Frame} {meth : Method} {c : Code} {Rp : RT} (C : Cx Z (d + 1) jX4_closeLoop RX4 p R s m args meth c) : Sd Z jX4_closeLoop p e R s m args below meth c (MQ below (QcS Z Rp) args s 0 0 (fun a => Z.2.2.1 < a)) 48 (w_X4_closeLoop_48 (MS Z (d + 1)) (Gw Z 1 p e R s m args below meth c (MQ below (QcS Z Rp) args s 0 0 (fun a => Z.2.2.1 < a))) Rp) := by
  unfold w_X4_closeLoop_48
  refine s_aload_n (k := 0) C (by decide +kernel) ?_
  refine s_bipush (n := 101) C (by decide +kernel) (by decide) ?_
  refine s_iconst (n := (-1)) C (by decide +kernel) (by decide) ?_
  refine s_aload_n (k := 0) C (by decide +kernel) ?_
  refine s_getR C w_2_206 (by decide +kernel) rfl ?_
  refine s_aload_n (k := 0) C (by decide +kernel) ?_
  refine s_getI C w_2_209 (by decide +kernel) rfl ?_
  refine s_iald C (by decide +kernel) ?_
  refine s_fnV C (j2 := jX4_add) (cl := 4) (nf := 10) rfl rfl (by decide +kernel) rfl w_4_200 w_4_202 w_p2_10 w_1_12 w_4_203 (by decide +kernel) (fun _ _ _ _ _ h => f_X4_add h) (fun _ _ _ _ _ h => r_X4_add h) ?_
  exact (b_X4_closeLoop_64 C)
set_option maxRecDepth 20000 in
theorem b_X4_closeLoop_0 {Z : Zt} {d : Nat} {p : Program} {e : Env} {R : Room} {s : State} {m : MethodId} {args : Array Value} {below : List Frame} {meth : Method} {c : Code} {Rp : RT} (C : Cx Z (d + 1) jX4_closeLoop RX4 p R s m args meth c) : Sd Z jX4_closeLoop p e R s m args below meth c (MQ below (QcS Z Rp) args s 0 0 (fun a => Z.2.2.1 < a)) 0 (w_X4_closeLoop_0 (MS Z (d + 1)) (Gw Z 1 p e R s m args below meth c (MQ below (QcS Z Rp) args s 0 0 (fun a => Z.2.2.1 < a))) Rp) := by
  unfold w_X4_closeLoop_0
  refine s_aload_n (k := 0) C (by decide +kernel) ?_
  refine s_getI C w_2_209 (by decide +kernel) rfl ?_
  refine s_if_le (off := 60) (tgt := 64) C (by decide +kernel) (by decide) (b_X4_closeLoop_64 C) ?_
  refine s_aload_n (k := 0) C (by decide +kernel) ?_
  refine s_dup C (by decide +kernel) ?_
  refine s_getI C w_2_209 (by decide +kernel) rfl ?_
  refine s_iconst (n := 1) C (by decide +kernel) (by decide) ?_
  refine s_isub C (by decide +kernel) ?_
  refine s_putI C w_2_209 (by decide +kernel) rfl (Or.inl rfl) ?_
  refine s_aload_n (k := 0) C (by decide +kernel) ?_
  refine s_getI C w_2_208 (by decide +kernel) rfl ?_
  refine s_aload_n (k := 0) C (by decide +kernel) ?_
  refine s_getR C w_2_206 (by decide +kernel) rfl ?_
  refine s_aload_n (k := 0) C (by decide +kernel) ?_
  refine s_getI C w_2_209 (by decide +kernel) rfl ?_
  refine s_iald C (by decide +kernel) ?_
  refine s_iconst (n := 1) C (by decide +kernel) (by decide) ?_
  refine s_iadd C (by decide +kernel) ?_
  refine s_icmp_ne (off := 16) (tgt := 48) C (by decide +kernel) (by decide) (b_X4_closeLoop_48 C) ?_
  refine s_aload_n (k := 0) C (by decide +kernel) ?_
  refine s_dup C (by decide +kernel) ?_
  refine s_getI C w_2_208 (by decide +kernel) rfl ?_
  refine s_iconst (n := 1) C (by decide +kernel) (by decide) ?_
  refine s_isub C (by decide +kernel) ?_
  refine s_putI C w_2_208 (by decide +kernel) rfl (Or.inl rfl) ?_
  exact s_goto (off := 19) (tgt := 64) C (by decide +kernel) (by decide) (b_X4_closeLoop_64 C)
theorem ms_X4_closeLoop {Z : Zt} {d : Nat} {S : Sh} {μ : Mi} {ρ : Mr} {Rp : RT} (a0 : Nat) (h : ∀ G : Nat → PT, w_X4_closeLoop_0 (MS Z (d + 1)) G Rp [.ref a0] [] S (0, 0) μ ρ) : MS Z (d + 2) jX4_closeLoop [.ref a0] S μ ρ Rp :=
  MS_of [.ref a0] (by decide +kernel) rfl rfl (Nat.le_of_ble_eq_true rfl) rfl (fun p e R s m args below meth c C => b_X4_closeLoop_0 C _ _ _ _ _ _ (h _ ))
def F_X4_closeLoop : FT := fun As S μ ρ k => match As with
  | [.ref a] => S.2 a = (4, 10) ∧ a = 859 ∧ PgS S ρ ∧ ∃ z o q : Nat, μ 859 7 = nI z ∧ z < 300 ∧ μ 859 8 = nI (o + 1) ∧ o < 3 ∧ μ 865 o = nI q ∧ q < z ∧ (z = q + 1 → k none (upI (upI μ 859 8 (nI o)) 859 7 (nI q))) ∧ (¬ z = q + 1 → k none (pgA (upI μ 859 8 (nI o)) z 101 (-1) (nI q)))
  | _ => False
theorem r_X4_closeLoop {As S μ ρ k} (h : F_X4_closeLoop As S μ ρ k) : ∃ a As', As = Value.ref a :: As' ∧ S.2 a = (4, 10) := by
  unfold F_X4_closeLoop at h
  split at h
  · exact ⟨_, _, rfl, h.1⟩
  · exact h.elim
set_option maxHeartbeats 1000000 in
theorem f_X4_closeLoop {Z : Zt} {d : Nat} {As : List Value} {S : Sh} {μ : Mi} {ρ : Mr} {Rp : RT} (h : F_X4_closeLoop As S μ ρ (fun r μ' => Rp r S μ' ρ)) : MS Z (d + 2) jX4_closeLoop As S μ ρ Rp := by
  unfold F_X4_closeLoop at h
  split at h
  · rename_i a
    obtain ⟨h1, rfl, hP, z, o, q, ez, hz, eo, ho, eq, hq, ha, hb⟩ := h
    have hP' := hP
    obtain ⟨-, ⟨s0, s1, s2, s3, s4, s5, s6⟩, r0, r1, r2, r3, r4, r5, r6⟩ := hP
    refine ms_X4_closeLoop _ (fun G => ?_)
    have e1 : nI (o + 1) - 1 = nI o := by rw [show (1 : Int32) = nI 1 from rfl, pk_sub (by omega)]; congr 1
    have e7 : upI μ 859 8 (nI o) 859 7 = nI z := by rw [upI_k (by omega)]; exact ez
    have e5 : upI μ 859 8 (nI o) 865 o = nI q := by rw [upI_ne (by omega)]; exact eq
    simp only [w_X4_closeLoop_0, w_X4_closeLoop_48, w_X4_closeLoop_64, tAload, tIload, nth, tGetI, tGetR, tConst, tLconst, tBin, tUn, tI2l, tAld, tAldR, tAlen, tIast, tBast, tZast, tAast, tIret, tZret, tVret, tAret, tIf, tIf2, tGoto, tIstore, tAstore, sset, tIinc, tDup, tDup2, tPop, tPutI, tPutZ, tPutR, tCallV, tCallS, popN, tFn, tCopy, tMax, tMin, tSw, swc, tRem, tObjI, Option.toList, List.nil_append, List.cons_append, okR, true_and, and_true, true_or, or_true, Nat.zero_le, ne_eq, not_false_eq_true, Nat.reduceEqDiff, F_X4_add, h1, s5, r5, eo, e1, e7, upI_at, nI_clamp (show o < 2 ^ 31 by omega), e5, nI_s1]
    refine ⟨fun c => absurd c (by rw [show (0 : Int32) = nI 0 from rfl, nI_leI (by omega) (by decide)]; omega), fun _ => ⟨inb_nI ho (by decide), fun c => ?_, fun c => ?_⟩⟩
    · refine ⟨inb_nI ho (by decide), hP', z, rfl, hz, ?_⟩
      exact hb (fun e => c (by rw [e]))
    · have c' : z = q + 1 := (nI_eq (by omega) (by omega)).mp (Classical.not_not.mp c)
      have e2 : nI z - 1 = nI q := by rw [c', show (1 : Int32) = nI 1 from rfl, pk_sub (by omega)]; congr 1
      rw [e2]
      exact ha c'
  · exact h.elim
