/-! ===== the class: an entry is one number ===== -/
def ePk (t kd x y : Int32) : Int32 := y <<< ((16 : Int32) &&& 31) ||| x <<< ((11 : Int32) &&& 31) ||| kd <<< ((8 : Int32) &&& 31) ||| t
def eTm (e : Int32) : Int32 := e &&& 255
def eKd (e : Int32) : Int32 := e >>> ((8 : Int32) &&& 31) &&& 7
def eX (e : Int32) : Int32 := e >>> ((11 : Int32) &&& 31) &&& 31
def eY (e : Int32) : Int32 := e >>> ((16 : Int32) &&& 31)
def w_X0_of_0 (M : CT) (G : Nat → PT) (Rp : RT) : PT := tIload 3 <| tConst 16 <| tBin (fun x y => x <<< (y &&& 31)) <| tIload 2 <| tConst 11 <| tBin (fun x y => x <<< (y &&& 31)) <| tBin (fun x y => x ||| y) <| tIload 1 <| tConst 8 <| tBin (fun x y => x <<< (y &&& 31)) <| tBin (fun x y => x ||| y) <| tIload 0 <| tBin (fun x y => x ||| y) <| tIret Rp
set_option maxRecDepth 20000 in
theorem b_X0_of_0 {Z : Zt} {d : Nat} {p : Program} {e : Env} {R : Room} {s : State} {m : MethodId} {args : Array Value} {below : List Frame} {meth : Method} {c : Code} {Rp : RT} (C : Cx Z d jX0_of RX0 p R s m args meth c) : Sd Z jX0_of p e R s m args below meth c (MQ below (QcS Z Rp) args s 0 0 (fun a => Z.2.2.1 < a)) 0 (w_X0_of_0 (MS Z d) (Gw Z 4 p e R s m args below meth c (MQ below (QcS Z Rp) args s 0 0 (fun a => Z.2.2.1 < a))) Rp) := by
  unfold w_X0_of_0
  refine s_iload_n (k := 3) C (by decide +kernel) ?_
  refine s_bipush (n := 16) C (by decide +kernel) (by decide) ?_
  refine s_ishl C (by decide +kernel) ?_
  refine s_iload_n (k := 2) C (by decide +kernel) ?_
  refine s_bipush (n := 11) C (by decide +kernel) (by decide) ?_
  refine s_ishl C (by decide +kernel) ?_
  refine s_ior C (by decide +kernel) ?_
  refine s_iload_n (k := 1) C (by decide +kernel) ?_
  refine s_bipush (n := 8) C (by decide +kernel) (by decide) ?_
  refine s_ishl C (by decide +kernel) ?_
  refine s_ior C (by decide +kernel) ?_
  refine s_iload_n (k := 0) C (by decide +kernel) ?_
  refine s_ior C (by decide +kernel) ?_
  exact s_iret C rfl (by decide +kernel)
theorem ms_X0_of {Z : Zt} {d : Nat} {S : Sh} {μ : Mi} {ρ : Mr} {Rp : RT} (x1 : Int32) (x2 : Int32) (x3 : Int32) (x4 : Int32) (h : ∀ G : Nat → PT, w_X0_of_0 (MS Z d) G Rp [.int x1, .int x2, .int x3, .int x4] [] S (0, 0) μ ρ) : MS Z (d + 1) jX0_of [.int x1, .int x2, .int x3, .int x4] S μ ρ Rp :=
  MS_of [.int x1, .int x2, .int x3, .int x4] (by decide +kernel) rfl rfl (Nat.le_of_ble_eq_true rfl) rfl (fun p e R s m args below meth c C => b_X0_of_0 C _ _ _ _ _ _ (h _ ))
def F_X0_of : FT := fun As S μ ρ k => match As with
  | [.int t, .int kd, .int x, .int y] => k (some (.int (ePk t kd x y))) μ
  | _ => False
set_option maxHeartbeats 1000000 in
theorem f_X0_of {Z : Zt} {d : Nat} {As : List Value} {S : Sh} {μ : Mi} {ρ : Mr} {Rp : RT} (h : F_X0_of As S μ ρ (fun r μ' => Rp r S μ' ρ)) : MS Z (d + 1) jX0_of As S μ ρ Rp := by
  unfold F_X0_of at h
  split at h
  · rename_i t kd x y
    refine ms_X0_of _ _ _ _ (fun G => ?_)
    simp only [w_X0_of_0, tAload, tIload, nth, tGetI, tGetR, tConst, tLconst, tBin, tUn, tI2l, tAld, tAldR, tAlen, tIast, tBast, tZast, tAast, tIret, tZret, tVret, tAret, tIf, tIf2, tGoto, tIstore, tAstore, sset, tIinc, tDup, tDup2, tPop, tPutI, tPutZ, tPutR, tCallV, tCallS, popN, tFn, tCopy, tMax, tMin, tSw, swc, tRem, tObjI, Option.toList, List.nil_append, List.cons_append, okR, true_and, and_true, true_or, or_true, Nat.zero_le, ne_eq, not_false_eq_true, Nat.reduceEqDiff]
    exact h
  · exact h.elim
def w_X0_termOf_0 (M : CT) (G : Nat → PT) (Rp : RT) : PT := tIload 0 <| tConst 255 <| tBin (fun x y => x &&& y) <| tIret Rp
set_option maxRecDepth 20000 in
theorem b_X0_termOf_0 {Z : Zt} {d : Nat} {p : Program} {e : Env} {R : Room} {s : State} {m : MethodId} {args : Array Value} {below : List Frame} {meth : Method} {c : Code} {Rp : RT} (C : Cx Z d jX0_termOf RX0 p R s m args meth c) : Sd Z jX0_termOf p e R s m args below meth c (MQ below (QcS Z Rp) args s 0 0 (fun a => Z.2.2.1 < a)) 0 (w_X0_termOf_0 (MS Z d) (Gw Z 1 p e R s m args below meth c (MQ below (QcS Z Rp) args s 0 0 (fun a => Z.2.2.1 < a))) Rp) := by
  unfold w_X0_termOf_0
  refine s_iload_n (k := 0) C (by decide +kernel) ?_
  refine s_sipush (n := 255) C (by decide +kernel) (by decide) ?_
  refine s_iand C (by decide +kernel) ?_
  exact s_iret C rfl (by decide +kernel)
theorem ms_X0_termOf {Z : Zt} {d : Nat} {S : Sh} {μ : Mi} {ρ : Mr} {Rp : RT} (x1 : Int32) (h : ∀ G : Nat → PT, w_X0_termOf_0 (MS Z d) G Rp [.int x1] [] S (0, 0) μ ρ) : MS Z (d + 1) jX0_termOf [.int x1] S μ ρ Rp :=
  MS_of [.int x1] (by decide +kernel) rfl rfl (Nat.le_of_ble_eq_true rfl) rfl (fun p e R s m args below meth c C => b_X0_termOf_0 C _ _ _ _ _ _ (h _ ))
def F_X0_termOf : FT := fun As S μ ρ k => match As with
  | [.int e] => k (some (.int (eTm e))) μ
  | _ => False
set_option maxHeartbeats 1000000 in
theorem f_X0_termOf {Z : Zt} {d : Nat} {As : List Value} {S : Sh} {μ : Mi} {ρ : Mr} {Rp : RT} (h : F_X0_termOf As S μ ρ (fun r μ' => Rp r S μ' ρ)) : MS Z (d + 1) jX0_termOf As S μ ρ Rp := by
  unfold F_X0_termOf at h
  split at h
  · rename_i e
    refine ms_X0_termOf _ (fun G => ?_)
    simp only [w_X0_termOf_0, tAload, tIload, nth, tGetI, tGetR, tConst, tLconst, tBin, tUn, tI2l, tAld, tAldR, tAlen, tIast, tBast, tZast, tAast, tIret, tZret, tVret, tAret, tIf, tIf2, tGoto, tIstore, tAstore, sset, tIinc, tDup, tDup2, tPop, tPutI, tPutZ, tPutR, tCallV, tCallS, popN, tFn, tCopy, tMax, tMin, tSw, swc, tRem, tObjI, Option.toList, List.nil_append, List.cons_append, okR, true_and, and_true, true_or, or_true, Nat.zero_le, ne_eq, not_false_eq_true, Nat.reduceEqDiff]
    exact h
  · exact h.elim
def w_X0_kindOf_0 (M : CT) (G : Nat → PT) (Rp : RT) : PT := tIload 0 <| tConst 8 <| tBin (fun x y => x >>> (y &&& 31)) <| tConst 7 <| tBin (fun x y => x &&& y) <| tIret Rp
set_option maxRecDepth 20000 in
theorem b_X0_kindOf_0 {Z : Zt} {d : Nat} {p : Program} {e : Env} {R : Room} {s : State} {m : MethodId} {args : Array Value} {below : List Frame} {meth : Method} {c : Code} {Rp : RT} (C : Cx Z d jX0_kindOf RX0 p R s m args meth c) : Sd Z jX0_kindOf p e R s m args below meth c (MQ below (QcS Z Rp) args s 0 0 (fun a => Z.2.2.1 < a)) 0 (w_X0_kindOf_0 (MS Z d) (Gw Z 1 p e R s m args below meth c (MQ below (QcS Z Rp) args s 0 0 (fun a => Z.2.2.1 < a))) Rp) := by
  unfold w_X0_kindOf_0
  refine s_iload_n (k := 0) C (by decide +kernel) ?_
  refine s_bipush (n := 8) C (by decide +kernel) (by decide) ?_
  refine s_ishr C (by decide +kernel) ?_
  refine s_bipush (n := 7) C (by decide +kernel) (by decide) ?_
  refine s_iand C (by decide +kernel) ?_
  exact s_iret C rfl (by decide +kernel)
theorem ms_X0_kindOf {Z : Zt} {d : Nat} {S : Sh} {μ : Mi} {ρ : Mr} {Rp : RT} (x1 : Int32) (h : ∀ G : Nat → PT, w_X0_kindOf_0 (MS Z d) G Rp [.int x1] [] S (0, 0) μ ρ) : MS Z (d + 1) jX0_kindOf [.int x1] S μ ρ Rp :=
  MS_of [.int x1] (by decide +kernel) rfl rfl (Nat.le_of_ble_eq_true rfl) rfl (fun p e R s m args below meth c C => b_X0_kindOf_0 C _ _ _ _ _ _ (h _ ))
def F_X0_kindOf : FT := fun As S μ ρ k => match As with
  | [.int e] => k (some (.int (eKd e))) μ
  | _ => False
set_option maxHeartbeats 1000000 in
theorem f_X0_kindOf {Z : Zt} {d : Nat} {As : List Value} {S : Sh} {μ : Mi} {ρ : Mr} {Rp : RT} (h : F_X0_kindOf As S μ ρ (fun r μ' => Rp r S μ' ρ)) : MS Z (d + 1) jX0_kindOf As S μ ρ Rp := by
  unfold F_X0_kindOf at h
  split at h
  · rename_i e
    refine ms_X0_kindOf _ (fun G => ?_)
    simp only [w_X0_kindOf_0, tAload, tIload, nth, tGetI, tGetR, tConst, tLconst, tBin, tUn, tI2l, tAld, tAldR, tAlen, tIast, tBast, tZast, tAast, tIret, tZret, tVret, tAret, tIf, tIf2, tGoto, tIstore, tAstore, sset, tIinc, tDup, tDup2, tPop, tPutI, tPutZ, tPutR, tCallV, tCallS, popN, tFn, tCopy, tMax, tMin, tSw, swc, tRem, tObjI, Option.toList, List.nil_append, List.cons_append, okR, true_and, and_true, true_or, or_true, Nat.zero_le, ne_eq, not_false_eq_true, Nat.reduceEqDiff]
    exact h
  · exact h.elim
def w_X0_cellOf_0 (M : CT) (G : Nat → PT) (Rp : RT) : PT := tIload 0 <| tConst 11 <| tBin (fun x y => x >>> (y &&& 31)) <| tConst 31 <| tBin (fun x y => x &&& y) <| tIret Rp
set_option maxRecDepth 20000 in
theorem b_X0_cellOf_0 {Z : Zt} {d : Nat} {p : Program} {e : Env} {R : Room} {s : State} {m : MethodId} {args : Array Value} {below : List Frame} {meth : Method} {c : Code} {Rp : RT} (C : Cx Z d jX0_cellOf RX0 p R s m args meth c) : Sd Z jX0_cellOf p e R s m args below meth c (MQ below (QcS Z Rp) args s 0 0 (fun a => Z.2.2.1 < a)) 0 (w_X0_cellOf_0 (MS Z d) (Gw Z 1 p e R s m args below meth c (MQ below (QcS Z Rp) args s 0 0 (fun a => Z.2.2.1 < a))) Rp) := by
  unfold w_X0_cellOf_0
  refine s_iload_n (k := 0) C (by decide +kernel) ?_
  refine s_bipush (n := 11) C (by decide +kernel) (by decide) ?_
  refine s_ishr C (by decide +kernel) ?_
  refine s_bipush (n := 31) C (by decide +kernel) (by decide) ?_
  refine s_iand C (by decide +kernel) ?_
  exact s_iret C rfl (by decide +kernel)
theorem ms_X0_cellOf {Z : Zt} {d : Nat} {S : Sh} {μ : Mi} {ρ : Mr} {Rp : RT} (x1 : Int32) (h : ∀ G : Nat → PT, w_X0_cellOf_0 (MS Z d) G Rp [.int x1] [] S (0, 0) μ ρ) : MS Z (d + 1) jX0_cellOf [.int x1] S μ ρ Rp :=
  MS_of [.int x1] (by decide +kernel) rfl rfl (Nat.le_of_ble_eq_true rfl) rfl (fun p e R s m args below meth c C => b_X0_cellOf_0 C _ _ _ _ _ _ (h _ ))
def F_X0_cellOf : FT := fun As S μ ρ k => match As with
  | [.int e] => k (some (.int (eX e))) μ
  | _ => False
set_option maxHeartbeats 1000000 in
theorem f_X0_cellOf {Z : Zt} {d : Nat} {As : List Value} {S : Sh} {μ : Mi} {ρ : Mr} {Rp : RT} (h : F_X0_cellOf As S μ ρ (fun r μ' => Rp r S μ' ρ)) : MS Z (d + 1) jX0_cellOf As S μ ρ Rp := by
  unfold F_X0_cellOf at h
  split at h
  · rename_i e
    refine ms_X0_cellOf _ (fun G => ?_)
    simp only [w_X0_cellOf_0, tAload, tIload, nth, tGetI, tGetR, tConst, tLconst, tBin, tUn, tI2l, tAld, tAldR, tAlen, tIast, tBast, tZast, tAast, tIret, tZret, tVret, tAret, tIf, tIf2, tGoto, tIstore, tAstore, sset, tIinc, tDup, tDup2, tPop, tPutI, tPutZ, tPutR, tCallV, tCallS, popN, tFn, tCopy, tMax, tMin, tSw, swc, tRem, tObjI, Option.toList, List.nil_append, List.cons_append, okR, true_and, and_true, true_or, or_true, Nat.zero_le, ne_eq, not_false_eq_true, Nat.reduceEqDiff]
    exact h
  · exact h.elim
def w_X0_numberOf_0 (M : CT) (G : Nat → PT) (Rp : RT) : PT := tIload 0 <| tConst 16 <| tBin (fun x y => x >>> (y &&& 31)) <| tIret Rp
set_option maxRecDepth 20000 in
theorem b_X0_numberOf_0 {Z : Zt} {d : Nat} {p : Program} {e : Env} {R : Room} {s : State} {m : MethodId} {args : Array Value} {below : List Frame} {meth : Method} {c : Code} {Rp : RT} (C : Cx Z d jX0_numberOf RX0 p R s m args meth c) : Sd Z jX0_numberOf p e R s m args below meth c (MQ below (QcS Z Rp) args s 0 0 (fun a => Z.2.2.1 < a)) 0 (w_X0_numberOf_0 (MS Z d) (Gw Z 1 p e R s m args below meth c (MQ below (QcS Z Rp) args s 0 0 (fun a => Z.2.2.1 < a))) Rp) := by
  unfold w_X0_numberOf_0
  refine s_iload_n (k := 0) C (by decide +kernel) ?_
  refine s_bipush (n := 16) C (by decide +kernel) (by decide) ?_
  refine s_ishr C (by decide +kernel) ?_
  exact s_iret C rfl (by decide +kernel)
theorem ms_X0_numberOf {Z : Zt} {d : Nat} {S : Sh} {μ : Mi} {ρ : Mr} {Rp : RT} (x1 : Int32) (h : ∀ G : Nat → PT, w_X0_numberOf_0 (MS Z d) G Rp [.int x1] [] S (0, 0) μ ρ) : MS Z (d + 1) jX0_numberOf [.int x1] S μ ρ Rp :=
  MS_of [.int x1] (by decide +kernel) rfl rfl (Nat.le_of_ble_eq_true rfl) rfl (fun p e R s m args below meth c C => b_X0_numberOf_0 C _ _ _ _ _ _ (h _ ))
def F_X0_numberOf : FT := fun As S μ ρ k => match As with
  | [.int e] => k (some (.int (eY e))) μ
  | _ => False
set_option maxHeartbeats 1000000 in
theorem f_X0_numberOf {Z : Zt} {d : Nat} {As : List Value} {S : Sh} {μ : Mi} {ρ : Mr} {Rp : RT} (h : F_X0_numberOf As S μ ρ (fun r μ' => Rp r S μ' ρ)) : MS Z (d + 1) jX0_numberOf As S μ ρ Rp := by
  unfold F_X0_numberOf at h
  split at h
  · rename_i e
    refine ms_X0_numberOf _ (fun G => ?_)
    simp only [w_X0_numberOf_0, tAload, tIload, nth, tGetI, tGetR, tConst, tLconst, tBin, tUn, tI2l, tAld, tAldR, tAlen, tIast, tBast, tZast, tAast, tIret, tZret, tVret, tAret, tIf, tIf2, tGoto, tIstore, tAstore, sset, tIinc, tDup, tDup2, tPop, tPutI, tPutZ, tPutR, tCallV, tCallS, popN, tFn, tCopy, tMax, tMin, tSw, swc, tRem, tObjI, Option.toList, List.nil_append, List.cons_append, okR, true_and, and_true, true_or, or_true, Nat.zero_le, ne_eq, not_false_eq_true, Nat.reduceEqDiff]
    exact h
  · exact h.elim
def w_X0_tellsMembers_16 (M : CT) (G : Nat → PT) (Rp : RT) : PT := tZret Rp
def w_X0_tellsMembers_15 (M : CT) (G : Nat → PT) (Rp : RT) : PT := tConst 0 <| w_X0_tellsMembers_16 M G Rp
def w_X0_tellsMembers_0 (M : CT) (G : Nat → PT) (Rp : RT) : PT := tIload 0 <| tConst 8 <| tBin (fun x y => x >>> (y &&& 31)) <| tConst 7 <| tBin (fun x y => x &&& y) <| tConst 3 <| tIf2 (fun x y => x < y) (w_X0_tellsMembers_15 M G Rp) <| tConst 1 <| tGoto (w_X0_tellsMembers_16 M G Rp)
set_option maxRecDepth 20000 in
theorem b_X0_tellsMembers_16 {Z : Zt} {d : Nat} {p : Program} {e : Env} {R : Room} {s : State} {m : MethodId} {args : Array Value} {below : List Frame} {meth : Method} {c : Code} {Rp : RT} (C : Cx Z d jX0_tellsMembers RX0 p R s m args meth c) : Sd Z jX0_tellsMembers p e R s m args below meth c (MQ below (QcS Z Rp) args s 0 0 (fun a => Z.2.2.1 < a)) 16 (w_X0_tellsMembers_16 (MS Z d) (Gw Z 1 p e R s m args below meth c (MQ below (QcS Z Rp) args s 0 0 (fun a => Z.2.2.1 < a))) Rp) := by
  unfold w_X0_tellsMembers_16
  exact s_zret C rfl (by decide +kernel)
set_option maxRecDepth 20000 in
theorem b_X0_tellsMembers_15 {Z : Zt} {d : Nat} {p : Program} {e : Env} {R : Room} {s : State} {m : MethodId} {args : Array Value} {below : List Frame} {meth : Method} {c : Code} {Rp : RT} (C : Cx Z d jX0_tellsMembers RX0 p R s m args meth c) : Sd Z jX0_tellsMembers p e R s m args below meth c (MQ below (QcS Z Rp) args s 0 0 (fun a => Z.2.2.1 < a)) 15 (w_X0_tellsMembers_15 (MS Z d) (Gw Z 1 p e R s m args below meth c (MQ below (QcS Z Rp) args s 0 0 (fun a => Z.2.2.1 < a))) Rp) := by
  unfold w_X0_tellsMembers_15
  refine s_iconst (n := 0) C (by decide +kernel) (by decide) ?_
  exact (b_X0_tellsMembers_16 C)
set_option maxRecDepth 20000 in
theorem b_X0_tellsMembers_0 {Z : Zt} {d : Nat} {p : Program} {e : Env} {R : Room} {s : State} {m : MethodId} {args : Array Value} {below : List Frame} {meth : Method} {c : Code} {Rp : RT} (C : Cx Z d jX0_tellsMembers RX0 p R s m args meth c) : Sd Z jX0_tellsMembers p e R s m args below meth c (MQ below (QcS Z Rp) args s 0 0 (fun a => Z.2.2.1 < a)) 0 (w_X0_tellsMembers_0 (MS Z d) (Gw Z 1 p e R s m args below meth c (MQ below (QcS Z Rp) args s 0 0 (fun a => Z.2.2.1 < a))) Rp) := by
  unfold w_X0_tellsMembers_0
  refine s_iload_n (k := 0) C (by decide +kernel) ?_
  refine s_bipush (n := 8) C (by decide +kernel) (by decide) ?_
  refine s_ishr C (by decide +kernel) ?_
  refine s_bipush (n := 7) C (by decide +kernel) (by decide) ?_
  refine s_iand C (by decide +kernel) ?_
  refine s_iconst (n := 3) C (by decide +kernel) (by decide) ?_
  refine s_icmp_lt (off := 7) (tgt := 15) C (by decide +kernel) (by decide) (b_X0_tellsMembers_15 C) ?_
  refine s_iconst (n := 1) C (by decide +kernel) (by decide) ?_
  exact s_goto (off := 4) (tgt := 16) C (by decide +kernel) (by decide) (b_X0_tellsMembers_16 C)
theorem ms_X0_tellsMembers {Z : Zt} {d : Nat} {S : Sh} {μ : Mi} {ρ : Mr} {Rp : RT} (x1 : Int32) (h : ∀ G : Nat → PT, w_X0_tellsMembers_0 (MS Z d) G Rp [.int x1] [] S (0, 0) μ ρ) : MS Z (d + 1) jX0_tellsMembers [.int x1] S μ ρ Rp :=
  MS_of [.int x1] (by decide +kernel) rfl rfl (Nat.le_of_ble_eq_true rfl) rfl (fun p e R s m args below meth c C => b_X0_tellsMembers_0 C _ _ _ _ _ _ (h _ ))
def F_X0_tellsMembers : FT := fun As S μ ρ k => match As with
  | [.int e] => k (some (.int (b2 (¬ eKd e < 3)))) μ
  | _ => False
set_option maxHeartbeats 1000000 in
theorem f_X0_tellsMembers {Z : Zt} {d : Nat} {As : List Value} {S : Sh} {μ : Mi} {ρ : Mr} {Rp : RT} (h : F_X0_tellsMembers As S μ ρ (fun r μ' => Rp r S μ' ρ)) : MS Z (d + 1) jX0_tellsMembers As S μ ρ Rp := by
  unfold F_X0_tellsMembers at h
  split at h
  · rename_i e
    refine ms_X0_tellsMembers _ (fun G => ?_)
    unfold b2 at h
    simp only [w_X0_tellsMembers_0, w_X0_tellsMembers_15, w_X0_tellsMembers_16, tAload, tIload, nth, tGetI, tGetR, tConst, tLconst, tBin, tUn, tI2l, tAld, tAldR, tAlen, tIast, tBast, tZast, tAast, tIret, tZret, tVret, tAret, tIf, tIf2, tGoto, tIstore, tAstore, sset, tIinc, tDup, tDup2, tPop, tPutI, tPutZ, tPutR, tCallV, tCallS, popN, tFn, tCopy, tMax, tMin, tSw, swc, tRem, tObjI, Option.toList, List.nil_append, List.cons_append, okR, true_and, and_true, true_or, or_true, Nat.zero_le, ne_eq, not_false_eq_true, Nat.reduceEqDiff]
    refine ⟨fun c => ?_, fun c => ?_⟩
    · rw [if_neg (not_not_intro (show eKd e < 3 from c))] at h; exact h
    · rw [if_pos (show ¬ eKd e < 3 from c)] at h; exact h
  · exact h.elim
