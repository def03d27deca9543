def w_X12_laysMembers_0 (M : CT) (G : Nat → PT) (Rp : RT) : PT := tAload 0 <| tIload 1 <| tAload 0 <| tIload 1 <| tConst 4 <| tFn 3 F_X12_of <| tFn 3 F_X12_laysMembersUpTo <| tVret Rp
set_option maxRecDepth 20000 in
theorem b_X12_laysMembers_0 {Z : Zt} {d : Nat} {p : Program} {e : Env} {R : Room} {s : State} {m : MethodId} {args : Array Value} {below : List Frame} {meth : Method} {c : Code} {Rp : RT} (C : Cx Z (d + 3) jX12_laysMembers RX12 p R s m args meth c) : Sd Z jX12_laysMembers p e R s m args below meth c (MQ below (QcS Z Rp) args s 0 0 (fun a => Z.2.2.1 < a)) 0 (w_X12_laysMembers_0 (MS Z (d + 3)) (Gw Z 2 p e R s m args below meth c (MQ below (QcS Z Rp) args s 0 0 (fun a => Z.2.2.1 < a))) Rp) := by
  unfold w_X12_laysMembers_0
  refine s_aload_n (k := 0) C (by decide +kernel) ?_
  refine s_iload_n (k := 1) C (by decide +kernel) ?_
  refine s_aload_n (k := 0) C (by decide +kernel) ?_
  refine s_iload_n (k := 1) C (by decide +kernel) ?_
  refine s_iconst (n := 4) C (by decide +kernel) (by decide) ?_
  refine s_fnV C (j2 := jX12_of) (cl := 12) (nf := 27) rfl rfl (by decide +kernel) rfl w_6_220 w_6_222 w_p3_11 w_1_13 w_6_223 (by decide +kernel) (fun _ _ _ _ _ h => f_X12_of h) (fun _ _ _ _ _ h => r_X12_of h) ?_
  refine s_fnV C (j2 := jX12_laysMembersUpTo) (cl := 12) (nf := 27) rfl rfl (by decide +kernel) rfl w_6_224 w_6_226 w_p3_12 w_1_13 w_6_227 (by decide +kernel) (fun _ _ _ _ _ h => f_X12_laysMembersUpTo h) (fun _ _ _ _ _ h => r_X12_laysMembersUpTo h) ?_
  exact s_vret C rfl (by decide +kernel)
theorem ms_X12_laysMembers {Z : Zt} {d : Nat} {S : Sh} {μ : Mi} {ρ : Mr} {Rp : RT} (a0 : Nat) (x1 : Int32) (h : ∀ G : Nat → PT, w_X12_laysMembers_0 (MS Z (d + 3)) G Rp [.ref a0, .int x1] [] S (0, 0) μ ρ) : MS Z (d + 4) jX12_laysMembers [.ref a0, .int x1] S μ ρ Rp :=
  MS_of [.ref a0, .int x1] (by decide +kernel) rfl rfl (Nat.le_of_ble_eq_true rfl) rfl (fun p e R s m args below meth c C => b_X12_laysMembers_0 C _ _ _ _ _ _ (h _ ))
def w_X12_isAsFar_40 (M : CT) (G : Nat → PT) (Rp : RT) : PT := tZret Rp
def w_X12_isAsFar_39 (M : CT) (G : Nat → PT) (Rp : RT) : PT := tConst 0 <| w_X12_isAsFar_40 M G Rp
def w_X12_isAsFar_35 (M : CT) (G : Nat → PT) (Rp : RT) : PT := tConst 1 <| tGoto (w_X12_isAsFar_40 M G Rp)
def w_X12_isAsFar_0 (M : CT) (G : Nat → PT) (Rp : RT) : PT := tAload 0 <| tIload 1 <| tAload 0 <| tIload 1 <| tConst 4 <| tFn 3 F_X12_of <| tFn 3 F_X12_termAt <| tIstore 4 <| tIload 3 <| tIload 4 <| tIf2 (fun x y => y < x) (w_X12_isAsFar_35 M G Rp) <| tIload 3 <| tIload 4 <| tIf2 (fun x y => x ≠ y) (w_X12_isAsFar_39 M G Rp) <| tIload 2 <| tAload 0 <| tIload 1 <| tConst 4 <| tFn 3 F_X12_of <| tIf2 (fun x y => x < y) (w_X12_isAsFar_39 M G Rp) <| w_X12_isAsFar_35 M G Rp
set_option maxRecDepth 20000 in
theorem b_X12_isAsFar_40 {Z : Zt} {d : Nat} {p : Program} {e : Env} {R : Room} {s : State} {m : MethodId} {args : Array Value} {below : List Frame} {meth : Method} {c : Code} {Rp : RT} (C : Cx Z (d + 3) jX12_isAsFar RX12 p R s m args meth c) : Sd Z jX12_isAsFar p e R s m args below meth c (MQ below (QcS Z Rp) args s 0 0 (fun a => Z.2.2.1 < a)) 40 (w_X12_isAsFar_40 (MS Z (d + 3)) (Gw Z 5 p e R s m args below meth c (MQ below (QcS Z Rp) args s 0 0 (fun a => Z.2.2.1 < a))) Rp) := by
  unfold w_X12_isAsFar_40
  exact s_zret C rfl (by decide +kernel)
set_option maxRecDepth 20000 in
theorem b_X12_isAsFar_39 {Z : Zt} {d : Nat} {p : Program} {e : Env} {R : Room} {s : State} {m : MethodId} {args : Array Value} {below : List Frame} {meth : Method} {c : Code} {Rp : RT} (C : Cx Z (d + 3) jX12_isAsFar RX12 p R s m args meth c) : Sd Z jX12_isAsFar p e R s m args below meth c (MQ below (QcS Z Rp) args s 0 0 (fun a => Z.2.2.1 < a)) 39 (w_X12_isAsFar_39 (MS Z (d + 3)) (Gw Z 5 p e R s m args below meth c (MQ below (QcS Z Rp) args s 0 0 (fun a => Z.2.2.1 < a))) Rp) := by
  unfold w_X12_isAsFar_39
  refine s_iconst (n := 0) C (by decide +kernel) (by decide) ?_
  exact (b_X12_isAsFar_40 C)
set_option maxRecDepth 20000 in
theorem b_X12_isAsFar_35 {Z : Zt} {d : Nat} {p : Program} {e : Env} {R : Room} {s : State} {m : MethodId} {args : Array Value} {below : List Frame} {meth : Method} {c : Code} {Rp : RT} (C : Cx Z (d + 3) jX12_isAsFar RX12 p R s m args meth c) : Sd Z jX12_isAsFar p e R s m args below meth c (MQ below (QcS Z Rp) args s 0 0 (fun a => Z.2.2.1 < a)) 35 (w_X12_isAsFar_35 (MS Z (d + 3)) (Gw Z 5 p e R s m args below meth c (MQ below (QcS Z Rp) args s 0 0 (fun a => Z.2.2.1 < a))) Rp) := by
  unfold w_X12_isAsFar_35
  refine s_iconst (n := 1) C (by decide +kernel) (by decide) ?_
  exact s_goto (off := 4) (tgt := 40) C (by decide +kernel) (by decide) (b_X12_isAsFar_40 C)
set_option maxRecDepth 20000 in
theorem b_X12_isAsFar_0 {Z : Zt} {d : Nat} {p : Program} {e : Env} {R : Room} {s : State} {m : MethodId} {args : Array Value} {below : List Frame} {meth : Method} {c : Code} {Rp : RT} (C : Cx Z (d + 3) jX12_isAsFar RX12 p R s m args meth c) : Sd Z jX12_isAsFar p e R s m args below meth c (MQ below (QcS Z Rp) args s 0 0 (fun a => Z.2.2.1 < a)) 0 (w_X12_isAsFar_0 (MS Z (d + 3)) (Gw Z 5 p e R s m args below meth c (MQ below (QcS Z Rp) args s 0 0 (fun a => Z.2.2.1 < a))) Rp) := by
  unfold w_X12_isAsFar_0
  refine s_aload_n (k := 0) C (by decide +kernel) ?_
  refine s_iload_n (k := 1) C (by decide +kernel) ?_
  refine s_aload_n (k := 0) C (by decide +kernel) ?_
  refine s_iload_n (k := 1) C (by decide +kernel) ?_
  refine s_iconst (n := 4) C (by decide +kernel) (by decide) ?_
  refine s_fnV C (j2 := jX12_of) (cl := 12) (nf := 27) rfl rfl (by decide +kernel) rfl w_6_220 w_6_222 w_p3_11 w_1_13 w_6_223 (by decide +kernel) (fun _ _ _ _ _ h => f_X12_of h) (fun _ _ _ _ _ h => r_X12_of h) ?_
  refine s_fnV C (j2 := jX12_termAt) (cl := 12) (nf := 27) rfl rfl (by decide +kernel) rfl w_7_23 w_7_25 w_p4_5 w_1_13 w_7_26 (by decide +kernel) (fun _ _ _ _ _ h => f_X12_termAt h) (fun _ _ _ _ _ h => r_X12_termAt h) ?_
  refine s_istore (k := 4) C (by decide +kernel) ?_
  refine s_iload_n (k := 3) C (by decide +kernel) ?_
  refine s_iload (k := 4) C (by decide +kernel) ?_
  refine s_icmp_gt (off := 19) (tgt := 35) C (by decide +kernel) (by decide) (b_X12_isAsFar_35 C) ?_
  refine s_iload_n (k := 3) C (by decide +kernel) ?_
  refine s_iload (k := 4) C (by decide +kernel) ?_
  refine s_icmp_ne (off := 17) (tgt := 39) C (by decide +kernel) (by decide) (b_X12_isAsFar_39 C) ?_
  refine s_iload_n (k := 2) C (by decide +kernel) ?_
  refine s_aload_n (k := 0) C (by decide +kernel) ?_
  refine s_iload_n (k := 1) C (by decide +kernel) ?_
  refine s_iconst (n := 4) C (by decide +kernel) (by decide) ?_
  refine s_fnV C (j2 := jX12_of) (cl := 12) (nf := 27) rfl rfl (by decide +kernel) rfl w_6_220 w_6_222 w_p3_11 w_1_13 w_6_223 (by decide +kernel) (fun _ _ _ _ _ h => f_X12_of h) (fun _ _ _ _ _ h => r_X12_of h) ?_
  refine s_icmp_lt (off := 7) (tgt := 39) C (by decide +kernel) (by decide) (b_X12_isAsFar_39 C) ?_
  exact (b_X12_isAsFar_35 C)
theorem ms_X12_isAsFar {Z : Zt} {d : Nat} {S : Sh} {μ : Mi} {ρ : Mr} {Rp : RT} (a0 : Nat) (x1 : Int32) (x2 : Int32) (x3 : Int32) (h : ∀ G : Nat → PT, w_X12_isAsFar_0 (MS Z (d + 3)) G Rp [.ref a0, .int x1, .int x2, .int x3, .null] [] S (0, 0) μ ρ) : MS Z (d + 4) jX12_isAsFar [.ref a0, .int x1, .int x2, .int x3] S μ ρ Rp :=
  MS_of [.ref a0, .int x1, .int x2, .int x3, .null] (by decide +kernel) rfl rfl (Nat.le_of_ble_eq_true rfl) rfl (fun p e R s m args below meth c C => b_X12_isAsFar_0 C _ _ _ _ _ _ (h _ ))
def w_X12_sends_149 (M : CT) (G : Nat → PT) (Rp : RT) : PT := tIast <| tAload 0 <| tGetR 12 27 1 <| tIload 6 <| tConst 0 <| tBin (fun x y => x + y) <| tIload 1 <| tIast <| tAload 0 <| tGetR 12 27 1 <| tIload 6 <| tConst 1 <| tBin (fun x y => x + y) <| tIload 2 <| tIast <| tAload 0 <| tGetR 12 27 1 <| tIload 6 <| tConst 2 <| tBin (fun x y => x + y) <| tAload 0 <| tIload 1 <| tConst 1 <| tFn 3 F_X12_of <| tIast <| tAload 0 <| tGetR 12 27 1 <| tIload 6 <| tConst 3 <| tBin (fun x y => x + y) <| tIload 3 <| tIast <| tAload 0 <| tGetR 12 27 1 <| tIload 6 <| tConst 4 <| tBin (fun x y => x + y) <| tIload 4 <| tIast <| tAload 0 <| tGetR 12 27 1 <| tIload 6 <| tConst 5 <| tBin (fun x y => x + y) <| tIload 5 <| tIast <| tIload 6 <| tIret Rp
def w_X12_sends_148 (M : CT) (G : Nat → PT) (Rp : RT) : PT := tConst 0 <| w_X12_sends_149 M G Rp
def w_X12_sends_138 (M : CT) (G : Nat → PT) (Rp : RT) : PT := tAload 0 <| tGetR 12 27 12 <| tConst 8 <| tAld 20 <| tGoto (w_X12_sends_149 M G Rp)
def w_X12_sends_128 (M : CT) (G : Nat → PT) (Rp : RT) : PT := tIload 3 <| tConst 3 <| tIf2 (fun x y => x = y) (w_X12_sends_138 M G Rp) <| tIload 3 <| tConst 5 <| tIf2 (fun x y => x ≠ y) (w_X12_sends_148 M G Rp) <| w_X12_sends_138 M G Rp
def w_X12_sends_118 (M : CT) (G : Nat → PT) (Rp : RT) : PT := tAload 0 <| tIload 1 <| tConst 14 <| tFn 3 F_X12_of <| tGoto (w_X12_sends_149 M G Rp)
def w_X12_sends_99 (M : CT) (G : Nat → PT) (Rp : RT) : PT := tAload 0 <| tGetR 12 27 1 <| tIload 6 <| tConst 8 <| tBin (fun x y => x + y) <| tIload 3 <| tConst 2 <| tIf2 (fun x y => x = y) (w_X12_sends_118 M G Rp) <| tIload 3 <| tConst 4 <| tIf2 (fun x y => x ≠ y) (w_X12_sends_128 M G Rp) <| w_X12_sends_118 M G Rp
def w_X12_sends_75 (M : CT) (G : Nat → PT) (Rp : RT) : PT := tIload 7 <| tConst 21 <| tIf2 (fun x y => y ≤ x) (w_X12_sends_99 M G Rp) <| tAload 0 <| tGetR 12 27 1 <| tIload 6 <| tIload 7 <| tBin (fun x y => x + y) <| tConst 0 <| tIast <| tIinc 7 1 <| tGoto (G 75)
def w_X12_sends_43 (M : CT) (G : Nat → PT) (Rp : RT) : PT := tConst 2570 <| tConst 21 <| tAload 0 <| tGetR 12 27 1 <| tConst 4510 <| tAld 20 <| tBin (fun x y => x * y) <| tBin (fun x y => x + y) <| tIstore 6 <| tAload 0 <| tGetR 12 27 1 <| tConst 4510 <| tDup2 <| tAld 20 <| tConst 1 <| tBin (fun x y => x + y) <| tIast <| tConst 0 <| tIstore 7 <| G 75
def w_X12_sends_29 (M : CT) (G : Nat → PT) (Rp : RT) : PT := tAload 0 <| tGetR 12 27 1 <| tConst 4511 <| tDup2 <| tAld 20 <| tConst 1 <| tBin (fun x y => x + y) <| tIast <| tConst (-1) <| tIret Rp
def w_X12_sends_7 (M : CT) (G : Nat → PT) (Rp : RT) : PT := tAload 0 <| tGetR 12 27 1 <| tConst 4510 <| tAld 20 <| tConst 60 <| tIf2 (fun x y => x = y) (w_X12_sends_29 M G Rp) <| tAload 0 <| tIload 1 <| tIload 2 <| tFn 3 F_X12_isLinked <| tIf (fun x => x ≠ 0) (w_X12_sends_43 M G Rp) <| w_X12_sends_29 M G Rp
def w_X12_sends_0 (M : CT) (G : Nat → PT) (Rp : RT) : PT := tIload 1 <| tIload 2 <| tIf2 (fun x y => x ≠ y) (w_X12_sends_7 M G Rp) <| tConst (-1) <| tIret Rp
set_option maxRecDepth 20000 in
theorem b_X12_sends_149 {Z : Zt} {d : Nat} {p : Program} {e : Env} {R : Room} {s : State} {m : MethodId} {args : Array Value} {below : List Frame} {meth : Method} {c : Code} {Rp : RT} (C : Cx Z (d + 2) jX12_sends RX12 p R s m args meth c) : Sd Z jX12_sends p e R s m args below meth c (MQ below (QcS Z Rp) args s 0 0 (fun a => Z.2.2.1 < a)) 149 (w_X12_sends_149 (MS Z (d + 2)) (Gw Z 8 p e R s m args below meth c (MQ below (QcS Z Rp) args s 0 0 (fun a => Z.2.2.1 < a))) Rp) := by
  unfold w_X12_sends_149
  refine s_iast C (by decide +kernel) ?_
  refine s_aload_n (k := 0) C (by decide +kernel) ?_
  refine s_getR C w_6_88 (by decide +kernel) rfl ?_
  refine s_iload (k := 6) C (by decide +kernel) ?_
  refine s_iconst (n := 0) C (by decide +kernel) (by decide) ?_
  refine s_iadd C (by decide +kernel) ?_
  refine s_iload_n (k := 1) C (by decide +kernel) ?_
  refine s_iast C (by decide +kernel) ?_
  refine s_aload_n (k := 0) C (by decide +kernel) ?_
  refine s_getR C w_6_88 (by decide +kernel) rfl ?_
  refine s_iload (k := 6) C (by decide +kernel) ?_
  refine s_iconst (n := 1) C (by decide +kernel) (by decide) ?_
  refine s_iadd C (by decide +kernel) ?_
  refine s_iload_n (k := 2) C (by decide +kernel) ?_
  refine s_iast C (by decide +kernel) ?_
  refine s_aload_n (k := 0) C (by decide +kernel) ?_
  refine s_getR C w_6_88 (by decide +kernel) rfl ?_
  refine s_iload (k := 6) C (by decide +kernel) ?_
  refine s_iconst (n := 2) C (by decide +kernel) (by decide) ?_
  refine s_iadd C (by decide +kernel) ?_
  refine s_aload_n (k := 0) C (by decide +kernel) ?_
  refine s_iload_n (k := 1) C (by decide +kernel) ?_
  refine s_iconst (n := 1) C (by decide +kernel) (by decide) ?_
  refine s_fnV C (j2 := jX12_of) (cl := 12) (nf := 27) rfl rfl (by decide +kernel) rfl w_6_220 w_6_222 w_p3_11 w_1_13 w_6_223 (by decide +kernel) (fun _ _ _ _ _ h => f_X12_of h) (fun _ _ _ _ _ h => r_X12_of h) ?_
  refine s_iast C (by decide +kernel) ?_
  refine s_aload_n (k := 0) C (by decide +kernel) ?_
  refine s_getR C w_6_88 (by decide +kernel) rfl ?_
  refine s_iload (k := 6) C (by decide +kernel) ?_
  refine s_iconst (n := 3) C (by decide +kernel) (by decide) ?_
  refine s_iadd C (by decide +kernel) ?_
  refine s_iload_n (k := 3) C (by decide +kernel) ?_
  refine s_iast C (by decide +kernel) ?_
  refine s_aload_n (k := 0) C (by decide +kernel) ?_
  refine s_getR C w_6_88 (by decide +kernel) rfl ?_
  refine s_iload (k := 6) C (by decide +kernel) ?_
  refine s_iconst (n := 4) C (by decide +kernel) (by decide) ?_
  refine s_iadd C (by decide +kernel) ?_
  refine s_iload (k := 4) C (by decide +kernel) ?_
  refine s_iast C (by decide +kernel) ?_
  refine s_aload_n (k := 0) C (by decide +kernel) ?_
  refine s_getR C w_6_88 (by decide +kernel) rfl ?_
  refine s_iload (k := 6) C (by decide +kernel) ?_
  refine s_iconst (n := 5) C (by decide +kernel) (by decide) ?_
  refine s_iadd C (by decide +kernel) ?_
  refine s_iload (k := 5) C (by decide +kernel) ?_
  refine s_iast C (by decide +kernel) ?_
  refine s_iload (k := 6) C (by decide +kernel) ?_
  exact s_iret C rfl (by decide +kernel)
set_option maxRecDepth 20000 in
theorem b_X12_sends_148 {Z : Zt} {d : Nat} {p : Program} {e : Env} {R : Room} {s : State} {m : MethodId} {args : Array Value} {below : List Frame} {meth : Method} {c : Code} {Rp : RT} (C : Cx Z (d + 2) jX12_sends RX12 p R s m args meth c) : Sd Z jX12_sends p e R s m args below meth c (MQ below (QcS Z Rp) args s 0 0 (fun a => Z.2.2.1 < a)) 148 (w_X12_sends_148 (MS Z (d + 2)) (Gw Z 8 p e R s m args below meth c (MQ below (QcS Z Rp) args s 0 0 (fun a => Z.2.2.1 < a))) Rp) := by
  unfold w_X12_sends_148
  refine s_iconst (n := 0) C (by decide +kernel) (by decide) ?_
  exact (b_X12_sends_149 C)
set_option maxRecDepth 20000 in
theorem b_X12_sends_138 {Z : Zt} {d : Nat} {p : Program} {e : Env} {R : Room} {s : State} {m : MethodId} {args : Array Value} {below : List Frame} {meth : Method} {c : Code} {Rp : RT} (C : Cx Z (d + 2) jX12_sends RX12 p R s m args meth c) : Sd Z jX12_sends p e R s m args below meth c (MQ below (QcS Z Rp) args s 0 0 (fun a => Z.2.2.1 < a)) 138 (w_X12_sends_138 (MS Z (d + 2)) (Gw Z 8 p e R s m args below meth c (MQ below (QcS Z Rp) args s 0 0 (fun a => Z.2.2.1 < a))) Rp) := by
  unfold w_X12_sends_138
  refine s_aload_n (k := 0) C (by decide +kernel) ?_
  refine s_getR C w_6_99 (by decide +kernel) rfl ?_
  refine s_bipush (n := 8) C (by decide +kernel) (by decide) ?_
  refine s_iald C (by decide +kernel) ?_
  exact s_goto (off := 4) (tgt := 149) C (by decide +kernel) (by decide) (b_X12_sends_149 C)
set_option maxRecDepth 20000 in
theorem b_X12_sends_128 {Z : Zt} {d : Nat} {p : Program} {e : Env} {R : Room} {s : State} {m : MethodId} {args : Array Value} {below : List Frame} {meth : Method} {c : Code} {Rp : RT} (C : Cx Z (d + 2) jX12_sends RX12 p R s m args meth c) : Sd Z jX12_sends p e R s m args below meth c (MQ below (QcS Z Rp) args s 0 0 (fun a => Z.2.2.1 < a)) 128 (w_X12_sends_128 (MS Z (d + 2)) (Gw Z 8 p e R s m args below meth c (MQ below (QcS Z Rp) args s 0 0 (fun a => Z.2.2.1 < a))) Rp) := by
  unfold w_X12_sends_128
  refine s_iload_n (k := 3) C (by decide +kernel) ?_
  refine s_iconst (n := 3) C (by decide +kernel) (by decide) ?_
  refine s_icmp_eq (off := 8) (tgt := 138) C (by decide +kernel) (by decide) (b_X12_sends_138 C) ?_
  refine s_iload_n (k := 3) C (by decide +kernel) ?_
  refine s_iconst (n := 5) C (by decide +kernel) (by decide) ?_
  refine s_icmp_ne (off := 13) (tgt := 148) C (by decide +kernel) (by decide) (b_X12_sends_148 C) ?_
  exact (b_X12_sends_138 C)
set_option maxRecDepth 20000 in
theorem b_X12_sends_118 {Z : Zt} {d : Nat} {p : Program} {e : Env} {R : Room} {s : State} {m : MethodId} {args : Array Value} {below : List Frame} {meth : Method} {c : Code} {Rp : RT} (C : Cx Z (d + 2) jX12_sends RX12 p R s m args meth c) : Sd Z jX12_sends p e R s m args below meth c (MQ below (QcS Z Rp) args s 0 0 (fun a => Z.2.2.1 < a)) 118 (w_X12_sends_118 (MS Z (d + 2)) (Gw Z 8 p e R s m args below meth c (MQ below (QcS Z Rp) args s 0 0 (fun a => Z.2.2.1 < a))) Rp) := by
  unfold w_X12_sends_118
  refine s_aload_n (k := 0) C (by decide +kernel) ?_
  refine s_iload_n (k := 1) C (by decide +kernel) ?_
  refine s_bipush (n := 14) C (by decide +kernel) (by decide) ?_
  refine s_fnV C (j2 := jX12_of) (cl := 12) (nf := 27) rfl rfl (by decide +kernel) rfl w_6_220 w_6_222 w_p3_11 w_1_13 w_6_223 (by decide +kernel) (fun _ _ _ _ _ h => f_X12_of h) (fun _ _ _ _ _ h => r_X12_of h) ?_
  exact s_goto (off := 24) (tgt := 149) C (by decide +kernel) (by decide) (b_X12_sends_149 C)
set_option maxRecDepth 20000 in
theorem b_X12_sends_99 {Z : Zt} {d : Nat} {p : Program} {e : Env} {R : Room} {s : State} {m : MethodId} {args : Array Value} {below : List Frame} {meth : Method} {c : Code} {Rp : RT} (C : Cx Z (d + 2) jX12_sends RX12 p R s m args meth c) : Sd Z jX12_sends p e R s m args below meth c (MQ below (QcS Z Rp) args s 0 0 (fun a => Z.2.2.1 < a)) 99 (w_X12_sends_99 (MS Z (d + 2)) (Gw Z 8 p e R s m args below meth c (MQ below (QcS Z Rp) args s 0 0 (fun a => Z.2.2.1 < a))) Rp) := by
  unfold w_X12_sends_99
  refine s_aload_n (k := 0) C (by decide +kernel) ?_
  refine s_getR C w_6_88 (by decide +kernel) rfl ?_
  refine s_iload (k := 6) C (by decide +kernel) ?_
  refine s_bipush (n := 8) C (by decide +kernel) (by decide) ?_
  refine s_iadd C (by decide +kernel) ?_
  refine s_iload_n (k := 3) C (by decide +kernel) ?_
  refine s_iconst (n := 2) C (by decide +kernel) (by decide) ?_
  refine s_icmp_eq (off := 8) (tgt := 118) C (by decide +kernel) (by decide) (b_X12_sends_118 C) ?_
  refine s_iload_n (k := 3) C (by decide +kernel) ?_
  refine s_iconst (n := 4) C (by decide +kernel) (by decide) ?_
  refine s_icmp_ne (off := 13) (tgt := 128) C (by decide +kernel) (by decide) (b_X12_sends_128 C) ?_
  exact (b_X12_sends_118 C)
set_option maxRecDepth 20000 in
theorem b_X12_sends_75 {Z : Zt} {d : Nat} {p : Program} {e : Env} {R : Room} {s : State} {m : MethodId} {args : Array Value} {below : List Frame} {meth : Method} {c : Code} {Rp : RT} (C : Cx Z (d + 2) jX12_sends RX12 p R s m args meth c) : Sd Z jX12_sends p e R s m args below meth c (MQ below (QcS Z Rp) args s 0 0 (fun a => Z.2.2.1 < a)) 75 (w_X12_sends_75 (MS Z (d + 2)) (Gw Z 8 p e R s m args below meth c (MQ below (QcS Z Rp) args s 0 0 (fun a => Z.2.2.1 < a))) Rp) := by
  unfold w_X12_sends_75
  refine s_iload (k := 7) C (by decide +kernel) ?_
  refine s_bipush (n := 21) C (by decide +kernel) (by decide) ?_
  refine s_icmp_ge (off := 20) (tgt := 99) C (by decide +kernel) (by decide) (b_X12_sends_99 C) ?_
  refine s_aload_n (k := 0) C (by decide +kernel) ?_
  refine s_getR C w_6_88 (by decide +kernel) rfl ?_
  refine s_iload (k := 6) C (by decide +kernel) ?_
  refine s_iload (k := 7) C (by decide +kernel) ?_
  refine s_iadd C (by decide +kernel) ?_
  refine s_iconst (n := 0) C (by decide +kernel) (by decide) ?_
  refine s_iast C (by decide +kernel) ?_
  refine s_iinc (n := 1) C (by decide +kernel) (by decide) ?_
  exact s_goto (off := (-21)) (tgt := 75) C (by decide +kernel) (by decide) (fun _ _ _ _ _ _ h => h)
set_option maxRecDepth 20000 in
theorem b_X12_sends_43 {Z : Zt} {d : Nat} {p : Program} {e : Env} {R : Room} {s : State} {m : MethodId} {args : Array Value} {below : List Frame} {meth : Method} {c : Code} {Rp : RT} (C : Cx Z (d + 2) jX12_sends RX12 p R s m args meth c) : Sd Z jX12_sends p e R s m args below meth c (MQ below (QcS Z Rp) args s 0 0 (fun a => Z.2.2.1 < a)) 43 (w_X12_sends_43 (MS Z (d + 2)) (Gw Z 8 p e R s m args below meth c (MQ below (QcS Z Rp) args s 0 0 (fun a => Z.2.2.1 < a))) Rp) := by
  unfold w_X12_sends_43
  refine s_sipush (n := 2570) C (by decide +kernel) (by decide) ?_
  refine s_bipush (n := 21) C (by decide +kernel) (by decide) ?_
  refine s_aload_n (k := 0) C (by decide +kernel) ?_
  refine s_getR C w_6_88 (by decide +kernel) rfl ?_
  refine s_sipush (n := 4510) C (by decide +kernel) (by decide) ?_
  refine s_iald C (by decide +kernel) ?_
  refine s_imul C (by decide +kernel) ?_
  refine s_iadd C (by decide +kernel) ?_
  refine s_istore (k := 6) C (by decide +kernel) ?_
  refine s_aload_n (k := 0) C (by decide +kernel) ?_
  refine s_getR C w_6_88 (by decide +kernel) rfl ?_
  refine s_sipush (n := 4510) C (by decide +kernel) (by decide) ?_
  refine s_dup2 C (by decide +kernel) ?_
  refine s_iald C (by decide +kernel) ?_
  refine s_iconst (n := 1) C (by decide +kernel) (by decide) ?_
  refine s_iadd C (by decide +kernel) ?_
  refine s_iast C (by decide +kernel) ?_
  refine s_iconst (n := 0) C (by decide +kernel) (by decide) ?_
  refine s_istore (k := 7) C (by decide +kernel) ?_
  exact (fun _ _ _ _ _ _ h => h)
set_option maxRecDepth 20000 in
theorem b_X12_sends_29 {Z : Zt} {d : Nat} {p : Program} {e : Env} {R : Room} {s : State} {m : MethodId} {args : Array Value} {below : List Frame} {meth : Method} {c : Code} {Rp : RT} (C : Cx Z (d + 2) jX12_sends RX12 p R s m args meth c) : Sd Z jX12_sends p e R s m args below meth c (MQ below (QcS Z Rp) args s 0 0 (fun a => Z.2.2.1 < a)) 29 (w_X12_sends_29 (MS Z (d + 2)) (Gw Z 8 p e R s m args below meth c (MQ below (QcS Z Rp) args s 0 0 (fun a => Z.2.2.1 < a))) Rp) := by
  unfold w_X12_sends_29
  refine s_aload_n (k := 0) C (by decide +kernel) ?_
  refine s_getR C w_6_88 (by decide +kernel) rfl ?_
  refine s_sipush (n := 4511) C (by decide +kernel) (by decide) ?_
  refine s_dup2 C (by decide +kernel) ?_
  refine s_iald C (by decide +kernel) ?_
  refine s_iconst (n := 1) C (by decide +kernel) (by decide) ?_
  refine s_iadd C (by decide +kernel) ?_
  refine s_iast C (by decide +kernel) ?_
  refine s_iconst (n := (-1)) C (by decide +kernel) (by decide) ?_
  exact s_iret C rfl (by decide +kernel)
set_option maxRecDepth 20000 in
theorem b_X12_sends_7 {Z : Zt} {d : Nat} {p : Program} {e : Env} {R : Room} {s : State} {m : MethodId} {args : Array Value} {below : List Frame} {meth : Method} {c : Code} {Rp : RT} (C : Cx Z (d + 2) jX12_sends RX12 p R s m args meth c) : Sd Z jX12_sends p e R s m args below meth c (MQ below (QcS Z Rp) args s 0 0 (fun a => Z.2.2.1 < a)) 7 (w_X12_sends_7 (MS Z (d + 2)) (Gw Z 8 p e R s m args below meth c (MQ below (QcS Z Rp) args s 0 0 (fun a => Z.2.2.1 < a))) Rp) := by
  unfold w_X12_sends_7
  refine s_aload_n (k := 0) C (by decide +kernel) ?_
  refine s_getR C w_6_88 (by decide +kernel) rfl ?_
  refine s_sipush (n := 4510) C (by decide +kernel) (by decide) ?_
  refine s_iald C (by decide +kernel) ?_
  refine s_bipush (n := 60) C (by decide +kernel) (by decide) ?_
  refine s_icmp_eq (off := 12) (tgt := 29) C (by decide +kernel) (by decide) (b_X12_sends_29 C) ?_
  refine s_aload_n (k := 0) C (by decide +kernel) ?_
  refine s_iload_n (k := 1) C (by decide +kernel) ?_
  refine s_iload_n (k := 2) C (by decide +kernel) ?_
  refine s_fnV C (j2 := jX12_isLinked) (cl := 12) (nf := 27) rfl rfl (by decide +kernel) rfl w_7_31 w_7_33 w_p4_7 w_1_13 w_7_34 (by decide +kernel) (fun _ _ _ _ _ h => f_X12_isLinked h) (fun _ _ _ _ _ h => r_X12_isLinked h) ?_
  refine s_if_ne (off := 17) (tgt := 43) C (by decide +kernel) (by decide) (b_X12_sends_43 C) ?_
  exact (b_X12_sends_29 C)
set_option maxRecDepth 20000 in
theorem b_X12_sends_0 {Z : Zt} {d : Nat} {p : Program} {e : Env} {R : Room} {s : State} {m : MethodId} {args : Array Value} {below : List Frame} {meth : Method} {c : Code} {Rp : RT} (C : Cx Z (d + 2) jX12_sends RX12 p R s m args meth c) : Sd Z jX12_sends p e R s m args below meth c (MQ below (QcS Z Rp) args s 0 0 (fun a => Z.2.2.1 < a)) 0 (w_X12_sends_0 (MS Z (d + 2)) (Gw Z 8 p e R s m args below meth c (MQ below (QcS Z Rp) args s 0 0 (fun a => Z.2.2.1 < a))) Rp) := by
  unfold w_X12_sends_0
  refine s_iload_n (k := 1) C (by decide +kernel) ?_
  refine s_iload_n (k := 2) C (by decide +kernel) ?_
  refine s_icmp_ne (off := 5) (tgt := 7) C (by decide +kernel) (by decide) (b_X12_sends_7 C) ?_
  refine s_iconst (n := (-1)) C (by decide +kernel) (by decide) ?_
  exact s_iret C rfl (by decide +kernel)
theorem ms_X12_sends {Z : Zt} {d : Nat} {S : Sh} {μ : Mi} {ρ : Mr} {Rp : RT} (a0 : Nat) (x1 : Int32) (x2 : Int32) (x3 : Int32) (x4 : Int32) (x5 : Int32) (h : ∀ G : Nat → PT, (∀ (L st : List Value) (S : Sh) (q : Nat × Nat) (μ : Mi) (ρ : Mr), w_X12_sends_75 (MS Z (d + 2)) G Rp L st S q μ ρ → G 75 L st S q μ ρ) → w_X12_sends_0 (MS Z (d + 2)) G Rp [.ref a0, .int x1, .int x2, .int x3, .int x4, .int x5, .null, .null] [] S (0, 0) μ ρ) : MS Z (d + 3) jX12_sends [.ref a0, .int x1, .int x2, .int x3, .int x4, .int x5] S μ ρ Rp :=
  MS_of [.ref a0, .int x1, .int x2, .int x3, .int x4, .int x5, .null, .null] (by decide +kernel) rfl rfl (Nat.le_of_ble_eq_true rfl) rfl (fun p e R s m args below meth c C => b_X12_sends_0 C _ _ _ _ _ _ (h _ (b_X12_sends_75 C)))
def w_X12_followsTerm_0 (M : CT) (G : Nat → PT) (Rp : RT) : PT := tAload 0 <| tIload 1 <| tConst 1 <| tIload 2 <| tFn 4 F_X12_lays <| tAload 0 <| tIload 1 <| tConst 2 <| tConst (-1) <| tFn 4 F_X12_lays <| tAload 0 <| tIload 1 <| tConst 0 <| tFn 3 F_X12_plays <| tVret Rp
set_option maxRecDepth 20000 in
theorem b_X12_followsTerm_0 {Z : Zt} {d : Nat} {p : Program} {e : Env} {R : Room} {s : State} {m : MethodId} {args : Array Value} {below : List Frame} {meth : Method} {c : Code} {Rp : RT} (C : Cx Z (d + 3) jX12_followsTerm RX12 p R s m args meth c) : Sd Z jX12_followsTerm p e R s m args below meth c (MQ below (QcS Z Rp) args s 0 0 (fun a => Z.2.2.1 < a)) 0 (w_X12_followsTerm_0 (MS Z (d + 3)) (Gw Z 3 p e R s m args below meth c (MQ below (QcS Z Rp) args s 0 0 (fun a => Z.2.2.1 < a))) Rp) := by
  unfold w_X12_followsTerm_0
  refine s_aload_n (k := 0) C (by decide +kernel) ?_
  refine s_iload_n (k := 1) C (by decide +kernel) ?_
  refine s_iconst (n := 1) C (by decide +kernel) (by decide) ?_
  refine s_iload_n (k := 2) C (by decide +kernel) ?_
  refine s_fnV C (j2 := jX12_lays) (cl := 12) (nf := 27) rfl rfl (by decide +kernel) rfl w_6_82 w_6_84 w_p3_4 w_1_13 w_6_85 (by decide +kernel) (fun _ _ _ _ _ h => f_X12_lays h) (fun _ _ _ _ _ h => r_X12_lays h) ?_
  refine s_aload_n (k := 0) C (by decide +kernel) ?_
  refine s_iload_n (k := 1) C (by decide +kernel) ?_
  refine s_iconst (n := 2) C (by decide +kernel) (by decide) ?_
  refine s_iconst (n := (-1)) C (by decide +kernel) (by decide) ?_
  refine s_fnV C (j2 := jX12_lays) (cl := 12) (nf := 27) rfl rfl (by decide +kernel) rfl w_6_82 w_6_84 w_p3_4 w_1_13 w_6_85 (by decide +kernel) (fun _ _ _ _ _ h => f_X12_lays h) (fun _ _ _ _ _ h => r_X12_lays h) ?_
  refine s_aload_n (k := 0) C (by decide +kernel) ?_
  refine s_iload_n (k := 1) C (by decide +kernel) ?_
  refine s_iconst (n := 0) C (by decide +kernel) (by decide) ?_
  refine s_fnV C (j2 := jX12_plays) (cl := 12) (nf := 27) rfl rfl (by decide +kernel) rfl w_7_11 w_7_13 w_p4_2 w_1_13 w_7_14 (by decide +kernel) (fun _ _ _ _ _ h => f_X12_plays h) (fun _ _ _ _ _ h => r_X12_plays h) ?_
  exact s_vret C rfl (by decide +kernel)
theorem ms_X12_followsTerm {Z : Zt} {d : Nat} {S : Sh} {μ : Mi} {ρ : Mr} {Rp : RT} (a0 : Nat) (x1 : Int32) (x2 : Int32) (h : ∀ G : Nat → PT, w_X12_followsTerm_0 (MS Z (d + 3)) G Rp [.ref a0, .int x1, .int x2] [] S (0, 0) μ ρ) : MS Z (d + 4) jX12_followsTerm [.ref a0, .int x1, .int x2] S μ ρ Rp :=
  MS_of [.ref a0, .int x1, .int x2] (by decide +kernel) rfl rfl (Nat.le_of_ble_eq_true rfl) rfl (fun p e R s m args below meth c C => b_X12_followsTerm_0 C _ _ _ _ _ _ (h _ ))
