def w_X12_feeds_251 (M : CT) (G : Nat → PT) (Rp : RT) : PT := tVret Rp
def w_X12_feeds_207 (M : CT) (G : Nat → PT) (Rp : RT) : PT := tIload 6 <| tConst 4 <| tIload 5 <| tBin (fun x y => x * y) <| tIf2 (fun x y => y ≤ x) (w_X12_feeds_251 M G Rp) <| tAload 0 <| tGetR 12 27 1 <| tIload 4 <| tConst 9 <| tBin (fun x y => x + y) <| tIload 6 <| tBin (fun x y => x + y) <| tAload 0 <| tIload 1 <| tConst 34 <| tConst 4 <| tIload 3 <| tConst 1 <| tBin (fun x y => x - y) <| tBin (fun x y => x * y) <| tBin (fun x y => x + y) <| tIload 6 <| tBin (fun x y => x + y) <| tFn 3 F_X12_of <| tIast <| tIinc 6 1 <| tGoto (G 207)
def w_X12_feeds_155 (M : CT) (G : Nat → PT) (Rp : RT) : PT := tConst 3 <| tAload 0 <| tIload 1 <| tConst 4 <| tFn 3 F_X12_of <| tIload 3 <| tBin (fun x y => x - y) <| tConst 1 <| tBin (fun x y => x + y) <| tFn 2 F_X12_lesser <| tIstore 5 <| tAload 0 <| tGetR 12 27 1 <| tIload 4 <| tConst 6 <| tBin (fun x y => x + y) <| tConst 0 <| tIload 5 <| tFn 2 F_X12_greater <| tIast <| tAload 0 <| tGetR 12 27 1 <| tIload 4 <| tConst 7 <| tBin (fun x y => x + y) <| tAload 0 <| tIload 1 <| tConst 7 <| tFn 3 F_X12_of <| tIast <| tConst 0 <| tIstore 6 <| G 207
def w_X12_feeds_128 (M : CT) (G : Nat → PT) (Rp : RT) : PT := tAload 0 <| tIload 1 <| tIload 2 <| tConst 2 <| tIload 3 <| tConst 1 <| tBin (fun x y => x - y) <| tAload 0 <| tIload 1 <| tIload 3 <| tConst 1 <| tBin (fun x y => x - y) <| tFn 3 F_X12_termAt <| tFn 6 F_X12_sends <| tIstore 4 <| tIload 4 <| tConst (-1) <| tIf2 (fun x y => x ≠ y) (w_X12_feeds_155 M G Rp) <| tVret Rp
def w_X12_feeds_87 (M : CT) (G : Nat → PT) (Rp : RT) : PT := tAload 0 <| tGetR 12 27 1 <| tIload 4 <| tConst 9 <| tBin (fun x y => x + y) <| tConst 4 <| tBin (fun x y => x + y) <| tAload 0 <| tIload 1 <| tConst 9 <| tFn 3 F_X12_of <| tIast <| tAload 0 <| tGetR 12 27 1 <| tIload 4 <| tConst 9 <| tBin (fun x y => x + y) <| tConst 4 <| tBin (fun x y => x + y) <| tConst 1 <| tBin (fun x y => x + y) <| tAload 0 <| tIload 1 <| tConst 10 <| tFn 3 F_X12_of <| tIast <| tVret Rp
def w_X12_feeds_52 (M : CT) (G : Nat → PT) (Rp : RT) : PT := tIload 5 <| tConst 4 <| tIf2 (fun x y => y ≤ x) (w_X12_feeds_87 M G Rp) <| tAload 0 <| tGetR 12 27 1 <| tIload 4 <| tConst 9 <| tBin (fun x y => x + y) <| tIload 5 <| tBin (fun x y => x + y) <| tAload 0 <| tIload 1 <| tConst 20 <| tIload 5 <| tBin (fun x y => x + y) <| tFn 3 F_X12_of <| tIast <| tIinc 5 1 <| tGoto (G 52)
def w_X12_feeds_49 (M : CT) (G : Nat → PT) (Rp : RT) : PT := tConst 0 <| tIstore 5 <| G 52
def w_X12_feeds_0 (M : CT) (G : Nat → PT) (Rp : RT) : PT := tAload 0 <| tIload 1 <| tConst 24 <| tIload 2 <| tBin (fun x y => x + y) <| tFn 3 F_X12_of <| tIstore 3 <| tIload 3 <| tAload 0 <| tIload 1 <| tConst 5 <| tFn 3 F_X12_of <| tIf2 (fun x y => y < x) (w_X12_feeds_128 M G Rp) <| tAload 0 <| tIload 1 <| tIload 2 <| tConst 4 <| tAload 0 <| tIload 1 <| tConst 5 <| tFn 3 F_X12_of <| tAload 0 <| tIload 1 <| tConst 6 <| tFn 3 F_X12_of <| tFn 6 F_X12_sends <| tIstore 4 <| tIload 4 <| tConst (-1) <| tIf2 (fun x y => x ≠ y) (w_X12_feeds_49 M G Rp) <| tVret Rp
set_option maxRecDepth 20000 in
theorem b_X12_feeds_251 {Z : Zt} {d : Nat} {p : Program} {e : Env} {R : Room} {s : State} {m : MethodId} {args : Array Value} {below : List Frame} {meth : Method} {c : Code} {Rp : RT} (C : Cx Z (d + 3) jX12_feeds RX12 p R s m args meth c) : Sd Z jX12_feeds p e R s m args below meth c (MQ below (QcS Z Rp) args s 0 0 (fun a => Z.2.2.1 < a)) 251 (w_X12_feeds_251 (MS Z (d + 3)) (Gw Z 7 p e R s m args below meth c (MQ below (QcS Z Rp) args s 0 0 (fun a => Z.2.2.1 < a))) Rp) := by
  unfold w_X12_feeds_251
  exact s_vret C rfl (by decide +kernel)
set_option maxRecDepth 20000 in
theorem b_X12_feeds_207 {Z : Zt} {d : Nat} {p : Program} {e : Env} {R : Room} {s : State} {m : MethodId} {args : Array Value} {below : List Frame} {meth : Method} {c : Code} {Rp : RT} (C : Cx Z (d + 3) jX12_feeds RX12 p R s m args meth c) : Sd Z jX12_feeds p e R s m args below meth c (MQ below (QcS Z Rp) args s 0 0 (fun a => Z.2.2.1 < a)) 207 (w_X12_feeds_207 (MS Z (d + 3)) (Gw Z 7 p e R s m args below meth c (MQ below (QcS Z Rp) args s 0 0 (fun a => Z.2.2.1 < a))) Rp) := by
  unfold w_X12_feeds_207
  refine s_iload (k := 6) C (by decide +kernel) ?_
  refine s_iconst (n := 4) C (by decide +kernel) (by decide) ?_
  refine s_iload (k := 5) C (by decide +kernel) ?_
  refine s_imul C (by decide +kernel) ?_
  refine s_icmp_ge (off := 38) (tgt := 251) C (by decide +kernel) (by decide) (b_X12_feeds_251 C) ?_
  refine s_aload_n (k := 0) C (by decide +kernel) ?_
  refine s_getR C w_6_88 (by decide +kernel) rfl ?_
  refine s_iload (k := 4) C (by decide +kernel) ?_
  refine s_bipush (n := 9) C (by decide +kernel) (by decide) ?_
  refine s_iadd C (by decide +kernel) ?_
  refine s_iload (k := 6) C (by decide +kernel) ?_
  refine s_iadd C (by decide +kernel) ?_
  refine s_aload_n (k := 0) C (by decide +kernel) ?_
  refine s_iload_n (k := 1) C (by decide +kernel) ?_
  refine s_bipush (n := 34) C (by decide +kernel) (by decide) ?_
  refine s_iconst (n := 4) C (by decide +kernel) (by decide) ?_
  refine s_iload_n (k := 3) C (by decide +kernel) ?_
  refine s_iconst (n := 1) C (by decide +kernel) (by decide) ?_
  refine s_isub C (by decide +kernel) ?_
  refine s_imul C (by decide +kernel) ?_
  refine s_iadd C (by decide +kernel) ?_
  refine s_iload (k := 6) C (by decide +kernel) ?_
  refine s_iadd C (by decide +kernel) ?_
  refine s_fnV C (j2 := jX12_of) (cl := 12) (nf := 27) rfl rfl (by decide +kernel) rfl w_6_220 w_6_222 w_p3_11 w_1_13 w_6_223 (by decide +kernel) (fun _ _ _ _ _ h => f_X12_of h) (fun _ _ _ _ _ h => r_X12_of h) ?_
  refine s_iast C (by decide +kernel) ?_
  refine s_iinc (n := 1) C (by decide +kernel) (by decide) ?_
  exact s_goto (off := (-41)) (tgt := 207) C (by decide +kernel) (by decide) (fun _ _ _ _ _ _ h => h)
set_option maxRecDepth 20000 in
theorem b_X12_feeds_155 {Z : Zt} {d : Nat} {p : Program} {e : Env} {R : Room} {s : State} {m : MethodId} {args : Array Value} {below : List Frame} {meth : Method} {c : Code} {Rp : RT} (C : Cx Z (d + 3) jX12_feeds RX12 p R s m args meth c) : Sd Z jX12_feeds p e R s m args below meth c (MQ below (QcS Z Rp) args s 0 0 (fun a => Z.2.2.1 < a)) 155 (w_X12_feeds_155 (MS Z (d + 3)) (Gw Z 7 p e R s m args below meth c (MQ below (QcS Z Rp) args s 0 0 (fun a => Z.2.2.1 < a))) Rp) := by
  unfold w_X12_feeds_155
  refine s_iconst (n := 3) C (by decide +kernel) (by decide) ?_
  refine s_aload_n (k := 0) C (by decide +kernel) ?_
  refine s_iload_n (k := 1) C (by decide +kernel) ?_
  refine s_iconst (n := 4) C (by decide +kernel) (by decide) ?_
  refine s_fnV C (j2 := jX12_of) (cl := 12) (nf := 27) rfl rfl (by decide +kernel) rfl w_6_220 w_6_222 w_p3_11 w_1_13 w_6_223 (by decide +kernel) (fun _ _ _ _ _ h => f_X12_of h) (fun _ _ _ _ _ h => r_X12_of h) ?_
  refine s_iload_n (k := 3) C (by decide +kernel) ?_
  refine s_isub C (by decide +kernel) ?_
  refine s_iconst (n := 1) C (by decide +kernel) (by decide) ?_
  refine s_iadd C (by decide +kernel) ?_
  refine s_fnS C (j2 := jX12_lesser) (by decide +kernel) rfl w_7_55 w_7_56 w_1_13 w_7_57 (by decide +kernel) (fun _ _ _ _ _ h => f_X12_lesser h) ?_
  refine s_istore (k := 5) C (by decide +kernel) ?_
  refine s_aload_n (k := 0) C (by decide +kernel) ?_
  refine s_getR C w_6_88 (by decide +kernel) rfl ?_
  refine s_iload (k := 4) C (by decide +kernel) ?_
  refine s_bipush (n := 6) C (by decide +kernel) (by decide) ?_
  refine s_iadd C (by decide +kernel) ?_
  refine s_iconst (n := 0) C (by decide +kernel) (by decide) ?_
  refine s_iload (k := 5) C (by decide +kernel) ?_
  refine s_fnS C (j2 := jX12_greater) (by decide +kernel) rfl w_7_58 w_7_59 w_1_13 w_7_60 (by decide +kernel) (fun _ _ _ _ _ h => f_X12_greater h) ?_
  refine s_iast C (by decide +kernel) ?_
  refine s_aload_n (k := 0) C (by decide +kernel) ?_
  refine s_getR C w_6_88 (by decide +kernel) rfl ?_
  refine s_iload (k := 4) C (by decide +kernel) ?_
  refine s_bipush (n := 7) C (by decide +kernel) (by decide) ?_
  refine s_iadd C (by decide +kernel) ?_
  refine s_aload_n (k := 0) C (by decide +kernel) ?_
  refine s_iload_n (k := 1) C (by decide +kernel) ?_
  refine s_bipush (n := 7) C (by decide +kernel) (by decide) ?_
  refine s_fnV C (j2 := jX12_of) (cl := 12) (nf := 27) rfl rfl (by decide +kernel) rfl w_6_220 w_6_222 w_p3_11 w_1_13 w_6_223 (by decide +kernel) (fun _ _ _ _ _ h => f_X12_of h) (fun _ _ _ _ _ h => r_X12_of h) ?_
  refine s_iast C (by decide +kernel) ?_
  refine s_iconst (n := 0) C (by decide +kernel) (by decide) ?_
  refine s_istore (k := 6) C (by decide +kernel) ?_
  exact (fun _ _ _ _ _ _ h => h)
set_option maxRecDepth 20000 in
theorem b_X12_feeds_128 {Z : Zt} {d : Nat} {p : Program} {e : Env} {R : Room} {s : State} {m : MethodId} {args : Array Value} {below : List Frame} {meth : Method} {c : Code} {Rp : RT} (C : Cx Z (d + 3) jX12_feeds RX12 p R s m args meth c) : Sd Z jX12_feeds p e R s m args below meth c (MQ below (QcS Z Rp) args s 0 0 (fun a => Z.2.2.1 < a)) 128 (w_X12_feeds_128 (MS Z (d + 3)) (Gw Z 7 p e R s m args below meth c (MQ below (QcS Z Rp) args s 0 0 (fun a => Z.2.2.1 < a))) Rp) := by
  unfold w_X12_feeds_128
  refine s_aload_n (k := 0) C (by decide +kernel) ?_
  refine s_iload_n (k := 1) C (by decide +kernel) ?_
  refine s_iload_n (k := 2) C (by decide +kernel) ?_
  refine s_iconst (n := 2) C (by decide +kernel) (by decide) ?_
  refine s_iload_n (k := 3) C (by decide +kernel) ?_
  refine s_iconst (n := 1) C (by decide +kernel) (by decide) ?_
  refine s_isub C (by decide +kernel) ?_
  refine s_aload_n (k := 0) C (by decide +kernel) ?_
  refine s_iload_n (k := 1) C (by decide +kernel) ?_
  refine s_iload_n (k := 3) C (by decide +kernel) ?_
  refine s_iconst (n := 1) C (by decide +kernel) (by decide) ?_
  refine s_isub C (by decide +kernel) ?_
  refine s_fnV C (j2 := jX12_termAt) (cl := 12) (nf := 27) rfl rfl (by decide +kernel) rfl w_7_23 w_7_25 w_p4_5 w_1_13 w_7_26 (by decide +kernel) (fun _ _ _ _ _ h => f_X12_termAt h) (fun _ _ _ _ _ h => r_X12_termAt h) ?_
  refine s_fnV C (j2 := jX12_sends) (cl := 12) (nf := 27) rfl rfl (by decide +kernel) rfl w_7_27 w_7_29 w_p4_6 w_1_13 w_7_30 (by decide +kernel) (fun _ _ _ _ _ h => f_X12_sends h) (fun _ _ _ _ _ h => r_X12_sends h) ?_
  refine s_istore (k := 4) C (by decide +kernel) ?_
  refine s_iload (k := 4) C (by decide +kernel) ?_
  refine s_iconst (n := (-1)) C (by decide +kernel) (by decide) ?_
  refine s_icmp_ne (off := 4) (tgt := 155) C (by decide +kernel) (by decide) (b_X12_feeds_155 C) ?_
  exact s_vret C rfl (by decide +kernel)
set_option maxRecDepth 20000 in
theorem b_X12_feeds_87 {Z : Zt} {d : Nat} {p : Program} {e : Env} {R : Room} {s : State} {m : MethodId} {args : Array Value} {below : List Frame} {meth : Method} {c : Code} {Rp : RT} (C : Cx Z (d + 3) jX12_feeds RX12 p R s m args meth c) : Sd Z jX12_feeds p e R s m args below meth c (MQ below (QcS Z Rp) args s 0 0 (fun a => Z.2.2.1 < a)) 87 (w_X12_feeds_87 (MS Z (d + 3)) (Gw Z 7 p e R s m args below meth c (MQ below (QcS Z Rp) args s 0 0 (fun a => Z.2.2.1 < a))) Rp) := by
  unfold w_X12_feeds_87
  refine s_aload_n (k := 0) C (by decide +kernel) ?_
  refine s_getR C w_6_88 (by decide +kernel) rfl ?_
  refine s_iload (k := 4) C (by decide +kernel) ?_
  refine s_bipush (n := 9) C (by decide +kernel) (by decide) ?_
  refine s_iadd C (by decide +kernel) ?_
  refine s_iconst (n := 4) C (by decide +kernel) (by decide) ?_
  refine s_iadd C (by decide +kernel) ?_
  refine s_aload_n (k := 0) C (by decide +kernel) ?_
  refine s_iload_n (k := 1) C (by decide +kernel) ?_
  refine s_bipush (n := 9) C (by decide +kernel) (by decide) ?_
  refine s_fnV C (j2 := jX12_of) (cl := 12) (nf := 27) rfl rfl (by decide +kernel) rfl w_6_220 w_6_222 w_p3_11 w_1_13 w_6_223 (by decide +kernel) (fun _ _ _ _ _ h => f_X12_of h) (fun _ _ _ _ _ h => r_X12_of h) ?_
  refine s_iast C (by decide +kernel) ?_
  refine s_aload_n (k := 0) C (by decide +kernel) ?_
  refine s_getR C w_6_88 (by decide +kernel) rfl ?_
  refine s_iload (k := 4) C (by decide +kernel) ?_
  refine s_bipush (n := 9) C (by decide +kernel) (by decide) ?_
  refine s_iadd C (by decide +kernel) ?_
  refine s_iconst (n := 4) C (by decide +kernel) (by decide) ?_
  refine s_iadd C (by decide +kernel) ?_
  refine s_iconst (n := 1) C (by decide +kernel) (by decide) ?_
  refine s_iadd C (by decide +kernel) ?_
  refine s_aload_n (k := 0) C (by decide +kernel) ?_
  refine s_iload_n (k := 1) C (by decide +kernel) ?_
  refine s_bipush (n := 10) C (by decide +kernel) (by decide) ?_
  refine s_fnV C (j2 := jX12_of) (cl := 12) (nf := 27) rfl rfl (by decide +kernel) rfl w_6_220 w_6_222 w_p3_11 w_1_13 w_6_223 (by decide +kernel) (fun _ _ _ _ _ h => f_X12_of h) (fun _ _ _ _ _ h => r_X12_of h) ?_
  refine s_iast C (by decide +kernel) ?_
  exact s_vret C rfl (by decide +kernel)
set_option maxRecDepth 20000 in
theorem b_X12_feeds_52 {Z : Zt} {d : Nat} {p : Program} {e : Env} {R : Room} {s : State} {m : MethodId} {args : Array Value} {below : List Frame} {meth : Method} {c : Code} {Rp : RT} (C : Cx Z (d + 3) jX12_feeds RX12 p R s m args meth c) : Sd Z jX12_feeds p e R s m args below meth c (MQ below (QcS Z Rp) args s 0 0 (fun a => Z.2.2.1 < a)) 52 (w_X12_feeds_52 (MS Z (d + 3)) (Gw Z 7 p e R s m args below meth c (MQ below (QcS Z Rp) args s 0 0 (fun a => Z.2.2.1 < a))) Rp) := by
  unfold w_X12_feeds_52
  refine s_iload (k := 5) C (by decide +kernel) ?_
  refine s_iconst (n := 4) C (by decide +kernel) (by decide) ?_
  refine s_icmp_ge (off := 32) (tgt := 87) C (by decide +kernel) (by decide) (b_X12_feeds_87 C) ?_
  refine s_aload_n (k := 0) C (by decide +kernel) ?_
  refine s_getR C w_6_88 (by decide +kernel) rfl ?_
  refine s_iload (k := 4) C (by decide +kernel) ?_
  refine s_bipush (n := 9) C (by decide +kernel) (by decide) ?_
  refine s_iadd C (by decide +kernel) ?_
  refine s_iload (k := 5) C (by decide +kernel) ?_
  refine s_iadd C (by decide +kernel) ?_
  refine s_aload_n (k := 0) C (by decide +kernel) ?_
  refine s_iload_n (k := 1) C (by decide +kernel) ?_
  refine s_bipush (n := 20) C (by decide +kernel) (by decide) ?_
  refine s_iload (k := 5) C (by decide +kernel) ?_
  refine s_iadd C (by decide +kernel) ?_
  refine s_fnV C (j2 := jX12_of) (cl := 12) (nf := 27) rfl rfl (by decide +kernel) rfl w_6_220 w_6_222 w_p3_11 w_1_13 w_6_223 (by decide +kernel) (fun _ _ _ _ _ h => f_X12_of h) (fun _ _ _ _ _ h => r_X12_of h) ?_
  refine s_iast C (by decide +kernel) ?_
  refine s_iinc (n := 1) C (by decide +kernel) (by decide) ?_
  exact s_goto (off := (-32)) (tgt := 52) C (by decide +kernel) (by decide) (fun _ _ _ _ _ _ h => h)
set_option maxRecDepth 20000 in
theorem b_X12_feeds_49 {Z : Zt} {d : Nat} {p : Program} {e : Env} {R : Room} {s : State} {m : MethodId} {args : Array Value} {below : List Frame} {meth : Method} {c : Code} {Rp : RT} (C : Cx Z (d + 3) jX12_feeds RX12 p R s m args meth c) : Sd Z jX12_feeds p e R s m args below meth c (MQ below (QcS Z Rp) args s 0 0 (fun a => Z.2.2.1 < a)) 49 (w_X12_feeds_49 (MS Z (d + 3)) (Gw Z 7 p e R s m args below meth c (MQ below (QcS Z Rp) args s 0 0 (fun a => Z.2.2.1 < a))) Rp) := by
  unfold w_X12_feeds_49
  refine s_iconst (n := 0) C (by decide +kernel) (by decide) ?_
  refine s_istore (k := 5) C (by decide +kernel) ?_
  exact (fun _ _ _ _ _ _ h => h)
set_option maxRecDepth 20000 in
theorem b_X12_feeds_0 {Z : Zt} {d : Nat} {p : Program} {e : Env} {R : Room} {s : State} {m : MethodId} {args : Array Value} {below : List Frame} {meth : Method} {c : Code} {Rp : RT} (C : Cx Z (d + 3) jX12_feeds RX12 p R s m args meth c) : Sd Z jX12_feeds p e R s m args below meth c (MQ below (QcS Z Rp) args s 0 0 (fun a => Z.2.2.1 < a)) 0 (w_X12_feeds_0 (MS Z (d + 3)) (Gw Z 7 p e R s m args below meth c (MQ below (QcS Z Rp) args s 0 0 (fun a => Z.2.2.1 < a))) Rp) := by
  unfold w_X12_feeds_0
  refine s_aload_n (k := 0) C (by decide +kernel) ?_
  refine s_iload_n (k := 1) C (by decide +kernel) ?_
  refine s_bipush (n := 24) C (by decide +kernel) (by decide) ?_
  refine s_iload_n (k := 2) C (by decide +kernel) ?_
  refine s_iadd C (by decide +kernel) ?_
  refine s_fnV C (j2 := jX12_of) (cl := 12) (nf := 27) rfl rfl (by decide +kernel) rfl w_6_220 w_6_222 w_p3_11 w_1_13 w_6_223 (by decide +kernel) (fun _ _ _ _ _ h => f_X12_of h) (fun _ _ _ _ _ h => r_X12_of h) ?_
  refine s_istore_n (k := 3) C (by decide +kernel) ?_
  refine s_iload_n (k := 3) C (by decide +kernel) ?_
  refine s_aload_n (k := 0) C (by decide +kernel) ?_
  refine s_iload_n (k := 1) C (by decide +kernel) ?_
  refine s_iconst (n := 5) C (by decide +kernel) (by decide) ?_
  refine s_fnV C (j2 := jX12_of) (cl := 12) (nf := 27) rfl rfl (by decide +kernel) rfl w_6_220 w_6_222 w_p3_11 w_1_13 w_6_223 (by decide +kernel) (fun _ _ _ _ _ h => f_X12_of h) (fun _ _ _ _ _ h => r_X12_of h) ?_
  refine s_icmp_gt (off := 111) (tgt := 128) C (by decide +kernel) (by decide) (b_X12_feeds_128 C) ?_
  refine s_aload_n (k := 0) C (by decide +kernel) ?_
  refine s_iload_n (k := 1) C (by decide +kernel) ?_
  refine s_iload_n (k := 2) C (by decide +kernel) ?_
  refine s_iconst (n := 4) C (by decide +kernel) (by decide) ?_
  refine s_aload_n (k := 0) C (by decide +kernel) ?_
  refine s_iload_n (k := 1) C (by decide +kernel) ?_
  refine s_iconst (n := 5) C (by decide +kernel) (by decide) ?_
  refine s_fnV C (j2 := jX12_of) (cl := 12) (nf := 27) rfl rfl (by decide +kernel) rfl w_6_220 w_6_222 w_p3_11 w_1_13 w_6_223 (by decide +kernel) (fun _ _ _ _ _ h => f_X12_of h) (fun _ _ _ _ _ h => r_X12_of h) ?_
  refine s_aload_n (k := 0) C (by decide +kernel) ?_
  refine s_iload_n (k := 1) C (by decide +kernel) ?_
  refine s_bipush (n := 6) C (by decide +kernel) (by decide) ?_
  refine s_fnV C (j2 := jX12_of) (cl := 12) (nf := 27) rfl rfl (by decide +kernel) rfl w_6_220 w_6_222 w_p3_11 w_1_13 w_6_223 (by decide +kernel) (fun _ _ _ _ _ h => f_X12_of h) (fun _ _ _ _ _ h => r_X12_of h) ?_
  refine s_fnV C (j2 := jX12_sends) (cl := 12) (nf := 27) rfl rfl (by decide +kernel) rfl w_7_27 w_7_29 w_p4_6 w_1_13 w_7_30 (by decide +kernel) (fun _ _ _ _ _ h => f_X12_sends h) (fun _ _ _ _ _ h => r_X12_sends h) ?_
  refine s_istore (k := 4) C (by decide +kernel) ?_
  refine s_iload (k := 4) C (by decide +kernel) ?_
  refine s_iconst (n := (-1)) C (by decide +kernel) (by decide) ?_
  refine s_icmp_ne (off := 4) (tgt := 49) C (by decide +kernel) (by decide) (b_X12_feeds_49 C) ?_
  exact s_vret C rfl (by decide +kernel)
theorem ms_X12_feeds {Z : Zt} {d : Nat} {S : Sh} {μ : Mi} {ρ : Mr} {Rp : RT} (a0 : Nat) (x1 : Int32) (x2 : Int32) (h : ∀ G : Nat → PT, (∀ (L st : List Value) (S : Sh) (q : Nat × Nat) (μ : Mi) (ρ : Mr), w_X12_feeds_52 (MS Z (d + 3)) G Rp L st S q μ ρ → G 52 L st S q μ ρ) → (∀ (L st : List Value) (S : Sh) (q : Nat × Nat) (μ : Mi) (ρ : Mr), w_X12_feeds_207 (MS Z (d + 3)) G Rp L st S q μ ρ → G 207 L st S q μ ρ) → w_X12_feeds_0 (MS Z (d + 3)) G Rp [.ref a0, .int x1, .int x2, .null, .null, .null, .null] [] S (0, 0) μ ρ) : MS Z (d + 4) jX12_feeds [.ref a0, .int x1, .int x2] S μ ρ Rp :=
  MS_of [.ref a0, .int x1, .int x2, .null, .null, .null, .null] (by decide +kernel) rfl rfl (Nat.le_of_ble_eq_true rfl) rfl (fun p e R s m args below meth c C => b_X12_feeds_0 C _ _ _ _ _ _ (h _ (b_X12_feeds_52 C) (b_X12_feeds_207 C)))
