/-! ===== the reference: comes, settles ===== -/
theorem suOK_st {A : Rw} {s : Nat} (h : stOK A s) (ht : A (514 * s + 1) < 200) : suOK A s := by
  refine ⟨h.1, h.2.1, h.2.2.1.1, ?_⟩
  rw [Int32.lt_iff_toInt_lt, show (200 : Int32).toInt = 200 by decide] at ht
  omega
theorem ldOK_st {A : Rw} {s : Nat} (h : stOK A s) (ht : A (514 * s + 3) = 1) : ldOK A s := ⟨h.1, h.2.1, h.2.2.2.2.2 ht, h.2.2.1.2⟩
def w_X12_comes_477 (M : CT) (G : Nat → PT) (Rp : RT) : PT := tConst 1 <| tIret Rp
def w_X12_comes_448 (M : CT) (G : Nat → PT) (Rp : RT) : PT := tIload 3 <| tIf (fun x => x = 0) (w_X12_comes_477 M G Rp) <| tAload 0 <| tIload 2 <| tFn 2 F_X12_isLeader <| tIf (fun x => x = 0) (w_X12_comes_477 M G Rp) <| tAload 0 <| tIload 2 <| tAload 0 <| tGetR 12 27 12 <| tConst 0 <| tAld 20 <| tAload 0 <| tGetR 12 27 12 <| tConst 4 <| tAld 20 <| tFn 4 F_X12_installed <| w_X12_comes_477 M G Rp
def w_X12_comes_433 (M : CT) (G : Nat → PT) (Rp : RT) : PT := tAload 0 <| tIload 2 <| tAload 0 <| tGetR 12 27 12 <| tConst 0 <| tAld 20 <| tIload 3 <| tFn 4 F_X12_installs <| tGoto (w_X12_comes_477 M G Rp)
def w_X12_comes_421 (M : CT) (G : Nat → PT) (Rp : RT) : PT := tAload 0 <| tGetR 12 27 12 <| tConst 2 <| tAld 20 <| tFn 5 F_X12_would <| tGoto (w_X12_comes_477 M G Rp)
def w_X12_comes_420 (M : CT) (G : Nat → PT) (Rp : RT) : PT := tConst 0 <| w_X12_comes_421 M G Rp
def w_X12_comes_388 (M : CT) (G : Nat → PT) (Rp : RT) : PT := tAload 0 <| tIload 2 <| tConst 3 <| tFn 3 F_X12_of <| tConst 3 <| tIf2 (fun x y => x ≠ y) (w_X12_comes_477 M G Rp) <| tAload 0 <| tIload 2 <| tAload 0 <| tGetR 12 27 12 <| tConst 0 <| tAld 20 <| tAload 0 <| tGetR 12 27 12 <| tConst 4 <| tAld 20 <| tConst 1 <| tIf2 (fun x y => x ≠ y) (w_X12_comes_420 M G Rp) <| tConst 1 <| tGoto (w_X12_comes_421 M G Rp)
def w_X12_comes_356 (M : CT) (G : Nat → PT) (Rp : RT) : PT := tAload 0 <| tIload 2 <| tAload 0 <| tGetR 12 27 12 <| tConst 0 <| tAld 20 <| tAload 0 <| tGetR 12 27 12 <| tConst 2 <| tAld 20 <| tAload 0 <| tGetR 12 27 12 <| tConst 4 <| tAld 20 <| tAload 0 <| tGetR 12 27 12 <| tConst 5 <| tAld 20 <| tFn 6 F_X12_wouldBe <| tGoto (w_X12_comes_477 M G Rp)
def w_X12_comes_303 (M : CT) (G : Nat → PT) (Rp : RT) : PT := tAload 0 <| tIload 2 <| tFn 2 F_X12_laysMembers <| tIload 3 <| tIf (fun x => x = 0) (w_X12_comes_477 M G Rp) <| tAload 0 <| tIload 2 <| tFn 2 F_X12_isLeader <| tIf (fun x => x ≠ 0) (w_X12_comes_477 M G Rp) <| tAload 0 <| tGetI 12 27 8 <| tAload 0 <| tGetI 12 27 9 <| tBin (fun x y => x ||| y) <| tIload 2 <| tFn 2 F_X12_has <| tIf (fun x => x = 0) (w_X12_comes_477 M G Rp) <| tAload 0 <| tIload 2 <| tConst 1 <| tFn 3 F_X12_of <| tConst 200 <| tIf2 (fun x y => y ≤ x) (w_X12_comes_477 M G Rp) <| tAload 0 <| tIload 2 <| tFn 2 F_X12_standsUp <| tGoto (w_X12_comes_477 M G Rp)
def w_X12_comes_291 (M : CT) (G : Nat → PT) (Rp : RT) : PT := tAload 0 <| tGetR 12 27 12 <| tConst 5 <| tAld 20 <| tFn 5 F_X12_took <| tGoto (w_X12_comes_477 M G Rp)
def w_X12_comes_290 (M : CT) (G : Nat → PT) (Rp : RT) : PT := tConst 0 <| w_X12_comes_291 M G Rp
def w_X12_comes_256 (M : CT) (G : Nat → PT) (Rp : RT) : PT := tIload 3 <| tIf (fun x => x = 0) (w_X12_comes_477 M G Rp) <| tAload 0 <| tIload 2 <| tFn 2 F_X12_isLeader <| tIf (fun x => x = 0) (w_X12_comes_477 M G Rp) <| tAload 0 <| tIload 2 <| tAload 0 <| tGetR 12 27 12 <| tConst 0 <| tAld 20 <| tAload 0 <| tGetR 12 27 12 <| tConst 4 <| tAld 20 <| tConst 1 <| tIf2 (fun x y => x ≠ y) (w_X12_comes_290 M G Rp) <| tConst 1 <| tGoto (w_X12_comes_291 M G Rp)
def w_X12_comes_241 (M : CT) (G : Nat → PT) (Rp : RT) : PT := tAload 0 <| tIload 2 <| tAload 0 <| tGetR 12 27 12 <| tConst 0 <| tAld 20 <| tIload 3 <| tFn 4 F_X12_takes <| tGoto (w_X12_comes_477 M G Rp)
def w_X12_comes_203 (M : CT) (G : Nat → PT) (Rp : RT) : PT := tIload 3 <| tIf (fun x => x = 0) (w_X12_comes_477 M G Rp) <| tAload 0 <| tGetR 12 27 12 <| tConst 4 <| tAld 20 <| tConst 1 <| tIf2 (fun x y => x ≠ y) (w_X12_comes_477 M G Rp) <| tAload 0 <| tIload 2 <| tConst 3 <| tFn 3 F_X12_of <| tConst 1 <| tIf2 (fun x y => x ≠ y) (w_X12_comes_477 M G Rp) <| tAload 0 <| tIload 2 <| tAload 0 <| tGetR 12 27 12 <| tConst 0 <| tAld 20 <| tFn 3 F_X12_voted <| tGoto (w_X12_comes_477 M G Rp)
def w_X12_comes_176 (M : CT) (G : Nat → PT) (Rp : RT) : PT := tAload 0 <| tIload 2 <| tAload 0 <| tGetR 12 27 12 <| tConst 0 <| tAld 20 <| tIload 3 <| tAload 0 <| tGetR 12 27 12 <| tConst 4 <| tAld 20 <| tAload 0 <| tGetR 12 27 12 <| tConst 5 <| tAld 20 <| tFn 6 F_X12_asked <| tGoto (w_X12_comes_477 M G Rp)
def w_X12_comes_117 (M : CT) (G : Nat → PT) (Rp : RT) : PT := tIstore 3 <| tAload 0 <| tGetR 12 27 12 <| tConst 3 <| tAld 20 <| tSw [(0, w_X12_comes_176 M G Rp), (1, w_X12_comes_203 M G Rp), (2, w_X12_comes_241 M G Rp), (3, w_X12_comes_256 M G Rp), (4, w_X12_comes_433 M G Rp), (5, w_X12_comes_448 M G Rp), (6, w_X12_comes_303 M G Rp), (7, w_X12_comes_356 M G Rp), (8, w_X12_comes_388 M G Rp)] (w_X12_comes_448 M G Rp)
def w_X12_comes_116 (M : CT) (G : Nat → PT) (Rp : RT) : PT := tConst 0 <| w_X12_comes_117 M G Rp
def w_X12_comes_97 (M : CT) (G : Nat → PT) (Rp : RT) : PT := tAload 0 <| tGetR 12 27 12 <| tConst 2 <| tAld 20 <| tAload 0 <| tIload 2 <| tConst 1 <| tFn 3 F_X12_of <| tIf2 (fun x y => x ≠ y) (w_X12_comes_116 M G Rp) <| tConst 1 <| tGoto (w_X12_comes_117 M G Rp)
def w_X12_comes_48 (M : CT) (G : Nat → PT) (Rp : RT) : PT := tAload 0 <| tGetR 12 27 1 <| tConst 4512 <| tDup2 <| tAld 20 <| tConst 1 <| tBin (fun x y => x + y) <| tIast <| tAload 0 <| tGetR 12 27 12 <| tConst 2 <| tAld 20 <| tAload 0 <| tIload 2 <| tConst 1 <| tFn 3 F_X12_of <| tIf2 (fun x y => x ≤ y) (w_X12_comes_97 M G Rp) <| tAload 0 <| tGetR 12 27 12 <| tConst 3 <| tAld 20 <| tConst 7 <| tIf2 (fun x y => y ≤ x) (w_X12_comes_97 M G Rp) <| tAload 0 <| tIload 2 <| tAload 0 <| tGetR 12 27 12 <| tConst 2 <| tAld 20 <| tFn 3 F_X12_followsTerm <| w_X12_comes_97 M G Rp
def w_X12_comes_34 (M : CT) (G : Nat → PT) (Rp : RT) : PT := tAload 0 <| tGetR 12 27 1 <| tConst 4511 <| tDup2 <| tAld 20 <| tConst 1 <| tBin (fun x y => x + y) <| tIast <| tConst 0 <| tIret Rp
def w_X12_comes_0 (M : CT) (G : Nat → PT) (Rp : RT) : PT := tAload 0 <| tIload 1 <| tFn 2 F_X12_goesOut <| tAload 0 <| tGetR 12 27 12 <| tConst 1 <| tAld 20 <| tIstore 2 <| tAload 0 <| tIload 2 <| tFn 2 F_X12_isUp <| tIf (fun x => x = 0) (w_X12_comes_34 M G Rp) <| tAload 0 <| tAload 0 <| tGetR 12 27 12 <| tConst 0 <| tAld 20 <| tIload 2 <| tFn 3 F_X12_isLinked <| tIf (fun x => x ≠ 0) (w_X12_comes_48 M G Rp) <| w_X12_comes_34 M G Rp
set_option maxRecDepth 20000 in
theorem b_X12_comes_477 {Z : Zt} {d : Nat} {p : Program} {e : Env} {R : Room} {s : State} {m : MethodId} {args : Array Value} {below : List Frame} {meth : Method} {c : Code} {Rp : RT} (C : Cx Z (d + 10) jX12_comes RX12 p R s m args meth c) : Sd Z jX12_comes p e R s m args below meth c (MQ below (QcS Z Rp) args s 0 0 (fun a => Z.2.2.1 < a)) 477 (w_X12_comes_477 (MS Z (d + 10)) (Gw Z 4 p e R s m args below meth c (MQ below (QcS Z Rp) args s 0 0 (fun a => Z.2.2.1 < a))) Rp) := by
  unfold w_X12_comes_477
  refine s_iconst (n := 1) C (by decide +kernel) (by decide) ?_
  exact s_iret C rfl (by decide +kernel)
set_option maxRecDepth 20000 in
theorem b_X12_comes_448 {Z : Zt} {d : Nat} {p : Program} {e : Env} {R : Room} {s : State} {m : MethodId} {args : Array Value} {below : List Frame} {meth : Method} {c : Code} {Rp : RT} (C : Cx Z (d + 10) jX12_comes RX12 p R s m args meth c) : Sd Z jX12_comes p e R s m args below meth c (MQ below (QcS Z Rp) args s 0 0 (fun a => Z.2.2.1 < a)) 448 (w_X12_comes_448 (MS Z (d + 10)) (Gw Z 4 p e R s m args below meth c (MQ below (QcS Z Rp) args s 0 0 (fun a => Z.2.2.1 < a))) Rp) := by
  unfold w_X12_comes_448
  refine s_iload_n (k := 3) C (by decide +kernel) ?_
  refine s_if_eq (off := 28) (tgt := 477) C (by decide +kernel) (by decide) (b_X12_comes_477 C) ?_
  refine s_aload_n (k := 0) C (by decide +kernel) ?_
  refine s_iload_n (k := 2) C (by decide +kernel) ?_
  refine s_fnV C (j2 := jX12_isLeader) (cl := 12) (nf := 27) rfl rfl (by decide +kernel) rfl w_6_236 w_6_238 w_p3_15 w_1_13 w_6_239 (by decide +kernel) (fun _ _ _ _ _ h => f_X12_isLeader h) (fun _ _ _ _ _ h => r_X12_isLeader h) ?_
  refine s_if_eq (off := 20) (tgt := 477) C (by decide +kernel) (by decide) (b_X12_comes_477 C) ?_
  refine s_aload_n (k := 0) C (by decide +kernel) ?_
  refine s_iload_n (k := 2) C (by decide +kernel) ?_
  refine s_aload_n (k := 0) C (by decide +kernel) ?_
  refine s_getR C w_6_99 (by decide +kernel) rfl ?_
  refine s_iconst (n := 0) C (by decide +kernel) (by decide) ?_
  refine s_iald C (by decide +kernel) ?_
  refine s_aload_n (k := 0) C (by decide +kernel) ?_
  refine s_getR C w_6_99 (by decide +kernel) rfl ?_
  refine s_iconst (n := 4) C (by decide +kernel) (by decide) ?_
  refine s_iald C (by decide +kernel) ?_
  refine s_fnV C (j2 := jX12_installed) (cl := 12) (nf := 27) rfl rfl (by decide +kernel) rfl w_7_232 w_7_234 w_p6_12 w_1_13 w_7_235 (by decide +kernel) (fun _ _ _ _ _ h => f_X12_installed h) (fun _ _ _ _ _ h => r_X12_installed h) ?_
  exact (b_X12_comes_477 C)
set_option maxRecDepth 20000 in
theorem b_X12_comes_433 {Z : Zt} {d : Nat} {p : Program} {e : Env} {R : Room} {s : State} {m : MethodId} {args : Array Value} {below : List Frame} {meth : Method} {c : Code} {Rp : RT} (C : Cx Z (d + 10) jX12_comes RX12 p R s m args meth c) : Sd Z jX12_comes p e R s m args below meth c (MQ below (QcS Z Rp) args s 0 0 (fun a => Z.2.2.1 < a)) 433 (w_X12_comes_433 (MS Z (d + 10)) (Gw Z 4 p e R s m args below meth c (MQ below (QcS Z Rp) args s 0 0 (fun a => Z.2.2.1 < a))) Rp) := by
  unfold w_X12_comes_433
  refine s_aload_n (k := 0) C (by decide +kernel) ?_
  refine s_iload_n (k := 2) C (by decide +kernel) ?_
  refine s_aload_n (k := 0) C (by decide +kernel) ?_
  refine s_getR C w_6_99 (by decide +kernel) rfl ?_
  refine s_iconst (n := 0) C (by decide +kernel) (by decide) ?_
  refine s_iald C (by decide +kernel) ?_
  refine s_iload_n (k := 3) C (by decide +kernel) ?_
  refine s_fnV C (j2 := jX12_installs) (cl := 12) (nf := 27) rfl rfl (by decide +kernel) rfl w_7_224 w_7_226 w_p6_10 w_1_13 w_7_227 (by decide +kernel) (fun _ _ _ _ _ h => f_X12_installs h) (fun _ _ _ _ _ h => r_X12_installs h) ?_
  exact s_goto (off := 32) (tgt := 477) C (by decide +kernel) (by decide) (b_X12_comes_477 C)
set_option maxRecDepth 20000 in
theorem b_X12_comes_421 {Z : Zt} {d : Nat} {p : Program} {e : Env} {R : Room} {s : State} {m : MethodId} {args : Array Value} {below : List Frame} {meth : Method} {c : Code} {Rp : RT} (C : Cx Z (d + 10) jX12_comes RX12 p R s m args meth c) : Sd Z jX12_comes p e R s m args below meth c (MQ below (QcS Z Rp) args s 0 0 (fun a => Z.2.2.1 < a)) 421 (w_X12_comes_421 (MS Z (d + 10)) (Gw Z 4 p e R s m args below meth c (MQ below (QcS Z Rp) args s 0 0 (fun a => Z.2.2.1 < a))) Rp) := by
  unfold w_X12_comes_421
  refine s_aload_n (k := 0) C (by decide +kernel) ?_
  refine s_getR C w_6_99 (by decide +kernel) rfl ?_
  refine s_iconst (n := 2) C (by decide +kernel) (by decide) ?_
  refine s_iald C (by decide +kernel) ?_
  refine s_fnV C (j2 := jX12_would) (cl := 12) (nf := 27) rfl rfl (by decide +kernel) rfl w_7_220 w_7_222 w_p6_9 w_1_13 w_7_223 (by decide +kernel) (fun _ _ _ _ _ h => f_X12_would h) (fun _ _ _ _ _ h => r_X12_would h) ?_
  exact s_goto (off := 47) (tgt := 477) C (by decide +kernel) (by decide) (b_X12_comes_477 C)
set_option maxRecDepth 20000 in
theorem b_X12_comes_420 {Z : Zt} {d : Nat} {p : Program} {e : Env} {R : Room} {s : State} {m : MethodId} {args : Array Value} {below : List Frame} {meth : Method} {c : Code} {Rp : RT} (C : Cx Z (d + 10) jX12_comes RX12 p R s m args meth c) : Sd Z jX12_comes p e R s m args below meth c (MQ below (QcS Z Rp) args s 0 0 (fun a => Z.2.2.1 < a)) 420 (w_X12_comes_420 (MS Z (d + 10)) (Gw Z 4 p e R s m args below meth c (MQ below (QcS Z Rp) args s 0 0 (fun a => Z.2.2.1 < a))) Rp) := by
  unfold w_X12_comes_420
  refine s_iconst (n := 0) C (by decide +kernel) (by decide) ?_
  exact (b_X12_comes_421 C)
set_option maxRecDepth 20000 in
theorem b_X12_comes_388 {Z : Zt} {d : Nat} {p : Program} {e : Env} {R : Room} {s : State} {m : MethodId} {args : Array Value} {below : List Frame} {meth : Method} {c : Code} {Rp : RT} (C : Cx Z (d + 10) jX12_comes RX12 p R s m args meth c) : Sd Z jX12_comes p e R s m args below meth c (MQ below (QcS Z Rp) args s 0 0 (fun a => Z.2.2.1 < a)) 388 (w_X12_comes_388 (MS Z (d + 10)) (Gw Z 4 p e R s m args below meth c (MQ below (QcS Z Rp) args s 0 0 (fun a => Z.2.2.1 < a))) Rp) := by
  unfold w_X12_comes_388
  refine s_aload_n (k := 0) C (by decide +kernel) ?_
  refine s_iload_n (k := 2) C (by decide +kernel) ?_
  refine s_iconst (n := 3) C (by decide +kernel) (by decide) ?_
  refine s_fnV C (j2 := jX12_of) (cl := 12) (nf := 27) rfl rfl (by decide +kernel) rfl w_6_220 w_6_222 w_p3_11 w_1_13 w_6_223 (by decide +kernel) (fun _ _ _ _ _ h => f_X12_of h) (fun _ _ _ _ _ h => r_X12_of h) ?_
  refine s_iconst (n := 3) C (by decide +kernel) (by decide) ?_
  refine s_icmp_ne (off := 82) (tgt := 477) C (by decide +kernel) (by decide) (b_X12_comes_477 C) ?_
  refine s_aload_n (k := 0) C (by decide +kernel) ?_
  refine s_iload_n (k := 2) C (by decide +kernel) ?_
  refine s_aload_n (k := 0) C (by decide +kernel) ?_
  refine s_getR C w_6_99 (by decide +kernel) rfl ?_
  refine s_iconst (n := 0) C (by decide +kernel) (by decide) ?_
  refine s_iald C (by decide +kernel) ?_
  refine s_aload_n (k := 0) C (by decide +kernel) ?_
  refine s_getR C w_6_99 (by decide +kernel) rfl ?_
  refine s_iconst (n := 4) C (by decide +kernel) (by decide) ?_
  refine s_iald C (by decide +kernel) ?_
  refine s_iconst (n := 1) C (by decide +kernel) (by decide) ?_
  refine s_icmp_ne (off := 7) (tgt := 420) C (by decide +kernel) (by decide) (b_X12_comes_420 C) ?_
  refine s_iconst (n := 1) C (by decide +kernel) (by decide) ?_
  exact s_goto (off := 4) (tgt := 421) C (by decide +kernel) (by decide) (b_X12_comes_421 C)
set_option maxRecDepth 20000 in
theorem b_X12_comes_356 {Z : Zt} {d : Nat} {p : Program} {e : Env} {R : Room} {s : State} {m : MethodId} {args : Array Value} {below : List Frame} {meth : Method} {c : Code} {Rp : RT} (C : Cx Z (d + 10) jX12_comes RX12 p R s m args meth c) : Sd Z jX12_comes p e R s m args below meth c (MQ below (QcS Z Rp) args s 0 0 (fun a => Z.2.2.1 < a)) 356 (w_X12_comes_356 (MS Z (d + 10)) (Gw Z 4 p e R s m args below meth c (MQ below (QcS Z Rp) args s 0 0 (fun a => Z.2.2.1 < a))) Rp) := by
  unfold w_X12_comes_356
  refine s_aload_n (k := 0) C (by decide +kernel) ?_
  refine s_iload_n (k := 2) C (by decide +kernel) ?_
  refine s_aload_n (k := 0) C (by decide +kernel) ?_
  refine s_getR C w_6_99 (by decide +kernel) rfl ?_
  refine s_iconst (n := 0) C (by decide +kernel) (by decide) ?_
  refine s_iald C (by decide +kernel) ?_
  refine s_aload_n (k := 0) C (by decide +kernel) ?_
  refine s_getR C w_6_99 (by decide +kernel) rfl ?_
  refine s_iconst (n := 2) C (by decide +kernel) (by decide) ?_
  refine s_iald C (by decide +kernel) ?_
  refine s_aload_n (k := 0) C (by decide +kernel) ?_
  refine s_getR C w_6_99 (by decide +kernel) rfl ?_
  refine s_iconst (n := 4) C (by decide +kernel) (by decide) ?_
  refine s_iald C (by decide +kernel) ?_
  refine s_aload_n (k := 0) C (by decide +kernel) ?_
  refine s_getR C w_6_99 (by decide +kernel) rfl ?_
  refine s_iconst (n := 5) C (by decide +kernel) (by decide) ?_
  refine s_iald C (by decide +kernel) ?_
  refine s_fnV C (j2 := jX12_wouldBe) (cl := 12) (nf := 27) rfl rfl (by decide +kernel) rfl w_7_216 w_7_218 w_p6_8 w_1_13 w_7_219 (by decide +kernel) (fun _ _ _ _ _ h => f_X12_wouldBe h) (fun _ _ _ _ _ h => r_X12_wouldBe h) ?_
  exact s_goto (off := 92) (tgt := 477) C (by decide +kernel) (by decide) (b_X12_comes_477 C)
set_option maxRecDepth 20000 in
theorem b_X12_comes_303 {Z : Zt} {d : Nat} {p : Program} {e : Env} {R : Room} {s : State} {m : MethodId} {args : Array Value} {below : List Frame} {meth : Method} {c : Code} {Rp : RT} (C : Cx Z (d + 10) jX12_comes RX12 p R s m args meth c) : Sd Z jX12_comes p e R s m args below meth c (MQ below (QcS Z Rp) args s 0 0 (fun a => Z.2.2.1 < a)) 303 (w_X12_comes_303 (MS Z (d + 10)) (Gw Z 4 p e R s m args below meth c (MQ below (QcS Z Rp) args s 0 0 (fun a => Z.2.2.1 < a))) Rp) := by
  unfold w_X12_comes_303
  refine s_aload_n (k := 0) C (by decide +kernel) ?_
  refine s_iload_n (k := 2) C (by decide +kernel) ?_
  refine s_fnV C (j2 := jX12_laysMembers) (cl := 12) (nf := 27) rfl rfl (by decide +kernel) rfl w_6_216 w_6_218 w_p3_10 w_1_13 w_6_219 (by decide +kernel) (fun _ _ _ _ _ h => f_X12_laysMembers h) (fun _ _ _ _ _ h => r_X12_laysMembers h) ?_
  refine s_iload_n (k := 3) C (by decide +kernel) ?_
  refine s_if_eq (off := 168) (tgt := 477) C (by decide +kernel) (by decide) (b_X12_comes_477 C) ?_
  refine s_aload_n (k := 0) C (by decide +kernel) ?_
  refine s_iload_n (k := 2) C (by decide +kernel) ?_
  refine s_fnV C (j2 := jX12_isLeader) (cl := 12) (nf := 27) rfl rfl (by decide +kernel) rfl w_6_236 w_6_238 w_p3_15 w_1_13 w_6_239 (by decide +kernel) (fun _ _ _ _ _ h => f_X12_isLeader h) (fun _ _ _ _ _ h => r_X12_isLeader h) ?_
  refine s_if_ne (off := 160) (tgt := 477) C (by decide +kernel) (by decide) (b_X12_comes_477 C) ?_
  refine s_aload_n (k := 0) C (by decide +kernel) ?_
  refine s_getI C w_6_95 (by decide +kernel) rfl ?_
  refine s_aload_n (k := 0) C (by decide +kernel) ?_
  refine s_getI C w_6_96 (by decide +kernel) rfl ?_
  refine s_ior C (by decide +kernel) ?_
  refine s_iload_n (k := 2) C (by decide +kernel) ?_
  refine s_fnS C (j2 := jX12_has) (by decide +kernel) rfl w_7_0 w_7_1 w_1_13 w_7_2 (by decide +kernel) (fun _ _ _ _ _ h => f_X12_has h) ?_
  refine s_if_eq (off := 144) (tgt := 477) C (by decide +kernel) (by decide) (b_X12_comes_477 C) ?_
  refine s_aload_n (k := 0) C (by decide +kernel) ?_
  refine s_iload_n (k := 2) C (by decide +kernel) ?_
  refine s_iconst (n := 1) C (by decide +kernel) (by decide) ?_
  refine s_fnV C (j2 := jX12_of) (cl := 12) (nf := 27) rfl rfl (by decide +kernel) rfl w_6_220 w_6_222 w_p3_11 w_1_13 w_6_223 (by decide +kernel) (fun _ _ _ _ _ h => f_X12_of h) (fun _ _ _ _ _ h => r_X12_of h) ?_
  refine s_sipush (n := 200) C (by decide +kernel) (by decide) ?_
  refine s_icmp_ge (off := 132) (tgt := 477) C (by decide +kernel) (by decide) (b_X12_comes_477 C) ?_
  refine s_aload_n (k := 0) C (by decide +kernel) ?_
  refine s_iload_n (k := 2) C (by decide +kernel) ?_
  refine s_fnV C (j2 := jX12_standsUp) (cl := 12) (nf := 27) rfl rfl (by decide +kernel) rfl w_7_7 w_7_9 w_p4_1 w_1_13 w_7_10 (by decide +kernel) (fun _ _ _ _ _ h => f_X12_standsUp h) (fun _ _ _ _ _ h => r_X12_standsUp h) ?_
  exact s_goto (off := 124) (tgt := 477) C (by decide +kernel) (by decide) (b_X12_comes_477 C)
set_option maxRecDepth 20000 in
theorem b_X12_comes_291 {Z : Zt} {d : Nat} {p : Program} {e : Env} {R : Room} {s : State} {m : MethodId} {args : Array Value} {below : List Frame} {meth : Method} {c : Code} {Rp : RT} (C : Cx Z (d + 10) jX12_comes RX12 p R s m args meth c) : Sd Z jX12_comes p e R s m args below meth c (MQ below (QcS Z Rp) args s 0 0 (fun a => Z.2.2.1 < a)) 291 (w_X12_comes_291 (MS Z (d + 10)) (Gw Z 4 p e R s m args below meth c (MQ below (QcS Z Rp) args s 0 0 (fun a => Z.2.2.1 < a))) Rp) := by
  unfold w_X12_comes_291
  refine s_aload_n (k := 0) C (by decide +kernel) ?_
  refine s_getR C w_6_99 (by decide +kernel) rfl ?_
  refine s_iconst (n := 5) C (by decide +kernel) (by decide) ?_
  refine s_iald C (by decide +kernel) ?_
  refine s_fnV C (j2 := jX12_took) (cl := 12) (nf := 27) rfl rfl (by decide +kernel) rfl w_7_204 w_7_206 w_p6_5 w_1_13 w_7_207 (by decide +kernel) (fun _ _ _ _ _ h => f_X12_took h) (fun _ _ _ _ _ h => r_X12_took h) ?_
  exact s_goto (off := 177) (tgt := 477) C (by decide +kernel) (by decide) (b_X12_comes_477 C)
set_option maxRecDepth 20000 in
theorem b_X12_comes_290 {Z : Zt} {d : Nat} {p : Program} {e : Env} {R : Room} {s : State} {m : MethodId} {args : Array Value} {below : List Frame} {meth : Method} {c : Code} {Rp : RT} (C : Cx Z (d + 10) jX12_comes RX12 p R s m args meth c) : Sd Z jX12_comes p e R s m args below meth c (MQ below (QcS Z Rp) args s 0 0 (fun a => Z.2.2.1 < a)) 290 (w_X12_comes_290 (MS Z (d + 10)) (Gw Z 4 p e R s m args below meth c (MQ below (QcS Z Rp) args s 0 0 (fun a => Z.2.2.1 < a))) Rp) := by
  unfold w_X12_comes_290
  refine s_iconst (n := 0) C (by decide +kernel) (by decide) ?_
  exact (b_X12_comes_291 C)
set_option maxRecDepth 20000 in
theorem b_X12_comes_256 {Z : Zt} {d : Nat} {p : Program} {e : Env} {R : Room} {s : State} {m : MethodId} {args : Array Value} {below : List Frame} {meth : Method} {c : Code} {Rp : RT} (C : Cx Z (d + 10) jX12_comes RX12 p R s m args meth c) : Sd Z jX12_comes p e R s m args below meth c (MQ below (QcS Z Rp) args s 0 0 (fun a => Z.2.2.1 < a)) 256 (w_X12_comes_256 (MS Z (d + 10)) (Gw Z 4 p e R s m args below meth c (MQ below (QcS Z Rp) args s 0 0 (fun a => Z.2.2.1 < a))) Rp) := by
  unfold w_X12_comes_256
  refine s_iload_n (k := 3) C (by decide +kernel) ?_
  refine s_if_eq (off := 220) (tgt := 477) C (by decide +kernel) (by decide) (b_X12_comes_477 C) ?_
  refine s_aload_n (k := 0) C (by decide +kernel) ?_
  refine s_iload_n (k := 2) C (by decide +kernel) ?_
  refine s_fnV C (j2 := jX12_isLeader) (cl := 12) (nf := 27) rfl rfl (by decide +kernel) rfl w_6_236 w_6_238 w_p3_15 w_1_13 w_6_239 (by decide +kernel) (fun _ _ _ _ _ h => f_X12_isLeader h) (fun _ _ _ _ _ h => r_X12_isLeader h) ?_
  refine s_if_eq (off := 212) (tgt := 477) C (by decide +kernel) (by decide) (b_X12_comes_477 C) ?_
  refine s_aload_n (k := 0) C (by decide +kernel) ?_
  refine s_iload_n (k := 2) C (by decide +kernel) ?_
  refine s_aload_n (k := 0) C (by decide +kernel) ?_
  refine s_getR C w_6_99 (by decide +kernel) rfl ?_
  refine s_iconst (n := 0) C (by decide +kernel) (by decide) ?_
  refine s_iald C (by decide +kernel) ?_
  refine s_aload_n (k := 0) C (by decide +kernel) ?_
  refine s_getR C w_6_99 (by decide +kernel) rfl ?_
  refine s_iconst (n := 4) C (by decide +kernel) (by decide) ?_
  refine s_iald C (by decide +kernel) ?_
  refine s_iconst (n := 1) C (by decide +kernel) (by decide) ?_
  refine s_icmp_ne (off := 7) (tgt := 290) C (by decide +kernel) (by decide) (b_X12_comes_290 C) ?_
  refine s_iconst (n := 1) C (by decide +kernel) (by decide) ?_
  exact s_goto (off := 4) (tgt := 291) C (by decide +kernel) (by decide) (b_X12_comes_291 C)
set_option maxRecDepth 20000 in
theorem b_X12_comes_241 {Z : Zt} {d : Nat} {p : Program} {e : Env} {R : Room} {s : State} {m : MethodId} {args : Array Value} {below : List Frame} {meth : Method} {c : Code} {Rp : RT} (C : Cx Z (d + 10) jX12_comes RX12 p R s m args meth c) : Sd Z jX12_comes p e R s m args below meth c (MQ below (QcS Z Rp) args s 0 0 (fun a => Z.2.2.1 < a)) 241 (w_X12_comes_241 (MS Z (d + 10)) (Gw Z 4 p e R s m args below meth c (MQ below (QcS Z Rp) args s 0 0 (fun a => Z.2.2.1 < a))) Rp) := by
  unfold w_X12_comes_241
  refine s_aload_n (k := 0) C (by decide +kernel) ?_
  refine s_iload_n (k := 2) C (by decide +kernel) ?_
  refine s_aload_n (k := 0) C (by decide +kernel) ?_
  refine s_getR C w_6_99 (by decide +kernel) rfl ?_
  refine s_iconst (n := 0) C (by decide +kernel) (by decide) ?_
  refine s_iald C (by decide +kernel) ?_
  refine s_iload_n (k := 3) C (by decide +kernel) ?_
  refine s_fnV C (j2 := jX12_takes) (cl := 12) (nf := 27) rfl rfl (by decide +kernel) rfl w_7_196 w_7_198 w_p6_3 w_1_13 w_7_199 (by decide +kernel) (fun _ _ _ _ _ h => f_X12_takes h) (fun _ _ _ _ _ h => r_X12_takes h) ?_
  exact s_goto (off := 224) (tgt := 477) C (by decide +kernel) (by decide) (b_X12_comes_477 C)
set_option maxRecDepth 20000 in
theorem b_X12_comes_203 {Z : Zt} {d : Nat} {p : Program} {e : Env} {R : Room} {s : State} {m : MethodId} {args : Array Value} {below : List Frame} {meth : Method} {c : Code} {Rp : RT} (C : Cx Z (d + 10) jX12_comes RX12 p R s m args meth c) : Sd Z jX12_comes p e R s m args below meth c (MQ below (QcS Z Rp) args s 0 0 (fun a => Z.2.2.1 < a)) 203 (w_X12_comes_203 (MS Z (d + 10)) (Gw Z 4 p e R s m args below meth c (MQ below (QcS Z Rp) args s 0 0 (fun a => Z.2.2.1 < a))) Rp) := by
  unfold w_X12_comes_203
  refine s_iload_n (k := 3) C (by decide +kernel) ?_
  refine s_if_eq (off := 273) (tgt := 477) C (by decide +kernel) (by decide) (b_X12_comes_477 C) ?_
  refine s_aload_n (k := 0) C (by decide +kernel) ?_
  refine s_getR C w_6_99 (by decide +kernel) rfl ?_
  refine s_iconst (n := 4) C (by decide +kernel) (by decide) ?_
  refine s_iald C (by decide +kernel) ?_
  refine s_iconst (n := 1) C (by decide +kernel) (by decide) ?_
  refine s_icmp_ne (off := 263) (tgt := 477) C (by decide +kernel) (by decide) (b_X12_comes_477 C) ?_
  refine s_aload_n (k := 0) C (by decide +kernel) ?_
  refine s_iload_n (k := 2) C (by decide +kernel) ?_
  refine s_iconst (n := 3) C (by decide +kernel) (by decide) ?_
  refine s_fnV C (j2 := jX12_of) (cl := 12) (nf := 27) rfl rfl (by decide +kernel) rfl w_6_220 w_6_222 w_p3_11 w_1_13 w_6_223 (by decide +kernel) (fun _ _ _ _ _ h => f_X12_of h) (fun _ _ _ _ _ h => r_X12_of h) ?_
  refine s_iconst (n := 1) C (by decide +kernel) (by decide) ?_
  refine s_icmp_ne (off := 253) (tgt := 477) C (by decide +kernel) (by decide) (b_X12_comes_477 C) ?_
  refine s_aload_n (k := 0) C (by decide +kernel) ?_
  refine s_iload_n (k := 2) C (by decide +kernel) ?_
  refine s_aload_n (k := 0) C (by decide +kernel) ?_
  refine s_getR C w_6_99 (by decide +kernel) rfl ?_
  refine s_iconst (n := 0) C (by decide +kernel) (by decide) ?_
  refine s_iald C (by decide +kernel) ?_
  refine s_fnV C (j2 := jX12_voted) (cl := 12) (nf := 27) rfl rfl (by decide +kernel) rfl w_7_192 w_7_194 w_p6_2 w_1_13 w_7_195 (by decide +kernel) (fun _ _ _ _ _ h => f_X12_voted h) (fun _ _ _ _ _ h => r_X12_voted h) ?_
  exact s_goto (off := 239) (tgt := 477) C (by decide +kernel) (by decide) (b_X12_comes_477 C)
set_option maxRecDepth 20000 in
theorem b_X12_comes_176 {Z : Zt} {d : Nat} {p : Program} {e : Env} {R : Room} {s : State} {m : MethodId} {args : Array Value} {below : List Frame} {meth : Method} {c : Code} {Rp : RT} (C : Cx Z (d + 10) jX12_comes RX12 p R s m args meth c) : Sd Z jX12_comes p e R s m args below meth c (MQ below (QcS Z Rp) args s 0 0 (fun a => Z.2.2.1 < a)) 176 (w_X12_comes_176 (MS Z (d + 10)) (Gw Z 4 p e R s m args below meth c (MQ below (QcS Z Rp) args s 0 0 (fun a => Z.2.2.1 < a))) Rp) := by
  unfold w_X12_comes_176
  refine s_aload_n (k := 0) C (by decide +kernel) ?_
  refine s_iload_n (k := 2) C (by decide +kernel) ?_
  refine s_aload_n (k := 0) C (by decide +kernel) ?_
  refine s_getR C w_6_99 (by decide +kernel) rfl ?_
  refine s_iconst (n := 0) C (by decide +kernel) (by decide) ?_
  refine s_iald C (by decide +kernel) ?_
  refine s_iload_n (k := 3) C (by decide +kernel) ?_
  refine s_aload_n (k := 0) C (by decide +kernel) ?_
  refine s_getR C w_6_99 (by decide +kernel) rfl ?_
  refine s_iconst (n := 4) C (by decide +kernel) (by decide) ?_
  refine s_iald C (by decide +kernel) ?_
  refine s_aload_n (k := 0) C (by decide +kernel) ?_
  refine s_getR C w_6_99 (by decide +kernel) rfl ?_
  refine s_iconst (n := 5) C (by decide +kernel) (by decide) ?_
  refine s_iald C (by decide +kernel) ?_
  refine s_fnV C (j2 := jX12_asked) (cl := 12) (nf := 27) rfl rfl (by decide +kernel) rfl w_7_184 w_7_186 w_p6_0 w_1_13 w_7_187 (by decide +kernel) (fun _ _ _ _ _ h => f_X12_asked h) (fun _ _ _ _ _ h => r_X12_asked h) ?_
  exact s_goto (off := 277) (tgt := 477) C (by decide +kernel) (by decide) (b_X12_comes_477 C)
set_option maxRecDepth 20000 in
theorem b_X12_comes_117 {Z : Zt} {d : Nat} {p : Program} {e : Env} {R : Room} {s : State} {m : MethodId} {args : Array Value} {below : List Frame} {meth : Method} {c : Code} {Rp : RT} (C : Cx Z (d + 10) jX12_comes RX12 p R s m args meth c) : Sd Z jX12_comes p e R s m args below meth c (MQ below (QcS Z Rp) args s 0 0 (fun a => Z.2.2.1 < a)) 117 (w_X12_comes_117 (MS Z (d + 10)) (Gw Z 4 p e R s m args below meth c (MQ below (QcS Z Rp) args s 0 0 (fun a => Z.2.2.1 < a))) Rp) := by
  unfold w_X12_comes_117
  refine s_istore_n (k := 3) C (by decide +kernel) ?_
  refine s_aload_n (k := 0) C (by decide +kernel) ?_
  refine s_getR C w_6_99 (by decide +kernel) rfl ?_
  refine s_iconst (n := 3) C (by decide +kernel) (by decide) ?_
  refine s_iald C (by decide +kernel) ?_
  refine s_tsw (df := 324) (lo := 0) (hi := 8) (offs := #[52, 79, 117, 132, 309, 324, 179, 232, 264]) (len := 52) (tgt := 448) C (by decide +kernel) (by decide) (b_X12_comes_448 C) (fun i r h => ?_) (fun x h => tsw_out 9 x (fun q hq => ?_))
  · match i, h with
    | 0, h => cases h; dsimp only; exact ⟨by decide, by decide, 52, 176, by rfl, by decide, (b_X12_comes_176 C)⟩
    | 1, h => cases h; dsimp only; exact ⟨by decide, by decide, 79, 203, by rfl, by decide, (b_X12_comes_203 C)⟩
    | 2, h => cases h; dsimp only; exact ⟨by decide, by decide, 117, 241, by rfl, by decide, (b_X12_comes_241 C)⟩
    | 3, h => cases h; dsimp only; exact ⟨by decide, by decide, 132, 256, by rfl, by decide, (b_X12_comes_256 C)⟩
    | 4, h => cases h; dsimp only; exact ⟨by decide, by decide, 309, 433, by rfl, by decide, (b_X12_comes_433 C)⟩
    | 5, h => cases h; dsimp only; exact ⟨by decide, by decide, 324, 448, by rfl, by decide, (b_X12_comes_448 C)⟩
    | 6, h => cases h; dsimp only; exact ⟨by decide, by decide, 179, 303, by rfl, by decide, (b_X12_comes_303 C)⟩
    | 7, h => cases h; dsimp only; exact ⟨by decide, by decide, 232, 356, by rfl, by decide, (b_X12_comes_356 C)⟩
    | 8, h => cases h; dsimp only; exact ⟨by decide, by decide, 264, 388, by rfl, by decide, (b_X12_comes_388 C)⟩
    | q + 9, h => simp at h
  · match q, hq with
    | 0, _ => exact h _ (List.mem_of_getElem? (i := 0) rfl)
    | 1, _ => exact h _ (List.mem_of_getElem? (i := 1) rfl)
    | 2, _ => exact h _ (List.mem_of_getElem? (i := 2) rfl)
    | 3, _ => exact h _ (List.mem_of_getElem? (i := 3) rfl)
    | 4, _ => exact h _ (List.mem_of_getElem? (i := 4) rfl)
    | 5, _ => exact h _ (List.mem_of_getElem? (i := 5) rfl)
    | 6, _ => exact h _ (List.mem_of_getElem? (i := 6) rfl)
    | 7, _ => exact h _ (List.mem_of_getElem? (i := 7) rfl)
    | 8, _ => exact h _ (List.mem_of_getElem? (i := 8) rfl)
    | q + 9, hq => exact absurd hq (by omega)
set_option maxRecDepth 20000 in
theorem b_X12_comes_116 {Z : Zt} {d : Nat} {p : Program} {e : Env} {R : Room} {s : State} {m : MethodId} {args : Array Value} {below : List Frame} {meth : Method} {c : Code} {Rp : RT} (C : Cx Z (d + 10) jX12_comes RX12 p R s m args meth c) : Sd Z jX12_comes p e R s m args below meth c (MQ below (QcS Z Rp) args s 0 0 (fun a => Z.2.2.1 < a)) 116 (w_X12_comes_116 (MS Z (d + 10)) (Gw Z 4 p e R s m args below meth c (MQ below (QcS Z Rp) args s 0 0 (fun a => Z.2.2.1 < a))) Rp) := by
  unfold w_X12_comes_116
  refine s_iconst (n := 0) C (by decide +kernel) (by decide) ?_
  exact (b_X12_comes_117 C)
set_option maxRecDepth 20000 in
theorem b_X12_comes_97 {Z : Zt} {d : Nat} {p : Program} {e : Env} {R : Room} {s : State} {m : MethodId} {args : Array Value} {below : List Frame} {meth : Method} {c : Code} {Rp : RT} (C : Cx Z (d + 10) jX12_comes RX12 p R s m args meth c) : Sd Z jX12_comes p e R s m args below meth c (MQ below (QcS Z Rp) args s 0 0 (fun a => Z.2.2.1 < a)) 97 (w_X12_comes_97 (MS Z (d + 10)) (Gw Z 4 p e R s m args below meth c (MQ below (QcS Z Rp) args s 0 0 (fun a => Z.2.2.1 < a))) Rp) := by
  unfold w_X12_comes_97
  refine s_aload_n (k := 0) C (by decide +kernel) ?_
  refine s_getR C w_6_99 (by decide +kernel) rfl ?_
  refine s_iconst (n := 2) C (by decide +kernel) (by decide) ?_
  refine s_iald C (by decide +kernel) ?_
  refine s_aload_n (k := 0) C (by decide +kernel) ?_
  refine s_iload_n (k := 2) C (by decide +kernel) ?_
  refine s_iconst (n := 1) C (by decide +kernel) (by decide) ?_
  refine s_fnV C (j2 := jX12_of) (cl := 12) (nf := 27) rfl rfl (by decide +kernel) rfl w_6_220 w_6_222 w_p3_11 w_1_13 w_6_223 (by decide +kernel) (fun _ _ _ _ _ h => f_X12_of h) (fun _ _ _ _ _ h => r_X12_of h) ?_
  refine s_icmp_ne (off := 7) (tgt := 116) C (by decide +kernel) (by decide) (b_X12_comes_116 C) ?_
  refine s_iconst (n := 1) C (by decide +kernel) (by decide) ?_
  exact s_goto (off := 4) (tgt := 117) C (by decide +kernel) (by decide) (b_X12_comes_117 C)
set_option maxRecDepth 20000 in
theorem b_X12_comes_48 {Z : Zt} {d : Nat} {p : Program} {e : Env} {R : Room} {s : State} {m : MethodId} {args : Array Value} {below : List Frame} {meth : Method} {c : Code} {Rp : RT} (C : Cx Z (d + 10) jX12_comes RX12 p R s m args meth c) : Sd Z jX12_comes p e R s m args below meth c (MQ below (QcS Z Rp) args s 0 0 (fun a => Z.2.2.1 < a)) 48 (w_X12_comes_48 (MS Z (d + 10)) (Gw Z 4 p e R s m args below meth c (MQ below (QcS Z Rp) args s 0 0 (fun a => Z.2.2.1 < a))) Rp) := by
  unfold w_X12_comes_48
  refine s_aload_n (k := 0) C (by decide +kernel) ?_
  refine s_getR C w_6_88 (by decide +kernel) rfl ?_
  refine s_sipush (n := 4512) C (by decide +kernel) (by decide) ?_
  refine s_dup2 C (by decide +kernel) ?_
  refine s_iald C (by decide +kernel) ?_
  refine s_iconst (n := 1) C (by decide +kernel) (by decide) ?_
  refine s_iadd C (by decide +kernel) ?_
  refine s_iast C (by decide +kernel) ?_
  refine s_aload_n (k := 0) C (by decide +kernel) ?_
  refine s_getR C w_6_99 (by decide +kernel) rfl ?_
  refine s_iconst (n := 2) C (by decide +kernel) (by decide) ?_
  refine s_iald C (by decide +kernel) ?_
  refine s_aload_n (k := 0) C (by decide +kernel) ?_
  refine s_iload_n (k := 2) C (by decide +kernel) ?_
  refine s_iconst (n := 1) C (by decide +kernel) (by decide) ?_
  refine s_fnV C (j2 := jX12_of) (cl := 12) (nf := 27) rfl rfl (by decide +kernel) rfl w_6_220 w_6_222 w_p3_11 w_1_13 w_6_223 (by decide +kernel) (fun _ _ _ _ _ h => f_X12_of h) (fun _ _ _ _ _ h => r_X12_of h) ?_
  refine s_icmp_le (off := 25) (tgt := 97) C (by decide +kernel) (by decide) (b_X12_comes_97 C) ?_
  refine s_aload_n (k := 0) C (by decide +kernel) ?_
  refine s_getR C w_6_99 (by decide +kernel) rfl ?_
  refine s_iconst (n := 3) C (by decide +kernel) (by decide) ?_
  refine s_iald C (by decide +kernel) ?_
  refine s_bipush (n := 7) C (by decide +kernel) (by decide) ?_
  refine s_icmp_ge (off := 14) (tgt := 97) C (by decide +kernel) (by decide) (b_X12_comes_97 C) ?_
  refine s_aload_n (k := 0) C (by decide +kernel) ?_
  refine s_iload_n (k := 2) C (by decide +kernel) ?_
  refine s_aload_n (k := 0) C (by decide +kernel) ?_
  refine s_getR C w_6_99 (by decide +kernel) rfl ?_
  refine s_iconst (n := 2) C (by decide +kernel) (by decide) ?_
  refine s_iald C (by decide +kernel) ?_
  refine s_fnV C (j2 := jX12_followsTerm) (cl := 12) (nf := 27) rfl rfl (by decide +kernel) rfl w_7_180 w_7_182 w_p5_15 w_1_13 w_7_183 (by decide +kernel) (fun _ _ _ _ _ h => f_X12_followsTerm h) (fun _ _ _ _ _ h => r_X12_followsTerm h) ?_
  exact (b_X12_comes_97 C)
set_option maxRecDepth 20000 in
theorem b_X12_comes_34 {Z : Zt} {d : Nat} {p : Program} {e : Env} {R : Room} {s : State} {m : MethodId} {args : Array Value} {below : List Frame} {meth : Method} {c : Code} {Rp : RT} (C : Cx Z (d + 10) jX12_comes RX12 p R s m args meth c) : Sd Z jX12_comes p e R s m args below meth c (MQ below (QcS Z Rp) args s 0 0 (fun a => Z.2.2.1 < a)) 34 (w_X12_comes_34 (MS Z (d + 10)) (Gw Z 4 p e R s m args below meth c (MQ below (QcS Z Rp) args s 0 0 (fun a => Z.2.2.1 < a))) Rp) := by
  unfold w_X12_comes_34
  refine s_aload_n (k := 0) C (by decide +kernel) ?_
  refine s_getR C w_6_88 (by decide +kernel) rfl ?_
  refine s_sipush (n := 4511) C (by decide +kernel) (by decide) ?_
  refine s_dup2 C (by decide +kernel) ?_
  refine s_iald C (by decide +kernel) ?_
  refine s_iconst (n := 1) C (by decide +kernel) (by decide) ?_
  refine s_iadd C (by decide +kernel) ?_
  refine s_iast C (by decide +kernel) ?_
  refine s_iconst (n := 0) C (by decide +kernel) (by decide) ?_
  exact s_iret C rfl (by decide +kernel)
set_option maxRecDepth 20000 in
theorem b_X12_comes_0 {Z : Zt} {d : Nat} {p : Program} {e : Env} {R : Room} {s : State} {m : MethodId} {args : Array Value} {below : List Frame} {meth : Method} {c : Code} {Rp : RT} (C : Cx Z (d + 10) jX12_comes RX12 p R s m args meth c) : Sd Z jX12_comes p e R s m args below meth c (MQ below (QcS Z Rp) args s 0 0 (fun a => Z.2.2.1 < a)) 0 (w_X12_comes_0 (MS Z (d + 10)) (Gw Z 4 p e R s m args below meth c (MQ below (QcS Z Rp) args s 0 0 (fun a => Z.2.2.1 < a))) Rp) := by
  unfold w_X12_comes_0
  refine s_aload_n (k := 0) C (by decide +kernel) ?_
  refine s_iload_n (k := 1) C (by decide +kernel) ?_
  refine s_fnV C (j2 := jX12_goesOut) (cl := 12) (nf := 27) rfl rfl (by decide +kernel) rfl w_7_176 w_7_178 w_p5_14 w_1_13 w_7_179 (by decide +kernel) (fun _ _ _ _ _ h => f_X12_goesOut h) (fun _ _ _ _ _ h => r_X12_goesOut h) ?_
  refine s_aload_n (k := 0) C (by decide +kernel) ?_
  refine s_getR C w_6_99 (by decide +kernel) rfl ?_
  refine s_iconst (n := 1) C (by decide +kernel) (by decide) ?_
  refine s_iald C (by decide +kernel) ?_
  refine s_istore_n (k := 2) C (by decide +kernel) ?_
  refine s_aload_n (k := 0) C (by decide +kernel) ?_
  refine s_iload_n (k := 2) C (by decide +kernel) ?_
  refine s_fnV C (j2 := jX12_isUp) (cl := 12) (nf := 27) rfl rfl (by decide +kernel) rfl w_6_232 w_6_234 w_p3_14 w_1_13 w_6_235 (by decide +kernel) (fun _ _ _ _ _ h => f_X12_isUp h) (fun _ _ _ _ _ h => r_X12_isUp h) ?_
  refine s_if_eq (off := 17) (tgt := 34) C (by decide +kernel) (by decide) (b_X12_comes_34 C) ?_
  refine s_aload_n (k := 0) C (by decide +kernel) ?_
  refine s_aload_n (k := 0) C (by decide +kernel) ?_
  refine s_getR C w_6_99 (by decide +kernel) rfl ?_
  refine s_iconst (n := 0) C (by decide +kernel) (by decide) ?_
  refine s_iald C (by decide +kernel) ?_
  refine s_iload_n (k := 2) C (by decide +kernel) ?_
  refine s_fnV C (j2 := jX12_isLinked) (cl := 12) (nf := 27) rfl rfl (by decide +kernel) rfl w_7_31 w_7_33 w_p4_7 w_1_13 w_7_34 (by decide +kernel) (fun _ _ _ _ _ h => f_X12_isLinked h) (fun _ _ _ _ _ h => r_X12_isLinked h) ?_
  refine s_if_ne (off := 17) (tgt := 48) C (by decide +kernel) (by decide) (b_X12_comes_48 C) ?_
  exact (b_X12_comes_34 C)
theorem ms_X12_comes {Z : Zt} {d : Nat} {S : Sh} {μ : Mi} {ρ : Mr} {Rp : RT} (a0 : Nat) (x1 : Int32) (h : ∀ G : Nat → PT, w_X12_comes_0 (MS Z (d + 10)) G Rp [.ref a0, .int x1, .null, .null] [] S (0, 0) μ ρ) : MS Z (d + 11) jX12_comes [.ref a0, .int x1] S μ ρ Rp :=
  MS_of [.ref a0, .int x1, .null, .null] (by decide +kernel) rfl rfl (Nat.le_of_ble_eq_true rfl) rfl (fun p e R s m args below meth c C => b_X12_comes_0 C _ _ _ _ _ _ (h _ ))
def F_X12_comes : FT := fun As S μ ρ k => match As with
  | [.ref a, .int i] => a = 2737 ∧ RS S ρ ∧ rg i 0 59 ∧ i.toInt < (μ 2738 4510).toInt ∧ cmOK (μ 2738) ∧ ∀ t : T4, k (some (.int (vComes (μ 2738) i.toNatClampNeg))) (M3 (upF μ 2744 (cpF (μ 2738) (μ 2744) (2570 + 21 * i.toNatClampNeg) 0 21)) t (qComes (μ 2738) i.toNatClampNeg))
  | _ => False
theorem r_X12_comes {As S μ ρ k} (h : F_X12_comes As S μ ρ k) : ∃ a As', As = Value.ref a :: As' ∧ S.2 a = (12, 27) := by
  unfold F_X12_comes at h
  split at h
  · exact ⟨_, _, rfl, by rw [h.1]; exact h.2.1.1⟩
  · exact h.elim
set_option maxHeartbeats 1000000 in
theorem f_X12_comes {Z : Zt} {d : Nat} {As : List Value} {S : Sh} {μ : Mi} {ρ : Mr} {Rp : RT} (h : F_X12_comes As S μ ρ (fun r μ' => Rp r S μ' ρ)) : MS Z (d + 11) jX12_comes As S μ ρ Rp := by
  unfold F_X12_comes at h
  split at h
  · rename_i a i
    obtain ⟨rfl, hS, h⟩ := h
    have hS0 := hS
    unfold RS at hS
    obtain ⟨h1, h2, h3, h⟩ := h
    obtain ⟨i, rfl, hi0, -, hi⟩ := rg_ex h1
    have hw := (h3.1 0 (by decide)).1.1.1
    obtain ⟨w, ew, ew0, -, ew1⟩ := rg_ex hw
    simp (disch := omega) only [nI_clamp] at h
    rw [ew, nI_toInt hi0, nI_toInt ew0] at h2
    have hg := h3.2 i (by rw [ew, nI_clamp ew0]; omega)
    have hst := h3.1
    have hi59 := rg_T (lo := 0) (hi := 59) (n := i) (by omega) (by omega) hi0
    generalize hν : upF μ 2744 (cpF (μ 2738) (μ 2744) (2570 + 21 * i) 0 21) = ν at h
    have hνA : ν 2738 = μ 2738 := by rw [← hν, upF_ne (by decide)]
    have hνg : ∀ k, k < 21 → ν 2744 k = rowM (μ 2738) i k := by
      intro k hk
      rw [← hν, upF_same]
      unfold cpF rowM
      rw [if_pos (by omega), Nat.sub_zero]
    obtain ⟨t0, ht0⟩ := M3_self ν
    rw [hνA] at ht0
    generalize hA : μ 2738 = A at *
    generalize hgr : rowM A i = g at *
    have hg' : mOK (ν 2744) := mOK_congr hνg hg
    obtain ⟨gf, gt_, gtm, gk, gtk, gtook, gins⟩ := id hg
    obtain ⟨f, ef, ef0, -, ef1⟩ := rg_ex gf
    obtain ⟨s, es, es0, -, es1⟩ := rg_ex gt_
    have hs5 : s < 5 := by omega
    have hrs := rg_T (lo := 0) (hi := 4) (n := s) (by omega) (by omega) es0
    have hrf := rg_T (lo := 0) (hi := 4) (n := f) (by omega) (by omega) ef0
    have v0 : ν 2744 0 = nI f := by rw [hνg 0 (by decide)]; exact ef
    have v1 : ν 2744 1 = nI s := by rw [hνg 1 (by decide)]; exact es
    have j0 : inb 0 21 := inb_nI (k := 0) (by decide) (by decide)
    have j1 : inb 1 21 := inb_nI (k := 1) (by decide) (by decide)
    have j2 : inb 2 21 := inb_nI (k := 2) (by decide) (by decide)
    have j3 : inb 3 21 := inb_nI (k := 3) (by decide) (by decide)
    have j4 : inb 4 21 := inb_nI (k := 4) (by decide) (by decide)
    have j5 : inb 5 21 := inb_nI (k := 5) (by decide) (by decide)
    have i1 : (514 : Int32) * nI s + 1 = nI (514 * s + 1) := ixs 1 1 rfl
    have b1 : inb (nI (514 * s + 1)) 13548 := inb_nI (by omega) (by decide)
    have i3 : (514 : Int32) * nI s + 3 = nI (514 * s + 3) := ixs 3 3 rfl
    have b3 : inb (nI (514 * s + 3)) 13548 := inb_nI (by omega) (by decide)
    have i11 : inb 4511 13548 := inb_nI (k := 4511) (by decide) (by decide)
    have i12 : inb 4512 13548 := inb_nI (k := 4512) (by decide) (by decide)
    refine ms_X12_comes _ _ (fun G => ?_)
    -- what a message does
    have sw : ∀ (B : Rw) (o : Int32) (v3 : Value) (t1 : T4), stOK B s → ((¬ o = 0) ↔ g 2 = B (514 * s + 1)) → (∀ t : T4, Rp (some (.int 1)) S (M3 ν t (qHeard B g s f)) ρ) → w_X12_comes_117 (MS Z (d + 10)) G Rp [.ref 2737, .int (nI i), .int (nI s), v3] [.int o] S (0, 0) (M3 ν t1 B) ρ := by
      intro B o v3 t1 hB ho hq
      have hbs : bsOK B s := ⟨hB.1.1.1, hB.1.1.2.1, hB.1.1.2.2.1⟩
      have ends : ∀ (L : List Value) (t : T4) (C : Rw), C = qHeard B g s f → w_X12_comes_477 (MS Z (d + 10)) G Rp L [] S (0, 0) (M3 ν t C) ρ := by
        intro L t C hC
        subst hC
        simp only [w_X12_comes_477, tAload, tIload, nth, tGetI, tGetR, tConst, tLconst, tBin, tUn, tI2l, tAld, tAldR, tAlen, tIast, tBast, tZast, tAast, tIret, tZret, tVret, tAret, tIf, tIf2, tGoto, tIstore, tAstore, sset, tIinc, tDup, tDup2, tPop, tPutI, tPutZ, tPutR, tCallV, tCallS, popN, tFn, tCopy, tMax, tMin, tSw, swc, tRem, tObjI, Option.toList, List.nil_append, List.cons_append, okR, true_and, and_true, true_or, or_true, Nat.zero_le, ne_eq, not_false_eq_true, Nat.reduceEqDiff]
        exact hq t
      simp only [w_X12_comes_117, tAload, tIload, nth, tGetI, tGetR, tConst, tLconst, tBin, tUn, tI2l, tAld, tAldR, tAlen, tIast, tBast, tZast, tAast, tIret, tZret, tVret, tAret, tIf, tIf2, tGoto, tIstore, tAstore, sset, tIinc, tDup, tDup2, tPop, tPutI, tPutZ, tPutR, tCallV, tCallS, popN, tFn, tCopy, tMax, tMin, tSw, swc, tRem, tObjI, Option.toList, List.nil_append, List.cons_append, okR, true_and, and_true, true_or, or_true, Nat.zero_le, ne_eq, not_false_eq_true, Nat.reduceEqDiff, hS, M3_m, j3, cl_3, hνg 3 (by decide)]
      refine ⟨fun c0 => ?_, fun n0 => ⟨fun c1 => ?_, fun n1 => ⟨fun c2 => ?_, fun n2 => ⟨fun c3 => ?_, fun n3 => ⟨fun c4 => ?_, fun n4 => ⟨fun c5 => ?_, fun n5 => ⟨fun c6 => ?_, fun n6 => ⟨fun c7 => ?_, fun n7 => ⟨fun c8 => ?_, fun n8 => ?_⟩⟩⟩⟩⟩⟩⟩⟩⟩
      · -- ASK
        simp only [w_X12_comes_176, tAload, tIload, nth, tGetI, tGetR, tConst, tLconst, tBin, tUn, tI2l, tAld, tAldR, tAlen, tIast, tBast, tZast, tAast, tIret, tZret, tVret, tAret, tIf, tIf2, tGoto, tIstore, tAstore, sset, tIinc, tDup, tDup2, tPop, tPutI, tPutZ, tPutR, tCallV, tCallS, popN, tFn, tCopy, tMax, tMin, tSw, swc, tRem, tObjI, Option.toList, List.nil_append, List.cons_append, okR, true_and, and_true, true_or, or_true, Nat.zero_le, ne_eq, not_false_eq_true, Nat.reduceEqDiff, F_X12_asked, hS0, hS, hrs, hrf, M3_m, M3_row, M3_upF, j0, j4, j5, cl_0, cl_4, cl_5, v0, hνg 4 (by decide), hνg 5 (by decide)]
        simp (disch := omega) only [nI_clamp]
        refine ⟨hbs, ends _ _ _ ?_⟩
        unfold qHeard
        rw [if_pos c0, qAsked_iff ho]
      · -- VOTE
        simp only [w_X12_comes_203, tAload, tIload, nth, tGetI, tGetR, tConst, tLconst, tBin, tUn, tI2l, tAld, tAldR, tAlen, tIast, tBast, tZast, tAast, tIret, tZret, tVret, tAret, tIf, tIf2, tGoto, tIstore, tAstore, sset, tIinc, tDup, tDup2, tPop, tPutI, tPutZ, tPutR, tCallV, tCallS, popN, tFn, tCopy, tMax, tMin, tSw, swc, tRem, tObjI, Option.toList, List.nil_append, List.cons_append, okR, true_and, and_true, true_or, or_true, Nat.zero_le, ne_eq, not_false_eq_true, Nat.reduceEqDiff, F_X12_of, F_X12_voted, hS0, hS, hrs, hrf, M3_m, M3_row, M3_upF, M3_M3, j0, j4, cl_0, cl_4, v0, i3, b3, hνg 4 (by decide)]
        simp (disch := omega) only [nI_clamp]
        refine ⟨fun c => ends _ _ _ ?_, fun c => ⟨fun d1 => ends _ _ _ ?_, fun d1 => ⟨fun d2 => ends _ _ _ ?_, fun d2 => ⟨ldOK_st hB (Decidable.not_not.mp d2), fun t => ends _ _ _ ?_⟩⟩⟩⟩
        · unfold qHeard
          rw [if_neg n0, if_pos c1, if_neg (fun z => (ho.mpr z.1) c)]
        · unfold qHeard
          rw [if_neg n0, if_pos c1, if_neg (fun z => d1 z.2.1)]
        · unfold qHeard
          rw [if_neg n0, if_pos c1, if_neg (fun z => d2 z.2.2)]
        · unfold qHeard
          rw [if_neg n0, if_pos c1, if_pos ⟨ho.mp c, Decidable.not_not.mp d1, Decidable.not_not.mp d2⟩]
      · -- TAKE
        have htk : tkOK (ν 2744) := hg'.2.2.2.2.1 (by rw [hνg 3 (by decide)]; exact c2)
        simp only [w_X12_comes_241, tAload, tIload, nth, tGetI, tGetR, tConst, tLconst, tBin, tUn, tI2l, tAld, tAldR, tAlen, tIast, tBast, tZast, tAast, tIret, tZret, tVret, tAret, tIf, tIf2, tGoto, tIstore, tAstore, sset, tIinc, tDup, tDup2, tPop, tPutI, tPutZ, tPutR, tCallV, tCallS, popN, tFn, tCopy, tMax, tMin, tSw, swc, tRem, tObjI, Option.toList, List.nil_append, List.cons_append, okR, true_and, and_true, true_or, or_true, Nat.zero_le, ne_eq, not_false_eq_true, Nat.reduceEqDiff, F_X12_takes, hS0, hS, hrs, hrf, M3_m, M3_row, M3_upF, j0, cl_0, v0]
        simp (disch := omega) only [nI_clamp]
        refine ⟨htk, hB.1, hB.2.1, ends _ _ _ ?_⟩
        rw [← qHeard_congr hνg hg]
        unfold qHeard
        rw [hνg 3 (by decide), if_neg n0, if_neg n1, if_pos c2]
        exact qTakes_iff (by rw [hνg 2 (by decide)]; exact ho)
      · -- TOOK
        have hp := gtook c3
        have main : ∀ x : Int32, ((¬ x = 0) ↔ g 4 = 1) → ∀ t1, (¬ o = 0) → B (514 * s + 3) = 2 → w_X12_comes_291 (MS Z (d + 10)) G Rp [.ref 2737, .int (nI i), .int (nI s), .int o] [.int x, .int (nI f), .int (nI s), .ref 2737] S (0, 0) (M3 ν t1 B) ρ := by
          intro x hx t1 c d1
          simp only [w_X12_comes_291, tAload, tIload, nth, tGetI, tGetR, tConst, tLconst, tBin, tUn, tI2l, tAld, tAldR, tAlen, tIast, tBast, tZast, tAast, tIret, tZret, tVret, tAret, tIf, tIf2, tGoto, tIstore, tAstore, sset, tIinc, tDup, tDup2, tPop, tPutI, tPutZ, tPutR, tCallV, tCallS, popN, tFn, tCopy, tMax, tMin, tSw, swc, tRem, tObjI, Option.toList, List.nil_append, List.cons_append, okR, true_and, and_true, true_or, or_true, Nat.zero_le, ne_eq, not_false_eq_true, Nat.reduceEqDiff, F_X12_took, hS0, hS, hrs, hrf, M3_m, M3_row, M3_M3, j5, cl_5, hνg 5 (by decide), hνg 8 (by decide)]
          simp (disch := omega) only [nI_clamp]
          refine ⟨hp, hB.1, hB.2.1, hB.2.2.2.1, hB.2.2.2.2.1 f (by omega), fun t => ends _ _ _ ?_⟩
          unfold qHeard
          rw [if_neg n0, if_neg n1, if_neg n2, if_pos c3, if_pos ⟨ho.mp c, d1⟩]
          exact qTook_iff hx
        simp only [w_X12_comes_256, w_X12_comes_290, tAload, tIload, nth, tGetI, tGetR, tConst, tLconst, tBin, tUn, tI2l, tAld, tAldR, tAlen, tIast, tBast, tZast, tAast, tIret, tZret, tVret, tAret, tIf, tIf2, tGoto, tIstore, tAstore, sset, tIinc, tDup, tDup2, tPop, tPutI, tPutZ, tPutR, tCallV, tCallS, popN, tFn, tCopy, tMax, tMin, tSw, swc, tRem, tObjI, Option.toList, List.nil_append, List.cons_append, okR, true_and, and_true, true_or, or_true, Nat.zero_le, ne_eq, not_false_eq_true, Nat.reduceEqDiff, F_X12_isLeader, hS0, hS, hrs, M3_m, M3_row, j0, j4, cl_0, cl_4, v0, hνg 4 (by decide), b2_z, Decidable.not_not]
        simp (disch := omega) only [nI_clamp]
        refine ⟨fun c => ends _ _ _ ?_, fun c => ⟨fun d1 => ends _ _ _ ?_, fun d1 => ⟨fun d2 => main _ (by simp [d2]) _ c d1, fun d2 => main _ (by simp [d2]) _ c d1⟩⟩⟩
        · unfold qHeard
          rw [if_neg n0, if_neg n1, if_neg n2, if_pos c3, if_neg (fun z => (ho.mpr z.1) c)]
        · unfold qHeard
          rw [if_neg n0, if_neg n1, if_neg n2, if_pos c3, if_neg (fun z => d1 z.2)]
      · -- INSTALL
        simp only [w_X12_comes_433, tAload, tIload, nth, tGetI, tGetR, tConst, tLconst, tBin, tUn, tI2l, tAld, tAldR, tAlen, tIast, tBast, tZast, tAast, tIret, tZret, tVret, tAret, tIf, tIf2, tGoto, tIstore, tAstore, sset, tIinc, tDup, tDup2, tPop, tPutI, tPutZ, tPutR, tCallV, tCallS, popN, tFn, tCopy, tMax, tMin, tSw, swc, tRem, tObjI, Option.toList, List.nil_append, List.cons_append, okR, true_and, and_true, true_or, or_true, Nat.zero_le, ne_eq, not_false_eq_true, Nat.reduceEqDiff, F_X12_installs, hS0, hS, hrs, hrf, M3_m, M3_row, M3_upF, j0, cl_0, v0]
        simp (disch := omega) only [nI_clamp]
        refine ⟨hbs, ends _ _ _ ?_⟩
        rw [← qHeard_congr hνg hg]
        unfold qHeard
        rw [hνg 3 (by decide), if_neg n0, if_neg n1, if_neg n2, if_neg n3, if_pos c4]
        exact qInstalls_iff (by rw [hνg 2 (by decide)]; exact ho)
      · -- INSTALLED
        have n6 : ¬ g 3 = 6 := by rw [c5]; decide
        have n7 : ¬ g 3 = 7 := by rw [c5]; decide
        have n8 : ¬ g 3 = 8 := by rw [c5]; decide
        simp only [w_X12_comes_448, tAload, tIload, nth, tGetI, tGetR, tConst, tLconst, tBin, tUn, tI2l, tAld, tAldR, tAlen, tIast, tBast, tZast, tAast, tIret, tZret, tVret, tAret, tIf, tIf2, tGoto, tIstore, tAstore, sset, tIinc, tDup, tDup2, tPop, tPutI, tPutZ, tPutR, tCallV, tCallS, popN, tFn, tCopy, tMax, tMin, tSw, swc, tRem, tObjI, Option.toList, List.nil_append, List.cons_append, okR, true_and, and_true, true_or, or_true, Nat.zero_le, ne_eq, not_false_eq_true, Nat.reduceEqDiff, F_X12_isLeader, F_X12_installed, hS0, hS, hrs, hrf, M3_m, M3_row, M3_M3, j0, j4, cl_0, cl_4, v0, hνg 4 (by decide), hνg 8 (by decide), b2_z, Decidable.not_not]
        simp (disch := omega) only [nI_clamp]
        refine ⟨fun c => ends _ _ _ ?_, fun c => ⟨fun d1 => ends _ _ _ ?_, fun d1 => ⟨gins c5, hB.1, hB.2.1, hB.2.2.2.1, hB.2.2.2.2.1 f (by omega), fun t => ends _ _ _ ?_⟩⟩⟩
        · unfold qHeard
          rw [if_neg n0, if_neg n1, if_neg n2, if_neg n3, if_neg n4, if_neg n6, if_neg n7, if_neg n8, if_neg (fun z => (ho.mpr z.1) c)]
        · unfold qHeard
          rw [if_neg n0, if_neg n1, if_neg n2, if_neg n3, if_neg n4, if_neg n6, if_neg n7, if_neg n8, if_neg (fun z => d1 z.2)]
        · unfold qHeard
          rw [if_neg n0, if_neg n1, if_neg n2, if_neg n3, if_neg n4, if_neg n6, if_neg n7, if_neg n8, if_pos ⟨ho.mp c, d1⟩]
      · -- NOW
        simp only [w_X12_comes_303, tAload, tIload, nth, tGetI, tGetR, tConst, tLconst, tBin, tUn, tI2l, tAld, tAldR, tAlen, tIast, tBast, tZast, tAast, tIret, tZret, tVret, tAret, tIf, tIf2, tGoto, tIstore, tAstore, sset, tIinc, tDup, tDup2, tPop, tPutI, tPutZ, tPutR, tCallV, tCallS, popN, tFn, tCopy, tMax, tMin, tSw, swc, tRem, tObjI, Option.toList, List.nil_append, List.cons_append, okR, true_and, and_true, true_or, or_true, Nat.zero_le, ne_eq, not_false_eq_true, Nat.reduceEqDiff, F_X12_laysMembers, F_X12_isLeader, F_X12_has, F_X12_of, F_X12_standsUp, hS0, hS, hrs, M3_row, M3_M3, M3_setM, M3_8, M3_9, i1, b1, b2_z, Decidable.not_not]
        simp (disch := omega) only [nI_clamp]
        refine ⟨hB.1.1.2.1, hB.1.1.2.2.1, fun c => ends _ _ _ ?_, fun c => ⟨fun d1 => ends _ _ _ ?_, fun d1 => ⟨fun d2 => ends _ _ _ ?_, fun d2 => ⟨fun d3 => ends _ _ _ ?_, fun d3 => ⟨suOK_st hB (Int32.not_le.mp d3), fun t => ends _ _ _ ?_⟩⟩⟩⟩⟩
        · unfold qHeard
          rw [if_neg n0, if_neg n1, if_neg n2, if_neg n3, if_neg n4, if_pos c6, if_neg (fun z => (ho.mpr z.1) c)]
        · unfold qHeard
          rw [if_neg n0, if_neg n1, if_neg n2, if_neg n3, if_neg n4, if_pos c6, if_neg (fun z => z.2.1 d1)]
        · unfold qHeard
          rw [if_neg n0, if_neg n1, if_neg n2, if_neg n3, if_neg n4, if_pos c6, if_neg (fun z => d2 z.2.2.1)]
        · unfold qHeard
          rw [if_neg n0, if_neg n1, if_neg n2, if_neg n3, if_neg n4, if_pos c6, if_neg (fun z => absurd z.2.2.2 (Int32.not_lt.mpr d3))]
        · unfold qHeard
          rw [if_neg n0, if_neg n1, if_neg n2, if_neg n3, if_neg n4, if_pos c6, if_pos ⟨ho.mp c, d1, d2, Int32.not_le.mp d3⟩]
      · -- MAY
        simp only [w_X12_comes_356, tAload, tIload, nth, tGetI, tGetR, tConst, tLconst, tBin, tUn, tI2l, tAld, tAldR, tAlen, tIast, tBast, tZast, tAast, tIret, tZret, tVret, tAret, tIf, tIf2, tGoto, tIstore, tAstore, sset, tIinc, tDup, tDup2, tPop, tPutI, tPutZ, tPutR, tCallV, tCallS, popN, tFn, tCopy, tMax, tMin, tSw, swc, tRem, tObjI, Option.toList, List.nil_append, List.cons_append, okR, true_and, and_true, true_or, or_true, Nat.zero_le, ne_eq, not_false_eq_true, Nat.reduceEqDiff, F_X12_wouldBe, hS0, hS, hrs, hrf, M3_m, M3_row, M3_upF, j0, j2, j4, j5, cl_0, cl_2, cl_4, cl_5, v0, hνg 2 (by decide), hνg 4 (by decide), hνg 5 (by decide)]
        simp (disch := omega) only [nI_clamp]
        refine ⟨hbs, ends _ _ _ ?_⟩
        unfold qHeard
        rw [if_neg n0, if_neg n1, if_neg n2, if_neg n3, if_neg n4, if_neg n6, if_pos c7]
      · -- WOULD
        have main : ∀ x : Int32, ((¬ x = 0) ↔ g 4 = 1) → ∀ t1, B (514 * s + 3) = 3 → w_X12_comes_421 (MS Z (d + 10)) G Rp [.ref 2737, .int (nI i), .int (nI s), .int o] [.int x, .int (nI f), .int (nI s), .ref 2737] S (0, 0) (M3 ν t1 B) ρ := by
          intro x hx t1 d1
          simp only [w_X12_comes_421, tAload, tIload, nth, tGetI, tGetR, tConst, tLconst, tBin, tUn, tI2l, tAld, tAldR, tAlen, tIast, tBast, tZast, tAast, tIret, tZret, tVret, tAret, tIf, tIf2, tGoto, tIstore, tAstore, sset, tIinc, tDup, tDup2, tPop, tPutI, tPutZ, tPutR, tCallV, tCallS, popN, tFn, tCopy, tMax, tMin, tSw, swc, tRem, tObjI, Option.toList, List.nil_append, List.cons_append, okR, true_and, and_true, true_or, or_true, Nat.zero_le, ne_eq, not_false_eq_true, Nat.reduceEqDiff, F_X12_would, hS0, hS, hrs, hrf, M3_m, M3_row, M3_M3, j2, cl_2, hνg 2 (by decide)]
          simp (disch := omega) only [nI_clamp]
          refine ⟨gtm, hB.1, hB.2.1, hB.2.2.1, fun t => ends _ _ _ ?_⟩
          unfold qHeard
          rw [if_neg n0, if_neg n1, if_neg n2, if_neg n3, if_neg n4, if_neg n6, if_neg n7, if_pos c8, if_pos d1]
          exact qWould_iff hx
        simp only [w_X12_comes_388, w_X12_comes_420, tAload, tIload, nth, tGetI, tGetR, tConst, tLconst, tBin, tUn, tI2l, tAld, tAldR, tAlen, tIast, tBast, tZast, tAast, tIret, tZret, tVret, tAret, tIf, tIf2, tGoto, tIstore, tAstore, sset, tIinc, tDup, tDup2, tPop, tPutI, tPutZ, tPutR, tCallV, tCallS, popN, tFn, tCopy, tMax, tMin, tSw, swc, tRem, tObjI, Option.toList, List.nil_append, List.cons_append, okR, true_and, and_true, true_or, or_true, Nat.zero_le, ne_eq, not_false_eq_true, Nat.reduceEqDiff, F_X12_of, hS0, hS, hrs, M3_m, M3_row, j0, j4, cl_0, cl_4, v0, i3, b3, hνg 4 (by decide)]
        simp (disch := omega) only [nI_clamp]
        refine ⟨fun d1 => ends _ _ _ ?_, fun d1 => ⟨fun d2 => main _ (by simp [d2]) _ (Decidable.not_not.mp d1), fun d2 => main _ (by simpa using d2) _ (Decidable.not_not.mp d1)⟩⟩
        unfold qHeard
        rw [if_neg n0, if_neg n1, if_neg n2, if_neg n3, if_neg n4, if_neg n6, if_neg n7, if_pos c8, if_neg d1]
      · -- nothing else
        exfalso
        obtain ⟨kk, ek, ek0, -, ek1⟩ := rg_ex gk
        have : kk = 0 ∨ kk = 1 ∨ kk = 2 ∨ kk = 3 ∨ kk = 4 ∨ kk = 5 ∨ kk = 6 ∨ kk = 7 ∨ kk = 8 := by omega
        rcases this with rfl | rfl | rfl | rfl | rfl | rfl | rfl | rfl | rfl
        · exact n0 ek
        · exact n1 ek
        · exact n2 ek
        · exact n3 ek
        · exact n4 ek
        · exact n5 ek
        · exact n6 ek
        · exact n7 ek
        · exact n8 ek
    have heard : ∀ (B : Rw) (v3 : Value) (t1 : T4), stOK B s → (∀ t : T4, Rp (some (.int 1)) S (M3 ν t (qHeard B g s f)) ρ) → w_X12_comes_97 (MS Z (d + 10)) G Rp [.ref 2737, .int (nI i), .int (nI s), v3] [] S (0, 0) (M3 ν t1 B) ρ := by
      intro B v3 t1 hB hq
      simp only [w_X12_comes_97, w_X12_comes_116, tAload, tIload, nth, tGetI, tGetR, tConst, tLconst, tBin, tUn, tI2l, tAld, tAldR, tAlen, tIast, tBast, tZast, tAast, tIret, tZret, tVret, tAret, tIf, tIf2, tGoto, tIstore, tAstore, sset, tIinc, tDup, tDup2, tPop, tPutI, tPutZ, tPutR, tCallV, tCallS, popN, tFn, tCopy, tMax, tMin, tSw, swc, tRem, tObjI, Option.toList, List.nil_append, List.cons_append, okR, true_and, and_true, true_or, or_true, Nat.zero_le, ne_eq, not_false_eq_true, Nat.reduceEqDiff, F_X12_of, hS0, hS, M3_m, M3_row, j2, cl_2, hνg 2 (by decide), i1, b1]
      simp (disch := omega) only [nI_clamp]
      exact ⟨fun c => sw B 0 _ _ hB (by simpa using c) hq, fun c => sw B 1 _ _ hB (by simpa using c) hq⟩
    have eo : upF (upF μ 2744 (cpF A (μ 2744) (2570 + 21 * i) 0 21)) 2738 (qOut A i) = M3 ν t0 (qOut A i) := by rw [hν, ht0, M3_upF, ← ht0]
    have hwo : rg (qOut A i 4510) 0 60 := by
      unfold qOut
      rw [up_at, ew, show (1 : Int32) = nI 1 from rfl, pk_sub (by omega), rg_nI (by omega)]
      omega
    simp only [w_X12_comes_0, w_X12_comes_34, w_X12_comes_48, tAload, tIload, nth, tGetI, tGetR, tConst, tLconst, tBin, tUn, tI2l, tAld, tAldR, tAlen, tIast, tBast, tZast, tAast, tIret, tZret, tVret, tAret, tIf, tIf2, tGoto, tIstore, tAstore, sset, tIinc, tDup, tDup2, tPop, tPutI, tPutZ, tPutR, tCallV, tCallS, popN, tFn, tCopy, tMax, tMin, tSw, swc, tRem, tObjI, Option.toList, List.nil_append, List.cons_append, okR, true_and, and_true, true_or, or_true, Nat.zero_le, ne_eq, not_false_eq_true, Nat.reduceEqDiff, F_X12_goesOut, F_X12_isUp, F_X12_isLinked, F_X12_of, F_X12_followsTerm, hS0, hS, hA, hi59]
    simp (disch := omega) only [nI_clamp]
    rw [eo]
    simp only [M3_m, M3_row, M3_upF, upI_upF, v0, v1, j0, j1, j2, j3, cl_0, cl_1, cl_2, cl_3, cl_4511, cl_4512, i11, i12, hrs, i1, b1, b2_z, Decidable.not_not, true_and, hνg 2 (by decide), hνg 3 (by decide)]
    simp (disch := omega) only [nI_clamp]
    unfold qComes vComes at h
    simp only [hgr, es, ef, nI_clamp es0, nI_clamp ef0] at h
    have lost : ¬ canCm (qOut A i) f s → Rp (some (.int 0)) S (M3 ν t0 (up (qOut A i) 4511 (qOut A i 4511 + 1))) ρ := by
      intro c
      have := h t0
      rw [if_neg c, if_pos c] at this
      exact this
    refine ⟨hw, by rw [nI_toInt hi0, ew, nI_toInt ew0]; exact h2, fun c => lost (fun z => c z.1), fun c => ⟨fun c2 => ?_, fun c2 => lost (fun z => c2 z.2)⟩⟩
    have hcm : canCm (qOut A i) f s := ⟨c, c2⟩
    simp only [if_pos hcm, if_neg (not_not_intro hcm)] at h
    generalize hA2 : up (qOut A i) 4512 (qOut A i 4512 + 1) = A2 at h ⊢
    have hst2 : stOK A2 s := by
      refine stOK_of hs5 (hst s hs5) ?_ (fun k q1 q2 => ?_)
      · rw [← hA2, up_ne (by omega)]; exact hwo
      · rw [← hA2, up_ne (by omega), qOut_lo (by omega)]
    refine ⟨fun c3 => heard _ _ _ hst2 (fun t => ?_), fun c3 => ⟨fun c4 => heard _ _ _ hst2 (fun t => ?_), fun c4 => heard _ _ _ (stOK_follow hs5 hst2 gtm) (fun t => ?_)⟩⟩
    · have := h t
      rw [if_neg (fun z => absurd z.1 (Int32.not_lt.mpr c3))] at this
      exact this
    · have := h t
      rw [if_neg (fun z => absurd z.2 (Int32.not_lt.mpr c4))] at this
      exact this
    · have := h t
      rw [if_pos ⟨Int32.not_le.mp c3, Int32.not_le.mp c4⟩] at this
      exact this
  · exact h.elim
