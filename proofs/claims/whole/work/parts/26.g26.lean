def w_X12_plays_42 (M : CT) (G : Nat → PT) (Rp : RT) : PT := tVret Rp
def w_X12_plays_11 (M : CT) (G : Nat → PT) (Rp : RT) : PT := tAload 0 <| tIload 1 <| tConst 3 <| tIload 2 <| tFn 4 F_X12_lays <| tAload 0 <| tIload 1 <| tConst 8 <| tConst 0 <| tFn 4 F_X12_lays <| tAload 0 <| tIload 1 <| tConst 11 <| tFn 3 F_X12_of <| tConst 1 <| tIf2 (fun x y => x ≠ y) (w_X12_plays_42 M G Rp) <| tAload 0 <| tIload 1 <| tFn 2 F_X12_readsNothing <| w_X12_plays_42 M G Rp
def w_X12_plays_0 (M : CT) (G : Nat → PT) (Rp : RT) : PT := tAload 0 <| tIload 1 <| tConst 3 <| tFn 3 F_X12_of <| tIload 2 <| tIf2 (fun x y => x ≠ y) (w_X12_plays_11 M G Rp) <| tVret Rp
set_option maxRecDepth 20000 in
theorem b_X12_plays_42 {Z : Zt} {d : Nat} {p : Program} {e : Env} {R : Room} {s : State} {m : MethodId} {args : Array Value} {below : List Frame} {meth : Method} {c : Code} {Rp : RT} (C : Cx Z (d + 2) jX12_plays RX12 p R s m args meth c) : Sd Z jX12_plays p e R s m args below meth c (MQ below (QcS Z Rp) args s 0 0 (fun a => Z.2.2.1 < a)) 42 (w_X12_plays_42 (MS Z (d + 2)) (Gw Z 3 p e R s m args below meth c (MQ below (QcS Z Rp) args s 0 0 (fun a => Z.2.2.1 < a))) Rp) := by
  unfold w_X12_plays_42
  exact s_vret C rfl (by decide +kernel)
set_option maxRecDepth 20000 in
theorem b_X12_plays_11 {Z : Zt} {d : Nat} {p : Program} {e : Env} {R : Room} {s : State} {m : MethodId} {args : Array Value} {below : List Frame} {meth : Method} {c : Code} {Rp : RT} (C : Cx Z (d + 2) jX12_plays RX12 p R s m args meth c) : Sd Z jX12_plays p e R s m args below meth c (MQ below (QcS Z Rp) args s 0 0 (fun a => Z.2.2.1 < a)) 11 (w_X12_plays_11 (MS Z (d + 2)) (Gw Z 3 p e R s m args below meth c (MQ below (QcS Z Rp) args s 0 0 (fun a => Z.2.2.1 < a))) Rp) := by
  unfold w_X12_plays_11
  refine s_aload_n (k := 0) C (by decide +kernel) ?_
  refine s_iload_n (k := 1) C (by decide +kernel) ?_
  refine s_iconst (n := 3) C (by decide +kernel) (by decide) ?_
  refine s_iload_n (k := 2) C (by decide +kernel) ?_
  refine s_fnV C (j2 := jX12_lays) (cl := 12) (nf := 27) rfl rfl (by decide +kernel) rfl w_6_82 w_6_84 w_p3_4 w_1_13 w_6_85 (by decide +kernel) (fun _ _ _ _ _ h => f_X12_lays h) (fun _ _ _ _ _ h => r_X12_lays h) ?_
  refine s_aload_n (k := 0) C (by decide +kernel) ?_
  refine s_iload_n (k := 1) C (by decide +kernel) ?_
  refine s_bipush (n := 8) C (by decide +kernel) (by decide) ?_
  refine s_iconst (n := 0) C (by decide +kernel) (by decide) ?_
  refine s_fnV C (j2 := jX12_lays) (cl := 12) (nf := 27) rfl rfl (by decide +kernel) rfl w_6_82 w_6_84 w_p3_4 w_1_13 w_6_85 (by decide +kernel) (fun _ _ _ _ _ h => f_X12_lays h) (fun _ _ _ _ _ h => r_X12_lays h) ?_
  refine s_aload_n (k := 0) C (by decide +kernel) ?_
  refine s_iload_n (k := 1) C (by decide +kernel) ?_
  refine s_bipush (n := 11) C (by decide +kernel) (by decide) ?_
  refine s_fnV C (j2 := jX12_of) (cl := 12) (nf := 27) rfl rfl (by decide +kernel) rfl w_6_220 w_6_222 w_p3_11 w_1_13 w_6_223 (by decide +kernel) (fun _ _ _ _ _ h => f_X12_of h) (fun _ _ _ _ _ h => r_X12_of h) ?_
  refine s_iconst (n := 1) C (by decide +kernel) (by decide) ?_
  refine s_icmp_ne (off := 8) (tgt := 42) C (by decide +kernel) (by decide) (b_X12_plays_42 C) ?_
  refine s_aload_n (k := 0) C (by decide +kernel) ?_
  refine s_iload_n (k := 1) C (by decide +kernel) ?_
  refine s_fnV C (j2 := jX12_readsNothing) (cl := 12) (nf := 27) rfl rfl (by decide +kernel) rfl w_7_15 w_7_17 w_p4_3 w_1_13 w_7_18 (by decide +kernel) (fun _ _ _ _ _ h => f_X12_readsNothing h) (fun _ _ _ _ _ h => r_X12_readsNothing h) ?_
  exact (b_X12_plays_42 C)
set_option maxRecDepth 20000 in
theorem b_X12_plays_0 {Z : Zt} {d : Nat} {p : Program} {e : Env} {R : Room} {s : State} {m : MethodId} {args : Array Value} {below : List Frame} {meth : Method} {c : Code} {Rp : RT} (C : Cx Z (d + 2) jX12_plays RX12 p R s m args meth c) : Sd Z jX12_plays p e R s m args below meth c (MQ below (QcS Z Rp) args s 0 0 (fun a => Z.2.2.1 < a)) 0 (w_X12_plays_0 (MS Z (d + 2)) (Gw Z 3 p e R s m args below meth c (MQ below (QcS Z Rp) args s 0 0 (fun a => Z.2.2.1 < a))) Rp) := by
  unfold w_X12_plays_0
  refine s_aload_n (k := 0) C (by decide +kernel) ?_
  refine s_iload_n (k := 1) C (by decide +kernel) ?_
  refine s_iconst (n := 3) C (by decide +kernel) (by decide) ?_
  refine s_fnV C (j2 := jX12_of) (cl := 12) (nf := 27) rfl rfl (by decide +kernel) rfl w_6_220 w_6_222 w_p3_11 w_1_13 w_6_223 (by decide +kernel) (fun _ _ _ _ _ h => f_X12_of h) (fun _ _ _ _ _ h => r_X12_of h) ?_
  refine s_iload_n (k := 2) C (by decide +kernel) ?_
  refine s_icmp_ne (off := 4) (tgt := 11) C (by decide +kernel) (by decide) (b_X12_plays_11 C) ?_
  exact s_vret C rfl (by decide +kernel)
theorem ms_X12_plays {Z : Zt} {d : Nat} {S : Sh} {μ : Mi} {ρ : Mr} {Rp : RT} (a0 : Nat) (x1 : Int32) (x2 : Int32) (h : ∀ G : Nat → PT, w_X12_plays_0 (MS Z (d + 2)) G Rp [.ref a0, .int x1, .int x2] [] S (0, 0) μ ρ) : MS Z (d + 3) jX12_plays [.ref a0, .int x1, .int x2] S μ ρ Rp :=
  MS_of [.ref a0, .int x1, .int x2] (by decide +kernel) rfl rfl (Nat.le_of_ble_eq_true rfl) rfl (fun p e R s m args below meth c C => b_X12_plays_0 C _ _ _ _ _ _ (h _ ))
def w_X12_termAt_53 (M : CT) (G : Nat → PT) (Rp : RT) : PT := tIret Rp
def w_X12_termAt_52 (M : CT) (G : Nat → PT) (Rp : RT) : PT := tConst (-1) <| w_X12_termAt_53 M G Rp
def w_X12_termAt_18 (M : CT) (G : Nat → PT) (Rp : RT) : PT := tIload 2 <| tI2l <| tAload 0 <| tIload 1 <| tConst 5 <| tFn 3 F_X12_of <| tConst 1 <| tBin (fun x y => x + y) <| tI2l <| tAload 0 <| tIload 1 <| tConst 4 <| tFn 3 F_X12_of <| tI2l <| tFn 3 F_X12_within <| tIf (fun x => x = 0) (w_X12_termAt_52 M G Rp) <| tAload 0 <| tIload 1 <| tIload 2 <| tConst 0 <| tFn 4 F_X12_ofEntry <| tGoto (w_X12_termAt_53 M G Rp)
def w_X12_termAt_0 (M : CT) (G : Nat → PT) (Rp : RT) : PT := tIload 2 <| tAload 0 <| tIload 1 <| tConst 5 <| tFn 3 F_X12_of <| tIf2 (fun x y => x ≠ y) (w_X12_termAt_18 M G Rp) <| tAload 0 <| tIload 1 <| tConst 6 <| tFn 3 F_X12_of <| tIret Rp
set_option maxRecDepth 20000 in
theorem b_X12_termAt_53 {Z : Zt} {d : Nat} {p : Program} {e : Env} {R : Room} {s : State} {m : MethodId} {args : Array Value} {below : List Frame} {meth : Method} {c : Code} {Rp : RT} (C : Cx Z (d + 2) jX12_termAt RX12 p R s m args meth c) : Sd Z jX12_termAt p e R s m args below meth c (MQ below (QcS Z Rp) args s 0 0 (fun a => Z.2.2.1 < a)) 53 (w_X12_termAt_53 (MS Z (d + 2)) (Gw Z 3 p e R s m args below meth c (MQ below (QcS Z Rp) args s 0 0 (fun a => Z.2.2.1 < a))) Rp) := by
  unfold w_X12_termAt_53
  exact s_iret C rfl (by decide +kernel)
set_option maxRecDepth 20000 in
theorem b_X12_termAt_52 {Z : Zt} {d : Nat} {p : Program} {e : Env} {R : Room} {s : State} {m : MethodId} {args : Array Value} {below : List Frame} {meth : Method} {c : Code} {Rp : RT} (C : Cx Z (d + 2) jX12_termAt RX12 p R s m args meth c) : Sd Z jX12_termAt p e R s m args below meth c (MQ below (QcS Z Rp) args s 0 0 (fun a => Z.2.2.1 < a)) 52 (w_X12_termAt_52 (MS Z (d + 2)) (Gw Z 3 p e R s m args below meth c (MQ below (QcS Z Rp) args s 0 0 (fun a => Z.2.2.1 < a))) Rp) := by
  unfold w_X12_termAt_52
  refine s_iconst (n := (-1)) C (by decide +kernel) (by decide) ?_
  exact (b_X12_termAt_53 C)
set_option maxRecDepth 20000 in
theorem b_X12_termAt_18 {Z : Zt} {d : Nat} {p : Program} {e : Env} {R : Room} {s : State} {m : MethodId} {args : Array Value} {below : List Frame} {meth : Method} {c : Code} {Rp : RT} (C : Cx Z (d + 2) jX12_termAt RX12 p R s m args meth c) : Sd Z jX12_termAt p e R s m args below meth c (MQ below (QcS Z Rp) args s 0 0 (fun a => Z.2.2.1 < a)) 18 (w_X12_termAt_18 (MS Z (d + 2)) (Gw Z 3 p e R s m args below meth c (MQ below (QcS Z Rp) args s 0 0 (fun a => Z.2.2.1 < a))) Rp) := by
  unfold w_X12_termAt_18
  refine s_iload_n (k := 2) C (by decide +kernel) ?_
  refine s_i2l C (by decide +kernel) ?_
  refine s_aload_n (k := 0) C (by decide +kernel) ?_
  refine s_iload_n (k := 1) C (by decide +kernel) ?_
  refine s_iconst (n := 5) C (by decide +kernel) (by decide) ?_
  refine s_fnV C (j2 := jX12_of) (cl := 12) (nf := 27) rfl rfl (by decide +kernel) rfl w_6_220 w_6_222 w_p3_11 w_1_13 w_6_223 (by decide +kernel) (fun _ _ _ _ _ h => f_X12_of h) (fun _ _ _ _ _ h => r_X12_of h) ?_
  refine s_iconst (n := 1) C (by decide +kernel) (by decide) ?_
  refine s_iadd C (by decide +kernel) ?_
  refine s_i2l C (by decide +kernel) ?_
  refine s_aload_n (k := 0) C (by decide +kernel) ?_
  refine s_iload_n (k := 1) C (by decide +kernel) ?_
  refine s_iconst (n := 4) C (by decide +kernel) (by decide) ?_
  refine s_fnV C (j2 := jX12_of) (cl := 12) (nf := 27) rfl rfl (by decide +kernel) rfl w_6_220 w_6_222 w_p3_11 w_1_13 w_6_223 (by decide +kernel) (fun _ _ _ _ _ h => f_X12_of h) (fun _ _ _ _ _ h => r_X12_of h) ?_
  refine s_i2l C (by decide +kernel) ?_
  refine s_fnS C (j2 := jX12_within) (by decide +kernel) rfl w_6_175 w_6_176 w_1_13 w_6_177 (by decide +kernel) (fun _ _ _ _ _ h => f_X12_within h) ?_
  refine s_if_eq (off := 13) (tgt := 52) C (by decide +kernel) (by decide) (b_X12_termAt_52 C) ?_
  refine s_aload_n (k := 0) C (by decide +kernel) ?_
  refine s_iload_n (k := 1) C (by decide +kernel) ?_
  refine s_iload_n (k := 2) C (by decide +kernel) ?_
  refine s_iconst (n := 0) C (by decide +kernel) (by decide) ?_
  refine s_fnV C (j2 := jX12_ofEntry) (cl := 12) (nf := 27) rfl rfl (by decide +kernel) rfl w_6_228 w_6_230 w_p3_13 w_1_13 w_6_231 (by decide +kernel) (fun _ _ _ _ _ h => f_X12_ofEntry h) (fun _ _ _ _ _ h => r_X12_ofEntry h) ?_
  exact s_goto (off := 4) (tgt := 53) C (by decide +kernel) (by decide) (b_X12_termAt_53 C)
set_option maxRecDepth 20000 in
theorem b_X12_termAt_0 {Z : Zt} {d : Nat} {p : Program} {e : Env} {R : Room} {s : State} {m : MethodId} {args : Array Value} {below : List Frame} {meth : Method} {c : Code} {Rp : RT} (C : Cx Z (d + 2) jX12_termAt RX12 p R s m args meth c) : Sd Z jX12_termAt p e R s m args below meth c (MQ below (QcS Z Rp) args s 0 0 (fun a => Z.2.2.1 < a)) 0 (w_X12_termAt_0 (MS Z (d + 2)) (Gw Z 3 p e R s m args below meth c (MQ below (QcS Z Rp) args s 0 0 (fun a => Z.2.2.1 < a))) Rp) := by
  unfold w_X12_termAt_0
  refine s_iload_n (k := 2) C (by decide +kernel) ?_
  refine s_aload_n (k := 0) C (by decide +kernel) ?_
  refine s_iload_n (k := 1) C (by decide +kernel) ?_
  refine s_iconst (n := 5) C (by decide +kernel) (by decide) ?_
  refine s_fnV C (j2 := jX12_of) (cl := 12) (nf := 27) rfl rfl (by decide +kernel) rfl w_6_220 w_6_222 w_p3_11 w_1_13 w_6_223 (by decide +kernel) (fun _ _ _ _ _ h => f_X12_of h) (fun _ _ _ _ _ h => r_X12_of h) ?_
  refine s_icmp_ne (off := 11) (tgt := 18) C (by decide +kernel) (by decide) (b_X12_termAt_18 C) ?_
  refine s_aload_n (k := 0) C (by decide +kernel) ?_
  refine s_iload_n (k := 1) C (by decide +kernel) ?_
  refine s_bipush (n := 6) C (by decide +kernel) (by decide) ?_
  refine s_fnV C (j2 := jX12_of) (cl := 12) (nf := 27) rfl rfl (by decide +kernel) rfl w_6_220 w_6_222 w_p3_11 w_1_13 w_6_223 (by decide +kernel) (fun _ _ _ _ _ h => f_X12_of h) (fun _ _ _ _ _ h => r_X12_of h) ?_
  exact s_iret C rfl (by decide +kernel)
theorem ms_X12_termAt {Z : Zt} {d : Nat} {S : Sh} {μ : Mi} {ρ : Mr} {Rp : RT} (a0 : Nat) (x1 : Int32) (x2 : Int32) (h : ∀ G : Nat → PT, w_X12_termAt_0 (MS Z (d + 2)) G Rp [.ref a0, .int x1, .int x2] [] S (0, 0) μ ρ) : MS Z (d + 3) jX12_termAt [.ref a0, .int x1, .int x2] S μ ρ Rp :=
  MS_of [.ref a0, .int x1, .int x2] (by decide +kernel) rfl rfl (Nat.le_of_ble_eq_true rfl) rfl (fun p e R s m args below meth c C => b_X12_termAt_0 C _ _ _ _ _ _ (h _ ))
def w_X12_laysMembersUpTo_127 (M : CT) (G : Nat → PT) (Rp : RT) : PT := tPutI 12 27 8 <| tAload 0 <| tAload 0 <| tIload 1 <| tConst 10 <| tFn 3 F_X12_of <| tPutI 12 27 9 <| tVret Rp
def w_X12_laysMembersUpTo_120 (M : CT) (G : Nat → PT) (Rp : RT) : PT := tAload 0 <| tIload 1 <| tConst 9 <| tFn 3 F_X12_of <| w_X12_laysMembersUpTo_127 M G Rp
def w_X12_laysMembersUpTo_88 (M : CT) (G : Nat → PT) (Rp : RT) : PT := tAload 0 <| tConst 0 <| tPutI 12 27 10 <| tAload 0 <| tConst 0 <| tPutI 12 27 11 <| tAload 0 <| tAload 0 <| tIload 1 <| tConst 9 <| tFn 3 F_X12_of <| tIf (fun x => x ≠ 0) (w_X12_laysMembersUpTo_120 M G Rp) <| tAload 0 <| tGetR 12 27 1 <| tConst 4514 <| tAld 20 <| tGoto (w_X12_laysMembersUpTo_127 M G Rp)
def w_X12_laysMembersUpTo_82 (M : CT) (G : Nat → PT) (Rp : RT) : PT := tIinc 3 (-1) <| tGoto (G 2)
def w_X12_laysMembersUpTo_78 (M : CT) (G : Nat → PT) (Rp : RT) : PT := tPutI 12 27 9 <| tVret Rp
def w_X12_laysMembersUpTo_77 (M : CT) (G : Nat → PT) (Rp : RT) : PT := tConst 0 <| w_X12_laysMembersUpTo_78 M G Rp
def w_X12_laysMembersUpTo_42 (M : CT) (G : Nat → PT) (Rp : RT) : PT := tAload 0 <| tIload 3 <| tPutI 12 27 11 <| tAload 0 <| tAload 0 <| tIload 1 <| tIload 3 <| tConst 2 <| tFn 4 F_X12_ofEntry <| tPutI 12 27 8 <| tAload 0 <| tAload 0 <| tGetI 12 27 10 <| tConst 3 <| tIf2 (fun x y => x ≠ y) (w_X12_laysMembersUpTo_77 M G Rp) <| tAload 0 <| tIload 1 <| tIload 3 <| tConst 3 <| tFn 4 F_X12_ofEntry <| tGoto (w_X12_laysMembersUpTo_78 M G Rp)
def w_X12_laysMembersUpTo_2 (M : CT) (G : Nat → PT) (Rp : RT) : PT := tIload 3 <| tAload 0 <| tIload 1 <| tConst 5 <| tFn 3 F_X12_of <| tIf2 (fun x y => x ≤ y) (w_X12_laysMembersUpTo_88 M G Rp) <| tAload 0 <| tAload 0 <| tIload 1 <| tIload 3 <| tConst 1 <| tFn 4 F_X12_ofEntry <| tPutI 12 27 10 <| tAload 0 <| tGetI 12 27 10 <| tConst 3 <| tIf2 (fun x y => x = y) (w_X12_laysMembersUpTo_42 M G Rp) <| tAload 0 <| tGetI 12 27 10 <| tConst 4 <| tIf2 (fun x y => x = y) (w_X12_laysMembersUpTo_42 M G Rp) <| tGoto (w_X12_laysMembersUpTo_82 M G Rp)
def w_X12_laysMembersUpTo_0 (M : CT) (G : Nat → PT) (Rp : RT) : PT := tIload 2 <| tIstore 3 <| G 2
set_option maxRecDepth 20000 in
theorem b_X12_laysMembersUpTo_127 {Z : Zt} {d : Nat} {p : Program} {e : Env} {R : Room} {s : State} {m : MethodId} {args : Array Value} {below : List Frame} {meth : Method} {c : Code} {Rp : RT} (C : Cx Z (d + 2) jX12_laysMembersUpTo RX12 p R s m args meth c) : Sd Z jX12_laysMembersUpTo p e R s m args below meth c (MQ below (QcS Z Rp) args s 0 0 (fun a => Z.2.2.1 < a)) 127 (w_X12_laysMembersUpTo_127 (MS Z (d + 2)) (Gw Z 4 p e R s m args below meth c (MQ below (QcS Z Rp) args s 0 0 (fun a => Z.2.2.1 < a))) Rp) := by
  unfold w_X12_laysMembersUpTo_127
  refine s_putI C w_6_95 (by decide +kernel) rfl (Or.inl rfl) ?_
  refine s_aload_n (k := 0) C (by decide +kernel) ?_
  refine s_aload_n (k := 0) C (by decide +kernel) ?_
  refine s_iload_n (k := 1) C (by decide +kernel) ?_
  refine s_bipush (n := 10) C (by decide +kernel) (by decide) ?_
  refine s_fnV C (j2 := jX12_of) (cl := 12) (nf := 27) rfl rfl (by decide +kernel) rfl w_6_220 w_6_222 w_p3_11 w_1_13 w_6_223 (by decide +kernel) (fun _ _ _ _ _ h => f_X12_of h) (fun _ _ _ _ _ h => r_X12_of h) ?_
  refine s_putI C w_6_96 (by decide +kernel) rfl (Or.inl rfl) ?_
  exact s_vret C rfl (by decide +kernel)
set_option maxRecDepth 20000 in
theorem b_X12_laysMembersUpTo_120 {Z : Zt} {d : Nat} {p : Program} {e : Env} {R : Room} {s : State} {m : MethodId} {args : Array Value} {below : List Frame} {meth : Method} {c : Code} {Rp : RT} (C : Cx Z (d + 2) jX12_laysMembersUpTo RX12 p R s m args meth c) : Sd Z jX12_laysMembersUpTo p e R s m args below meth c (MQ below (QcS Z Rp) args s 0 0 (fun a => Z.2.2.1 < a)) 120 (w_X12_laysMembersUpTo_120 (MS Z (d + 2)) (Gw Z 4 p e R s m args below meth c (MQ below (QcS Z Rp) args s 0 0 (fun a => Z.2.2.1 < a))) Rp) := by
  unfold w_X12_laysMembersUpTo_120
  refine s_aload_n (k := 0) C (by decide +kernel) ?_
  refine s_iload_n (k := 1) C (by decide +kernel) ?_
  refine s_bipush (n := 9) C (by decide +kernel) (by decide) ?_
  refine s_fnV C (j2 := jX12_of) (cl := 12) (nf := 27) rfl rfl (by decide +kernel) rfl w_6_220 w_6_222 w_p3_11 w_1_13 w_6_223 (by decide +kernel) (fun _ _ _ _ _ h => f_X12_of h) (fun _ _ _ _ _ h => r_X12_of h) ?_
  exact (b_X12_laysMembersUpTo_127 C)
set_option maxRecDepth 20000 in
theorem b_X12_laysMembersUpTo_88 {Z : Zt} {d : Nat} {p : Program} {e : Env} {R : Room} {s : State} {m : MethodId} {args : Array Value} {below : List Frame} {meth : Method} {c : Code} {Rp : RT} (C : Cx Z (d + 2) jX12_laysMembersUpTo RX12 p R s m args meth c) : Sd Z jX12_laysMembersUpTo p e R s m args below meth c (MQ below (QcS Z Rp) args s 0 0 (fun a => Z.2.2.1 < a)) 88 (w_X12_laysMembersUpTo_88 (MS Z (d + 2)) (Gw Z 4 p e R s m args below meth c (MQ below (QcS Z Rp) args s 0 0 (fun a => Z.2.2.1 < a))) Rp) := by
  unfold w_X12_laysMembersUpTo_88
  refine s_aload_n (k := 0) C (by decide +kernel) ?_
  refine s_iconst (n := 0) C (by decide +kernel) (by decide) ?_
  refine s_putI C w_6_97 (by decide +kernel) rfl (Or.inl rfl) ?_
  refine s_aload_n (k := 0) C (by decide +kernel) ?_
  refine s_iconst (n := 0) C (by decide +kernel) (by decide) ?_
  refine s_putI C w_6_98 (by decide +kernel) rfl (Or.inl rfl) ?_
  refine s_aload_n (k := 0) C (by decide +kernel) ?_
  refine s_aload_n (k := 0) C (by decide +kernel) ?_
  refine s_iload_n (k := 1) C (by decide +kernel) ?_
  refine s_bipush (n := 9) C (by decide +kernel) (by decide) ?_
  refine s_fnV C (j2 := jX12_of) (cl := 12) (nf := 27) rfl rfl (by decide +kernel) rfl w_6_220 w_6_222 w_p3_11 w_1_13 w_6_223 (by decide +kernel) (fun _ _ _ _ _ h => f_X12_of h) (fun _ _ _ _ _ h => r_X12_of h) ?_
  refine s_if_ne (off := 14) (tgt := 120) C (by decide +kernel) (by decide) (b_X12_laysMembersUpTo_120 C) ?_
  refine s_aload_n (k := 0) C (by decide +kernel) ?_
  refine s_getR C w_6_88 (by decide +kernel) rfl ?_
  refine s_sipush (n := 4514) C (by decide +kernel) (by decide) ?_
  refine s_iald C (by decide +kernel) ?_
  exact s_goto (off := 10) (tgt := 127) C (by decide +kernel) (by decide) (b_X12_laysMembersUpTo_127 C)
set_option maxRecDepth 20000 in
theorem b_X12_laysMembersUpTo_82 {Z : Zt} {d : Nat} {p : Program} {e : Env} {R : Room} {s : State} {m : MethodId} {args : Array Value} {below : List Frame} {meth : Method} {c : Code} {Rp : RT} (C : Cx Z (d + 2) jX12_laysMembersUpTo RX12 p R s m args meth c) : Sd Z jX12_laysMembersUpTo p e R s m args below meth c (MQ below (QcS Z Rp) args s 0 0 (fun a => Z.2.2.1 < a)) 82 (w_X12_laysMembersUpTo_82 (MS Z (d + 2)) (Gw Z 4 p e R s m args below meth c (MQ below (QcS Z Rp) args s 0 0 (fun a => Z.2.2.1 < a))) Rp) := by
  unfold w_X12_laysMembersUpTo_82
  refine s_iinc (n := (-1)) C (by decide +kernel) (by decide) ?_
  exact s_goto (off := (-83)) (tgt := 2) C (by decide +kernel) (by decide) (fun _ _ _ _ _ _ h => h)
set_option maxRecDepth 20000 in
theorem b_X12_laysMembersUpTo_78 {Z : Zt} {d : Nat} {p : Program} {e : Env} {R : Room} {s : State} {m : MethodId} {args : Array Value} {below : List Frame} {meth : Method} {c : Code} {Rp : RT} (C : Cx Z (d + 2) jX12_laysMembersUpTo RX12 p R s m args meth c) : Sd Z jX12_laysMembersUpTo p e R s m args below meth c (MQ below (QcS Z Rp) args s 0 0 (fun a => Z.2.2.1 < a)) 78 (w_X12_laysMembersUpTo_78 (MS Z (d + 2)) (Gw Z 4 p e R s m args below meth c (MQ below (QcS Z Rp) args s 0 0 (fun a => Z.2.2.1 < a))) Rp) := by
  unfold w_X12_laysMembersUpTo_78
  refine s_putI C w_6_96 (by decide +kernel) rfl (Or.inl rfl) ?_
  exact s_vret C rfl (by decide +kernel)
set_option maxRecDepth 20000 in
theorem b_X12_laysMembersUpTo_77 {Z : Zt} {d : Nat} {p : Program} {e : Env} {R : Room} {s : State} {m : MethodId} {args : Array Value} {below : List Frame} {meth : Method} {c : Code} {Rp : RT} (C : Cx Z (d + 2) jX12_laysMembersUpTo RX12 p R s m args meth c) : Sd Z jX12_laysMembersUpTo p e R s m args below meth c (MQ below (QcS Z Rp) args s 0 0 (fun a => Z.2.2.1 < a)) 77 (w_X12_laysMembersUpTo_77 (MS Z (d + 2)) (Gw Z 4 p e R s m args below meth c (MQ below (QcS Z Rp) args s 0 0 (fun a => Z.2.2.1 < a))) Rp) := by
  unfold w_X12_laysMembersUpTo_77
  refine s_iconst (n := 0) C (by decide +kernel) (by decide) ?_
  exact (b_X12_laysMembersUpTo_78 C)
set_option maxRecDepth 20000 in
theorem b_X12_laysMembersUpTo_42 {Z : Zt} {d : Nat} {p : Program} {e : Env} {R : Room} {s : State} {m : MethodId} {args : Array Value} {below : List Frame} {meth : Method} {c : Code} {Rp : RT} (C : Cx Z (d + 2) jX12_laysMembersUpTo RX12 p R s m args meth c) : Sd Z jX12_laysMembersUpTo p e R s m args below meth c (MQ below (QcS Z Rp) args s 0 0 (fun a => Z.2.2.1 < a)) 42 (w_X12_laysMembersUpTo_42 (MS Z (d + 2)) (Gw Z 4 p e R s m args below meth c (MQ below (QcS Z Rp) args s 0 0 (fun a => Z.2.2.1 < a))) Rp) := by
  unfold w_X12_laysMembersUpTo_42
  refine s_aload_n (k := 0) C (by decide +kernel) ?_
  refine s_iload_n (k := 3) C (by decide +kernel) ?_
  refine s_putI C w_6_98 (by decide +kernel) rfl (Or.inl rfl) ?_
  refine s_aload_n (k := 0) C (by decide +kernel) ?_
  refine s_aload_n (k := 0) C (by decide +kernel) ?_
  refine s_iload_n (k := 1) C (by decide +kernel) ?_
  refine s_iload_n (k := 3) C (by decide +kernel) ?_
  refine s_iconst (n := 2) C (by decide +kernel) (by decide) ?_
  refine s_fnV C (j2 := jX12_ofEntry) (cl := 12) (nf := 27) rfl rfl (by decide +kernel) rfl w_6_228 w_6_230 w_p3_13 w_1_13 w_6_231 (by decide +kernel) (fun _ _ _ _ _ h => f_X12_ofEntry h) (fun _ _ _ _ _ h => r_X12_ofEntry h) ?_
  refine s_putI C w_6_95 (by decide +kernel) rfl (Or.inl rfl) ?_
  refine s_aload_n (k := 0) C (by decide +kernel) ?_
  refine s_aload_n (k := 0) C (by decide +kernel) ?_
  refine s_getI C w_6_97 (by decide +kernel) rfl ?_
  refine s_iconst (n := 3) C (by decide +kernel) (by decide) ?_
  refine s_icmp_ne (off := 13) (tgt := 77) C (by decide +kernel) (by decide) (b_X12_laysMembersUpTo_77 C) ?_
  refine s_aload_n (k := 0) C (by decide +kernel) ?_
  refine s_iload_n (k := 1) C (by decide +kernel) ?_
  refine s_iload_n (k := 3) C (by decide +kernel) ?_
  refine s_iconst (n := 3) C (by decide +kernel) (by decide) ?_
  refine s_fnV C (j2 := jX12_ofEntry) (cl := 12) (nf := 27) rfl rfl (by decide +kernel) rfl w_6_228 w_6_230 w_p3_13 w_1_13 w_6_231 (by decide +kernel) (fun _ _ _ _ _ h => f_X12_ofEntry h) (fun _ _ _ _ _ h => r_X12_ofEntry h) ?_
  exact s_goto (off := 4) (tgt := 78) C (by decide +kernel) (by decide) (b_X12_laysMembersUpTo_78 C)
set_option maxRecDepth 20000 in
theorem b_X12_laysMembersUpTo_2 {Z : Zt} {d : Nat} {p : Program} {e : Env} {R : Room} {s : State} {m : MethodId} {args : Array Value} {below : List Frame} {meth : Method} {c : Code} {Rp : RT} (C : Cx Z (d + 2) jX12_laysMembersUpTo RX12 p R s m args meth c) : Sd Z jX12_laysMembersUpTo p e R s m args below meth c (MQ below (QcS Z Rp) args s 0 0 (fun a => Z.2.2.1 < a)) 2 (w_X12_laysMembersUpTo_2 (MS Z (d + 2)) (Gw Z 4 p e R s m args below meth c (MQ below (QcS Z Rp) args s 0 0 (fun a => Z.2.2.1 < a))) Rp) := by
  unfold w_X12_laysMembersUpTo_2
  refine s_iload_n (k := 3) C (by decide +kernel) ?_
  refine s_aload_n (k := 0) C (by decide +kernel) ?_
  refine s_iload_n (k := 1) C (by decide +kernel) ?_
  refine s_iconst (n := 5) C (by decide +kernel) (by decide) ?_
  refine s_fnV C (j2 := jX12_of) (cl := 12) (nf := 27) rfl rfl (by decide +kernel) rfl w_6_220 w_6_222 w_p3_11 w_1_13 w_6_223 (by decide +kernel) (fun _ _ _ _ _ h => f_X12_of h) (fun _ _ _ _ _ h => r_X12_of h) ?_
  refine s_icmp_le (off := 79) (tgt := 88) C (by decide +kernel) (by decide) (b_X12_laysMembersUpTo_88 C) ?_
  refine s_aload_n (k := 0) C (by decide +kernel) ?_
  refine s_aload_n (k := 0) C (by decide +kernel) ?_
  refine s_iload_n (k := 1) C (by decide +kernel) ?_
  refine s_iload_n (k := 3) C (by decide +kernel) ?_
  refine s_iconst (n := 1) C (by decide +kernel) (by decide) ?_
  refine s_fnV C (j2 := jX12_ofEntry) (cl := 12) (nf := 27) rfl rfl (by decide +kernel) rfl w_6_228 w_6_230 w_p3_13 w_1_13 w_6_231 (by decide +kernel) (fun _ _ _ _ _ h => f_X12_ofEntry h) (fun _ _ _ _ _ h => r_X12_ofEntry h) ?_
  refine s_putI C w_6_97 (by decide +kernel) rfl (Or.inl rfl) ?_
  refine s_aload_n (k := 0) C (by decide +kernel) ?_
  refine s_getI C w_6_97 (by decide +kernel) rfl ?_
  refine s_iconst (n := 3) C (by decide +kernel) (by decide) ?_
  refine s_icmp_eq (off := 14) (tgt := 42) C (by decide +kernel) (by decide) (b_X12_laysMembersUpTo_42 C) ?_
  refine s_aload_n (k := 0) C (by decide +kernel) ?_
  refine s_getI C w_6_97 (by decide +kernel) rfl ?_
  refine s_iconst (n := 4) C (by decide +kernel) (by decide) ?_
  refine s_icmp_eq (off := 6) (tgt := 42) C (by decide +kernel) (by decide) (b_X12_laysMembersUpTo_42 C) ?_
  exact s_goto (off := 43) (tgt := 82) C (by decide +kernel) (by decide) (b_X12_laysMembersUpTo_82 C)
set_option maxRecDepth 20000 in
theorem b_X12_laysMembersUpTo_0 {Z : Zt} {d : Nat} {p : Program} {e : Env} {R : Room} {s : State} {m : MethodId} {args : Array Value} {below : List Frame} {meth : Method} {c : Code} {Rp : RT} (C : Cx Z (d + 2) jX12_laysMembersUpTo RX12 p R s m args meth c) : Sd Z jX12_laysMembersUpTo p e R s m args below meth c (MQ below (QcS Z Rp) args s 0 0 (fun a => Z.2.2.1 < a)) 0 (w_X12_laysMembersUpTo_0 (MS Z (d + 2)) (Gw Z 4 p e R s m args below meth c (MQ below (QcS Z Rp) args s 0 0 (fun a => Z.2.2.1 < a))) Rp) := by
  unfold w_X12_laysMembersUpTo_0
  refine s_iload_n (k := 2) C (by decide +kernel) ?_
  refine s_istore_n (k := 3) C (by decide +kernel) ?_
  exact (fun _ _ _ _ _ _ h => h)
theorem ms_X12_laysMembersUpTo {Z : Zt} {d : Nat} {S : Sh} {μ : Mi} {ρ : Mr} {Rp : RT} (a0 : Nat) (x1 : Int32) (x2 : Int32) (h : ∀ G : Nat → PT, (∀ (L st : List Value) (S : Sh) (q : Nat × Nat) (μ : Mi) (ρ : Mr), w_X12_laysMembersUpTo_2 (MS Z (d + 2)) G Rp L st S q μ ρ → G 2 L st S q μ ρ) → w_X12_laysMembersUpTo_0 (MS Z (d + 2)) G Rp [.ref a0, .int x1, .int x2, .null] [] S (0, 0) μ ρ) : MS Z (d + 3) jX12_laysMembersUpTo [.ref a0, .int x1, .int x2] S μ ρ Rp :=
  MS_of [.ref a0, .int x1, .int x2, .null] (by decide +kernel) rfl rfl (Nat.le_of_ble_eq_true rfl) rfl (fun p e R s m args below meth c C => b_X12_laysMembersUpTo_0 C _ _ _ _ _ _ (h _ (b_X12_laysMembersUpTo_2 C)))
