/-! ===== the class: who could lead ===== -/
def w_X3_reaches_180 (M : CT) (G : Nat → PT) (Rp : RT) : PT := tConst 0 <| tZret Rp
def w_X3_reaches_174 (M : CT) (G : Nat → PT) (Rp : RT) : PT := tIinc 5 1 <| tGoto (G 102)
def w_X3_reaches_102 (M : CT) (G : Nat → PT) (Rp : RT) : PT := tIload 5 <| tAload 1 <| tGetR 10 6 1 <| tGetI 1 6 2 <| tIf2 (fun x y => y ≤ x) (w_X3_reaches_180 M G Rp) <| tAload 1 <| tGetR 10 6 1 <| tGetR 1 6 0 <| tIload 5 <| tAldR 32 <| tAstore 6 <| tAload 6 <| tIload 2 <| tIload 3 <| tFn 3 F_X3_mayHelp <| tIf (fun x => x = 0) (w_X3_reaches_174 M G Rp) <| tAload 1 <| tAload 6 <| tFn 2 F_X10_canCome <| tIf (fun x => x = 0) (w_X3_reaches_174 M G Rp) <| tAload 4 <| tAload 1 <| tFn 2 F_X10_copyFrom <| tAload 4 <| tIload 5 <| tFn2 2 F_X10_takeIn <| tPop <| tAload 0 <| tAload 4 <| tIload 2 <| tIload 3 <| tConst 1 <| tBin (fun x y => x - y) <| tCallS M jX3_reaches 4 <| tIf (fun x => x = 0) (w_X3_reaches_174 M G Rp) <| tConst 1 <| tZret Rp
def w_X3_reaches_99 (M : CT) (G : Nat → PT) (Rp : RT) : PT := tConst 0 <| tIstore 5 <| G 102
def w_X3_reaches_93 (M : CT) (G : Nat → PT) (Rp : RT) : PT := tIinc 5 1 <| tGoto (G 38)
def w_X3_reaches_55 (M : CT) (G : Nat → PT) (Rp : RT) : PT := tAload 1 <| tIload 5 <| tFn 2 F_X10_canTimeOut <| tIf (fun x => x = 0) (w_X3_reaches_93 M G Rp) <| tAload 4 <| tAload 1 <| tFn 2 F_X10_copyFrom <| tAload 4 <| tIload 5 <| tFn 2 F_X10_timesOut <| tPop <| tAload 0 <| tAload 4 <| tIload 2 <| tIload 3 <| tConst 1 <| tBin (fun x y => x - y) <| tCallS M jX3_reaches 4 <| tIf (fun x => x = 0) (w_X3_reaches_93 M G Rp) <| tConst 1 <| tZret Rp
def w_X3_reaches_38 (M : CT) (G : Nat → PT) (Rp : RT) : PT := tIload 5 <| tConst 5 <| tIf2 (fun x y => y ≤ x) (w_X3_reaches_99 M G Rp) <| tIload 5 <| tIload 2 <| tIf2 (fun x y => x = y) (w_X3_reaches_55 M G Rp) <| tIload 3 <| tConst 2 <| tIf2 (fun x y => x ≤ y) (w_X3_reaches_93 M G Rp) <| w_X3_reaches_55 M G Rp
def w_X3_reaches_28 (M : CT) (G : Nat → PT) (Rp : RT) : PT := tAload 0 <| tIload 3 <| tConst 1 <| tBin (fun x y => x - y) <| tAldR 40 <| tAstore 4 <| tConst 0 <| tIstore 5 <| G 38
def w_X3_reaches_26 (M : CT) (G : Nat → PT) (Rp : RT) : PT := tConst 0 <| tZret Rp
def w_X3_reaches_15 (M : CT) (G : Nat → PT) (Rp : RT) : PT := tIload 3 <| tConst 1 <| tIf2 (fun x y => x < y) (w_X3_reaches_26 M G Rp) <| tIload 3 <| tAload 0 <| tAlen <| tIf2 (fun x y => x ≤ y) (w_X3_reaches_28 M G Rp) <| w_X3_reaches_26 M G Rp
def w_X3_reaches_0 (M : CT) (G : Nat → PT) (Rp : RT) : PT := tAload 1 <| tGetR 10 6 0 <| tIload 2 <| tAldR 37 <| tGetI 7 18 4 <| tConst 2 <| tIf2 (fun x y => x ≠ y) (w_X3_reaches_15 M G Rp) <| tConst 1 <| tZret Rp
set_option maxRecDepth 20000 in
theorem b_X3_reaches_180 {Z : Zt} {d : Nat} {p : Program} {e : Env} {R : Room} {s : State} {m : MethodId} {args : Array Value} {below : List Frame} {meth : Method} {c : Code} {Rp : RT} (C : Cx Z (d + 5) jX3_reaches RX3 p R s m args meth c) : Sd Z jX3_reaches p e R s m args below meth c (MQ below (QcS Z Rp) args s 0 0 (fun a => Z.2.2.1 < a)) 180 (w_X3_reaches_180 (MS Z (d + 5)) (Gw Z 7 p e R s m args below meth c (MQ below (QcS Z Rp) args s 0 0 (fun a => Z.2.2.1 < a))) Rp) := by
  unfold w_X3_reaches_180
  refine s_iconst (n := 0) C (by decide +kernel) (by decide) ?_
  exact s_zret C rfl (by decide +kernel)
set_option maxRecDepth 20000 in
theorem b_X3_reaches_174 {Z : Zt} {d : Nat} {p : Program} {e : Env} {R : Room} {s : State} {m : MethodId} {args : Array Value} {below : List Frame} {meth : Method} {c : Code} {Rp : RT} (C : Cx Z (d + 5) jX3_reaches RX3 p R s m args meth c) : Sd Z jX3_reaches p e R s m args below meth c (MQ below (QcS Z Rp) args s 0 0 (fun a => Z.2.2.1 < a)) 174 (w_X3_reaches_174 (MS Z (d + 5)) (Gw Z 7 p e R s m args below meth c (MQ below (QcS Z Rp) args s 0 0 (fun a => Z.2.2.1 < a))) Rp) := by
  unfold w_X3_reaches_174
  refine s_iinc (n := 1) C (by decide +kernel) (by decide) ?_
  exact s_goto (off := (-75)) (tgt := 102) C (by decide +kernel) (by decide) (fun _ _ _ _ _ _ h => h)
set_option maxRecDepth 20000 in
theorem b_X3_reaches_102 {Z : Zt} {d : Nat} {p : Program} {e : Env} {R : Room} {s : State} {m : MethodId} {args : Array Value} {below : List Frame} {meth : Method} {c : Code} {Rp : RT} (C : Cx Z (d + 5) jX3_reaches RX3 p R s m args meth c) : Sd Z jX3_reaches p e R s m args below meth c (MQ below (QcS Z Rp) args s 0 0 (fun a => Z.2.2.1 < a)) 102 (w_X3_reaches_102 (MS Z (d + 5)) (Gw Z 7 p e R s m args below meth c (MQ below (QcS Z Rp) args s 0 0 (fun a => Z.2.2.1 < a))) Rp) := by
  unfold w_X3_reaches_102
  refine s_iload (k := 5) C (by decide +kernel) ?_
  refine s_aload_n (k := 1) C (by decide +kernel) ?_
  refine s_getR C w_2_118 (by decide +kernel) rfl ?_
  refine s_getI C w_1_124 (by decide +kernel) rfl ?_
  refine s_icmp_ge (off := 69) (tgt := 180) C (by decide +kernel) (by decide) (b_X3_reaches_180 C) ?_
  refine s_aload_n (k := 1) C (by decide +kernel) ?_
  refine s_getR C w_2_118 (by decide +kernel) rfl ?_
  refine s_getR C w_1_120 (by decide +kernel) rfl ?_
  refine s_iload (k := 5) C (by decide +kernel) ?_
  refine s_aald C rfl (by decide +kernel) ?_
  refine s_astore (k := 6) C (by decide +kernel) ?_
  refine s_aload (k := 6) C (by decide +kernel) ?_
  refine s_iload_n (k := 2) C (by decide +kernel) ?_
  refine s_iload_n (k := 3) C (by decide +kernel) ?_
  refine s_fnS C (j2 := jX3_mayHelp) (by decide +kernel) rfl w_6_26 w_6_27 w_1_10 w_6_28 (by decide +kernel) (fun _ _ _ _ _ h => f_X3_mayHelp h) ?_
  refine s_if_eq (off := 41) (tgt := 174) C (by decide +kernel) (by decide) (b_X3_reaches_174 C) ?_
  refine s_aload_n (k := 1) C (by decide +kernel) ?_
  refine s_aload (k := 6) C (by decide +kernel) ?_
  refine s_fnV C (j2 := jX10_canCome) (cl := 10) (nf := 6) rfl rfl (by decide +kernel) rfl w_6_29 w_4_76 w_4_77 w_1_2 w_4_78 (by decide +kernel) (fun _ _ _ _ _ h => f_X10_canCome h) (fun _ _ _ _ _ h => r_X10_canCome h) ?_
  refine s_if_eq (off := 32) (tgt := 174) C (by decide +kernel) (by decide) (b_X3_reaches_174 C) ?_
  refine s_aload (k := 4) C (by decide +kernel) ?_
  refine s_aload_n (k := 1) C (by decide +kernel) ?_
  refine s_fnV C (j2 := jX10_copyFrom) (cl := 10) (nf := 6) rfl rfl (by decide +kernel) rfl w_5_215 w_3_37 w_3_38 w_1_2 w_3_39 (by decide +kernel) (fun _ _ _ _ _ h => f_X10_copyFrom h) (fun _ _ _ _ _ h => r_X10_copyFrom h) ?_
  refine s_aload (k := 4) C (by decide +kernel) ?_
  refine s_iload (k := 5) C (by decide +kernel) ?_
  refine s_fnV2 C (j2 := jX10_takeIn) (cl := 10) (nf := 6) rfl rfl (by decide +kernel) rfl w_5_219 w_4_68 w_4_69 w_1_2 w_4_70 (by decide +kernel) (fun _ _ _ _ _ h => f_X10_takeIn h) (fun _ _ _ _ _ h => r_X10_takeIn h) ?_
  refine s_pop C (by decide +kernel) ?_
  refine s_aload_n (k := 0) C (by decide +kernel) ?_
  refine s_aload (k := 4) C (by decide +kernel) ?_
  refine s_iload_n (k := 2) C (by decide +kernel) ?_
  refine s_iload_n (k := 3) C (by decide +kernel) ?_
  refine s_iconst (n := 1) C (by decide +kernel) (by decide) ?_
  refine s_isub C (by decide +kernel) ?_
  refine s_callS C (by decide +kernel) rfl w_6_23 w_6_24 w_1_10 w_6_25 (by decide +kernel) ?_
  refine s_if_eq (off := 5) (tgt := 174) C (by decide +kernel) (by decide) (b_X3_reaches_174 C) ?_
  refine s_iconst (n := 1) C (by decide +kernel) (by decide) ?_
  exact s_zret C rfl (by decide +kernel)
set_option maxRecDepth 20000 in
theorem b_X3_reaches_99 {Z : Zt} {d : Nat} {p : Program} {e : Env} {R : Room} {s : State} {m : MethodId} {args : Array Value} {below : List Frame} {meth : Method} {c : Code} {Rp : RT} (C : Cx Z (d + 5) jX3_reaches RX3 p R s m args meth c) : Sd Z jX3_reaches p e R s m args below meth c (MQ below (QcS Z Rp) args s 0 0 (fun a => Z.2.2.1 < a)) 99 (w_X3_reaches_99 (MS Z (d + 5)) (Gw Z 7 p e R s m args below meth c (MQ below (QcS Z Rp) args s 0 0 (fun a => Z.2.2.1 < a))) Rp) := by
  unfold w_X3_reaches_99
  refine s_iconst (n := 0) C (by decide +kernel) (by decide) ?_
  refine s_istore (k := 5) C (by decide +kernel) ?_
  exact (fun _ _ _ _ _ _ h => h)
set_option maxRecDepth 20000 in
theorem b_X3_reaches_93 {Z : Zt} {d : Nat} {p : Program} {e : Env} {R : Room} {s : State} {m : MethodId} {args : Array Value} {below : List Frame} {meth : Method} {c : Code} {Rp : RT} (C : Cx Z (d + 5) jX3_reaches RX3 p R s m args meth c) : Sd Z jX3_reaches p e R s m args below meth c (MQ below (QcS Z Rp) args s 0 0 (fun a => Z.2.2.1 < a)) 93 (w_X3_reaches_93 (MS Z (d + 5)) (Gw Z 7 p e R s m args below meth c (MQ below (QcS Z Rp) args s 0 0 (fun a => Z.2.2.1 < a))) Rp) := by
  unfold w_X3_reaches_93
  refine s_iinc (n := 1) C (by decide +kernel) (by decide) ?_
  exact s_goto (off := (-58)) (tgt := 38) C (by decide +kernel) (by decide) (fun _ _ _ _ _ _ h => h)
set_option maxRecDepth 20000 in
theorem b_X3_reaches_55 {Z : Zt} {d : Nat} {p : Program} {e : Env} {R : Room} {s : State} {m : MethodId} {args : Array Value} {below : List Frame} {meth : Method} {c : Code} {Rp : RT} (C : Cx Z (d + 5) jX3_reaches RX3 p R s m args meth c) : Sd Z jX3_reaches p e R s m args below meth c (MQ below (QcS Z Rp) args s 0 0 (fun a => Z.2.2.1 < a)) 55 (w_X3_reaches_55 (MS Z (d + 5)) (Gw Z 7 p e R s m args below meth c (MQ below (QcS Z Rp) args s 0 0 (fun a => Z.2.2.1 < a))) Rp) := by
  unfold w_X3_reaches_55
  refine s_aload_n (k := 1) C (by decide +kernel) ?_
  refine s_iload (k := 5) C (by decide +kernel) ?_
  refine s_fnV C (j2 := jX10_canTimeOut) (cl := 10) (nf := 6) rfl rfl (by decide +kernel) rfl w_5_220 w_3_106 w_3_107 w_1_2 w_3_108 (by decide +kernel) (fun _ _ _ _ _ h => f_X10_canTimeOut h) (fun _ _ _ _ _ h => r_X10_canTimeOut h) ?_
  refine s_if_eq (off := 32) (tgt := 93) C (by decide +kernel) (by decide) (b_X3_reaches_93 C) ?_
  refine s_aload (k := 4) C (by decide +kernel) ?_
  refine s_aload_n (k := 1) C (by decide +kernel) ?_
  refine s_fnV C (j2 := jX10_copyFrom) (cl := 10) (nf := 6) rfl rfl (by decide +kernel) rfl w_5_215 w_3_37 w_3_38 w_1_2 w_3_39 (by decide +kernel) (fun _ _ _ _ _ h => f_X10_copyFrom h) (fun _ _ _ _ _ h => r_X10_copyFrom h) ?_
  refine s_aload (k := 4) C (by decide +kernel) ?_
  refine s_iload (k := 5) C (by decide +kernel) ?_
  refine s_fnV C (j2 := jX10_timesOut) (cl := 10) (nf := 6) rfl rfl (by decide +kernel) rfl w_5_221 w_3_99 w_3_100 w_1_2 w_3_101 (by decide +kernel) (fun _ _ _ _ _ h => f_X10_timesOut h) (fun _ _ _ _ _ h => r_X10_timesOut h) ?_
  refine s_pop C (by decide +kernel) ?_
  refine s_aload_n (k := 0) C (by decide +kernel) ?_
  refine s_aload (k := 4) C (by decide +kernel) ?_
  refine s_iload_n (k := 2) C (by decide +kernel) ?_
  refine s_iload_n (k := 3) C (by decide +kernel) ?_
  refine s_iconst (n := 1) C (by decide +kernel) (by decide) ?_
  refine s_isub C (by decide +kernel) ?_
  refine s_callS C (by decide +kernel) rfl w_6_23 w_6_24 w_1_10 w_6_25 (by decide +kernel) ?_
  refine s_if_eq (off := 5) (tgt := 93) C (by decide +kernel) (by decide) (b_X3_reaches_93 C) ?_
  refine s_iconst (n := 1) C (by decide +kernel) (by decide) ?_
  exact s_zret C rfl (by decide +kernel)
set_option maxRecDepth 20000 in
theorem b_X3_reaches_38 {Z : Zt} {d : Nat} {p : Program} {e : Env} {R : Room} {s : State} {m : MethodId} {args : Array Value} {below : List Frame} {meth : Method} {c : Code} {Rp : RT} (C : Cx Z (d + 5) jX3_reaches RX3 p R s m args meth c) : Sd Z jX3_reaches p e R s m args below meth c (MQ below (QcS Z Rp) args s 0 0 (fun a => Z.2.2.1 < a)) 38 (w_X3_reaches_38 (MS Z (d + 5)) (Gw Z 7 p e R s m args below meth c (MQ below (QcS Z Rp) args s 0 0 (fun a => Z.2.2.1 < a))) Rp) := by
  unfold w_X3_reaches_38
  refine s_iload (k := 5) C (by decide +kernel) ?_
  refine s_iconst (n := 5) C (by decide +kernel) (by decide) ?_
  refine s_icmp_ge (off := 58) (tgt := 99) C (by decide +kernel) (by decide) (b_X3_reaches_99 C) ?_
  refine s_iload (k := 5) C (by decide +kernel) ?_
  refine s_iload_n (k := 2) C (by decide +kernel) ?_
  refine s_icmp_eq (off := 8) (tgt := 55) C (by decide +kernel) (by decide) (b_X3_reaches_55 C) ?_
  refine s_iload_n (k := 3) C (by decide +kernel) ?_
  refine s_iconst (n := 2) C (by decide +kernel) (by decide) ?_
  refine s_icmp_le (off := 41) (tgt := 93) C (by decide +kernel) (by decide) (b_X3_reaches_93 C) ?_
  exact (b_X3_reaches_55 C)
set_option maxRecDepth 20000 in
theorem b_X3_reaches_28 {Z : Zt} {d : Nat} {p : Program} {e : Env} {R : Room} {s : State} {m : MethodId} {args : Array Value} {below : List Frame} {meth : Method} {c : Code} {Rp : RT} (C : Cx Z (d + 5) jX3_reaches RX3 p R s m args meth c) : Sd Z jX3_reaches p e R s m args below meth c (MQ below (QcS Z Rp) args s 0 0 (fun a => Z.2.2.1 < a)) 28 (w_X3_reaches_28 (MS Z (d + 5)) (Gw Z 7 p e R s m args below meth c (MQ below (QcS Z Rp) args s 0 0 (fun a => Z.2.2.1 < a))) Rp) := by
  unfold w_X3_reaches_28
  refine s_aload_n (k := 0) C (by decide +kernel) ?_
  refine s_iload_n (k := 3) C (by decide +kernel) ?_
  refine s_iconst (n := 1) C (by decide +kernel) (by decide) ?_
  refine s_isub C (by decide +kernel) ?_
  refine s_aald C rfl (by decide +kernel) ?_
  refine s_astore (k := 4) C (by decide +kernel) ?_
  refine s_iconst (n := 0) C (by decide +kernel) (by decide) ?_
  refine s_istore (k := 5) C (by decide +kernel) ?_
  exact (fun _ _ _ _ _ _ h => h)
set_option maxRecDepth 20000 in
theorem b_X3_reaches_26 {Z : Zt} {d : Nat} {p : Program} {e : Env} {R : Room} {s : State} {m : MethodId} {args : Array Value} {below : List Frame} {meth : Method} {c : Code} {Rp : RT} (C : Cx Z (d + 5) jX3_reaches RX3 p R s m args meth c) : Sd Z jX3_reaches p e R s m args below meth c (MQ below (QcS Z Rp) args s 0 0 (fun a => Z.2.2.1 < a)) 26 (w_X3_reaches_26 (MS Z (d + 5)) (Gw Z 7 p e R s m args below meth c (MQ below (QcS Z Rp) args s 0 0 (fun a => Z.2.2.1 < a))) Rp) := by
  unfold w_X3_reaches_26
  refine s_iconst (n := 0) C (by decide +kernel) (by decide) ?_
  exact s_zret C rfl (by decide +kernel)
set_option maxRecDepth 20000 in
theorem b_X3_reaches_15 {Z : Zt} {d : Nat} {p : Program} {e : Env} {R : Room} {s : State} {m : MethodId} {args : Array Value} {below : List Frame} {meth : Method} {c : Code} {Rp : RT} (C : Cx Z (d + 5) jX3_reaches RX3 p R s m args meth c) : Sd Z jX3_reaches p e R s m args below meth c (MQ below (QcS Z Rp) args s 0 0 (fun a => Z.2.2.1 < a)) 15 (w_X3_reaches_15 (MS Z (d + 5)) (Gw Z 7 p e R s m args below meth c (MQ below (QcS Z Rp) args s 0 0 (fun a => Z.2.2.1 < a))) Rp) := by
  unfold w_X3_reaches_15
  refine s_iload_n (k := 3) C (by decide +kernel) ?_
  refine s_iconst (n := 1) C (by decide +kernel) (by decide) ?_
  refine s_icmp_lt (off := 9) (tgt := 26) C (by decide +kernel) (by decide) (b_X3_reaches_26 C) ?_
  refine s_iload_n (k := 3) C (by decide +kernel) ?_
  refine s_aload_n (k := 0) C (by decide +kernel) ?_
  refine s_alen C (by decide +kernel) ?_
  refine s_icmp_le (off := 5) (tgt := 28) C (by decide +kernel) (by decide) (b_X3_reaches_28 C) ?_
  exact (b_X3_reaches_26 C)
set_option maxRecDepth 20000 in
theorem b_X3_reaches_0 {Z : Zt} {d : Nat} {p : Program} {e : Env} {R : Room} {s : State} {m : MethodId} {args : Array Value} {below : List Frame} {meth : Method} {c : Code} {Rp : RT} (C : Cx Z (d + 5) jX3_reaches RX3 p R s m args meth c) : Sd Z jX3_reaches p e R s m args below meth c (MQ below (QcS Z Rp) args s 0 0 (fun a => Z.2.2.1 < a)) 0 (w_X3_reaches_0 (MS Z (d + 5)) (Gw Z 7 p e R s m args below meth c (MQ below (QcS Z Rp) args s 0 0 (fun a => Z.2.2.1 < a))) Rp) := by
  unfold w_X3_reaches_0
  refine s_aload_n (k := 1) C (by decide +kernel) ?_
  refine s_getR C w_2_115 (by decide +kernel) rfl ?_
  refine s_iload_n (k := 2) C (by decide +kernel) ?_
  refine s_aald C rfl (by decide +kernel) ?_
  refine s_getI C w_1_233 (by decide +kernel) rfl ?_
  refine s_iconst (n := 2) C (by decide +kernel) (by decide) ?_
  refine s_icmp_ne (off := 5) (tgt := 15) C (by decide +kernel) (by decide) (b_X3_reaches_15 C) ?_
  refine s_iconst (n := 1) C (by decide +kernel) (by decide) ?_
  exact s_zret C rfl (by decide +kernel)
theorem ms_X3_reaches {Z : Zt} {d : Nat} {S : Sh} {μ : Mi} {ρ : Mr} {Rp : RT} (a1 : Nat) (a2 : Nat) (x3 : Int32) (x4 : Int32) (h : ∀ G : Nat → PT, (∀ (L st : List Value) (S : Sh) (q : Nat × Nat) (μ : Mi) (ρ : Mr), w_X3_reaches_38 (MS Z (d + 5)) G Rp L st S q μ ρ → G 38 L st S q μ ρ) → (∀ (L st : List Value) (S : Sh) (q : Nat × Nat) (μ : Mi) (ρ : Mr), w_X3_reaches_102 (MS Z (d + 5)) G Rp L st S q μ ρ → G 102 L st S q μ ρ) → w_X3_reaches_0 (MS Z (d + 5)) G Rp [.ref a1, .ref a2, .int x3, .int x4, .null, .null, .null] [] S (0, 0) μ ρ) : MS Z (d + 6) jX3_reaches [.ref a1, .ref a2, .int x3, .int x4] S μ ρ Rp :=
  MS_of [.ref a1, .ref a2, .int x3, .int x4, .null, .null, .null] (by decide +kernel) rfl rfl (Nat.le_of_ble_eq_true rfl) rfl (fun p e R s m args below meth c C => b_X3_reaches_0 C _ _ _ _ _ _ (h _ (b_X3_reaches_38 C) (b_X3_reaches_102 C)))
theorem canC_q {A : Rw} {i f t : Nat} (hf : rowM A i 0 = nI f) (ht : rowM A i 1 = nI t) (f5 : f < 5) (t5 : t < 5) : canC A i ↔ canCm A f t := by
  unfold canC
  rw [hf, ht, nI_clamp (by omega), nI_clamp (by omega)]
theorem mayJ_H {g : Rw} {s n : Nat} (hs : s < 5) (hn : n < 2 ^ 31) : mayJ (g 0) (g 1) (g 3) (nI s) (nI n) ↔ mayH g s n := by
  unfold mayJ mayH
  have e1 : (nI n = 1) ↔ n = 1 := by rw [show (1 : Int32) = nI 1 from rfl, nI_eq hn (by decide)]
  have e2 : (nI n = 2) ↔ n = 2 := by rw [show (2 : Int32) = nI 2 from rfl, nI_eq hn (by decide)]
  simp only [e1, e2]
set_option maxHeartbeats 2000000 in
theorem reach_core {Z : Zt} {S : Sh} {s : Nat} (hs : s < 5) (s175 : S.2 175 = (40, 3)) : ∀ (n d : Nat) (μ : Mi) (ρ : Mr) (A : Rw) (w : Nat) (Rp : RT), n ≤ 3 → RR A w S μ ρ → Gd A → apN n w → (∀ i, i < n → anyW (346 + 170 * i) S μ ρ) → (∀ i, i < 3 → ρ 175 i = 346 + 170 * i) →
    (∀ μ' ρ', PF n S μ ρ μ' ρ' → (kR s n A → Rp (some (.int 1)) S μ' ρ') ∧ (¬ kR s n A → Rp (some (.int 0)) S μ' ρ')) → MS Z (d + n + 6) jX3_reaches [.ref 175, .ref w, .int (nI s), .int (nI n)] S μ ρ Rp := by
  intro n
  induction n with
  | zero =>
    intro d μ ρ A w Rp hn hR hG hw hpg hp h
    have hW := RR_W hR
    obtain ⟨x1, x2, x3⟩ := W_st hW hs
    have e4 : μ (w + 130 + 8 * s) 4 = A (514 * s + 3) := (RR_st hR hs).1.2.2.2.2.1
    obtain ⟨h1, h0⟩ := h μ ρ (PF_rf hpg)
    refine ms_X3_reaches _ _ _ _ (fun G g38 g102 => ?_)
    simp only [w_X3_reaches_0, w_X3_reaches_15, w_X3_reaches_26, tAload, tIload, nth, tGetI, tGetR, tConst, tLconst, tBin, tUn, tI2l, tAld, tAldR, tAlen, tIast, tBast, tZast, tAast, tIret, tZret, tVret, tAret, tIf, tIf2, tGoto, tIstore, tAstore, sset, tIinc, tDup, tDup2, tPop, tPutI, tPutZ, tPutR, tCallV, tCallS, popN, tFn, tCopy, tMax, tMin, tSw, swc, tRem, tObjI, Option.toList, List.nil_append, List.cons_append, okR, true_and, and_true, true_or, or_true, Nat.zero_le, ne_eq, not_false_eq_true, Nat.reduceEqDiff, hW.2.2.2.2.1, hW.2.1, nI_clamp (show s < 2 ^ 31 by omega), x3, x1, e4, inb_nI hs (show (5 : Nat) < 2 ^ 31 by decide)]
    refine ⟨by omega, fun c => ⟨fun _ => h0 c, fun q => absurd (by decide) q⟩, fun c => h1 (Classical.not_not.mp c)⟩
  | succ n ih =>
    intro d μ ρ A w Rp hn hR hG hw hpg hp h
    have hW := RR_W hR
    obtain ⟨x1, x2, x3⟩ := W_st hW hs
    have e4 : μ (w + 130 + 8 * s) 4 = A (514 * s + 3) := (RR_st hR hs).1.2.2.2.2.1
    have esub : nI (n + 1) - 1 = nI n := by rw [show (1 : Int32) = nI 1 from rfl, pk_sub (by omega), Nat.add_sub_cancel]
    obtain ⟨wn, w1, w2, -, w3⟩ := rg_ex hR.1.2.2.1.2.1.1
    have hcm := good_cm (Gd_good hG)
    have wA : (A 4510).toNatClampNeg = wn := by rw [w1, nI_clamp w2]
    have rec1 : ∀ (C : Rw) (ν2 : Mi) (ρ2 : Mr) (K : RT), RR C (346 + 170 * n) S ν2 ρ2 → Gd C → PF (n + 1) S μ ρ ν2 ρ2 → (∀ ν3 ρ3, PF (n + 1) S μ ρ ν3 ρ3 → (kR s n C → K (some (.int 1)) S ν3 ρ3) ∧ (¬ kR s n C → K (some (.int 0)) S ν3 ρ3)) → MS Z (d + n + 6) jX3_reaches [.ref 175, .ref (346 + 170 * n), .int (nI s), .int (nI n)] S ν2 ρ2 K := by
      intro C ν2 ρ2 K hC hGC hPF hK
      refine ih d ν2 ρ2 C (346 + 170 * n) K (by omega) hC hGC (by unfold apN; omega) (fun i hi => hPF.2.2 i (by omega)) (fun i hi => ?_) (fun ν3 ρ3 q => hK ν3 ρ3 (PF_tr hPF (PF_s q ⟨C, hC⟩)))
      rw [hPF.1.2 175 (by omega)]
      exact hp i hi
    have hapw : apW (346 + 170 * n) w := by unfold apN at hw; unfold apW; omega
    refine ms_X3_reaches (d := d + n + 1) _ _ _ _ (fun G g38 g102 => ?_)
    have loop2 : ¬ A (514 * s + 3) = 2 → (¬ ∃ t, t < 5 ∧ (t = s ∨ 2 < n + 1) ∧ canT A t ∧ kR s n (qAsks A t)) → ∀ (m i : Nat) (ν : Mi) (ρ' : Mr) (v : Value), m + i = wn → PF (n + 1) S μ ρ ν ρ' → (∀ j, j < i → ¬ (mayH (rowM A j) s (n + 1) ∧ canC A j ∧ kR s n (qComes A j))) → G 102 [.ref 175, .ref w, .int (nI s), .int (nI (n + 1)), .ref (346 + 170 * n), .int (nI i), v] [] S (0, 0) ν ρ' := by
      intro n0 nT m
      induction m with
      | zero =>
        intro i ν ρ' v hm hPF hno
        have hRν := hPF.2.1 A w hw hR
        have hWν := RR_W hRν
        have eW : ν (w + 2) 2 = nI wn := hRν.1.2.2.1.1.1.trans w1
        apply g102
        simp only [w_X3_reaches_102, w_X3_reaches_180, tAload, tIload, nth, tGetI, tGetR, tConst, tLconst, tBin, tUn, tI2l, tAld, tAldR, tAlen, tIast, tBast, tZast, tAast, tIret, tZret, tVret, tAret, tIf, tIf2, tGoto, tIstore, tAstore, sset, tIinc, tDup, tDup2, tPop, tPutI, tPutZ, tPutR, tCallV, tCallS, popN, tFn, tCopy, tMax, tMin, tSw, swc, tRem, tObjI, Option.toList, List.nil_append, List.cons_append, okR, true_and, and_true, true_or, or_true, Nat.zero_le, ne_eq, not_false_eq_true, Nat.reduceEqDiff, hWν.2.2.2.2.1, hWν.2.1, eW]
        refine ⟨fun _ => (h ν ρ' hPF).2 (fun z => ?_), fun c => absurd (by rw [nI_leI w2 (by omega)]; omega) c⟩
        rw [kR_s] at z
        rcases z with z | z | ⟨j, j1, j2⟩
        · exact n0 z
        · exact nT z
        · exact hno j (by omega) j2
      | succ m ihm =>
        intro i ν ρ' v hm hPF hno
        have hi : i < wn := by omega
        have hRν := hPF.2.1 A w hw hR
        have hWν := RR_W hRν
        have eW : ν (w + 2) 2 = nI wn := hRν.1.2.2.1.1.1.trans w1
        obtain ⟨ji, j1, j2, j3, j4, j5⟩ := WOK_box hWν (i := i) (by omega)
        have hM := hRν.1.2.2.1.2.2 i (by omega)
        have hm' := hcm.2 i (by omega)
        obtain ⟨f, ef, ef0, -, ef1⟩ := rg_ex hm'.1
        obtain ⟨t, et, et0, -, et1⟩ := rg_ex hm'.2.1
        obtain ⟨i1, i2, i3⟩ := any_I (hPF.2.2 n (by omega))
        have qn : ¬ ρ' (w + 3) i = 0 := by rw [j2]; omega
        have next : ∀ (ν3 : Mi) (ρ3 : Mr), PF (n + 1) S μ ρ ν3 ρ3 → ¬ (mayH (rowM A i) s (n + 1) ∧ canC A i ∧ kR s n (qComes A i)) → G 102 [.ref 175, .ref w, .int (nI s), .int (nI (n + 1)), .ref (346 + 170 * n), .int (nI i + 1), .ref (ρ' (w + 3) i)] [] S (0, 0) ν3 ρ3 := by
          intro ν3 ρ3 q3 no
          rw [nI_s1]
          refine ihm (i + 1) ν3 ρ3 _ (by omega) q3 (fun j hj => ?_)
          by_cases c : j = i
          · subst c; exact no
          · exact hno j (by omega)
        apply g102
        simp only [w_X3_reaches_102, w_X3_reaches_174, tAload, tIload, nth, tGetI, tGetR, tConst, tLconst, tBin, tUn, tI2l, tAld, tAldR, tAlen, tIast, tBast, tZast, tAast, tIret, tZret, tVret, tAret, tIf, tIf2, tGoto, tIstore, tAstore, sset, tIinc, tDup, tDup2, tPop, tPutI, tPutZ, tPutR, tCallV, tCallS, popN, tFn, tCopy, tMax, tMin, tSw, swc, tRem, tObjI, Option.toList, List.nil_append, List.cons_append, okR, true_and, and_true, true_or, or_true, Nat.zero_le, ne_eq, not_false_eq_true, Nat.reduceEqDiff, tFn2, F_X3_mayHelp, F_X10_canCome, F_X10_copyFrom, F_X10_takeIn, hWν.2.2.2.2.1, hWν.2.1, eW, nI_clamp (show i < 2 ^ 31 by omega), j3, i1, esub, b2_z]
        have cq := canC_q ef et (by omega) (by omega)
        have mj := mayJ_H (g := rowM A i) (s := s) (n := n + 1) hs (by omega)
        rw [← hM.1.1, ← hM.1.2.1, ← hM.1.2.2.1] at mj
        refine ⟨fun c => absurd c (by rw [nI_leI w2 (by omega)]; omega), fun _ => ⟨inb_nI (by omega) (by decide), qn, fun cm => ⟨fun x => absurd x (by decide), fun _ => ⟨t, f, A, hRν, hM.1.1.trans ef, hM.1.2.1.trans et, by omega, by omega, fun cc => next ν ρ' hPF (fun z => cc (cq.mp z.2.1)), fun cc => ⟨i2, i3, hapw, A, hRν, fun μ1 r1 o1 => ⟨i, A, r1, rfl, by omega, hG, fun μ2 ρ2 r2 o2 f2 => ?_⟩⟩⟩⟩, fun cm => ⟨fun _ => next ν ρ' hPF (fun z => cm (mj.mpr z.1)), fun x => absurd trivial x⟩⟩⟩
        refine rec1 _ _ _ _ r2 (Gd_step hG (Sp.comes (by omega))) (PF_tr hPF (PF_v (fun i hi => hPF.2.2 i (by omega)) ⟨_, r2⟩ (ot_trans o1 o2) f2)) (fun ν3 ρ3 q3 => ⟨fun kr => ?_, fun nk => ?_⟩)
        · simp only [tAload, tIload, nth, tGetI, tGetR, tConst, tLconst, tBin, tUn, tI2l, tAld, tAldR, tAlen, tIast, tBast, tZast, tAast, tIret, tZret, tVret, tAret, tIf, tIf2, tGoto, tIstore, tAstore, sset, tIinc, tDup, tDup2, tPop, tPutI, tPutZ, tPutR, tCallV, tCallS, popN, tFn, tCopy, tMax, tMin, tSw, swc, tRem, tObjI, Option.toList, List.nil_append, List.cons_append, okR, true_and, and_true, true_or, or_true, Nat.zero_le, ne_eq, not_false_eq_true, Nat.reduceEqDiff]
          refine ⟨fun x => absurd x (by decide), fun _ => (h ν3 ρ3 q3).1 ?_⟩
          rw [kR_s]
          exact Or.inr (Or.inr ⟨i, by omega, mj.mp cm, cq.mpr (Decidable.not_not.mp cc), kr⟩)
        · simp only [tAload, tIload, nth, tGetI, tGetR, tConst, tLconst, tBin, tUn, tI2l, tAld, tAldR, tAlen, tIast, tBast, tZast, tAast, tIret, tZret, tVret, tAret, tIf, tIf2, tGoto, tIstore, tAstore, sset, tIinc, tDup, tDup2, tPop, tPutI, tPutZ, tPutR, tCallV, tCallS, popN, tFn, tCopy, tMax, tMin, tSw, swc, tRem, tObjI, Option.toList, List.nil_append, List.cons_append, okR, true_and, and_true, true_or, or_true, Nat.zero_le, ne_eq, not_false_eq_true, Nat.reduceEqDiff]
          exact ⟨fun _ => next ν3 ρ3 q3 (fun z => nk z.2.2), fun x => absurd trivial x⟩
    have loop1 : ¬ A (514 * s + 3) = 2 → ∀ (m t : Nat) (ν : Mi) (ρ' : Mr) (v : Value), m + t = 5 → PF (n + 1) S μ ρ ν ρ' → (∀ j, j < t → ¬ ((j = s ∨ 2 < n + 1) ∧ canT A j ∧ kR s n (qAsks A j))) → G 38 [.ref 175, .ref w, .int (nI s), .int (nI (n + 1)), .ref (346 + 170 * n), .int (nI t), v] [] S (0, 0) ν ρ' := by
      intro n0 m
      induction m with
      | zero =>
        intro t ν ρ' v hm hPF hno
        obtain rfl : t = 5 := by omega
        apply g38
        simp only [w_X3_reaches_38, w_X3_reaches_99, tAload, tIload, nth, tGetI, tGetR, tConst, tLconst, tBin, tUn, tI2l, tAld, tAldR, tAlen, tIast, tBast, tZast, tAast, tIret, tZret, tVret, tAret, tIf, tIf2, tGoto, tIstore, tAstore, sset, tIinc, tDup, tDup2, tPop, tPutI, tPutZ, tPutR, tCallV, tCallS, popN, tFn, tCopy, tMax, tMin, tSw, swc, tRem, tObjI, Option.toList, List.nil_append, List.cons_append, okR, true_and, and_true, true_or, or_true, Nat.zero_le, ne_eq, not_false_eq_true, Nat.reduceEqDiff]
        exact ⟨fun _ => loop2 n0 (fun ⟨j, j1, j2⟩ => hno j j1 j2) wn 0 ν ρ' v (by omega) hPF (fun j hj => by omega), fun c => absurd (by decide) c⟩
      | succ m ihm =>
        intro t ν ρ' v hm hPF hno
        have ht : t < 5 := by omega
        have hRν := hPF.2.1 A w hw hR
        have hWν := RR_W hRν
        obtain ⟨i1, i2, i3⟩ := any_I (hPF.2.2 n (by omega))
        have next : ∀ (ν3 : Mi) (ρ3 : Mr), PF (n + 1) S μ ρ ν3 ρ3 → ¬ ((t = s ∨ 2 < n + 1) ∧ canT A t ∧ kR s n (qAsks A t)) → G 38 [.ref 175, .ref w, .int (nI s), .int (nI (n + 1)), .ref (346 + 170 * n), .int (nI t + 1), v] [] S (0, 0) ν3 ρ3 := by
          intro ν3 ρ3 q3 no
          rw [nI_s1]
          refine ihm (t + 1) ν3 ρ3 _ (by omega) q3 (fun j hj => ?_)
          by_cases c : j = t
          · subst c; exact no
          · exact hno j (by omega)
        have w55 : (t = s ∨ 2 < n + 1) → w_X3_reaches_55 (MS Z (d + n + 1 + 5)) G Rp [.ref 175, .ref w, .int (nI s), .int (nI (n + 1)), .ref (346 + 170 * n), .int (nI t), v] [] S (0, 0) ν ρ' := by
          intro ct
          simp only [w_X3_reaches_55, w_X3_reaches_93, tAload, tIload, nth, tGetI, tGetR, tConst, tLconst, tBin, tUn, tI2l, tAld, tAldR, tAlen, tIast, tBast, tZast, tAast, tIret, tZret, tVret, tAret, tIf, tIf2, tGoto, tIstore, tAstore, sset, tIinc, tDup, tDup2, tPop, tPutI, tPutZ, tPutR, tCallV, tCallS, popN, tFn, tCopy, tMax, tMin, tSw, swc, tRem, tObjI, Option.toList, List.nil_append, List.cons_append, okR, true_and, and_true, true_or, or_true, Nat.zero_le, ne_eq, not_false_eq_true, Nat.reduceEqDiff, tFn2, F_X10_canTimeOut, F_X10_copyFrom, F_X10_timesOut, hWν.2.1, i1, esub, b2_z]
          refine ⟨t, A, hRν, rfl, ht, (hcm.1 t ht).2.2.1, fun cc => next ν ρ' hPF (fun z => cc z.2.1), fun cc => ⟨i2, i3, hapw, A, hRν, fun μ1 r1 o1 => ⟨A, r1, hG, fun μ2 r2 o2 => ?_⟩⟩⟩
          have cT := Decidable.not_not.mp cc
          rw [aT_pos ht cT] at r2
          refine rec1 _ _ _ _ r2 (Gd_step hG (Sp.asks ht (by rw [canT_eq]; exact cT))) (PF_tr hPF (PF_v (fun i hi => hPF.2.2 i (by omega)) ⟨_, r2⟩ (ot_trans o1 o2) (fun _ _ => rfl))) (fun ν3 ρ3 q3 => ⟨fun kr => ?_, fun nk => ?_⟩)
          · simp only [tAload, tIload, nth, tGetI, tGetR, tConst, tLconst, tBin, tUn, tI2l, tAld, tAldR, tAlen, tIast, tBast, tZast, tAast, tIret, tZret, tVret, tAret, tIf, tIf2, tGoto, tIstore, tAstore, sset, tIinc, tDup, tDup2, tPop, tPutI, tPutZ, tPutR, tCallV, tCallS, popN, tFn, tCopy, tMax, tMin, tSw, swc, tRem, tObjI, Option.toList, List.nil_append, List.cons_append, okR, true_and, and_true, true_or, or_true, Nat.zero_le, ne_eq, not_false_eq_true, Nat.reduceEqDiff]
            refine ⟨fun x => absurd x (by decide), fun _ => (h ν3 ρ3 q3).1 ?_⟩
            rw [kR_s]
            exact Or.inr (Or.inl ⟨t, ht, ct, cT, kr⟩)
          · simp only [tAload, tIload, nth, tGetI, tGetR, tConst, tLconst, tBin, tUn, tI2l, tAld, tAldR, tAlen, tIast, tBast, tZast, tAast, tIret, tZret, tVret, tAret, tIf, tIf2, tGoto, tIstore, tAstore, sset, tIinc, tDup, tDup2, tPop, tPutI, tPutZ, tPutR, tCallV, tCallS, popN, tFn, tCopy, tMax, tMin, tSw, swc, tRem, tObjI, Option.toList, List.nil_append, List.cons_append, okR, true_and, and_true, true_or, or_true, Nat.zero_le, ne_eq, not_false_eq_true, Nat.reduceEqDiff]
            exact ⟨fun _ => next ν3 ρ3 q3 (fun z => nk z.2.2), fun x => absurd trivial x⟩
        have e2 : (nI (n + 1) ≤ 2) ↔ n + 1 ≤ 2 := by rw [show (2 : Int32) = nI 2 from rfl, nI_leI (by omega) (by decide)]
        have et : (nI t = nI s) ↔ t = s := by rw [nI_eq (by omega) (by omega)]
        apply g38
        simp only [w_X3_reaches_38, w_X3_reaches_93, tAload, tIload, nth, tGetI, tGetR, tConst, tLconst, tBin, tUn, tI2l, tAld, tAldR, tAlen, tIast, tBast, tZast, tAast, tIret, tZret, tVret, tAret, tIf, tIf2, tGoto, tIstore, tAstore, sset, tIinc, tDup, tDup2, tPop, tPutI, tPutZ, tPutR, tCallV, tCallS, popN, tFn, tCopy, tMax, tMin, tSw, swc, tRem, tObjI, Option.toList, List.nil_append, List.cons_append, okR, true_and, and_true, true_or, or_true, Nat.zero_le, ne_eq, not_false_eq_true, Nat.reduceEqDiff, e2, et]
        exact ⟨fun c => absurd c (by rw [show (5 : Int32) = nI 5 from rfl, nI_leI (by decide) (by omega)]; omega), fun _ => ⟨fun c => w55 (Or.inl c), fun c => ⟨fun c2 => next ν ρ' hPF (fun z => z.1.elim c (by omega)), fun c2 => w55 (Or.inr (by omega))⟩⟩⟩
    simp only [w_X3_reaches_0, w_X3_reaches_15, w_X3_reaches_26, w_X3_reaches_28, tAload, tIload, nth, tGetI, tGetR, tConst, tLconst, tBin, tUn, tI2l, tAld, tAldR, tAlen, tIast, tBast, tZast, tAast, tIret, tZret, tVret, tAret, tIf, tIf2, tGoto, tIstore, tAstore, sset, tIinc, tDup, tDup2, tPop, tPutI, tPutZ, tPutR, tCallV, tCallS, popN, tFn, tCopy, tMax, tMin, tSw, swc, tRem, tObjI, Option.toList, List.nil_append, List.cons_append, okR, true_and, and_true, true_or, or_true, Nat.zero_le, ne_eq, not_false_eq_true, Nat.reduceEqDiff, hW.2.2.2.2.1, hW.2.1, nI_clamp (show s < 2 ^ 31 by omega), x3, x1, e4, inb_nI hs (show (5 : Nat) < 2 ^ 31 by decide), s175, esub, nI_clamp (show n < 2 ^ 31 by omega), hp n (by omega)]
    refine ⟨by omega, fun c => ⟨fun q => absurd q ?_, fun _ => ⟨by decide, fun _ => ⟨inb_nI (by omega) (by decide), by omega, loop1 c 5 0 μ ρ _ (by omega) (PF_rf hpg) (fun j hj => by omega)⟩, fun q => absurd ?_ q⟩⟩, fun c => (h μ ρ (PF_rf hpg)).1 (Or.inl (Classical.not_not.mp c))⟩
    · rw [show (1 : Int32) = nI 1 from rfl, nI_ltI (by omega) (by decide)]; omega
    · rw [show Int32.ofNat 3 = nI 3 from rfl, nI_leI (by omega) (by decide)]; omega
def w_X3_couldLead_0 (M : CT) (G : Nat → PT) (Rp : RT) : PT := tAload 0 <| tGetR 3 2 0 <| tAload 1 <| tIload 2 <| tIload 3 <| tCallS M jX3_reaches 4 <| tZret Rp
set_option maxRecDepth 20000 in
theorem b_X3_couldLead_0 {Z : Zt} {d : Nat} {p : Program} {e : Env} {R : Room} {s : State} {m : MethodId} {args : Array Value} {below : List Frame} {meth : Method} {c : Code} {Rp : RT} (C : Cx Z (d + 10) jX3_couldLead RX3 p R s m args meth c) : Sd Z jX3_couldLead p e R s m args below meth c (MQ below (QcS Z Rp) args s 0 0 (fun a => Z.2.2.1 < a)) 0 (w_X3_couldLead_0 (MS Z (d + 10)) (Gw Z 4 p e R s m args below meth c (MQ below (QcS Z Rp) args s 0 0 (fun a => Z.2.2.1 < a))) Rp) := by
  unfold w_X3_couldLead_0
  refine s_aload_n (k := 0) C (by decide +kernel) ?_
  refine s_getR C w_2_152 (by decide +kernel) rfl ?_
  refine s_aload_n (k := 1) C (by decide +kernel) ?_
  refine s_iload_n (k := 2) C (by decide +kernel) ?_
  refine s_iload_n (k := 3) C (by decide +kernel) ?_
  refine s_callS C (by decide +kernel) rfl w_6_23 w_6_24 w_1_10 w_6_25 (by decide +kernel) ?_
  exact s_zret C rfl (by decide +kernel)
theorem ms_X3_couldLead {Z : Zt} {d : Nat} {S : Sh} {μ : Mi} {ρ : Mr} {Rp : RT} (a0 : Nat) (a1 : Nat) (x2 : Int32) (x3 : Int32) (h : ∀ G : Nat → PT, w_X3_couldLead_0 (MS Z (d + 10)) G Rp [.ref a0, .ref a1, .int x2, .int x3] [] S (0, 0) μ ρ) : MS Z (d + 11) jX3_couldLead [.ref a0, .ref a1, .int x2, .int x3] S μ ρ Rp :=
  MS_of [.ref a0, .ref a1, .int x2, .int x3] (by decide +kernel) rfl rfl (Nat.le_of_ble_eq_true rfl) rfl (fun p e R s m args below meth c C => b_X3_couldLead_0 C _ _ _ _ _ _ (h _ ))
def F_X3_couldLead : FT2 := fun As S μ ρ k => match As with
  | [.ref p, .ref w, .int x, .int y] => S.2 p = (3, 2) ∧ p = 174 ∧ w = 2 ∧ PapOK 174 S ρ ∧ ∃ (s n : Nat) (A : Rw), x = nI s ∧ s < 5 ∧ y = nI n ∧ n ≤ 3 ∧ RR A 2 S μ ρ ∧ Gd A ∧ (∀ i, i < 3 → anyW (346 + 170 * i) S μ ρ) ∧ ∀ (μ' : Mi) (ρ' : Mr), PF n S μ ρ μ' ρ' → (kR s n A → k (some (.int 1)) μ' ρ') ∧ (¬ kR s n A → k (some (.int 0)) μ' ρ')
  | _ => False
theorem r_X3_couldLead {As S μ ρ k} (h : F_X3_couldLead As S μ ρ k) : ∃ a As', As = Value.ref a :: As' ∧ S.2 a = (3, 2) := by
  unfold F_X3_couldLead at h
  split at h
  · exact ⟨_, _, rfl, h.1⟩
  · exact h.elim
set_option maxHeartbeats 1000000 in
theorem f_X3_couldLead {Z : Zt} {d : Nat} {As : List Value} {S : Sh} {μ : Mi} {ρ : Mr} {Rp : RT} (h : F_X3_couldLead As S μ ρ (fun r μ' ρ' => Rp r S μ' ρ')) : MS Z (d + 11) jX3_couldLead As S μ ρ Rp := by
  unfold F_X3_couldLead at h
  split at h
  · rename_i p w x y
    obtain ⟨h1, rfl, rfl, hP, s, n, A, rfl, hs, rfl, hn, hR, hG, hpg, h⟩ := h
    obtain ⟨-, p1, p2, p3, p4, -⟩ := hP
    refine ms_X3_couldLead _ _ _ _ (fun G => ?_)
    simp only [w_X3_couldLead_0, tAload, tIload, nth, tGetI, tGetR, tConst, tLconst, tBin, tUn, tI2l, tAld, tAldR, tAlen, tIast, tBast, tZast, tAast, tIret, tZret, tVret, tAret, tIf, tIf2, tGoto, tIstore, tAstore, sset, tIinc, tDup, tDup2, tPop, tPutI, tPutZ, tPutR, tCallV, tCallS, popN, tFn, tCopy, tMax, tMin, tSw, swc, tRem, tObjI, Option.toList, List.nil_append, List.cons_append, okR, true_and, and_true, true_or, or_true, Nat.zero_le, ne_eq, not_false_eq_true, Nat.reduceEqDiff, h1, p1]
    rw [show d + 10 = d + (4 - n) + n + 6 by omega]
    refine reach_core (Z := Z) (s := s) hs p3 n (d + (4 - n)) μ ρ A 2 _ (by omega) hR hG (by unfold apN; omega) (fun i hi => hpg i (by omega)) (fun i hi => p4 i hi) (fun μ' ρ' q => ⟨fun kr => ?_, fun nk => ?_⟩)
    · simp only [tAload, tIload, nth, tGetI, tGetR, tConst, tLconst, tBin, tUn, tI2l, tAld, tAldR, tAlen, tIast, tBast, tZast, tAast, tIret, tZret, tVret, tAret, tIf, tIf2, tGoto, tIstore, tAstore, sset, tIinc, tDup, tDup2, tPop, tPutI, tPutZ, tPutR, tCallV, tCallS, popN, tFn, tCopy, tMax, tMin, tSw, swc, tRem, tObjI, Option.toList, List.nil_append, List.cons_append, okR, true_and, and_true, true_or, or_true, Nat.zero_le, ne_eq, not_false_eq_true, Nat.reduceEqDiff]
      exact (h μ' ρ' q).1 kr
    · simp only [tAload, tIload, nth, tGetI, tGetR, tConst, tLconst, tBin, tUn, tI2l, tAld, tAldR, tAlen, tIast, tBast, tZast, tAast, tIret, tZret, tVret, tAret, tIf, tIf2, tGoto, tIstore, tAstore, sset, tIinc, tDup, tDup2, tPop, tPutI, tPutZ, tPutR, tCallV, tCallS, popN, tFn, tCopy, tMax, tMin, tSw, swc, tRem, tObjI, Option.toList, List.nil_append, List.cons_append, okR, true_and, and_true, true_or, or_true, Nat.zero_le, ne_eq, not_false_eq_true, Nat.reduceEqDiff]
      exact (h μ' ρ' q).2 nk
  · exact h.elim
theorem PF_TC {n : Nat} {A : Rw} {u : Nat} {D : Nat → Rw} {S : Sh} {μ μ' : Mi} {ρ ρ' : Mr} (hn : n ≤ 3) (h : TC A u D S μ ρ) (q : PF n S μ ρ μ' ρ') : TC A u D S μ' ρ' ∧ KT μ μ' ∧ KR ρ ρ' := by
  obtain ⟨⟨q1, q2⟩, q3, q4⟩ := q
  obtain ⟨⟨h0, h1, h2, h3, h4, h5, h6, h7, h8⟩, hR, sp, e6, hsp, e7, hu, hD⟩ := h
  have any : ∀ w, apN n w → anyW w S μ ρ → anyW w S μ' ρ' := fun w a ⟨B, b⟩ => ⟨B, q3 B w a b⟩
  have m1 : μ' 1 = μ 1 := q1 1 (by omega)
  refine ⟨⟨⟨h0, ?_, h2, ⟨fun i hi => ?_, fun i hi => ?_⟩, ?_, any _ (by unfold apN; omega) h5, fun i hi => ?_, fun i hi => any _ (by unfold apN; omega) (h7 i hi), fun i hi => any _ (by unfold apN; omega) (h8 i hi)⟩, q3 _ _ (by unfold apN; omega) hR, sp, by rw [m1]; exact e6, hsp, by rw [m1]; exact e7, hu, fun j hj => q3 _ _ (by unfold apN; omega) (hD j hj)⟩, ⟨fun y hy => q1 y (by omega), fun i _ _ => by rw [m1]⟩, fun y hy => q2 y (by omega)⟩
  · rw [q2 1 (by omega)]; exact h1
  · rw [q2 172 (by omega)]; exact h3.1 i hi
  · rw [q2 173 (by omega)]; exact h3.2 i hi
  · unfold PapOK at *
    rw [q2 174 (by omega), q2 (174 + 1) (by omega)]
    exact h4
  · by_cases c : i < n
    · exact q4 i c
    · exact any _ (by unfold apN; omega) (h6 i hi)
def w_X11_could_61 (M : CT) (G : Nat → PT) (Rp : RT) : PT := tIret Rp
def w_X11_could_60 (M : CT) (G : Nat → PT) (Rp : RT) : PT := tConst 0 <| w_X11_could_61 M G Rp
def w_X11_could_40 (M : CT) (G : Nat → PT) (Rp : RT) : PT := tAload 0 <| tGetR 11 11 3 <| tAload 0 <| tGetR 11 11 0 <| tIload 1 <| tIload 2 <| tFn2 4 F_X3_couldLead <| tIf (fun x => x = 0) (w_X11_could_60 M G Rp) <| tConst 1 <| tGoto (w_X11_could_61 M G Rp)
def w_X11_could_22 (M : CT) (G : Nat → PT) (Rp : RT) : PT := tAload 0 <| tGetR 11 11 0 <| tGetR 10 6 1 <| tGetI 1 6 2 <| tConst 8 <| tIf2 (fun x y => x ≤ y) (w_X11_could_40 M G Rp) <| tConst (-5) <| tIret Rp
def w_X11_could_19 (M : CT) (G : Nat → PT) (Rp : RT) : PT := tConst (-3) <| tIret Rp
def w_X11_could_10 (M : CT) (G : Nat → PT) (Rp : RT) : PT := tIload 2 <| tIf (fun x => x < 0) (w_X11_could_19 M G Rp) <| tIload 2 <| tConst 3 <| tIf2 (fun x y => x ≤ y) (w_X11_could_22 M G Rp) <| w_X11_could_19 M G Rp
def w_X11_could_0 (M : CT) (G : Nat → PT) (Rp : RT) : PT := tIload 1 <| tFn 1 F_X11_isNoStore <| tIf (fun x => x = 0) (w_X11_could_10 M G Rp) <| tConst (-2) <| tIret Rp
set_option maxRecDepth 20000 in
theorem b_X11_could_61 {Z : Zt} {d : Nat} {p : Program} {e : Env} {R : Room} {s : State} {m : MethodId} {args : Array Value} {below : List Frame} {meth : Method} {c : Code} {Rp : RT} (C : Cx Z (d + 11) jX11_could RX11 p R s m args meth c) : Sd Z jX11_could p e R s m args below meth c (MQ below (QcS Z Rp) args s 0 0 (fun a => Z.2.2.1 < a)) 61 (w_X11_could_61 (MS Z (d + 11)) (Gw Z 3 p e R s m args below meth c (MQ below (QcS Z Rp) args s 0 0 (fun a => Z.2.2.1 < a))) Rp) := by
  unfold w_X11_could_61
  exact s_iret C rfl (by decide +kernel)
set_option maxRecDepth 20000 in
theorem b_X11_could_60 {Z : Zt} {d : Nat} {p : Program} {e : Env} {R : Room} {s : State} {m : MethodId} {args : Array Value} {below : List Frame} {meth : Method} {c : Code} {Rp : RT} (C : Cx Z (d + 11) jX11_could RX11 p R s m args meth c) : Sd Z jX11_could p e R s m args below meth c (MQ below (QcS Z Rp) args s 0 0 (fun a => Z.2.2.1 < a)) 60 (w_X11_could_60 (MS Z (d + 11)) (Gw Z 3 p e R s m args below meth c (MQ below (QcS Z Rp) args s 0 0 (fun a => Z.2.2.1 < a))) Rp) := by
  unfold w_X11_could_60
  refine s_iconst (n := 0) C (by decide +kernel) (by decide) ?_
  exact (b_X11_could_61 C)
set_option maxRecDepth 20000 in
theorem b_X11_could_40 {Z : Zt} {d : Nat} {p : Program} {e : Env} {R : Room} {s : State} {m : MethodId} {args : Array Value} {below : List Frame} {meth : Method} {c : Code} {Rp : RT} (C : Cx Z (d + 11) jX11_could RX11 p R s m args meth c) : Sd Z jX11_could p e R s m args below meth c (MQ below (QcS Z Rp) args s 0 0 (fun a => Z.2.2.1 < a)) 40 (w_X11_could_40 (MS Z (d + 11)) (Gw Z 3 p e R s m args below meth c (MQ below (QcS Z Rp) args s 0 0 (fun a => Z.2.2.1 < a))) Rp) := by
  unfold w_X11_could_40
  refine s_aload_n (k := 0) C (by decide +kernel) ?_
  refine s_getR C w_2_237 (by decide +kernel) rfl ?_
  refine s_aload_n (k := 0) C (by decide +kernel) ?_
  refine s_getR C w_2_234 (by decide +kernel) rfl ?_
  refine s_iload_n (k := 1) C (by decide +kernel) ?_
  refine s_iload_n (k := 2) C (by decide +kernel) ?_
  refine s_fnV2 C (j2 := jX3_couldLead) (cl := 3) (nf := 2) rfl rfl (by decide +kernel) rfl w_6_19 w_6_20 w_6_21 w_1_10 w_6_22 (by decide +kernel) (fun _ _ _ _ _ h => f_X3_couldLead h) (fun _ _ _ _ _ h => r_X3_couldLead h) ?_
  refine s_if_eq (off := 7) (tgt := 60) C (by decide +kernel) (by decide) (b_X11_could_60 C) ?_
  refine s_iconst (n := 1) C (by decide +kernel) (by decide) ?_
  exact s_goto (off := 4) (tgt := 61) C (by decide +kernel) (by decide) (b_X11_could_61 C)
set_option maxRecDepth 20000 in
theorem b_X11_could_22 {Z : Zt} {d : Nat} {p : Program} {e : Env} {R : Room} {s : State} {m : MethodId} {args : Array Value} {below : List Frame} {meth : Method} {c : Code} {Rp : RT} (C : Cx Z (d + 11) jX11_could RX11 p R s m args meth c) : Sd Z jX11_could p e R s m args below meth c (MQ below (QcS Z Rp) args s 0 0 (fun a => Z.2.2.1 < a)) 22 (w_X11_could_22 (MS Z (d + 11)) (Gw Z 3 p e R s m args below meth c (MQ below (QcS Z Rp) args s 0 0 (fun a => Z.2.2.1 < a))) Rp) := by
  unfold w_X11_could_22
  refine s_aload_n (k := 0) C (by decide +kernel) ?_
  refine s_getR C w_2_234 (by decide +kernel) rfl ?_
  refine s_getR C w_2_120 (by decide +kernel) rfl ?_
  refine s_getI C w_1_127 (by decide +kernel) rfl ?_
  refine s_bipush (n := 8) C (by decide +kernel) (by decide) ?_
  refine s_icmp_le (off := 6) (tgt := 40) C (by decide +kernel) (by decide) (b_X11_could_40 C) ?_
  refine s_bipush (n := (-5)) C (by decide +kernel) (by decide) ?_
  exact s_iret C rfl (by decide +kernel)
set_option maxRecDepth 20000 in
theorem b_X11_could_19 {Z : Zt} {d : Nat} {p : Program} {e : Env} {R : Room} {s : State} {m : MethodId} {args : Array Value} {below : List Frame} {meth : Method} {c : Code} {Rp : RT} (C : Cx Z (d + 11) jX11_could RX11 p R s m args meth c) : Sd Z jX11_could p e R s m args below meth c (MQ below (QcS Z Rp) args s 0 0 (fun a => Z.2.2.1 < a)) 19 (w_X11_could_19 (MS Z (d + 11)) (Gw Z 3 p e R s m args below meth c (MQ below (QcS Z Rp) args s 0 0 (fun a => Z.2.2.1 < a))) Rp) := by
  unfold w_X11_could_19
  refine s_bipush (n := (-3)) C (by decide +kernel) (by decide) ?_
  exact s_iret C rfl (by decide +kernel)
set_option maxRecDepth 20000 in
theorem b_X11_could_10 {Z : Zt} {d : Nat} {p : Program} {e : Env} {R : Room} {s : State} {m : MethodId} {args : Array Value} {below : List Frame} {meth : Method} {c : Code} {Rp : RT} (C : Cx Z (d + 11) jX11_could RX11 p R s m args meth c) : Sd Z jX11_could p e R s m args below meth c (MQ below (QcS Z Rp) args s 0 0 (fun a => Z.2.2.1 < a)) 10 (w_X11_could_10 (MS Z (d + 11)) (Gw Z 3 p e R s m args below meth c (MQ below (QcS Z Rp) args s 0 0 (fun a => Z.2.2.1 < a))) Rp) := by
  unfold w_X11_could_10
  refine s_iload_n (k := 2) C (by decide +kernel) ?_
  refine s_if_lt (off := 8) (tgt := 19) C (by decide +kernel) (by decide) (b_X11_could_19 C) ?_
  refine s_iload_n (k := 2) C (by decide +kernel) ?_
  refine s_iconst (n := 3) C (by decide +kernel) (by decide) ?_
  refine s_icmp_le (off := 6) (tgt := 22) C (by decide +kernel) (by decide) (b_X11_could_22 C) ?_
  exact (b_X11_could_19 C)
set_option maxRecDepth 20000 in
theorem b_X11_could_0 {Z : Zt} {d : Nat} {p : Program} {e : Env} {R : Room} {s : State} {m : MethodId} {args : Array Value} {below : List Frame} {meth : Method} {c : Code} {Rp : RT} (C : Cx Z (d + 11) jX11_could RX11 p R s m args meth c) : Sd Z jX11_could p e R s m args below meth c (MQ below (QcS Z Rp) args s 0 0 (fun a => Z.2.2.1 < a)) 0 (w_X11_could_0 (MS Z (d + 11)) (Gw Z 3 p e R s m args below meth c (MQ below (QcS Z Rp) args s 0 0 (fun a => Z.2.2.1 < a))) Rp) := by
  unfold w_X11_could_0
  refine s_iload_n (k := 1) C (by decide +kernel) ?_
  refine s_fnS C (j2 := jX11_isNoStore) (by decide +kernel) rfl w_5_100 w_3_103 w_1_1 w_3_104 (by decide +kernel) (fun _ _ _ _ _ h => f_X11_isNoStore h) ?_
  refine s_if_eq (off := 6) (tgt := 10) C (by decide +kernel) (by decide) (b_X11_could_10 C) ?_
  refine s_bipush (n := (-2)) C (by decide +kernel) (by decide) ?_
  exact s_iret C rfl (by decide +kernel)
theorem ms_X11_could {Z : Zt} {d : Nat} {S : Sh} {μ : Mi} {ρ : Mr} {Rp : RT} (a0 : Nat) (x1 : Int32) (x2 : Int32) (h : ∀ G : Nat → PT, w_X11_could_0 (MS Z (d + 11)) G Rp [.ref a0, .int x1, .int x2] [] S (0, 0) μ ρ) : MS Z (d + 12) jX11_could [.ref a0, .int x1, .int x2] S μ ρ Rp :=
  MS_of [.ref a0, .int x1, .int x2] (by decide +kernel) rfl rfl (Nat.le_of_ble_eq_true rfl) rfl (fun p e R s m args below meth c C => b_X11_could_0 C _ _ _ _ _ _ (h _ ))
def F_X11_could : FT2 := fun As S μ ρ k => match As with
  | [.ref a, .int x, .int y] => S.2 a = (11, 11) ∧ a = 1 ∧ ∃ (A : Rw) (u : Nat) (D : Nat → Rw), TC A u D S μ ρ ∧ Gd A ∧ ∀ (μ' : Mi) (ρ' : Mr), TC A u D S μ' ρ' → KT μ μ' → KR ρ ρ' → k (some (.int (vCould A x y))) μ' ρ'
  | _ => False
theorem r_X11_could {As S μ ρ k} (h : F_X11_could As S μ ρ k) : ∃ a As', As = Value.ref a :: As' ∧ S.2 a = (11, 11) := by
  unfold F_X11_could at h
  split at h
  · exact ⟨_, _, rfl, h.1⟩
  · exact h.elim
set_option maxHeartbeats 1000000 in
theorem f_X11_could {Z : Zt} {d : Nat} {As : List Value} {S : Sh} {μ : Mi} {ρ : Mr} {Rp : RT} (h : F_X11_could As S μ ρ (fun r μ' ρ' => Rp r S μ' ρ')) : MS Z (d + 12) jX11_could As S μ ρ Rp := by
  unfold F_X11_could at h
  split at h
  · rename_i a x y
    obtain ⟨h1, rfl, A, u, D, hT, hG, h⟩ := h
    refine ms_X11_could _ _ _ (fun G => ?_)
    have hT0 := hT.1
    have hr := hT0.2.1
    have hR := hT.2.1
    have hW := RR_W hR
    have hP := hT0.2.2.2.2.1
    have hP0 := hP.1
    have eW : μ (2 + 2) 2 = A 4510 := hR.1.2.2.1.1.1
    have b2 := hW.2.1
    have b3 := hW.2.2.2.2.1
    have i1 := b2.1
    unfold vCould at h
    have keep := h μ ρ hT ⟨fun _ _ => rfl, fun _ _ _ => rfl⟩ (fun _ _ => rfl)
    simp only [w_X11_could_0, w_X11_could_10, w_X11_could_19, w_X11_could_22, w_X11_could_40, w_X11_could_60, w_X11_could_61, tAload, tIload, nth, tGetI, tGetR, tConst, tLconst, tBin, tUn, tI2l, tAld, tAldR, tAlen, tIast, tBast, tZast, tAast, tIret, tZret, tVret, tAret, tIf, tIf2, tGoto, tIstore, tAstore, sset, tIinc, tDup, tDup2, tPop, tPutI, tPutZ, tPutR, tCallV, tCallS, popN, tFn, tCopy, tMax, tMin, tSw, swc, tRem, tObjI, Option.toList, List.nil_append, List.cons_append, okR, true_and, and_true, true_or, or_true, Nat.zero_le, ne_eq, not_false_eq_true, Nat.reduceEqDiff, tFn2, F_X11_isNoStore, F_X3_couldLead, b2_z, h1, hr, i1, b2, b3, eW, hP0, Decidable.not_not]
    have i3 : (3 : Int32).toInt = 3 := by decide
    have i0 : (0 : Int32).toInt = 0 := by decide
    refine ⟨fun cx => ?_, fun cx => ?_⟩
    · rw [if_neg (not_not_intro cx)] at h keep
      refine ⟨fun cy => ?_, fun cy => ⟨fun cz => ⟨fun cw => ?_, fun cw => ?_⟩, fun cz => ?_⟩⟩
      · rw [if_pos (fun q => by rw [Int32.lt_iff_toInt_lt, i0] at cy; have := q.1; omega)] at keep
        exact keep
      · have c2 : rgd y 0 3 := by
          rw [Int32.le_iff_toInt_le, i3] at cz
          rw [Int32.lt_iff_toInt_lt, i0] at cy
          exact ⟨by omega, by omega⟩
        rw [if_neg (not_not_intro c2), if_neg (not_not_intro cw)] at h
        obtain ⟨s, rfl, s0, -, s5⟩ := rg_ex (lo := 0) (hi := 4) cx
        obtain ⟨n, rfl, n0, -, n3⟩ := rg_ex (lo := 0) (hi := 3) c2
        rw [nI_clamp s0, nI_clamp n0] at h
        obtain ⟨wn, w1, w2, -, w3⟩ := rg_ex hR.1.2.2.1.2.1.1
        have w8 : (A 4510).toNatClampNeg ≤ 8 := by
          rw [w1, show (8 : Int32) = nI 8 from rfl, nI_leI w2 (by decide)] at cw
          rw [w1, nI_clamp w2]; exact cw
        have iff := kR_iff (s := s) (by omega) (n := n) (by omega) hG w8
        refine ⟨hP, s, n, A, rfl, by omega, rfl, by omega, hR, hG, hT0.2.2.2.2.2.2.1, fun μ' ρ' q => ?_⟩
        obtain ⟨z1, z2, z3⟩ := PF_TC (by omega) hT q
        have hh := h μ' ρ' z1 z2 z3
        refine ⟨fun kr => ⟨fun x => absurd x (by decide), fun _ => ?_⟩, fun nk => ⟨fun _ => ?_, fun x => absurd trivial x⟩⟩
        · rw [if_neg (iff.mp kr)] at hh; exact hh
        · rw [if_pos (Classical.not_not.mp (fun x => nk (iff.mpr x)))] at hh; exact hh
      · have c2 : rgd y 0 3 := by
          rw [Int32.le_iff_toInt_le, i3] at cz
          rw [Int32.lt_iff_toInt_lt, i0] at cy
          exact ⟨by omega, by omega⟩
        rw [if_neg (not_not_intro c2), if_pos cw] at keep
        exact keep
      · rw [if_pos (fun q => by rw [Int32.le_iff_toInt_le, i3] at cz; have := q.2; omega)] at keep
        exact keep
    · rw [if_pos cx] at keep
      exact keep
  · exact h.elim
