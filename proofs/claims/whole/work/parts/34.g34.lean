def w_X12_does_139 (M : CT) (G : Nat → PT) (Rp : RT) : PT := tAload 0 <| tIload 1 <| tConst 7 <| tIload 2 <| tAload 0 <| tIload 1 <| tConst 7 <| tFn 3 F_X12_of <| tFn 2 F_X12_greater <| tFn 4 F_X12_lays <| tVret Rp
def w_X12_does_133 (M : CT) (G : Nat → PT) (Rp : RT) : PT := tIinc 3 1 <| tGoto (G 10)
def w_X12_does_84 (M : CT) (G : Nat → PT) (Rp : RT) : PT := tConst 3830 <| tConst 4 <| tIload 3 <| tConst 1 <| tBin (fun x y => x - y) <| tBin (fun x y => x * y) <| tBin (fun x y => x + y) <| tIstore 6 <| tAload 0 <| tGetR 12 27 1 <| tIload 6 <| tAld 20 <| tIf (fun x => x ≠ 0) (w_X12_does_133 M G Rp) <| tAload 0 <| tGetR 12 27 1 <| tConst 514 <| tIload 1 <| tBin (fun x y => x * y) <| tConst 34 <| tBin (fun x y => x + y) <| tConst 4 <| tIload 3 <| tConst 1 <| tBin (fun x y => x - y) <| tBin (fun x y => x * y) <| tBin (fun x y => x + y) <| tAload 0 <| tGetR 12 27 1 <| tIload 6 <| tConst 4 <| tFn 5 F_X12_copies <| w_X12_does_133 M G Rp
def w_X12_does_56 (M : CT) (G : Nat → PT) (Rp : RT) : PT := tIload 4 <| tConst 2 <| tIf2 (fun x y => x ≠ y) (w_X12_does_84 M G Rp) <| tAload 0 <| tIload 1 <| tIload 5 <| tAload 0 <| tIload 1 <| tIload 5 <| tFn 3 F_X12_of <| tAload 0 <| tIload 1 <| tIload 3 <| tConst 3 <| tFn 4 F_X12_ofEntry <| tBin (fun x y => x + y) <| tFn 4 F_X12_lays <| w_X12_does_84 M G Rp
def w_X12_does_10 (M : CT) (G : Nat → PT) (Rp : RT) : PT := tIload 3 <| tIload 2 <| tIf2 (fun x y => y < x) (w_X12_does_139 M G Rp) <| tAload 0 <| tIload 1 <| tIload 3 <| tConst 1 <| tFn 4 F_X12_ofEntry <| tIstore 4 <| tConst 16 <| tAload 0 <| tIload 1 <| tIload 3 <| tConst 2 <| tFn 4 F_X12_ofEntry <| tBin (fun x y => x + y) <| tIstore 5 <| tIload 4 <| tConst 1 <| tIf2 (fun x y => x ≠ y) (w_X12_does_56 M G Rp) <| tAload 0 <| tIload 1 <| tIload 5 <| tAload 0 <| tIload 1 <| tIload 3 <| tConst 3 <| tFn 4 F_X12_ofEntry <| tFn 4 F_X12_lays <| w_X12_does_56 M G Rp
def w_X12_does_0 (M : CT) (G : Nat → PT) (Rp : RT) : PT := tAload 0 <| tIload 1 <| tConst 7 <| tFn 3 F_X12_of <| tConst 1 <| tBin (fun x y => x + y) <| tIstore 3 <| G 10
set_option maxRecDepth 20000 in
theorem b_X12_does_139 {Z : Zt} {d : Nat} {p : Program} {e : Env} {R : Room} {s : State} {m : MethodId} {args : Array Value} {below : List Frame} {meth : Method} {c : Code} {Rp : RT} (C : Cx Z (d + 2) jX12_does RX12 p R s m args meth c) : Sd Z jX12_does p e R s m args below meth c (MQ below (QcS Z Rp) args s 0 0 (fun a => Z.2.2.1 < a)) 139 (w_X12_does_139 (MS Z (d + 2)) (Gw Z 7 p e R s m args below meth c (MQ below (QcS Z Rp) args s 0 0 (fun a => Z.2.2.1 < a))) Rp) := by
  unfold w_X12_does_139
  refine s_aload_n (k := 0) C (by decide +kernel) ?_
  refine s_iload_n (k := 1) C (by decide +kernel) ?_
  refine s_bipush (n := 7) C (by decide +kernel) (by decide) ?_
  refine s_iload_n (k := 2) C (by decide +kernel) ?_
  refine s_aload_n (k := 0) C (by decide +kernel) ?_
  refine s_iload_n (k := 1) C (by decide +kernel) ?_
  refine s_bipush (n := 7) C (by decide +kernel) (by decide) ?_
  refine s_fnV C (j2 := jX12_of) (cl := 12) (nf := 27) rfl rfl (by decide +kernel) rfl w_6_220 w_6_222 w_p3_11 w_1_13 w_6_223 (by decide +kernel) (fun _ _ _ _ _ h => f_X12_of h) (fun _ _ _ _ _ h => r_X12_of h) ?_
  refine s_fnS C (j2 := jX12_greater) (by decide +kernel) rfl w_7_58 w_7_59 w_1_13 w_7_60 (by decide +kernel) (fun _ _ _ _ _ h => f_X12_greater h) ?_
  refine s_fnV C (j2 := jX12_lays) (cl := 12) (nf := 27) rfl rfl (by decide +kernel) rfl w_6_82 w_6_84 w_p3_4 w_1_13 w_6_85 (by decide +kernel) (fun _ _ _ _ _ h => f_X12_lays h) (fun _ _ _ _ _ h => r_X12_lays h) ?_
  exact s_vret C rfl (by decide +kernel)
set_option maxRecDepth 20000 in
theorem b_X12_does_133 {Z : Zt} {d : Nat} {p : Program} {e : Env} {R : Room} {s : State} {m : MethodId} {args : Array Value} {below : List Frame} {meth : Method} {c : Code} {Rp : RT} (C : Cx Z (d + 2) jX12_does RX12 p R s m args meth c) : Sd Z jX12_does p e R s m args below meth c (MQ below (QcS Z Rp) args s 0 0 (fun a => Z.2.2.1 < a)) 133 (w_X12_does_133 (MS Z (d + 2)) (Gw Z 7 p e R s m args below meth c (MQ below (QcS Z Rp) args s 0 0 (fun a => Z.2.2.1 < a))) Rp) := by
  unfold w_X12_does_133
  refine s_iinc (n := 1) C (by decide +kernel) (by decide) ?_
  exact s_goto (off := (-126)) (tgt := 10) C (by decide +kernel) (by decide) (fun _ _ _ _ _ _ h => h)
set_option maxRecDepth 20000 in
theorem b_X12_does_84 {Z : Zt} {d : Nat} {p : Program} {e : Env} {R : Room} {s : State} {m : MethodId} {args : Array Value} {below : List Frame} {meth : Method} {c : Code} {Rp : RT} (C : Cx Z (d + 2) jX12_does RX12 p R s m args meth c) : Sd Z jX12_does p e R s m args below meth c (MQ below (QcS Z Rp) args s 0 0 (fun a => Z.2.2.1 < a)) 84 (w_X12_does_84 (MS Z (d + 2)) (Gw Z 7 p e R s m args below meth c (MQ below (QcS Z Rp) args s 0 0 (fun a => Z.2.2.1 < a))) Rp) := by
  unfold w_X12_does_84
  refine s_sipush (n := 3830) C (by decide +kernel) (by decide) ?_
  refine s_iconst (n := 4) C (by decide +kernel) (by decide) ?_
  refine s_iload_n (k := 3) C (by decide +kernel) ?_
  refine s_iconst (n := 1) C (by decide +kernel) (by decide) ?_
  refine s_isub C (by decide +kernel) ?_
  refine s_imul C (by decide +kernel) ?_
  refine s_iadd C (by decide +kernel) ?_
  refine s_istore (k := 6) C (by decide +kernel) ?_
  refine s_aload_n (k := 0) C (by decide +kernel) ?_
  refine s_getR C w_6_88 (by decide +kernel) rfl ?_
  refine s_iload (k := 6) C (by decide +kernel) ?_
  refine s_iald C (by decide +kernel) ?_
  refine s_if_ne (off := 31) (tgt := 133) C (by decide +kernel) (by decide) (b_X12_does_133 C) ?_
  refine s_aload_n (k := 0) C (by decide +kernel) ?_
  refine s_getR C w_6_88 (by decide +kernel) rfl ?_
  refine s_sipush (n := 514) C (by decide +kernel) (by decide) ?_
  refine s_iload_n (k := 1) C (by decide +kernel) ?_
  refine s_imul C (by decide +kernel) ?_
  refine s_bipush (n := 34) C (by decide +kernel) (by decide) ?_
  refine s_iadd C (by decide +kernel) ?_
  refine s_iconst (n := 4) C (by decide +kernel) (by decide) ?_
  refine s_iload_n (k := 3) C (by decide +kernel) ?_
  refine s_iconst (n := 1) C (by decide +kernel) (by decide) ?_
  refine s_isub C (by decide +kernel) ?_
  refine s_imul C (by decide +kernel) ?_
  refine s_iadd C (by decide +kernel) ?_
  refine s_aload_n (k := 0) C (by decide +kernel) ?_
  refine s_getR C w_6_88 (by decide +kernel) rfl ?_
  refine s_iload (k := 6) C (by decide +kernel) ?_
  refine s_iconst (n := 4) C (by decide +kernel) (by decide) ?_
  refine s_fnS C (j2 := jX12_copies) (by decide +kernel) rfl w_6_182 w_6_183 w_1_13 w_6_184 (by decide +kernel) (fun _ _ _ _ _ h => f_X12_copies h) ?_
  exact (b_X12_does_133 C)
set_option maxRecDepth 20000 in
theorem b_X12_does_56 {Z : Zt} {d : Nat} {p : Program} {e : Env} {R : Room} {s : State} {m : MethodId} {args : Array Value} {below : List Frame} {meth : Method} {c : Code} {Rp : RT} (C : Cx Z (d + 2) jX12_does RX12 p R s m args meth c) : Sd Z jX12_does p e R s m args below meth c (MQ below (QcS Z Rp) args s 0 0 (fun a => Z.2.2.1 < a)) 56 (w_X12_does_56 (MS Z (d + 2)) (Gw Z 7 p e R s m args below meth c (MQ below (QcS Z Rp) args s 0 0 (fun a => Z.2.2.1 < a))) Rp) := by
  unfold w_X12_does_56
  refine s_iload (k := 4) C (by decide +kernel) ?_
  refine s_iconst (n := 2) C (by decide +kernel) (by decide) ?_
  refine s_icmp_ne (off := 25) (tgt := 84) C (by decide +kernel) (by decide) (b_X12_does_84 C) ?_
  refine s_aload_n (k := 0) C (by decide +kernel) ?_
  refine s_iload_n (k := 1) C (by decide +kernel) ?_
  refine s_iload (k := 5) C (by decide +kernel) ?_
  refine s_aload_n (k := 0) C (by decide +kernel) ?_
  refine s_iload_n (k := 1) C (by decide +kernel) ?_
  refine s_iload (k := 5) C (by decide +kernel) ?_
  refine s_fnV C (j2 := jX12_of) (cl := 12) (nf := 27) rfl rfl (by decide +kernel) rfl w_6_220 w_6_222 w_p3_11 w_1_13 w_6_223 (by decide +kernel) (fun _ _ _ _ _ h => f_X12_of h) (fun _ _ _ _ _ h => r_X12_of h) ?_
  refine s_aload_n (k := 0) C (by decide +kernel) ?_
  refine s_iload_n (k := 1) C (by decide +kernel) ?_
  refine s_iload_n (k := 3) C (by decide +kernel) ?_
  refine s_iconst (n := 3) C (by decide +kernel) (by decide) ?_
  refine s_fnV C (j2 := jX12_ofEntry) (cl := 12) (nf := 27) rfl rfl (by decide +kernel) rfl w_6_228 w_6_230 w_p3_13 w_1_13 w_6_231 (by decide +kernel) (fun _ _ _ _ _ h => f_X12_ofEntry h) (fun _ _ _ _ _ h => r_X12_ofEntry h) ?_
  refine s_iadd C (by decide +kernel) ?_
  refine s_fnV C (j2 := jX12_lays) (cl := 12) (nf := 27) rfl rfl (by decide +kernel) rfl w_6_82 w_6_84 w_p3_4 w_1_13 w_6_85 (by decide +kernel) (fun _ _ _ _ _ h => f_X12_lays h) (fun _ _ _ _ _ h => r_X12_lays h) ?_
  exact (b_X12_does_84 C)
set_option maxRecDepth 20000 in
theorem b_X12_does_10 {Z : Zt} {d : Nat} {p : Program} {e : Env} {R : Room} {s : State} {m : MethodId} {args : Array Value} {below : List Frame} {meth : Method} {c : Code} {Rp : RT} (C : Cx Z (d + 2) jX12_does RX12 p R s m args meth c) : Sd Z jX12_does p e R s m args below meth c (MQ below (QcS Z Rp) args s 0 0 (fun a => Z.2.2.1 < a)) 10 (w_X12_does_10 (MS Z (d + 2)) (Gw Z 7 p e R s m args below meth c (MQ below (QcS Z Rp) args s 0 0 (fun a => Z.2.2.1 < a))) Rp) := by
  unfold w_X12_does_10
  refine s_iload_n (k := 3) C (by decide +kernel) ?_
  refine s_iload_n (k := 2) C (by decide +kernel) ?_
  refine s_icmp_gt (off := 127) (tgt := 139) C (by decide +kernel) (by decide) (b_X12_does_139 C) ?_
  refine s_aload_n (k := 0) C (by decide +kernel) ?_
  refine s_iload_n (k := 1) C (by decide +kernel) ?_
  refine s_iload_n (k := 3) C (by decide +kernel) ?_
  refine s_iconst (n := 1) C (by decide +kernel) (by decide) ?_
  refine s_fnV C (j2 := jX12_ofEntry) (cl := 12) (nf := 27) rfl rfl (by decide +kernel) rfl w_6_228 w_6_230 w_p3_13 w_1_13 w_6_231 (by decide +kernel) (fun _ _ _ _ _ h => f_X12_ofEntry h) (fun _ _ _ _ _ h => r_X12_ofEntry h) ?_
  refine s_istore (k := 4) C (by decide +kernel) ?_
  refine s_bipush (n := 16) C (by decide +kernel) (by decide) ?_
  refine s_aload_n (k := 0) C (by decide +kernel) ?_
  refine s_iload_n (k := 1) C (by decide +kernel) ?_
  refine s_iload_n (k := 3) C (by decide +kernel) ?_
  refine s_iconst (n := 2) C (by decide +kernel) (by decide) ?_
  refine s_fnV C (j2 := jX12_ofEntry) (cl := 12) (nf := 27) rfl rfl (by decide +kernel) rfl w_6_228 w_6_230 w_p3_13 w_1_13 w_6_231 (by decide +kernel) (fun _ _ _ _ _ h => f_X12_ofEntry h) (fun _ _ _ _ _ h => r_X12_ofEntry h) ?_
  refine s_iadd C (by decide +kernel) ?_
  refine s_istore (k := 5) C (by decide +kernel) ?_
  refine s_iload (k := 4) C (by decide +kernel) ?_
  refine s_iconst (n := 1) C (by decide +kernel) (by decide) ?_
  refine s_icmp_ne (off := 17) (tgt := 56) C (by decide +kernel) (by decide) (b_X12_does_56 C) ?_
  refine s_aload_n (k := 0) C (by decide +kernel) ?_
  refine s_iload_n (k := 1) C (by decide +kernel) ?_
  refine s_iload (k := 5) C (by decide +kernel) ?_
  refine s_aload_n (k := 0) C (by decide +kernel) ?_
  refine s_iload_n (k := 1) C (by decide +kernel) ?_
  refine s_iload_n (k := 3) C (by decide +kernel) ?_
  refine s_iconst (n := 3) C (by decide +kernel) (by decide) ?_
  refine s_fnV C (j2 := jX12_ofEntry) (cl := 12) (nf := 27) rfl rfl (by decide +kernel) rfl w_6_228 w_6_230 w_p3_13 w_1_13 w_6_231 (by decide +kernel) (fun _ _ _ _ _ h => f_X12_ofEntry h) (fun _ _ _ _ _ h => r_X12_ofEntry h) ?_
  refine s_fnV C (j2 := jX12_lays) (cl := 12) (nf := 27) rfl rfl (by decide +kernel) rfl w_6_82 w_6_84 w_p3_4 w_1_13 w_6_85 (by decide +kernel) (fun _ _ _ _ _ h => f_X12_lays h) (fun _ _ _ _ _ h => r_X12_lays h) ?_
  exact (b_X12_does_56 C)
set_option maxRecDepth 20000 in
theorem b_X12_does_0 {Z : Zt} {d : Nat} {p : Program} {e : Env} {R : Room} {s : State} {m : MethodId} {args : Array Value} {below : List Frame} {meth : Method} {c : Code} {Rp : RT} (C : Cx Z (d + 2) jX12_does RX12 p R s m args meth c) : Sd Z jX12_does p e R s m args below meth c (MQ below (QcS Z Rp) args s 0 0 (fun a => Z.2.2.1 < a)) 0 (w_X12_does_0 (MS Z (d + 2)) (Gw Z 7 p e R s m args below meth c (MQ below (QcS Z Rp) args s 0 0 (fun a => Z.2.2.1 < a))) Rp) := by
  unfold w_X12_does_0
  refine s_aload_n (k := 0) C (by decide +kernel) ?_
  refine s_iload_n (k := 1) C (by decide +kernel) ?_
  refine s_bipush (n := 7) C (by decide +kernel) (by decide) ?_
  refine s_fnV C (j2 := jX12_of) (cl := 12) (nf := 27) rfl rfl (by decide +kernel) rfl w_6_220 w_6_222 w_p3_11 w_1_13 w_6_223 (by decide +kernel) (fun _ _ _ _ _ h => f_X12_of h) (fun _ _ _ _ _ h => r_X12_of h) ?_
  refine s_iconst (n := 1) C (by decide +kernel) (by decide) ?_
  refine s_iadd C (by decide +kernel) ?_
  refine s_istore_n (k := 3) C (by decide +kernel) ?_
  exact (fun _ _ _ _ _ _ h => h)
theorem ms_X12_does {Z : Zt} {d : Nat} {S : Sh} {μ : Mi} {ρ : Mr} {Rp : RT} (a0 : Nat) (x1 : Int32) (x2 : Int32) (h : ∀ G : Nat → PT, (∀ (L st : List Value) (S : Sh) (q : Nat × Nat) (μ : Mi) (ρ : Mr), w_X12_does_10 (MS Z (d + 2)) G Rp L st S q μ ρ → G 10 L st S q μ ρ) → w_X12_does_0 (MS Z (d + 2)) G Rp [.ref a0, .int x1, .int x2, .null, .null, .null, .null] [] S (0, 0) μ ρ) : MS Z (d + 3) jX12_does [.ref a0, .int x1, .int x2] S μ ρ Rp :=
  MS_of [.ref a0, .int x1, .int x2, .null, .null, .null, .null] (by decide +kernel) rfl rfl (Nat.le_of_ble_eq_true rfl) rfl (fun p e R s m args below meth c C => b_X12_does_0 C _ _ _ _ _ _ (h _ (b_X12_does_10 C)))
def w_X12_goesOut_0 (M : CT) (G : Nat → PT) (Rp : RT) : PT := tConst 2570 <| tConst 21 <| tIload 1 <| tBin (fun x y => x * y) <| tBin (fun x y => x + y) <| tIstore 2 <| tAload 0 <| tGetR 12 27 1 <| tIload 2 <| tAload 0 <| tGetR 12 27 12 <| tConst 0 <| tConst 21 <| tFn 5 F_X12_copies <| tAload 0 <| tGetR 12 27 1 <| tIload 2 <| tConst 21 <| tBin (fun x y => x + y) <| tAload 0 <| tGetR 12 27 1 <| tIload 2 <| tConst 21 <| tAload 0 <| tGetR 12 27 1 <| tConst 4510 <| tAld 20 <| tConst 1 <| tBin (fun x y => x - y) <| tIload 1 <| tBin (fun x y => x - y) <| tBin (fun x y => x * y) <| tFn 5 F_X12_copies <| tAload 0 <| tGetR 12 27 1 <| tConst 4510 <| tDup2 <| tAld 20 <| tConst 1 <| tBin (fun x y => x - y) <| tIast <| tVret Rp
set_option maxRecDepth 20000 in
theorem b_X12_goesOut_0 {Z : Zt} {d : Nat} {p : Program} {e : Env} {R : Room} {s : State} {m : MethodId} {args : Array Value} {below : List Frame} {meth : Method} {c : Code} {Rp : RT} (C : Cx Z (d + 1) jX12_goesOut RX12 p R s m args meth c) : Sd Z jX12_goesOut p e R s m args below meth c (MQ below (QcS Z Rp) args s 0 0 (fun a => Z.2.2.1 < a)) 0 (w_X12_goesOut_0 (MS Z (d + 1)) (Gw Z 3 p e R s m args below meth c (MQ below (QcS Z Rp) args s 0 0 (fun a => Z.2.2.1 < a))) Rp) := by
  unfold w_X12_goesOut_0
  refine s_sipush (n := 2570) C (by decide +kernel) (by decide) ?_
  refine s_bipush (n := 21) C (by decide +kernel) (by decide) ?_
  refine s_iload_n (k := 1) C (by decide +kernel) ?_
  refine s_imul C (by decide +kernel) ?_
  refine s_iadd C (by decide +kernel) ?_
  refine s_istore_n (k := 2) C (by decide +kernel) ?_
  refine s_aload_n (k := 0) C (by decide +kernel) ?_
  refine s_getR C w_6_88 (by decide +kernel) rfl ?_
  refine s_iload_n (k := 2) C (by decide +kernel) ?_
  refine s_aload_n (k := 0) C (by decide +kernel) ?_
  refine s_getR C w_6_99 (by decide +kernel) rfl ?_
  refine s_iconst (n := 0) C (by decide +kernel) (by decide) ?_
  refine s_bipush (n := 21) C (by decide +kernel) (by decide) ?_
  refine s_fnS C (j2 := jX12_copies) (by decide +kernel) rfl w_6_182 w_6_183 w_1_13 w_6_184 (by decide +kernel) (fun _ _ _ _ _ h => f_X12_copies h) ?_
  refine s_aload_n (k := 0) C (by decide +kernel) ?_
  refine s_getR C w_6_88 (by decide +kernel) rfl ?_
  refine s_iload_n (k := 2) C (by decide +kernel) ?_
  refine s_bipush (n := 21) C (by decide +kernel) (by decide) ?_
  refine s_iadd C (by decide +kernel) ?_
  refine s_aload_n (k := 0) C (by decide +kernel) ?_
  refine s_getR C w_6_88 (by decide +kernel) rfl ?_
  refine s_iload_n (k := 2) C (by decide +kernel) ?_
  refine s_bipush (n := 21) C (by decide +kernel) (by decide) ?_
  refine s_aload_n (k := 0) C (by decide +kernel) ?_
  refine s_getR C w_6_88 (by decide +kernel) rfl ?_
  refine s_sipush (n := 4510) C (by decide +kernel) (by decide) ?_
  refine s_iald C (by decide +kernel) ?_
  refine s_iconst (n := 1) C (by decide +kernel) (by decide) ?_
  refine s_isub C (by decide +kernel) ?_
  refine s_iload_n (k := 1) C (by decide +kernel) ?_
  refine s_isub C (by decide +kernel) ?_
  refine s_imul C (by decide +kernel) ?_
  refine s_fnS C (j2 := jX12_copies) (by decide +kernel) rfl w_6_182 w_6_183 w_1_13 w_6_184 (by decide +kernel) (fun _ _ _ _ _ h => f_X12_copies h) ?_
  refine s_aload_n (k := 0) C (by decide +kernel) ?_
  refine s_getR C w_6_88 (by decide +kernel) rfl ?_
  refine s_sipush (n := 4510) C (by decide +kernel) (by decide) ?_
  refine s_dup2 C (by decide +kernel) ?_
  refine s_iald C (by decide +kernel) ?_
  refine s_iconst (n := 1) C (by decide +kernel) (by decide) ?_
  refine s_isub C (by decide +kernel) ?_
  refine s_iast C (by decide +kernel) ?_
  exact s_vret C rfl (by decide +kernel)
theorem ms_X12_goesOut {Z : Zt} {d : Nat} {S : Sh} {μ : Mi} {ρ : Mr} {Rp : RT} (a0 : Nat) (x1 : Int32) (h : ∀ G : Nat → PT, w_X12_goesOut_0 (MS Z (d + 1)) G Rp [.ref a0, .int x1, .null] [] S (0, 0) μ ρ) : MS Z (d + 2) jX12_goesOut [.ref a0, .int x1] S μ ρ Rp :=
  MS_of [.ref a0, .int x1, .null] (by decide +kernel) rfl rfl (Nat.le_of_ble_eq_true rfl) rfl (fun p e R s m args below meth c C => b_X12_goesOut_0 C _ _ _ _ _ _ (h _ ))
