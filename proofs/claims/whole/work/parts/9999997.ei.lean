/-! ===== the class: an act is read ===== -/
def w_X9_parseAct_153 (M : CT) (G : Nat → PT) (Rp : RT) : PT := tVret Rp
def w_X9_parseAct_126 (M : CT) (G : Nat → PT) (Rp : RT) : PT := tAload 0 <| tGetI 9 7 3 <| tIf (fun x => x ≠ 0) (w_X9_parseAct_153 M G Rp) <| tAload 0 <| tDup <| tGetI 9 7 6 <| tConst 1 <| tBin (fun x y => x + y) <| tPutI 9 7 6 <| tAload 1 <| tIload 2 <| tIload 3 <| tAload 0 <| tGetR 9 7 1 <| tFn 4 F_X4_addAct <| w_X9_parseAct_153 M G Rp
def w_X9_parseAct_97 (M : CT) (G : Nat → PT) (Rp : RT) : PT := tAload 0 <| tFn 1 F_X9_skipBlanks <| tAload 0 <| tGetI 9 7 3 <| tIf (fun x => x ≠ 0) (w_X9_parseAct_126 M G Rp) <| tAload 0 <| tFn 1 F_X9_here <| tConst 59 <| tIf2 (fun x y => x = y) (w_X9_parseAct_126 M G Rp) <| tAload 0 <| tConst 1 <| tAload 0 <| tGetI 9 7 6 <| tFn 3 F_X9_fail <| w_X9_parseAct_126 M G Rp
def w_X9_parseAct_90 (M : CT) (G : Nat → PT) (Rp : RT) : PT := tIast <| tIinc 5 1 <| tGoto (G 10)
def w_X9_parseAct_88 (M : CT) (G : Nat → PT) (Rp : RT) : PT := tIload 7 <| w_X9_parseAct_90 M G Rp
def w_X9_parseAct_65 (M : CT) (G : Nat → PT) (Rp : RT) : PT := tAload 0 <| tFn 1 F_X9_parseNumber <| tIstore 7 <| tAload 0 <| tGetR 9 7 1 <| tIload 5 <| tIload 6 <| tIf (fun x => x = 0) (w_X9_parseAct_88 M G Rp) <| tIload 7 <| tUn (fun x => -x) <| tGoto (w_X9_parseAct_90 M G Rp)
def w_X9_parseAct_48 (M : CT) (G : Nat → PT) (Rp : RT) : PT := tIstore 6 <| tIload 6 <| tIf (fun x => x = 0) (w_X9_parseAct_65 M G Rp) <| tAload 0 <| tDup <| tGetI 9 7 6 <| tConst 1 <| tBin (fun x y => x + y) <| tPutI 9 7 6 <| w_X9_parseAct_65 M G Rp
def w_X9_parseAct_47 (M : CT) (G : Nat → PT) (Rp : RT) : PT := tConst 0 <| w_X9_parseAct_48 M G Rp
def w_X9_parseAct_10 (M : CT) (G : Nat → PT) (Rp : RT) : PT := tIload 5 <| tIload 4 <| tIf2 (fun x y => y ≤ x) (w_X9_parseAct_97 M G Rp) <| tAload 0 <| tGetI 9 7 3 <| tIf (fun x => x ≠ 0) (w_X9_parseAct_97 M G Rp) <| tAload 0 <| tFn 1 F_X9_skipBlanks <| tIload 5 <| tConst 2 <| tIf2 (fun x y => x ≠ y) (w_X9_parseAct_47 M G Rp) <| tAload 0 <| tFn 1 F_X9_here <| tConst 45 <| tIf2 (fun x y => x ≠ y) (w_X9_parseAct_47 M G Rp) <| tConst 1 <| tGoto (w_X9_parseAct_48 M G Rp)
def w_X9_parseAct_0 (M : CT) (G : Nat → PT) (Rp : RT) : PT := tPush (.float 0) <| tIload 2 <| tLdX 0 17 nmT <| tIstore 4 <| tConst 0 <| tIstore 5 <| G 10
set_option maxRecDepth 20000 in
theorem b_X9_parseAct_153 {Z : Zt} {d : Nat} {p : Program} {e : Env} {R : Room} {s : State} {m : MethodId} {args : Array Value} {below : List Frame} {meth : Method} {c : Code} {Rp : RT} (hZ : ZX Z) (C : Cx Z (d + 2) jX9_parseAct RX9 p R s m args meth c) : Sd Z jX9_parseAct p e R s m args below meth c (MQ below (QcS Z Rp) args s 0 0 (fun a => Z.2.2.1 < a)) 153 (w_X9_parseAct_153 (MS Z (d + 2)) (Gw Z 8 p e R s m args below meth c (MQ below (QcS Z Rp) args s 0 0 (fun a => Z.2.2.1 < a))) Rp) := by
  unfold w_X9_parseAct_153
  exact s_vret C rfl (by decide +kernel)
set_option maxRecDepth 20000 in
theorem b_X9_parseAct_126 {Z : Zt} {d : Nat} {p : Program} {e : Env} {R : Room} {s : State} {m : MethodId} {args : Array Value} {below : List Frame} {meth : Method} {c : Code} {Rp : RT} (hZ : ZX Z) (C : Cx Z (d + 2) jX9_parseAct RX9 p R s m args meth c) : Sd Z jX9_parseAct p e R s m args below meth c (MQ below (QcS Z Rp) args s 0 0 (fun a => Z.2.2.1 < a)) 126 (w_X9_parseAct_126 (MS Z (d + 2)) (Gw Z 8 p e R s m args below meth c (MQ below (QcS Z Rp) args s 0 0 (fun a => Z.2.2.1 < a))) Rp) := by
  unfold w_X9_parseAct_126
  refine s_aload_n (k := 0) C (by decide +kernel) ?_
  refine s_getI C w_2_169 (by decide +kernel) rfl ?_
  refine s_if_ne (off := 23) (tgt := 153) C (by decide +kernel) (by decide) (b_X9_parseAct_153 hZ C) ?_
  refine s_aload_n (k := 0) C (by decide +kernel) ?_
  refine s_dup C (by decide +kernel) ?_
  refine s_getI C w_2_174 (by decide +kernel) rfl ?_
  refine s_iconst (n := 1) C (by decide +kernel) (by decide) ?_
  refine s_iadd C (by decide +kernel) ?_
  refine s_putI C w_2_174 (by decide +kernel) rfl (Or.inl rfl) ?_
  refine s_aload_n (k := 1) C (by decide +kernel) ?_
  refine s_iload_n (k := 2) C (by decide +kernel) ?_
  refine s_iload_n (k := 3) C (by decide +kernel) ?_
  refine s_aload_n (k := 0) C (by decide +kernel) ?_
  refine s_getR C w_2_166 (by decide +kernel) rfl ?_
  refine s_fnV C (j2 := jX4_addAct) (cl := 4) (nf := 10) rfl rfl (by decide +kernel) rfl w_5_43 w_5_44 w_5_45 w_1_12 w_5_46 (by decide +kernel) (fun _ _ _ _ _ h => f_X4_addAct h) (fun _ _ _ _ _ h => r_X4_addAct h) ?_
  exact (b_X9_parseAct_153 hZ C)
set_option maxRecDepth 20000 in
theorem b_X9_parseAct_97 {Z : Zt} {d : Nat} {p : Program} {e : Env} {R : Room} {s : State} {m : MethodId} {args : Array Value} {below : List Frame} {meth : Method} {c : Code} {Rp : RT} (hZ : ZX Z) (C : Cx Z (d + 2) jX9_parseAct RX9 p R s m args meth c) : Sd Z jX9_parseAct p e R s m args below meth c (MQ below (QcS Z Rp) args s 0 0 (fun a => Z.2.2.1 < a)) 97 (w_X9_parseAct_97 (MS Z (d + 2)) (Gw Z 8 p e R s m args below meth c (MQ below (QcS Z Rp) args s 0 0 (fun a => Z.2.2.1 < a))) Rp) := by
  unfold w_X9_parseAct_97
  refine s_aload_n (k := 0) C (by decide +kernel) ?_
  refine s_fnV C (j2 := jX9_skipBlanks) (cl := 9) (nf := 7) rfl rfl (by decide +kernel) rfl w_4_184 w_4_186 w_p2_7 w_1_11 w_4_187 (by decide +kernel) (fun _ _ _ _ _ h => f_X9_skipBlanks h) (fun _ _ _ _ _ h => r_X9_skipBlanks h) ?_
  refine s_aload_n (k := 0) C (by decide +kernel) ?_
  refine s_getI C w_2_169 (by decide +kernel) rfl ?_
  refine s_if_ne (off := 21) (tgt := 126) C (by decide +kernel) (by decide) (b_X9_parseAct_126 hZ C) ?_
  refine s_aload_n (k := 0) C (by decide +kernel) ?_
  refine s_fnV C (j2 := jX9_here) (cl := 9) (nf := 7) rfl rfl (by decide +kernel) rfl w_4_192 w_4_194 w_p2_9 w_1_11 w_4_195 (by decide +kernel) (fun _ _ _ _ _ h => f_X9_here h) (fun _ _ _ _ _ h => r_X9_here h) ?_
  refine s_bipush (n := 59) C (by decide +kernel) (by decide) ?_
  refine s_icmp_eq (off := 12) (tgt := 126) C (by decide +kernel) (by decide) (b_X9_parseAct_126 hZ C) ?_
  refine s_aload_n (k := 0) C (by decide +kernel) ?_
  refine s_iconst (n := 1) C (by decide +kernel) (by decide) ?_
  refine s_aload_n (k := 0) C (by decide +kernel) ?_
  refine s_getI C w_2_174 (by decide +kernel) rfl ?_
  refine s_fnV C (j2 := jX9_fail) (cl := 9) (nf := 7) rfl rfl (by decide +kernel) rfl w_5_21 w_5_23 w_p2_13 w_1_11 w_5_24 (by decide +kernel) (fun _ _ _ _ _ h => f_X9_fail h) (fun _ _ _ _ _ h => r_X9_fail h) ?_
  exact (b_X9_parseAct_126 hZ C)
set_option maxRecDepth 20000 in
theorem b_X9_parseAct_90 {Z : Zt} {d : Nat} {p : Program} {e : Env} {R : Room} {s : State} {m : MethodId} {args : Array Value} {below : List Frame} {meth : Method} {c : Code} {Rp : RT} (hZ : ZX Z) (C : Cx Z (d + 2) jX9_parseAct RX9 p R s m args meth c) : Sd Z jX9_parseAct p e R s m args below meth c (MQ below (QcS Z Rp) args s 0 0 (fun a => Z.2.2.1 < a)) 90 (w_X9_parseAct_90 (MS Z (d + 2)) (Gw Z 8 p e R s m args below meth c (MQ below (QcS Z Rp) args s 0 0 (fun a => Z.2.2.1 < a))) Rp) := by
  unfold w_X9_parseAct_90
  refine s_iast C (by decide +kernel) ?_
  refine s_iinc (n := 1) C (by decide +kernel) (by decide) ?_
  exact s_goto (off := (-84)) (tgt := 10) C (by decide +kernel) (by decide) (fun _ _ _ _ _ _ h => h)
set_option maxRecDepth 20000 in
theorem b_X9_parseAct_88 {Z : Zt} {d : Nat} {p : Program} {e : Env} {R : Room} {s : State} {m : MethodId} {args : Array Value} {below : List Frame} {meth : Method} {c : Code} {Rp : RT} (hZ : ZX Z) (C : Cx Z (d + 2) jX9_parseAct RX9 p R s m args meth c) : Sd Z jX9_parseAct p e R s m args below meth c (MQ below (QcS Z Rp) args s 0 0 (fun a => Z.2.2.1 < a)) 88 (w_X9_parseAct_88 (MS Z (d + 2)) (Gw Z 8 p e R s m args below meth c (MQ below (QcS Z Rp) args s 0 0 (fun a => Z.2.2.1 < a))) Rp) := by
  unfold w_X9_parseAct_88
  refine s_iload (k := 7) C (by decide +kernel) ?_
  exact (b_X9_parseAct_90 hZ C)
set_option maxRecDepth 20000 in
theorem b_X9_parseAct_65 {Z : Zt} {d : Nat} {p : Program} {e : Env} {R : Room} {s : State} {m : MethodId} {args : Array Value} {below : List Frame} {meth : Method} {c : Code} {Rp : RT} (hZ : ZX Z) (C : Cx Z (d + 2) jX9_parseAct RX9 p R s m args meth c) : Sd Z jX9_parseAct p e R s m args below meth c (MQ below (QcS Z Rp) args s 0 0 (fun a => Z.2.2.1 < a)) 65 (w_X9_parseAct_65 (MS Z (d + 2)) (Gw Z 8 p e R s m args below meth c (MQ below (QcS Z Rp) args s 0 0 (fun a => Z.2.2.1 < a))) Rp) := by
  unfold w_X9_parseAct_65
  refine s_aload_n (k := 0) C (by decide +kernel) ?_
  refine s_fnV C (j2 := jX9_parseNumber) (cl := 9) (nf := 7) rfl rfl (by decide +kernel) rfl w_5_29 w_5_31 w_p2_15 w_1_11 w_5_32 (by decide +kernel) (fun _ _ _ _ _ h => f_X9_parseNumber h) (fun _ _ _ _ _ h => r_X9_parseNumber h) ?_
  refine s_istore (k := 7) C (by decide +kernel) ?_
  refine s_aload_n (k := 0) C (by decide +kernel) ?_
  refine s_getR C w_2_166 (by decide +kernel) rfl ?_
  refine s_iload (k := 5) C (by decide +kernel) ?_
  refine s_iload (k := 6) C (by decide +kernel) ?_
  refine s_if_eq (off := 9) (tgt := 88) C (by decide +kernel) (by decide) (b_X9_parseAct_88 hZ C) ?_
  refine s_iload (k := 7) C (by decide +kernel) ?_
  refine s_ineg C (by decide +kernel) ?_
  exact s_goto (off := 5) (tgt := 90) C (by decide +kernel) (by decide) (b_X9_parseAct_90 hZ C)
set_option maxRecDepth 20000 in
theorem b_X9_parseAct_48 {Z : Zt} {d : Nat} {p : Program} {e : Env} {R : Room} {s : State} {m : MethodId} {args : Array Value} {below : List Frame} {meth : Method} {c : Code} {Rp : RT} (hZ : ZX Z) (C : Cx Z (d + 2) jX9_parseAct RX9 p R s m args meth c) : Sd Z jX9_parseAct p e R s m args below meth c (MQ below (QcS Z Rp) args s 0 0 (fun a => Z.2.2.1 < a)) 48 (w_X9_parseAct_48 (MS Z (d + 2)) (Gw Z 8 p e R s m args below meth c (MQ below (QcS Z Rp) args s 0 0 (fun a => Z.2.2.1 < a))) Rp) := by
  unfold w_X9_parseAct_48
  refine s_istore (k := 6) C (by decide +kernel) ?_
  refine s_iload (k := 6) C (by decide +kernel) ?_
  refine s_if_eq (off := 13) (tgt := 65) C (by decide +kernel) (by decide) (b_X9_parseAct_65 hZ C) ?_
  refine s_aload_n (k := 0) C (by decide +kernel) ?_
  refine s_dup C (by decide +kernel) ?_
  refine s_getI C w_2_174 (by decide +kernel) rfl ?_
  refine s_iconst (n := 1) C (by decide +kernel) (by decide) ?_
  refine s_iadd C (by decide +kernel) ?_
  refine s_putI C w_2_174 (by decide +kernel) rfl (Or.inl rfl) ?_
  exact (b_X9_parseAct_65 hZ C)
set_option maxRecDepth 20000 in
theorem b_X9_parseAct_47 {Z : Zt} {d : Nat} {p : Program} {e : Env} {R : Room} {s : State} {m : MethodId} {args : Array Value} {below : List Frame} {meth : Method} {c : Code} {Rp : RT} (hZ : ZX Z) (C : Cx Z (d + 2) jX9_parseAct RX9 p R s m args meth c) : Sd Z jX9_parseAct p e R s m args below meth c (MQ below (QcS Z Rp) args s 0 0 (fun a => Z.2.2.1 < a)) 47 (w_X9_parseAct_47 (MS Z (d + 2)) (Gw Z 8 p e R s m args below meth c (MQ below (QcS Z Rp) args s 0 0 (fun a => Z.2.2.1 < a))) Rp) := by
  unfold w_X9_parseAct_47
  refine s_iconst (n := 0) C (by decide +kernel) (by decide) ?_
  exact (b_X9_parseAct_48 hZ C)
set_option maxRecDepth 20000 in
theorem b_X9_parseAct_10 {Z : Zt} {d : Nat} {p : Program} {e : Env} {R : Room} {s : State} {m : MethodId} {args : Array Value} {below : List Frame} {meth : Method} {c : Code} {Rp : RT} (hZ : ZX Z) (C : Cx Z (d + 2) jX9_parseAct RX9 p R s m args meth c) : Sd Z jX9_parseAct p e R s m args below meth c (MQ below (QcS Z Rp) args s 0 0 (fun a => Z.2.2.1 < a)) 10 (w_X9_parseAct_10 (MS Z (d + 2)) (Gw Z 8 p e R s m args below meth c (MQ below (QcS Z Rp) args s 0 0 (fun a => Z.2.2.1 < a))) Rp) := by
  unfold w_X9_parseAct_10
  refine s_iload (k := 5) C (by decide +kernel) ?_
  refine s_iload (k := 4) C (by decide +kernel) ?_
  refine s_icmp_ge (off := 83) (tgt := 97) C (by decide +kernel) (by decide) (b_X9_parseAct_97 hZ C) ?_
  refine s_aload_n (k := 0) C (by decide +kernel) ?_
  refine s_getI C w_2_169 (by decide +kernel) rfl ?_
  refine s_if_ne (off := 76) (tgt := 97) C (by decide +kernel) (by decide) (b_X9_parseAct_97 hZ C) ?_
  refine s_aload_n (k := 0) C (by decide +kernel) ?_
  refine s_fnV C (j2 := jX9_skipBlanks) (cl := 9) (nf := 7) rfl rfl (by decide +kernel) rfl w_4_184 w_4_186 w_p2_7 w_1_11 w_4_187 (by decide +kernel) (fun _ _ _ _ _ h => f_X9_skipBlanks h) (fun _ _ _ _ _ h => r_X9_skipBlanks h) ?_
  refine s_iload (k := 5) C (by decide +kernel) ?_
  refine s_iconst (n := 2) C (by decide +kernel) (by decide) ?_
  refine s_icmp_ne (off := 16) (tgt := 47) C (by decide +kernel) (by decide) (b_X9_parseAct_47 hZ C) ?_
  refine s_aload_n (k := 0) C (by decide +kernel) ?_
  refine s_fnV C (j2 := jX9_here) (cl := 9) (nf := 7) rfl rfl (by decide +kernel) rfl w_4_192 w_4_194 w_p2_9 w_1_11 w_4_195 (by decide +kernel) (fun _ _ _ _ _ h => f_X9_here h) (fun _ _ _ _ _ h => r_X9_here h) ?_
  refine s_bipush (n := 45) C (by decide +kernel) (by decide) ?_
  refine s_icmp_ne (off := 7) (tgt := 47) C (by decide +kernel) (by decide) (b_X9_parseAct_47 hZ C) ?_
  refine s_iconst (n := 1) C (by decide +kernel) (by decide) ?_
  exact s_goto (off := 4) (tgt := 48) C (by decide +kernel) (by decide) (b_X9_parseAct_48 hZ C)
set_option maxRecDepth 20000 in
theorem b_X9_parseAct_0 {Z : Zt} {d : Nat} {p : Program} {e : Env} {R : Room} {s : State} {m : MethodId} {args : Array Value} {below : List Frame} {meth : Method} {c : Code} {Rp : RT} (hZ : ZX Z) (C : Cx Z (d + 2) jX9_parseAct RX9 p R s m args meth c) : Sd Z jX9_parseAct p e R s m args below meth c (MQ below (QcS Z Rp) args s 0 0 (fun a => Z.2.2.1 < a)) 0 (w_X9_parseAct_0 (MS Z (d + 2)) (Gw Z 8 p e R s m args below meth c (MQ below (QcS Z Rp) args s 0 0 (fun a => Z.2.2.1 < a))) Rp) := by
  unfold w_X9_parseAct_0
  refine s_gets (w := .float 0) C (hZ _ C.2.2.2.2.2.2.2.2.1).1.1 rfl w_5_41 (by decide +kernel) ?_
  refine s_iload_n (k := 2) C (by decide +kernel) ?_
  refine s_ialdX (k := 0) C (hZ _ C.2.2.2.2.2.2.2.2.1).1.2 (by decide +kernel) ?_
  refine s_istore (k := 4) C (by decide +kernel) ?_
  refine s_iconst (n := 0) C (by decide +kernel) (by decide) ?_
  refine s_istore (k := 5) C (by decide +kernel) ?_
  exact (fun _ _ _ _ _ _ h => h)
theorem ms_X9_parseAct {Z : Zt} {d : Nat} {S : Sh} {μ : Mi} {ρ : Mr} {Rp : RT} (hZ : ZX Z) (a0 : Nat) (a1 : Nat) (x2 : Int32) (x3 : Int32) (h : ∀ G : Nat → PT, (∀ (L st : List Value) (S : Sh) (q : Nat × Nat) (μ : Mi) (ρ : Mr), w_X9_parseAct_10 (MS Z (d + 2)) G Rp L st S q μ ρ → G 10 L st S q μ ρ) → w_X9_parseAct_0 (MS Z (d + 2)) G Rp [.ref a0, .ref a1, .int x2, .int x3, .null, .null, .null, .null] [] S (0, 0) μ ρ) : MS Z (d + 3) jX9_parseAct [.ref a0, .ref a1, .int x2, .int x3] S μ ρ Rp :=
  MS_of [.ref a0, .ref a1, .int x2, .int x3, .null, .null, .null, .null] (by decide +kernel) rfl rfl (Nat.le_of_ble_eq_true rfl) rfl (fun p e R s m args below meth c C => b_X9_parseAct_0 hZ C _ _ _ _ _ _ (h _ (b_X9_parseAct_10 hZ C)))
theorem nm_nOf : ∀ w : Fin 17, nmT w.val = nOf (nI w.val) ∧ 1 ≤ (nOf (nI w.val)).toNatClampNeg ∧ (nOf (nI w.val)).toNatClampNeg ≤ 3 ∧ nOf (nI w.val) = nI (nOf (nI w.val)).toNatClampNeg := by decide +kernel
theorem pNum_2 {T : Rw} {n : Nat} {b : Int32} {p : Nat} : (pNum T n b (p, 0, -1)).2 = if (dg T n (pBeg T n b p) 0).1 = pBeg T n b p then (1, nI (pBeg T n b p)) else if pBeg T n b p + 3 < (dg T n (pBeg T n b p) 0).1 then (2, nI (pBeg T n b p)) else (0, -1) := by
  unfold pNum
  dsimp only
  by_cases c1 : (dg T n (pBeg T n b p) 0).1 = pBeg T n b p
  · rw [if_pos c1, if_pos c1, if_neg (by omega)]; rfl
  · rw [if_neg c1, if_neg c1]
    by_cases c2 : pBeg T n b p + 3 < (dg T n (pBeg T n b p) 0).1
    · rw [if_pos c2, if_pos c2]; rfl
    · rw [if_neg c2, if_neg c2]
theorem pNum_1 {T : Rw} {n : Nat} {b : Int32} {P : Ps} : (pNum T n b P).1 = (dg T n (pBeg T n b P.1) 0).1 := rfl
theorem pBeg_n {T : Rw} {n p : Nat} {b : Int32} (h : p ≤ n) : p ≤ pBeg T n b p ∧ pBeg T n b p ≤ n := by
  obtain ⟨b1, b2⟩ := blk_n (T := T) h
  unfold pBeg
  split
  · rename_i c
    have : blk T n p < n := by
      apply Classical.byContradiction
      intro q
      have := c.2
      rw [seeT_hi (by omega)] at this
      exact absurd this (by decide)
    omega
  · exact ⟨b1, b2⟩
section Ac
variable {Z : Zt} {d : Nat} {S : Sh} {μ : Mi} {ρ : Mr} {Rp : RT}
theorem f_X9_parseAct (hZ : ZX Z) {T : Rw} {n p z wi : Nat} {pl : Int32} (hP : PgS S ρ) (hT : TpR T n p S μ ρ) (hpn : p ≤ n) (e3 : μ 856 3 = 0) (e4 : μ 856 4 = -1) (e7 : μ 859 7 = nI z) (hz : z < 300) (hw : wi < 17)
    (hbad : ¬ (pSign T n 59 (pNums T n (nOf (nI wi)).toNatClampNeg 0 (p, 0, -1) (μ 858)).1).2.1 = 0 → ∀ μ', FtF μ μ' (pSign T n 59 (pNums T n (nOf (nI wi)).toNatClampNeg 0 (p, 0, -1) (μ 858)).1).2.1 (pSign T n 59 (pNums T n (nOf (nI wi)).toNatClampNeg 0 (p, 0, -1) (μ 858)).1).2.2 → Rp none S μ' ρ)
    (hok : (pSign T n 59 (pNums T n (nOf (nI wi)).toNatClampNeg 0 (p, 0, -1) (μ 858)).1).2.1 = 0 → ∀ N, N = pNums T n (nOf (nI wi)).toNatClampNeg 0 (p, 0, -1) (μ 858) → Rp none S (pgA (upI (upI (tM μ (pSign T n 59 N.1).1 N.2) 863 z (N.2 1)) 864 z (N.2 2)) z (nI wi) pl (N.2 0)) ρ) :
    MS Z (d + 3) jX9_parseAct [.ref 856, .ref 859, .int (nI wi), .int pl] S μ ρ Rp := by
  have hPs := hP.1
  obtain ⟨⟨t1, t2, t3, t4, t5⟩, en, hn, ep, hp, hbt⟩ := id hT
  obtain ⟨m1, m2, m3, m4⟩ := nm_nOf ⟨wi, hw⟩
  dsimp only at m1 m2 m3 m4
  obtain ⟨M, hM⟩ : ∃ M, M = (nOf (nI wi)).toNatClampNeg := ⟨_, rfl⟩
  rw [← hM] at hbad hok m2 m3 m4
  rw [m4] at m1
  refine ms_X9_parseAct hZ _ _ _ _ (fun G g10 => ?_)
  have tm1 : ∀ (q : Nat) (t : Rw), q ≤ 1000 → TpR T n q S (tM μ q t) ρ := fun q t hq => TpR_tM hT hq
  -- a fault was found: it is told
  have out : ∀ (μ' : Mi) (w wa : Int32) (q : Nat) (L : List Value), ¬ w = 0 → FtF μ μ' w wa → μ' 856 6 = nI q → q ≤ 1000 → (pSign T n 59 (pNums T n M 0 (p, 0, -1) (μ 858)).1).2 = (w, wa) → w_X9_parseAct_97 (MS Z (d + 2)) G Rp (.ref 856 :: .ref 859 :: .int (nI wi) :: .int pl :: L) [] S (0, 0) μ' ρ := by
    intro μ' w wa q L hw0 hf h6 hq e
    have hT' : TpR T n q S μ' ρ := ⟨⟨t1, t2, t3, t4, t5⟩, by rw [hf.2.2.2 5 (by omega) (by omega) (by omega)]; exact en, hn, h6, hq, fun i hi => by rw [hf.1 857 (by omega) (by omega)]; exact hbt i hi⟩
    have hf2 := FtF_u (v := nI (blk T n q)) hf
    have f3 := hf2.2.1
    simp only [w_X9_parseAct_97, w_X9_parseAct_126, w_X9_parseAct_153, tAload, tIload, nth, tGetI, tGetR, tConst, tLconst, tBin, tUn, tI2l, tAld, tAldR, tAlen, tIast, tBast, tZast, tAast, tIret, tZret, tVret, tAret, tIf, tIf2, tGoto, tIstore, tAstore, sset, tIinc, tDup, tDup2, tPop, tPutI, tPutZ, tPutR, tCallV, tCallS, popN, tFn, tCopy, tMax, tMin, tSw, swc, tRem, tObjI, Option.toList, List.nil_append, List.cons_append, okR, true_and, and_true, true_or, or_true, Nat.zero_le, ne_eq, not_false_eq_true, Nat.reduceEqDiff, F_X9_skipBlanks, t1]
    refine ⟨T, n, q, hT', fun _ => ⟨fun _ => hbad (by rw [e]; exact hw0) _ (by rw [e]; exact hf2), fun c => ?_⟩, fun c => ?_⟩
    · rw [f3] at c; exact absurd c (fun y => y hw0)
    · rw [f3] at c; exact absurd c (fun y => y hw0)
  -- the end
  have fin : ∀ (q : Nat) (t : Rw) (L : List Value), q ≤ n → pNums T n M 0 (p, 0, -1) (μ 858) = ((q, 0, -1), t) → w_X9_parseAct_97 (MS Z (d + 2)) G Rp (.ref 856 :: .ref 859 :: .int (nI wi) :: .int pl :: L) [] S (0, 0) (tM μ q t) ρ := by
    intro q t L hq e
    obtain ⟨b1, b2⟩ := blk_n (T := T) hq
    have x3 : ∀ (q : Nat) (t : Rw), tM μ q t 856 3 = 0 := fun q t => by rw [tM_k (by omega)]; exact e3
    rw [e] at hbad hok
    unfold pSign at hbad hok
    dsimp only at hbad hok
    simp only [w_X9_parseAct_97, tAload, tIload, nth, tGetI, tGetR, tConst, tLconst, tBin, tUn, tI2l, tAld, tAldR, tAlen, tIast, tBast, tZast, tAast, tIret, tZret, tVret, tAret, tIf, tIf2, tGoto, tIstore, tAstore, sset, tIinc, tDup, tDup2, tPop, tPutI, tPutZ, tPutR, tCallV, tCallS, popN, tFn, tCopy, tMax, tMin, tSw, swc, tRem, tObjI, Option.toList, List.nil_append, List.cons_append, okR, true_and, and_true, true_or, or_true, Nat.zero_le, ne_eq, not_false_eq_true, Nat.reduceEqDiff, F_X9_skipBlanks, F_X9_here, F_X9_fail, t1]
    refine ⟨T, n, q, tm1 q t (by omega), ?_⟩
    rw [tM_u, x3]
    refine ⟨fun c => absurd rfl c, fun _ => ⟨T, n, blk T n q, tm1 _ _ (by omega), fun c => ?_, fun c => ?_⟩⟩
    · have x7 : tM μ (blk T n q + 1) t 859 7 = nI z := by rw [tM_o (by omega) (by omega)]; exact e7
      simp only [w_X9_parseAct_126, w_X9_parseAct_153, tAload, tIload, nth, tGetI, tGetR, tConst, tLconst, tBin, tUn, tI2l, tAld, tAldR, tAlen, tIast, tBast, tZast, tAast, tIret, tZret, tVret, tAret, tIf, tIf2, tGoto, tIstore, tAstore, sset, tIinc, tDup, tDup2, tPop, tPutI, tPutZ, tPutR, tCallV, tCallS, popN, tFn, tCopy, tMax, tMin, tSw, swc, tRem, tObjI, Option.toList, List.nil_append, List.cons_append, okR, true_and, and_true, true_or, or_true, Nat.zero_le, ne_eq, not_false_eq_true, Nat.reduceEqDiff, F_X4_addAct, t1, t5, hPs, x3, tM_6, nI_s1, tM_u]
      rw [if_pos c] at hok
      refine ⟨fun c2 => absurd trivial c2, fun _ => ⟨t3, hP, z, x7, hz, ?_⟩⟩
      have := hok rfl _ rfl
      dsimp only at this
      rw [tM_t]
      exact this
    · rw [tM_6]
      have y3 : upI (upI (tM μ (blk T n q) t) 856 3 1) 856 4 (nI (blk T n q)) 856 3 = 1 := by rw [upI_k (by omega), upI_at]
      rw [if_neg c] at hbad
      simp only [w_X9_parseAct_126, w_X9_parseAct_153, tAload, tIload, nth, tGetI, tGetR, tConst, tLconst, tBin, tUn, tI2l, tAld, tAldR, tAlen, tIast, tBast, tZast, tAast, tIret, tZret, tVret, tAret, tIf, tIf2, tGoto, tIstore, tAstore, sset, tIinc, tDup, tDup2, tPop, tPutI, tPutZ, tPutR, tCallV, tCallS, popN, tFn, tCopy, tMax, tMin, tSw, swc, tRem, tObjI, Option.toList, List.nil_append, List.cons_append, okR, true_and, and_true, true_or, or_true, Nat.zero_le, ne_eq, not_false_eq_true, Nat.reduceEqDiff, t1, y3]
      exact ⟨fun _ => hbad (nz1 _) _ FtF_tM, fun c2 => absurd (by decide) c2⟩
  have loop : ∀ (m i q : Nat) (t : Rw) (v6 v7 : Value), i + m = M → q ≤ n → pNums T n M 0 (p, 0, -1) (μ 858) = pNums T n m i (q, 0, -1) t → G 10 [.ref 856, .ref 859, .int (nI wi), .int pl, .int (nI M), .int (nI i), v6, v7] [] S (0, 0) (tM μ q t) ρ := by
    intro m
    induction m with
    | zero =>
      intro i q t v6 v7 hi hq e
      apply g10
      simp only [w_X9_parseAct_10, tAload, tIload, nth, tGetI, tGetR, tConst, tLconst, tBin, tUn, tI2l, tAld, tAldR, tAlen, tIast, tBast, tZast, tAast, tIret, tZret, tVret, tAret, tIf, tIf2, tGoto, tIstore, tAstore, sset, tIinc, tDup, tDup2, tPop, tPutI, tPutZ, tPutR, tCallV, tCallS, popN, tFn, tCopy, tMax, tMin, tSw, swc, tRem, tObjI, Option.toList, List.nil_append, List.cons_append, okR, true_and, and_true, true_or, or_true, Nat.zero_le, ne_eq, not_false_eq_true, Nat.reduceEqDiff]
      exact ⟨fun _ => fin q t _ hq e, fun c => absurd (by rw [nI_leI (by omega) (by omega)]; omega) c⟩
    | succ m ih =>
      intro i q t v6 v7 hi hq e
      rw [pNums_s] at e
      obtain ⟨b1, b2⟩ := blk_n (T := T) hq
      obtain ⟨B, hB⟩ : ∃ B : Int32, B = if i = 2 then 1 else 0 := ⟨_, rfl⟩
      rw [← hB] at e
      obtain ⟨pb1, pb2⟩ := pBeg_n (T := T) (b := B) hq
      obtain ⟨d1, d2⟩ := dg_n (T := T) pb2
      have e10 := pNum_2 (T := T) (n := n) (b := B) (p := q)
      -- the number, once it is known where it begins
      have num : ∀ (mi : Int32), (mi = if pLess T n B q then 1 else 0) → w_X9_parseAct_65 (MS Z (d + 2)) G Rp [.ref 856, .ref 859, .int (nI wi), .int pl, .int (nI M), .int (nI i), .int mi, v7] [] S (0, 0) (tM μ (pBeg T n B q) t) ρ := by
        intro mi hmi
        simp only [w_X9_parseAct_65, tAload, tIload, nth, tGetI, tGetR, tConst, tLconst, tBin, tUn, tI2l, tAld, tAldR, tAlen, tIast, tBast, tZast, tAast, tIret, tZret, tVret, tAret, tIf, tIf2, tGoto, tIstore, tAstore, sset, tIinc, tDup, tDup2, tPop, tPutI, tPutZ, tPutR, tCallV, tCallS, popN, tFn, tCopy, tMax, tMin, tSw, swc, tRem, tObjI, Option.toList, List.nil_append, List.cons_append, okR, true_and, and_true, true_or, or_true, Nat.zero_le, ne_eq, not_false_eq_true, Nat.reduceEqDiff, F_X9_parseNumber, t1, t5]
        refine ⟨T, n, pBeg T n B q, tm1 _ _ (by omega), pb2, fun v hv => ?_⟩
        rw [tM_u]
        have st : ∀ (w : Int32) (ν : Mi), (ν 856 3 = 0 → ν = tM μ (dg T n (pBeg T n B q) 0).1 t ∧ (pNum T n B (q, 0, -1)).2 = (0, -1) ∧ w = pNumV T n B (q, 0, -1)) → (¬ ν 856 3 = 0 → FtF μ ν (pNum T n B (q, 0, -1)).2.1 (pNum T n B (q, 0, -1)).2.2 ∧ ν 856 6 = nI (dg T n (pBeg T n B q) 0).1) → w_X9_parseAct_90 (MS Z (d + 2)) G Rp [.ref 856, .ref 859, .int (nI wi), .int pl, .int (nI M), .int (nI i), .int mi, .int v] [.int w, .int (nI i), .ref 858] S (0, 0) ν ρ := by
          intro w ν h0 h1
          simp only [w_X9_parseAct_90, tAload, tIload, nth, tGetI, tGetR, tConst, tLconst, tBin, tUn, tI2l, tAld, tAldR, tAlen, tIast, tBast, tZast, tAast, tIret, tZret, tVret, tAret, tIf, tIf2, tGoto, tIstore, tAstore, sset, tIinc, tDup, tDup2, tPop, tPutI, tPutZ, tPutR, tCallV, tCallS, popN, tFn, tCopy, tMax, tMin, tSw, swc, tRem, tObjI, Option.toList, List.nil_append, List.cons_append, okR, true_and, and_true, true_or, or_true, Nat.zero_le, ne_eq, not_false_eq_true, Nat.reduceEqDiff, t3, nI_clamp (show i < 2 ^ 31 by omega), nI_s1]
          refine ⟨inb_nI (by omega) (by decide), ?_⟩
          by_cases c : ν 856 3 = 0
          · obtain ⟨g1, g2, g3⟩ := h0 c
            rw [g1, tM_v, g3]
            refine ih (i + 1) _ _ _ _ (by omega) d2 ?_
            rw [e]
            congr 1
            show pNum T n B (q, 0, -1) = ((dg T n (pBeg T n B q) 0).1, 0, -1)
            exact Prod.ext pNum_1 g2
          · obtain ⟨g1, g2⟩ := h1 c
            have g3 := FtF_v (i := i) (v := w) g1
            have g0 : ¬ (pNum T n B (q, 0, -1)).2.1 = 0 := by rw [← g1.2.1]; exact c
            have e5 : (pSign T n 59 (pNums T n M 0 (p, 0, -1) (μ 858)).1).2 = (pNum T n B (q, 0, -1)).2 := by
              rw [e]
              have s1 := pNums_st (T := T) (n := n) m (i + 1) (pNum T n B (q, 0, -1)) (up t i (pNumV T n B (q, 0, -1))) g0
              rw [pSign_st (by rw [s1]; exact g0), s1]
            apply g10
            simp only [w_X9_parseAct_10, tAload, tIload, nth, tGetI, tGetR, tConst, tLconst, tBin, tUn, tI2l, tAld, tAldR, tAlen, tIast, tBast, tZast, tAast, tIret, tZret, tVret, tAret, tIf, tIf2, tGoto, tIstore, tAstore, sset, tIinc, tDup, tDup2, tPop, tPutI, tPutZ, tPutR, tCallV, tCallS, popN, tFn, tCopy, tMax, tMin, tSw, swc, tRem, tObjI, Option.toList, List.nil_append, List.cons_append, okR, true_and, and_true, true_or, or_true, Nat.zero_le, ne_eq, not_false_eq_true, Nat.reduceEqDiff, t1]
            have o97 := fun L => out (upI ν 858 i w) _ _ (dg T n (pBeg T n B q) 0).1 L g0 g3 (by rw [upI_ne (by omega)]; exact g2) (by omega) e5
            refine ⟨fun _ => o97 _, fun _ => ⟨fun _ => o97 _, fun c2 => ?_⟩⟩
            rw [g3.2.1] at c2
            exact absurd c2 (fun y => y g0)
        have mem0 : ∀ ν : Mi, ν = (if (dg T n (pBeg T n B q) 0).1 = pBeg T n B q then upI (upI (tM μ (dg T n (pBeg T n B q) 0).1 t) 856 3 1) 856 4 (nI (pBeg T n B q)) else if pBeg T n B q + 3 < (dg T n (pBeg T n B q) 0).1 then upI (upI (tM μ (dg T n (pBeg T n B q) 0).1 t) 856 3 2) 856 4 (nI (pBeg T n B q)) else tM μ (dg T n (pBeg T n B q) 0).1 t) → ν 856 3 = (pNum T n B (q, 0, -1)).2.1 ∧ (¬ ν 856 3 = 0 → FtF μ ν (pNum T n B (q, 0, -1)).2.1 (pNum T n B (q, 0, -1)).2.2 ∧ ν 856 6 = nI (dg T n (pBeg T n B q) 0).1) ∧ (ν 856 3 = 0 → ν = tM μ (dg T n (pBeg T n B q) 0).1 t ∧ (pNum T n B (q, 0, -1)).2 = (0, -1) ∧ (dg T n (pBeg T n B q) 0).1 ≤ pBeg T n B q + 3) := by
          intro ν hν
          by_cases c1 : (dg T n (pBeg T n B q) 0).1 = pBeg T n B q
          · rw [if_pos c1] at hν e10
            rw [e10, hν]
            have y3 : upI (upI (tM μ (dg T n (pBeg T n B q) 0).1 t) 856 3 1) 856 4 (nI (pBeg T n B q)) 856 3 = 1 := by rw [upI_k (by omega), upI_at]
            refine ⟨y3, fun _ => ⟨FtF_tM, by rw [upI_k (by omega), upI_k (by omega), tM_6]⟩, fun c => ?_⟩
            rw [y3] at c
            exact absurd c (by decide)
          · rw [if_neg c1] at hν e10
            by_cases c2 : pBeg T n B q + 3 < (dg T n (pBeg T n B q) 0).1
            · rw [if_pos c2] at hν e10
              rw [e10, hν]
              have y3 : upI (upI (tM μ (dg T n (pBeg T n B q) 0).1 t) 856 3 2) 856 4 (nI (pBeg T n B q)) 856 3 = 2 := by rw [upI_k (by omega), upI_at]
              refine ⟨y3, fun _ => ⟨FtF_tM, by rw [upI_k (by omega), upI_k (by omega), tM_6]⟩, fun c => ?_⟩
              rw [y3] at c
              exact absurd c (by decide)
            · rw [if_neg c2] at hν e10
              rw [e10, hν]
              have y3 : tM μ (dg T n (pBeg T n B q) 0).1 t 856 3 = 0 := by rw [tM_k (by omega)]; exact e3
              exact ⟨y3, fun c => absurd y3 c, fun _ => ⟨rfl, rfl, by omega⟩⟩
        generalize hν : (if (dg T n (pBeg T n B q) 0).1 = pBeg T n B q then upI (upI (tM μ (dg T n (pBeg T n B q) 0).1 t) 856 3 1) 856 4 (nI (pBeg T n B q)) else if pBeg T n B q + 3 < (dg T n (pBeg T n B q) 0).1 then upI (upI (tM μ (dg T n (pBeg T n B q) 0).1 t) 856 3 2) 856 4 (nI (pBeg T n B q)) else tM μ (dg T n (pBeg T n B q) 0).1 t) = ν
        obtain ⟨k1, k2, k3⟩ := mem0 ν hν.symm
        simp only [w_X9_parseAct_88, tAload, tIload, nth, tGetI, tGetR, tConst, tLconst, tBin, tUn, tI2l, tAld, tAldR, tAlen, tIast, tBast, tZast, tAast, tIret, tZret, tVret, tAret, tIf, tIf2, tGoto, tIstore, tAstore, sset, tIinc, tDup, tDup2, tPop, tPutI, tPutZ, tPutR, tCallV, tCallS, popN, tFn, tCopy, tMax, tMin, tSw, swc, tRem, tObjI, Option.toList, List.nil_append, List.cons_append, okR, true_and, and_true, true_or, or_true, Nat.zero_le, ne_eq, not_false_eq_true, Nat.reduceEqDiff]
        by_cases cl : pLess T n B q
        · rw [if_pos cl] at hmi
          refine ⟨fun c => absurd (hmi.symm.trans c) (by decide), fun _ => st (-v) ν (fun c => ?_) k2⟩
          obtain ⟨j1, j2, j3⟩ := k3 c
          refine ⟨j1, j2, ?_⟩
          rw [hv j3]
          unfold pNumV
          rw [if_pos cl]
        · rw [if_neg cl] at hmi
          refine ⟨fun _ => st v ν (fun c => ?_) k2, fun c => absurd hmi c⟩
          obtain ⟨j1, j2, j3⟩ := k3 c
          refine ⟨j1, j2, ?_⟩
          rw [hv j3]
          unfold pNumV
          rw [if_neg cl]
      have x3 : ∀ (q : Nat) (t : Rw), tM μ q t 856 3 = 0 := fun q t => by rw [tM_k (by omega)]; exact e3
      have plain : ¬ pLess T n B q → w_X9_parseAct_47 (MS Z (d + 2)) G Rp [.ref 856, .ref 859, .int (nI wi), .int pl, .int (nI M), .int (nI i), v6, v7] [] S (0, 0) (tM μ (blk T n q) t) ρ := by
        intro c
        have eb : pBeg T n B q = blk T n q := by unfold pBeg; rw [if_neg c]
        have := num 0 (by rw [if_neg c])
        rw [eb] at this
        simp only [w_X9_parseAct_47, w_X9_parseAct_48, tAload, tIload, nth, tGetI, tGetR, tConst, tLconst, tBin, tUn, tI2l, tAld, tAldR, tAlen, tIast, tBast, tZast, tAast, tIret, tZret, tVret, tAret, tIf, tIf2, tGoto, tIstore, tAstore, sset, tIinc, tDup, tDup2, tPop, tPutI, tPutZ, tPutR, tCallV, tCallS, popN, tFn, tCopy, tMax, tMin, tSw, swc, tRem, tObjI, Option.toList, List.nil_append, List.cons_append, okR, true_and, and_true, true_or, or_true, Nat.zero_le, ne_eq, not_false_eq_true, Nat.reduceEqDiff]
        exact ⟨fun _ => this, fun y => absurd trivial y⟩
      apply g10
      simp only [w_X9_parseAct_10, tAload, tIload, nth, tGetI, tGetR, tConst, tLconst, tBin, tUn, tI2l, tAld, tAldR, tAlen, tIast, tBast, tZast, tAast, tIret, tZret, tVret, tAret, tIf, tIf2, tGoto, tIstore, tAstore, sset, tIinc, tDup, tDup2, tPop, tPutI, tPutZ, tPutR, tCallV, tCallS, popN, tFn, tCopy, tMax, tMin, tSw, swc, tRem, tObjI, Option.toList, List.nil_append, List.cons_append, okR, true_and, and_true, true_or, or_true, Nat.zero_le, ne_eq, not_false_eq_true, Nat.reduceEqDiff, F_X9_skipBlanks, F_X9_here, t1, x3]
      refine ⟨fun c => absurd c (by rw [nI_leI (by omega) (by omega)]; omega), fun _ => ⟨fun c => absurd trivial c, fun _ => ⟨T, n, q, tm1 q t (by omega), ?_⟩⟩⟩
      rw [tM_u]
      refine ⟨fun c => plain (fun y => ?_), fun c => ⟨T, n, blk T n q, tm1 _ _ (by omega), fun c2 => plain (fun y => c2 y.2), fun c2 => ?_⟩⟩
      · have : ¬ i = 2 := fun q => c (by rw [q]; rfl)
        rw [hB, if_neg this] at y
        exact y.1 rfl
      · have ci : i = 2 := (nI_eq (by omega) (by decide)).mp (Classical.not_not.mp c)
        have cl : pLess T n B q := ⟨by rw [hB, if_pos ci]; decide, Classical.not_not.mp c2⟩
        have eb : pBeg T n B q = blk T n q + 1 := by unfold pBeg; rw [if_pos cl]
        have := num 1 (by rw [if_pos cl])
        rw [eb] at this
        simp only [w_X9_parseAct_48, tAload, tIload, nth, tGetI, tGetR, tConst, tLconst, tBin, tUn, tI2l, tAld, tAldR, tAlen, tIast, tBast, tZast, tAast, tIret, tZret, tVret, tAret, tIf, tIf2, tGoto, tIstore, tAstore, sset, tIinc, tDup, tDup2, tPop, tPutI, tPutZ, tPutR, tCallV, tCallS, popN, tFn, tCopy, tMax, tMin, tSw, swc, tRem, tObjI, Option.toList, List.nil_append, List.cons_append, okR, true_and, and_true, true_or, or_true, Nat.zero_le, ne_eq, not_false_eq_true, Nat.reduceEqDiff, t1, tM_6, nI_s1, tM_u]
        exact ⟨fun y => absurd y (by decide), fun _ => this⟩
  simp only [w_X9_parseAct_0, tAload, tIload, nth, tGetI, tGetR, tConst, tLconst, tBin, tUn, tI2l, tAld, tAldR, tAlen, tIast, tBast, tZast, tAast, tIret, tZret, tVret, tAret, tIf, tIf2, tGoto, tIstore, tAstore, sset, tIinc, tDup, tDup2, tPop, tPutI, tPutZ, tPutR, tCallV, tCallS, popN, tFn, tCopy, tMax, tMin, tSw, swc, tRem, tObjI, Option.toList, List.nil_append, List.cons_append, okR, true_and, and_true, true_or, or_true, Nat.zero_le, ne_eq, not_false_eq_true, Nat.reduceEqDiff, tPush, tLdX, nI_clamp (show wi < 2 ^ 31 by omega), m1]
  refine ⟨inb_nI hw (by decide), ?_⟩
  have := loop M 0 p (μ 858) .null .null (by omega) hpn rfl
  rw [tM_self ep] at this
  exact this
end Ac
