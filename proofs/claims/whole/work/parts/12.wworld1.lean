def w_X10_init_0 (M : CT) (G : Nat → PT) (Rp : RT) : PT := tAload 0 <| tObjI <| tAload 0 <| tConst 5 <| tAnew 7 169 2216 <| tPutR 10 6 0 <| tAload 0 <| tNew 1 6 169 2216 <| tDup <| tCallI M jX1_init 0 169 2216 <| tPutR 10 6 1 <| tAload 0 <| tConst 121 <| tNewa 20 169 2216 <| tPutR 10 6 2 <| tAload 0 <| tConst 201 <| tNewa 20 169 2216 <| tPutR 10 6 3 <| tConst 0 <| tIstore 1 <| G 42
def w_X10_init_42 (M : CT) (G : Nat → PT) (Rp : RT) : PT := tIload 1 <| tConst 5 <| tIf2 (fun x y => y ≤ x) (G 67) <| tAload 0 <| tGetR 10 6 0 <| tIload 1 <| tNew 7 18 169 2216 <| tDup <| tIload 1 <| tCallI M jX7_init 1 169 2216 <| tAast 7 <| tIinc 1 1 <| tGoto (G 42)
def w_X10_init_67 (M : CT) (G : Nat → PT) (Rp : RT) : PT := tAload 0 <| tConst 31 <| tCallV M jX10_renew 10 6 1 <| tVret Rp
set_option maxRecDepth 20000 in
theorem b_X10_init_0 {Z : Zt} {d : Nat} {p : Program} {e : Env} {R : Room} {s : State} {m : MethodId} {args : Array Value} {below : List Frame} {meth : Method} {c : Code} {Rp : RT} (C : Cx Z d jX10_init RX10 p R s m args meth c) : Sd Z jX10_init p e R s m args below meth c (MQ below (QcS Z Rp) args s 169 2216 (fun a => Z.2.2.1 < a)) 0 (w_X10_init_0 (MS Z d) (Gw Z 2 p e R s m args below meth c (MQ below (QcS Z Rp) args s 169 2216 (fun a => Z.2.2.1 < a))) Rp) := by
  unfold w_X10_init_0
  refine s_aload_n (k := 0) C (by decide +kernel) ?_
  refine s_objI C w_1_35 w_1_28 w_1_29 (by decide +kernel) ?_
  refine s_aload_n (k := 0) C (by decide +kernel) ?_
  refine s_iconst (n := 5) C (by decide +kernel) (by decide) ?_
  refine s_anew C rfl w_1_36 w_1_37 (by decide +kernel) ?_
  refine s_putR C w_2_113 (by decide +kernel) rfl (Or.inr ⟨rfl, rfl, rfl⟩) ?_
  refine s_aload_n (k := 0) C (by decide +kernel) ?_
  refine s_new C rfl w_1_38 w_1_39 w_1_3 (by decide +kernel) ?_
  refine s_dup C (by decide +kernel) ?_
  refine s_callI C (by decide +kernel) ⟨rfl, rfl⟩ w_1_40 w_1_41 w_1_3 w_1_42 (by decide +kernel) ?_
  refine s_putR C w_2_117 (by decide +kernel) rfl (Or.inr ⟨rfl, rfl, rfl⟩) ?_
  refine s_aload_n (k := 0) C (by decide +kernel) ?_
  refine s_bipush (n := 121) C (by decide +kernel) (by decide) ?_
  refine s_newa (aty := .int) C rfl w_1_117 (fun _ _ h => h) (by decide +kernel) ?_
  refine s_putR C w_2_121 (by decide +kernel) rfl (Or.inr ⟨rfl, rfl, rfl⟩) ?_
  refine s_aload_n (k := 0) C (by decide +kernel) ?_
  refine s_sipush (n := 201) C (by decide +kernel) (by decide) ?_
  refine s_newa (aty := .int) C rfl w_1_117 (fun _ _ h => h) (by decide +kernel) ?_
  refine s_putR C w_2_124 (by decide +kernel) rfl (Or.inr ⟨rfl, rfl, rfl⟩) ?_
  refine s_iconst (n := 0) C (by decide +kernel) (by decide) ?_
  refine s_istore_n (k := 1) C (by decide +kernel) ?_
  exact (fun _ _ _ _ _ _ h => h)
set_option maxRecDepth 20000 in
theorem b_X10_init_42 {Z : Zt} {d : Nat} {p : Program} {e : Env} {R : Room} {s : State} {m : MethodId} {args : Array Value} {below : List Frame} {meth : Method} {c : Code} {Rp : RT} (C : Cx Z d jX10_init RX10 p R s m args meth c) : Sd Z jX10_init p e R s m args below meth c (MQ below (QcS Z Rp) args s 169 2216 (fun a => Z.2.2.1 < a)) 42 (w_X10_init_42 (MS Z d) (Gw Z 2 p e R s m args below meth c (MQ below (QcS Z Rp) args s 169 2216 (fun a => Z.2.2.1 < a))) Rp) := by
  unfold w_X10_init_42
  refine s_iload_n (k := 1) C (by decide +kernel) ?_
  refine s_iconst (n := 5) C (by decide +kernel) (by decide) ?_
  refine s_icmp_ge (off := 23) (tgt := 67) C (by decide +kernel) (by decide) (fun _ _ _ _ _ _ h => h) ?_
  refine s_aload_n (k := 0) C (by decide +kernel) ?_
  refine s_getR C w_2_113 (by decide +kernel) rfl ?_
  refine s_iload_n (k := 1) C (by decide +kernel) ?_
  refine s_new C rfl w_1_36 w_1_149 w_1_5 (by decide +kernel) ?_
  refine s_dup C (by decide +kernel) ?_
  refine s_iload_n (k := 1) C (by decide +kernel) ?_
  refine s_callI C (by decide +kernel) ⟨rfl, rfl⟩ w_1_150 w_1_151 w_1_5 w_1_152 (by decide +kernel) ?_
  refine s_aast C rfl (by decide +kernel) ?_
  refine s_iinc (n := 1) C (by decide +kernel) (by decide) ?_
  exact s_goto (off := (-22)) (tgt := 42) C (by decide +kernel) (by decide) (fun _ _ _ _ _ _ h => h)
set_option maxRecDepth 20000 in
theorem b_X10_init_67 {Z : Zt} {d : Nat} {p : Program} {e : Env} {R : Room} {s : State} {m : MethodId} {args : Array Value} {below : List Frame} {meth : Method} {c : Code} {Rp : RT} (C : Cx Z d jX10_init RX10 p R s m args meth c) : Sd Z jX10_init p e R s m args below meth c (MQ below (QcS Z Rp) args s 169 2216 (fun a => Z.2.2.1 < a)) 67 (w_X10_init_67 (MS Z d) (Gw Z 2 p e R s m args below meth c (MQ below (QcS Z Rp) args s 169 2216 (fun a => Z.2.2.1 < a))) Rp) := by
  unfold w_X10_init_67
  refine s_aload_n (k := 0) C (by decide +kernel) ?_
  refine s_bipush (n := 31) C (by decide +kernel) (by decide) ?_
  refine s_callV C rfl rfl (by decide +kernel) rfl w_2_75 w_2_77 w_p1_0 w_1_2 w_2_78 (by decide +kernel) ?_
  exact s_vret C rfl (by decide +kernel)
theorem ms_X10_init {Z : Zt} {d : Nat} {S : Sh} {μ : Mi} {ρ : Mr} {Rp : RT} (a0 : Nat) (h : ∀ G : Nat → PT, (∀ (L st : List Value) (S : Sh) (q : Nat × Nat) (μ : Mi) (ρ : Mr), w_X10_init_42 (MS Z d) G Rp L st S q μ ρ → G 42 L st S q μ ρ) → (∀ (L st : List Value) (S : Sh) (q : Nat × Nat) (μ : Mi) (ρ : Mr), w_X10_init_67 (MS Z d) G Rp L st S q μ ρ → G 67 L st S q μ ρ) → w_X10_init_0 (MS Z d) G Rp [.ref a0, .null] [] S (0, 0) μ ρ) : MS Z (d + 1) jX10_init [.ref a0] S μ ρ Rp :=
  MS_of [.ref a0, .null] (by decide +kernel) rfl rfl (Nat.le_of_ble_eq_true rfl) rfl (fun p e R s m args below meth c C => b_X10_init_0 C _ _ _ _ _ _ (h _ (b_X10_init_42 C) (b_X10_init_67 C)))
def w_X10_renew_0 (M : CT) (G : Nat → PT) (Rp : RT) : PT := tConst 0 <| tIstore 2 <| G 2
def w_X10_renew_2 (M : CT) (G : Nat → PT) (Rp : RT) : PT := tIload 2 <| tConst 5 <| tIf2 (fun x y => y ≤ x) (G 23) <| tAload 0 <| tGetR 10 6 0 <| tIload 2 <| tAldR 37 <| tIload 1 <| tCallV M jX7_renew 7 18 1 <| tIinc 2 1 <| tGoto (G 2)
def w_X10_renew_23 (M : CT) (G : Nat → PT) (Rp : RT) : PT := tAload 0 <| tGetR 10 6 1 <| tCallV M jX1_renew 1 6 0 <| tAload 0 <| tGetR 10 6 2 <| tConst 0 <| tCallS M jJ7_fill_53178 2 <| tAload 0 <| tGetR 10 6 3 <| tConst 0 <| tCallS M jJ7_fill_53178 2 <| tAload 0 <| tIload 1 <| tPutI 10 6 4 <| tAload 0 <| tConst 0 <| tPutZ 10 6 5 <| tVret Rp
set_option maxRecDepth 20000 in
theorem b_X10_renew_0 {Z : Zt} {d : Nat} {p : Program} {e : Env} {R : Room} {s : State} {m : MethodId} {args : Array Value} {below : List Frame} {meth : Method} {c : Code} {Rp : RT} (C : Cx Z d jX10_renew RX10 p R s m args meth c) : Sd Z jX10_renew p e R s m args below meth c (MQ below (QcS Z Rp) args s 0 0 (fun a => Z.2.2.1 < a)) 0 (w_X10_renew_0 (MS Z d) (Gw Z 3 p e R s m args below meth c (MQ below (QcS Z Rp) args s 0 0 (fun a => Z.2.2.1 < a))) Rp) := by
  unfold w_X10_renew_0
  refine s_iconst (n := 0) C (by decide +kernel) (by decide) ?_
  refine s_istore_n (k := 2) C (by decide +kernel) ?_
  exact (fun _ _ _ _ _ _ h => h)
set_option maxRecDepth 20000 in
theorem b_X10_renew_2 {Z : Zt} {d : Nat} {p : Program} {e : Env} {R : Room} {s : State} {m : MethodId} {args : Array Value} {below : List Frame} {meth : Method} {c : Code} {Rp : RT} (C : Cx Z d jX10_renew RX10 p R s m args meth c) : Sd Z jX10_renew p e R s m args below meth c (MQ below (QcS Z Rp) args s 0 0 (fun a => Z.2.2.1 < a)) 2 (w_X10_renew_2 (MS Z d) (Gw Z 3 p e R s m args below meth c (MQ below (QcS Z Rp) args s 0 0 (fun a => Z.2.2.1 < a))) Rp) := by
  unfold w_X10_renew_2
  refine s_iload_n (k := 2) C (by decide +kernel) ?_
  refine s_iconst (n := 5) C (by decide +kernel) (by decide) ?_
  refine s_icmp_ge (off := 19) (tgt := 23) C (by decide +kernel) (by decide) (fun _ _ _ _ _ _ h => h) ?_
  refine s_aload_n (k := 0) C (by decide +kernel) ?_
  refine s_getR C w_2_113 (by decide +kernel) rfl ?_
  refine s_iload_n (k := 2) C (by decide +kernel) ?_
  refine s_aald C rfl (by decide +kernel) ?_
  refine s_iload_n (k := 1) C (by decide +kernel) ?_
  refine s_callV C rfl rfl (by decide +kernel) rfl w_2_79 w_2_80 w_2_81 w_1_5 w_2_82 (by decide +kernel) ?_
  refine s_iinc (n := 1) C (by decide +kernel) (by decide) ?_
  exact s_goto (off := (-18)) (tgt := 2) C (by decide +kernel) (by decide) (fun _ _ _ _ _ _ h => h)
set_option maxRecDepth 20000 in
theorem b_X10_renew_23 {Z : Zt} {d : Nat} {p : Program} {e : Env} {R : Room} {s : State} {m : MethodId} {args : Array Value} {below : List Frame} {meth : Method} {c : Code} {Rp : RT} (C : Cx Z d jX10_renew RX10 p R s m args meth c) : Sd Z jX10_renew p e R s m args below meth c (MQ below (QcS Z Rp) args s 0 0 (fun a => Z.2.2.1 < a)) 23 (w_X10_renew_23 (MS Z d) (Gw Z 3 p e R s m args below meth c (MQ below (QcS Z Rp) args s 0 0 (fun a => Z.2.2.1 < a))) Rp) := by
  unfold w_X10_renew_23
  refine s_aload_n (k := 0) C (by decide +kernel) ?_
  refine s_getR C w_2_117 (by decide +kernel) rfl ?_
  refine s_callV C rfl rfl (by decide +kernel) rfl w_2_108 w_2_109 w_2_110 w_1_3 w_2_111 (by decide +kernel) ?_
  refine s_aload_n (k := 0) C (by decide +kernel) ?_
  refine s_getR C w_2_121 (by decide +kernel) rfl ?_
  refine s_iconst (n := 0) C (by decide +kernel) (by decide) ?_
  refine s_callS C (by decide +kernel) rfl w_2_112 w_2_88 w_1_8 w_2_89 (by decide +kernel) ?_
  refine s_aload_n (k := 0) C (by decide +kernel) ?_
  refine s_getR C w_2_124 (by decide +kernel) rfl ?_
  refine s_iconst (n := 0) C (by decide +kernel) (by decide) ?_
  refine s_callS C (by decide +kernel) rfl w_2_112 w_2_88 w_1_8 w_2_89 (by decide +kernel) ?_
  refine s_aload_n (k := 0) C (by decide +kernel) ?_
  refine s_iload_n (k := 1) C (by decide +kernel) ?_
  refine s_putI C w_2_126 (by decide +kernel) rfl (Or.inl rfl) ?_
  refine s_aload_n (k := 0) C (by decide +kernel) ?_
  refine s_iconst (n := 0) C (by decide +kernel) (by decide) ?_
  refine s_putZ C w_2_128 (by decide +kernel) rfl (Or.inl rfl) ?_
  exact s_vret C rfl (by decide +kernel)
theorem ms_X10_renew {Z : Zt} {d : Nat} {S : Sh} {μ : Mi} {ρ : Mr} {Rp : RT} (a0 : Nat) (x1 : Int32) (h : ∀ G : Nat → PT, (∀ (L st : List Value) (S : Sh) (q : Nat × Nat) (μ : Mi) (ρ : Mr), w_X10_renew_2 (MS Z d) G Rp L st S q μ ρ → G 2 L st S q μ ρ) → (∀ (L st : List Value) (S : Sh) (q : Nat × Nat) (μ : Mi) (ρ : Mr), w_X10_renew_23 (MS Z d) G Rp L st S q μ ρ → G 23 L st S q μ ρ) → w_X10_renew_0 (MS Z d) G Rp [.ref a0, .int x1, .null] [] S (0, 0) μ ρ) : MS Z (d + 1) jX10_renew [.ref a0, .int x1] S μ ρ Rp :=
  MS_of [.ref a0, .int x1, .null] (by decide +kernel) rfl rfl (Nat.le_of_ble_eq_true rfl) rfl (fun p e R s m args below meth c C => b_X10_renew_0 C _ _ _ _ _ _ (h _ (b_X10_renew_2 C) (b_X10_renew_23 C)))
def w_X10_copyFrom_0 (M : CT) (G : Nat → PT) (Rp : RT) : PT := tConst 0 <| tIstore 2 <| G 2
def w_X10_copyFrom_2 (M : CT) (G : Nat → PT) (Rp : RT) : PT := tIload 2 <| tConst 5 <| tIf2 (fun x y => y ≤ x) (G 28) <| tAload 0 <| tGetR 10 6 0 <| tIload 2 <| tAldR 37 <| tAload 1 <| tGetR 10 6 0 <| tIload 2 <| tAldR 37 <| tCallV M jX7_copyFrom 7 18 1 <| tIinc 2 1 <| tGoto (G 2)
def w_X10_copyFrom_28 (M : CT) (G : Nat → PT) (Rp : RT) : PT := tAload 0 <| tGetR 10 6 1 <| tAload 1 <| tGetR 10 6 1 <| tCallV M jX1_copyFrom 1 6 1 <| tAload 1 <| tGetR 10 6 2 <| tConst 0 <| tAload 0 <| tGetR 10 6 2 <| tConst 0 <| tAload 0 <| tGetR 10 6 2 <| tAlen <| tCopy <| tAload 1 <| tGetR 10 6 3 <| tConst 0 <| tAload 0 <| tGetR 10 6 3 <| tConst 0 <| tAload 0 <| tGetR 10 6 3 <| tAlen <| tCopy <| tAload 0 <| tAload 1 <| tGetI 10 6 4 <| tPutI 10 6 4 <| tAload 0 <| tAload 1 <| tGetI 10 6 5 <| tPutZ 10 6 5 <| tVret Rp
set_option maxRecDepth 20000 in
theorem b_X10_copyFrom_0 {Z : Zt} {d : Nat} {p : Program} {e : Env} {R : Room} {s : State} {m : MethodId} {args : Array Value} {below : List Frame} {meth : Method} {c : Code} {Rp : RT} (C : Cx Z d jX10_copyFrom RX10 p R s m args meth c) : Sd Z jX10_copyFrom p e R s m args below meth c (MQ below (QcS Z Rp) args s 0 0 (fun a => Z.2.2.1 < a)) 0 (w_X10_copyFrom_0 (MS Z d) (Gw Z 3 p e R s m args below meth c (MQ below (QcS Z Rp) args s 0 0 (fun a => Z.2.2.1 < a))) Rp) := by
  unfold w_X10_copyFrom_0
  refine s_iconst (n := 0) C (by decide +kernel) (by decide) ?_
  refine s_istore_n (k := 2) C (by decide +kernel) ?_
  exact (fun _ _ _ _ _ _ h => h)
set_option maxRecDepth 20000 in
theorem b_X10_copyFrom_2 {Z : Zt} {d : Nat} {p : Program} {e : Env} {R : Room} {s : State} {m : MethodId} {args : Array Value} {below : List Frame} {meth : Method} {c : Code} {Rp : RT} (C : Cx Z d jX10_copyFrom RX10 p R s m args meth c) : Sd Z jX10_copyFrom p e R s m args below meth c (MQ below (QcS Z Rp) args s 0 0 (fun a => Z.2.2.1 < a)) 2 (w_X10_copyFrom_2 (MS Z d) (Gw Z 3 p e R s m args below meth c (MQ below (QcS Z Rp) args s 0 0 (fun a => Z.2.2.1 < a))) Rp) := by
  unfold w_X10_copyFrom_2
  refine s_iload_n (k := 2) C (by decide +kernel) ?_
  refine s_iconst (n := 5) C (by decide +kernel) (by decide) ?_
  refine s_icmp_ge (off := 24) (tgt := 28) C (by decide +kernel) (by decide) (fun _ _ _ _ _ _ h => h) ?_
  refine s_aload_n (k := 0) C (by decide +kernel) ?_
  refine s_getR C w_2_113 (by decide +kernel) rfl ?_
  refine s_iload_n (k := 2) C (by decide +kernel) ?_
  refine s_aald C rfl (by decide +kernel) ?_
  refine s_aload_n (k := 1) C (by decide +kernel) ?_
  refine s_getR C w_2_113 (by decide +kernel) rfl ?_
  refine s_iload_n (k := 2) C (by decide +kernel) ?_
  refine s_aald C rfl (by decide +kernel) ?_
  refine s_callV C rfl rfl (by decide +kernel) rfl w_3_40 w_3_41 w_3_42 w_1_5 w_3_43 (by decide +kernel) ?_
  refine s_iinc (n := 1) C (by decide +kernel) (by decide) ?_
  exact s_goto (off := (-23)) (tgt := 2) C (by decide +kernel) (by decide) (fun _ _ _ _ _ _ h => h)
set_option maxRecDepth 20000 in
theorem b_X10_copyFrom_28 {Z : Zt} {d : Nat} {p : Program} {e : Env} {R : Room} {s : State} {m : MethodId} {args : Array Value} {below : List Frame} {meth : Method} {c : Code} {Rp : RT} (C : Cx Z d jX10_copyFrom RX10 p R s m args meth c) : Sd Z jX10_copyFrom p e R s m args below meth c (MQ below (QcS Z Rp) args s 0 0 (fun a => Z.2.2.1 < a)) 28 (w_X10_copyFrom_28 (MS Z d) (Gw Z 3 p e R s m args below meth c (MQ below (QcS Z Rp) args s 0 0 (fun a => Z.2.2.1 < a))) Rp) := by
  unfold w_X10_copyFrom_28
  refine s_aload_n (k := 0) C (by decide +kernel) ?_
  refine s_getR C w_2_117 (by decide +kernel) rfl ?_
  refine s_aload_n (k := 1) C (by decide +kernel) ?_
  refine s_getR C w_2_117 (by decide +kernel) rfl ?_
  refine s_callV C rfl rfl (by decide +kernel) rfl w_3_56 w_3_57 w_3_58 w_1_3 w_3_59 (by decide +kernel) ?_
  refine s_aload_n (k := 1) C (by decide +kernel) ?_
  refine s_getR C w_2_121 (by decide +kernel) rfl ?_
  refine s_iconst (n := 0) C (by decide +kernel) (by decide) ?_
  refine s_aload_n (k := 0) C (by decide +kernel) ?_
  refine s_getR C w_2_121 (by decide +kernel) rfl ?_
  refine s_iconst (n := 0) C (by decide +kernel) (by decide) ?_
  refine s_aload_n (k := 0) C (by decide +kernel) ?_
  refine s_getR C w_2_121 (by decide +kernel) rfl ?_
  refine s_alen C (by decide +kernel) ?_
  refine s_copy C w_3_65 w_3_46 w_3_45 w_1_14 (by decide +kernel) ?_
  refine s_aload_n (k := 1) C (by decide +kernel) ?_
  refine s_getR C w_2_124 (by decide +kernel) rfl ?_
  refine s_iconst (n := 0) C (by decide +kernel) (by decide) ?_
  refine s_aload_n (k := 0) C (by decide +kernel) ?_
  refine s_getR C w_2_124 (by decide +kernel) rfl ?_
  refine s_iconst (n := 0) C (by decide +kernel) (by decide) ?_
  refine s_aload_n (k := 0) C (by decide +kernel) ?_
  refine s_getR C w_2_124 (by decide +kernel) rfl ?_
  refine s_alen C (by decide +kernel) ?_
  refine s_copy C w_3_65 w_3_46 w_3_45 w_1_14 (by decide +kernel) ?_
  refine s_aload_n (k := 0) C (by decide +kernel) ?_
  refine s_aload_n (k := 1) C (by decide +kernel) ?_
  refine s_getI C w_2_126 (by decide +kernel) rfl ?_
  refine s_putI C w_2_126 (by decide +kernel) rfl (Or.inl rfl) ?_
  refine s_aload_n (k := 0) C (by decide +kernel) ?_
  refine s_aload_n (k := 1) C (by decide +kernel) ?_
  refine s_getI C w_2_128 (by decide +kernel) rfl ?_
  refine s_putZ C w_2_128 (by decide +kernel) rfl (Or.inl rfl) ?_
  exact s_vret C rfl (by decide +kernel)
theorem ms_X10_copyFrom {Z : Zt} {d : Nat} {S : Sh} {μ : Mi} {ρ : Mr} {Rp : RT} (a0 : Nat) (a1 : Nat) (h : ∀ G : Nat → PT, (∀ (L st : List Value) (S : Sh) (q : Nat × Nat) (μ : Mi) (ρ : Mr), w_X10_copyFrom_2 (MS Z d) G Rp L st S q μ ρ → G 2 L st S q μ ρ) → (∀ (L st : List Value) (S : Sh) (q : Nat × Nat) (μ : Mi) (ρ : Mr), w_X10_copyFrom_28 (MS Z d) G Rp L st S q μ ρ → G 28 L st S q μ ρ) → w_X10_copyFrom_0 (MS Z d) G Rp [.ref a0, .ref a1, .null] [] S (0, 0) μ ρ) : MS Z (d + 1) jX10_copyFrom [.ref a0, .ref a1] S μ ρ Rp :=
  MS_of [.ref a0, .ref a1, .null] (by decide +kernel) rfl rfl (Nat.le_of_ble_eq_true rfl) rfl (fun p e R s m args below meth c C => b_X10_copyFrom_0 C _ _ _ _ _ _ (h _ (b_X10_copyFrom_2 C) (b_X10_copyFrom_28 C)))
def w_X10_act_0 (M : CT) (G : Nat → PT) (Rp : RT) : PT := tIload 1 <| tSw [(0, G 80), (1, G 86), (2, G 92), (3, G 102), (4, G 112), (5, G 119), (6, G 126), (7, G 133), (8, G 139), (9, G 145), (10, G 151), (11, G 159), (12, G 167), (13, G 173), (14, G 179), (15, G 185)] (G 191)
def w_X10_act_80 (M : CT) (G : Nat → PT) (Rp : RT) : PT := tAload 0 <| tIload 2 <| tCallV M jX10_timesOut 10 6 1 <| tIret Rp
def w_X10_act_86 (M : CT) (G : Nat → PT) (Rp : RT) : PT := tAload 0 <| tIload 2 <| tCallV M jX10_beats 10 6 1 <| tIret Rp
def w_X10_act_92 (M : CT) (G : Nat → PT) (Rp : RT) : PT := tAload 0 <| tIload 2 <| tConst 1 <| tIload 3 <| tIload 4 <| tCallV M jX10_proposes 10 6 4 <| tIret Rp
def w_X10_act_102 (M : CT) (G : Nat → PT) (Rp : RT) : PT := tAload 0 <| tIload 2 <| tConst 2 <| tIload 3 <| tIload 4 <| tCallV M jX10_proposes 10 6 4 <| tIret Rp
def w_X10_act_112 (M : CT) (G : Nat → PT) (Rp : RT) : PT := tAload 0 <| tIload 2 <| tIload 3 <| tCallV M jX10_reads 10 6 2 <| tIret Rp
def w_X10_act_119 (M : CT) (G : Nat → PT) (Rp : RT) : PT := tAload 0 <| tIload 2 <| tIload 3 <| tCallV M jX10_hands 10 6 2 <| tIret Rp
def w_X10_act_126 (M : CT) (G : Nat → PT) (Rp : RT) : PT := tAload 0 <| tIload 2 <| tIload 3 <| tCallV M jX10_changes 10 6 2 <| tIret Rp
def w_X10_act_133 (M : CT) (G : Nat → PT) (Rp : RT) : PT := tAload 0 <| tIload 2 <| tCallV M jX10_compacts 10 6 1 <| tIret Rp
def w_X10_act_139 (M : CT) (G : Nat → PT) (Rp : RT) : PT := tAload 0 <| tIload 2 <| tCallV M jX10_stops 10 6 1 <| tIret Rp
def w_X10_act_145 (M : CT) (G : Nat → PT) (Rp : RT) : PT := tAload 0 <| tIload 2 <| tCallV M jX10_starts 10 6 1 <| tIret Rp
def w_X10_act_151 (M : CT) (G : Nat → PT) (Rp : RT) : PT := tAload 0 <| tIload 2 <| tIload 3 <| tConst 0 <| tCallV M jX10_links 10 6 3 <| tIret Rp
def w_X10_act_159 (M : CT) (G : Nat → PT) (Rp : RT) : PT := tAload 0 <| tIload 2 <| tIload 3 <| tConst 1 <| tCallV M jX10_links 10 6 3 <| tIret Rp
def w_X10_act_167 (M : CT) (G : Nat → PT) (Rp : RT) : PT := tAload 0 <| tIload 2 <| tCallV M jX10_comes 10 6 1 <| tIret Rp
def w_X10_act_173 (M : CT) (G : Nat → PT) (Rp : RT) : PT := tAload 0 <| tIload 2 <| tCallV M jX10_loses 10 6 1 <| tIret Rp
def w_X10_act_179 (M : CT) (G : Nat → PT) (Rp : RT) : PT := tAload 0 <| tIload 2 <| tCallV M jX10_doubles 10 6 1 <| tIret Rp
def w_X10_act_185 (M : CT) (G : Nat → PT) (Rp : RT) : PT := tAload 0 <| tIload 2 <| tCallV M jX10_settles 10 6 1 <| tIret Rp
def w_X10_act_191 (M : CT) (G : Nat → PT) (Rp : RT) : PT := tAload 0 <| tIload 2 <| tCallV M jX10_takesCare 10 6 1 <| tIret Rp
set_option maxRecDepth 20000 in
theorem b_X10_act_0 {Z : Zt} {d : Nat} {p : Program} {e : Env} {R : Room} {s : State} {m : MethodId} {args : Array Value} {below : List Frame} {meth : Method} {c : Code} {Rp : RT} (C : Cx Z d jX10_act RX10 p R s m args meth c) : Sd Z jX10_act p e R s m args below meth c (MQ below (QcS Z Rp) args s 0 0 (fun a => Z.2.2.1 < a)) 0 (w_X10_act_0 (MS Z d) (Gw Z 5 p e R s m args below meth c (MQ below (QcS Z Rp) args s 0 0 (fun a => Z.2.2.1 < a))) Rp) := by
  unfold w_X10_act_0
  refine s_iload_n (k := 1) C (by decide +kernel) ?_
  refine s_tsw (df := 190) (lo := 0) (hi := 15) (offs := #[79, 85, 91, 101, 111, 118, 125, 132, 138, 144, 150, 158, 166, 172, 178, 184]) (len := 79) (tgt := 191) C (by decide +kernel) (by decide) (fun _ _ _ _ _ _ h => h) (fun i r h => ?_) (fun x h => tsw_out 16 x (fun q hq => ?_))
  · match i, h with
    | 0, h => cases h; dsimp only; exact ⟨by decide, by decide, 79, 80, by rfl, by decide, (fun _ _ _ _ _ _ h => h)⟩
    | 1, h => cases h; dsimp only; exact ⟨by decide, by decide, 85, 86, by rfl, by decide, (fun _ _ _ _ _ _ h => h)⟩
    | 2, h => cases h; dsimp only; exact ⟨by decide, by decide, 91, 92, by rfl, by decide, (fun _ _ _ _ _ _ h => h)⟩
    | 3, h => cases h; dsimp only; exact ⟨by decide, by decide, 101, 102, by rfl, by decide, (fun _ _ _ _ _ _ h => h)⟩
    | 4, h => cases h; dsimp only; exact ⟨by decide, by decide, 111, 112, by rfl, by decide, (fun _ _ _ _ _ _ h => h)⟩
    | 5, h => cases h; dsimp only; exact ⟨by decide, by decide, 118, 119, by rfl, by decide, (fun _ _ _ _ _ _ h => h)⟩
    | 6, h => cases h; dsimp only; exact ⟨by decide, by decide, 125, 126, by rfl, by decide, (fun _ _ _ _ _ _ h => h)⟩
    | 7, h => cases h; dsimp only; exact ⟨by decide, by decide, 132, 133, by rfl, by decide, (fun _ _ _ _ _ _ h => h)⟩
    | 8, h => cases h; dsimp only; exact ⟨by decide, by decide, 138, 139, by rfl, by decide, (fun _ _ _ _ _ _ h => h)⟩
    | 9, h => cases h; dsimp only; exact ⟨by decide, by decide, 144, 145, by rfl, by decide, (fun _ _ _ _ _ _ h => h)⟩
    | 10, h => cases h; dsimp only; exact ⟨by decide, by decide, 150, 151, by rfl, by decide, (fun _ _ _ _ _ _ h => h)⟩
    | 11, h => cases h; dsimp only; exact ⟨by decide, by decide, 158, 159, by rfl, by decide, (fun _ _ _ _ _ _ h => h)⟩
    | 12, h => cases h; dsimp only; exact ⟨by decide, by decide, 166, 167, by rfl, by decide, (fun _ _ _ _ _ _ h => h)⟩
    | 13, h => cases h; dsimp only; exact ⟨by decide, by decide, 172, 173, by rfl, by decide, (fun _ _ _ _ _ _ h => h)⟩
    | 14, h => cases h; dsimp only; exact ⟨by decide, by decide, 178, 179, by rfl, by decide, (fun _ _ _ _ _ _ h => h)⟩
    | 15, h => cases h; dsimp only; exact ⟨by decide, by decide, 184, 185, by rfl, by decide, (fun _ _ _ _ _ _ h => h)⟩
    | q + 16, h => simp at h
  · match q, hq with
    | 0, _ => exact h _ (List.mem_of_getElem? (i := 0) rfl)
    | 1, _ => exact h _ (List.mem_of_getElem? (i := 1) rfl)
    | 2, _ => exact h _ (List.mem_of_getElem? (i := 2) rfl)
    | 3, _ => exact h _ (List.mem_of_getElem? (i := 3) rfl)
    | 4, _ => exact h _ (List.mem_of_getElem? (i := 4) rfl)
    | 5, _ => exact h _ (List.mem_of_getElem? (i := 5) rfl)
    | 6, _ => exact h _ (List.mem_of_getElem? (i := 6) rfl)
    | 7, _ => exact h _ (List.mem_of_getElem? (i := 7) rfl)
    | 8, _ => exact h _ (List.mem_of_getElem? (i := 8) rfl)
    | 9, _ => exact h _ (List.mem_of_getElem? (i := 9) rfl)
    | 10, _ => exact h _ (List.mem_of_getElem? (i := 10) rfl)
    | 11, _ => exact h _ (List.mem_of_getElem? (i := 11) rfl)
    | 12, _ => exact h _ (List.mem_of_getElem? (i := 12) rfl)
    | 13, _ => exact h _ (List.mem_of_getElem? (i := 13) rfl)
    | 14, _ => exact h _ (List.mem_of_getElem? (i := 14) rfl)
    | 15, _ => exact h _ (List.mem_of_getElem? (i := 15) rfl)
    | q + 16, hq => exact absurd hq (by omega)
set_option maxRecDepth 20000 in
theorem b_X10_act_80 {Z : Zt} {d : Nat} {p : Program} {e : Env} {R : Room} {s : State} {m : MethodId} {args : Array Value} {below : List Frame} {meth : Method} {c : Code} {Rp : RT} (C : Cx Z d jX10_act RX10 p R s m args meth c) : Sd Z jX10_act p e R s m args below meth c (MQ below (QcS Z Rp) args s 0 0 (fun a => Z.2.2.1 < a)) 80 (w_X10_act_80 (MS Z d) (Gw Z 5 p e R s m args below meth c (MQ below (QcS Z Rp) args s 0 0 (fun a => Z.2.2.1 < a))) Rp) := by
  unfold w_X10_act_80
  refine s_aload_n (k := 0) C (by decide +kernel) ?_
  refine s_iload_n (k := 2) C (by decide +kernel) ?_
  refine s_callV C rfl rfl (by decide +kernel) rfl w_5_63 w_3_99 w_3_100 w_1_2 w_3_101 (by decide +kernel) ?_
  exact s_iret C rfl (by decide +kernel)
set_option maxRecDepth 20000 in
theorem b_X10_act_86 {Z : Zt} {d : Nat} {p : Program} {e : Env} {R : Room} {s : State} {m : MethodId} {args : Array Value} {below : List Frame} {meth : Method} {c : Code} {Rp : RT} (C : Cx Z d jX10_act RX10 p R s m args meth c) : Sd Z jX10_act p e R s m args below meth c (MQ below (QcS Z Rp) args s 0 0 (fun a => Z.2.2.1 < a)) 86 (w_X10_act_86 (MS Z d) (Gw Z 5 p e R s m args below meth c (MQ below (QcS Z Rp) args s 0 0 (fun a => Z.2.2.1 < a))) Rp) := by
  unfold w_X10_act_86
  refine s_aload_n (k := 0) C (by decide +kernel) ?_
  refine s_iload_n (k := 2) C (by decide +kernel) ?_
  refine s_callV C rfl rfl (by decide +kernel) rfl w_5_64 w_3_195 w_3_196 w_1_2 w_3_197 (by decide +kernel) ?_
  exact s_iret C rfl (by decide +kernel)
set_option maxRecDepth 20000 in
theorem b_X10_act_92 {Z : Zt} {d : Nat} {p : Program} {e : Env} {R : Room} {s : State} {m : MethodId} {args : Array Value} {below : List Frame} {meth : Method} {c : Code} {Rp : RT} (C : Cx Z d jX10_act RX10 p R s m args meth c) : Sd Z jX10_act p e R s m args below meth c (MQ below (QcS Z Rp) args s 0 0 (fun a => Z.2.2.1 < a)) 92 (w_X10_act_92 (MS Z d) (Gw Z 5 p e R s m args below meth c (MQ below (QcS Z Rp) args s 0 0 (fun a => Z.2.2.1 < a))) Rp) := by
  unfold w_X10_act_92
  refine s_aload_n (k := 0) C (by decide +kernel) ?_
  refine s_iload_n (k := 2) C (by decide +kernel) ?_
  refine s_iconst (n := 1) C (by decide +kernel) (by decide) ?_
  refine s_iload_n (k := 3) C (by decide +kernel) ?_
  refine s_iload (k := 4) C (by decide +kernel) ?_
  refine s_callV C rfl rfl (by decide +kernel) rfl w_5_65 w_3_207 w_3_208 w_1_2 w_3_209 (by decide +kernel) ?_
  exact s_iret C rfl (by decide +kernel)
set_option maxRecDepth 20000 in
theorem b_X10_act_102 {Z : Zt} {d : Nat} {p : Program} {e : Env} {R : Room} {s : State} {m : MethodId} {args : Array Value} {below : List Frame} {meth : Method} {c : Code} {Rp : RT} (C : Cx Z d jX10_act RX10 p R s m args meth c) : Sd Z jX10_act p e R s m args below meth c (MQ below (QcS Z Rp) args s 0 0 (fun a => Z.2.2.1 < a)) 102 (w_X10_act_102 (MS Z d) (Gw Z 5 p e R s m args below meth c (MQ below (QcS Z Rp) args s 0 0 (fun a => Z.2.2.1 < a))) Rp) := by
  unfold w_X10_act_102
  refine s_aload_n (k := 0) C (by decide +kernel) ?_
  refine s_iload_n (k := 2) C (by decide +kernel) ?_
  refine s_iconst (n := 2) C (by decide +kernel) (by decide) ?_
  refine s_iload_n (k := 3) C (by decide +kernel) ?_
  refine s_iload (k := 4) C (by decide +kernel) ?_
  refine s_callV C rfl rfl (by decide +kernel) rfl w_5_65 w_3_207 w_3_208 w_1_2 w_3_209 (by decide +kernel) ?_
  exact s_iret C rfl (by decide +kernel)
set_option maxRecDepth 20000 in
theorem b_X10_act_112 {Z : Zt} {d : Nat} {p : Program} {e : Env} {R : Room} {s : State} {m : MethodId} {args : Array Value} {below : List Frame} {meth : Method} {c : Code} {Rp : RT} (C : Cx Z d jX10_act RX10 p R s m args meth c) : Sd Z jX10_act p e R s m args below meth c (MQ below (QcS Z Rp) args s 0 0 (fun a => Z.2.2.1 < a)) 112 (w_X10_act_112 (MS Z d) (Gw Z 5 p e R s m args below meth c (MQ below (QcS Z Rp) args s 0 0 (fun a => Z.2.2.1 < a))) Rp) := by
  unfold w_X10_act_112
  refine s_aload_n (k := 0) C (by decide +kernel) ?_
  refine s_iload_n (k := 2) C (by decide +kernel) ?_
  refine s_iload_n (k := 3) C (by decide +kernel) ?_
  refine s_callV C rfl rfl (by decide +kernel) rfl w_5_66 w_3_222 w_3_223 w_1_2 w_3_224 (by decide +kernel) ?_
  exact s_iret C rfl (by decide +kernel)
set_option maxRecDepth 20000 in
theorem b_X10_act_119 {Z : Zt} {d : Nat} {p : Program} {e : Env} {R : Room} {s : State} {m : MethodId} {args : Array Value} {below : List Frame} {meth : Method} {c : Code} {Rp : RT} (C : Cx Z d jX10_act RX10 p R s m args meth c) : Sd Z jX10_act p e R s m args below meth c (MQ below (QcS Z Rp) args s 0 0 (fun a => Z.2.2.1 < a)) 119 (w_X10_act_119 (MS Z d) (Gw Z 5 p e R s m args below meth c (MQ below (QcS Z Rp) args s 0 0 (fun a => Z.2.2.1 < a))) Rp) := by
  unfold w_X10_act_119
  refine s_aload_n (k := 0) C (by decide +kernel) ?_
  refine s_iload_n (k := 2) C (by decide +kernel) ?_
  refine s_iload_n (k := 3) C (by decide +kernel) ?_
  refine s_callV C rfl rfl (by decide +kernel) rfl w_5_67 w_3_234 w_3_235 w_1_2 w_3_236 (by decide +kernel) ?_
  exact s_iret C rfl (by decide +kernel)
set_option maxRecDepth 20000 in
theorem b_X10_act_126 {Z : Zt} {d : Nat} {p : Program} {e : Env} {R : Room} {s : State} {m : MethodId} {args : Array Value} {below : List Frame} {meth : Method} {c : Code} {Rp : RT} (C : Cx Z d jX10_act RX10 p R s m args meth c) : Sd Z jX10_act p e R s m args below meth c (MQ below (QcS Z Rp) args s 0 0 (fun a => Z.2.2.1 < a)) 126 (w_X10_act_126 (MS Z d) (Gw Z 5 p e R s m args below meth c (MQ below (QcS Z Rp) args s 0 0 (fun a => Z.2.2.1 < a))) Rp) := by
  unfold w_X10_act_126
  refine s_aload_n (k := 0) C (by decide +kernel) ?_
  refine s_iload_n (k := 2) C (by decide +kernel) ?_
  refine s_iload_n (k := 3) C (by decide +kernel) ?_
  refine s_callV C rfl rfl (by decide +kernel) rfl w_5_68 w_4_2 w_4_3 w_1_2 w_4_4 (by decide +kernel) ?_
  exact s_iret C rfl (by decide +kernel)
set_option maxRecDepth 20000 in
theorem b_X10_act_133 {Z : Zt} {d : Nat} {p : Program} {e : Env} {R : Room} {s : State} {m : MethodId} {args : Array Value} {below : List Frame} {meth : Method} {c : Code} {Rp : RT} (C : Cx Z d jX10_act RX10 p R s m args meth c) : Sd Z jX10_act p e R s m args below meth c (MQ below (QcS Z Rp) args s 0 0 (fun a => Z.2.2.1 < a)) 133 (w_X10_act_133 (MS Z d) (Gw Z 5 p e R s m args below meth c (MQ below (QcS Z Rp) args s 0 0 (fun a => Z.2.2.1 < a))) Rp) := by
  unfold w_X10_act_133
  refine s_aload_n (k := 0) C (by decide +kernel) ?_
  refine s_iload_n (k := 2) C (by decide +kernel) ?_
  refine s_callV C rfl rfl (by decide +kernel) rfl w_5_69 w_4_10 w_4_11 w_1_2 w_4_12 (by decide +kernel) ?_
  exact s_iret C rfl (by decide +kernel)
set_option maxRecDepth 20000 in
theorem b_X10_act_139 {Z : Zt} {d : Nat} {p : Program} {e : Env} {R : Room} {s : State} {m : MethodId} {args : Array Value} {below : List Frame} {meth : Method} {c : Code} {Rp : RT} (C : Cx Z d jX10_act RX10 p R s m args meth c) : Sd Z jX10_act p e R s m args below meth c (MQ below (QcS Z Rp) args s 0 0 (fun a => Z.2.2.1 < a)) 139 (w_X10_act_139 (MS Z d) (Gw Z 5 p e R s m args below meth c (MQ below (QcS Z Rp) args s 0 0 (fun a => Z.2.2.1 < a))) Rp) := by
  unfold w_X10_act_139
  refine s_aload_n (k := 0) C (by decide +kernel) ?_
  refine s_iload_n (k := 2) C (by decide +kernel) ?_
  refine s_callV C rfl rfl (by decide +kernel) rfl w_5_70 w_4_23 w_4_24 w_1_2 w_4_25 (by decide +kernel) ?_
  exact s_iret C rfl (by decide +kernel)
set_option maxRecDepth 20000 in
theorem b_X10_act_145 {Z : Zt} {d : Nat} {p : Program} {e : Env} {R : Room} {s : State} {m : MethodId} {args : Array Value} {below : List Frame} {meth : Method} {c : Code} {Rp : RT} (C : Cx Z d jX10_act RX10 p R s m args meth c) : Sd Z jX10_act p e R s m args below meth c (MQ below (QcS Z Rp) args s 0 0 (fun a => Z.2.2.1 < a)) 145 (w_X10_act_145 (MS Z d) (Gw Z 5 p e R s m args below meth c (MQ below (QcS Z Rp) args s 0 0 (fun a => Z.2.2.1 < a))) Rp) := by
  unfold w_X10_act_145
  refine s_aload_n (k := 0) C (by decide +kernel) ?_
  refine s_iload_n (k := 2) C (by decide +kernel) ?_
  refine s_callV C rfl rfl (by decide +kernel) rfl w_5_71 w_4_36 w_4_37 w_1_2 w_4_38 (by decide +kernel) ?_
  exact s_iret C rfl (by decide +kernel)
set_option maxRecDepth 20000 in
theorem b_X10_act_151 {Z : Zt} {d : Nat} {p : Program} {e : Env} {R : Room} {s : State} {m : MethodId} {args : Array Value} {below : List Frame} {meth : Method} {c : Code} {Rp : RT} (C : Cx Z d jX10_act RX10 p R s m args meth c) : Sd Z jX10_act p e R s m args below meth c (MQ below (QcS Z Rp) args s 0 0 (fun a => Z.2.2.1 < a)) 151 (w_X10_act_151 (MS Z d) (Gw Z 5 p e R s m args below meth c (MQ below (QcS Z Rp) args s 0 0 (fun a => Z.2.2.1 < a))) Rp) := by
  unfold w_X10_act_151
  refine s_aload_n (k := 0) C (by decide +kernel) ?_
  refine s_iload_n (k := 2) C (by decide +kernel) ?_
  refine s_iload_n (k := 3) C (by decide +kernel) ?_
  refine s_iconst (n := 0) C (by decide +kernel) (by decide) ?_
  refine s_callV C rfl rfl (by decide +kernel) rfl w_5_72 w_4_44 w_4_45 w_1_2 w_4_46 (by decide +kernel) ?_
  exact s_iret C rfl (by decide +kernel)
set_option maxRecDepth 20000 in
theorem b_X10_act_159 {Z : Zt} {d : Nat} {p : Program} {e : Env} {R : Room} {s : State} {m : MethodId} {args : Array Value} {below : List Frame} {meth : Method} {c : Code} {Rp : RT} (C : Cx Z d jX10_act RX10 p R s m args meth c) : Sd Z jX10_act p e R s m args below meth c (MQ below (QcS Z Rp) args s 0 0 (fun a => Z.2.2.1 < a)) 159 (w_X10_act_159 (MS Z d) (Gw Z 5 p e R s m args below meth c (MQ below (QcS Z Rp) args s 0 0 (fun a => Z.2.2.1 < a))) Rp) := by
  unfold w_X10_act_159
  refine s_aload_n (k := 0) C (by decide +kernel) ?_
  refine s_iload_n (k := 2) C (by decide +kernel) ?_
  refine s_iload_n (k := 3) C (by decide +kernel) ?_
  refine s_iconst (n := 1) C (by decide +kernel) (by decide) ?_
  refine s_callV C rfl rfl (by decide +kernel) rfl w_5_72 w_4_44 w_4_45 w_1_2 w_4_46 (by decide +kernel) ?_
  exact s_iret C rfl (by decide +kernel)
set_option maxRecDepth 20000 in
theorem b_X10_act_167 {Z : Zt} {d : Nat} {p : Program} {e : Env} {R : Room} {s : State} {m : MethodId} {args : Array Value} {below : List Frame} {meth : Method} {c : Code} {Rp : RT} (C : Cx Z d jX10_act RX10 p R s m args meth c) : Sd Z jX10_act p e R s m args below meth c (MQ below (QcS Z Rp) args s 0 0 (fun a => Z.2.2.1 < a)) 167 (w_X10_act_167 (MS Z d) (Gw Z 5 p e R s m args below meth c (MQ below (QcS Z Rp) args s 0 0 (fun a => Z.2.2.1 < a))) Rp) := by
  unfold w_X10_act_167
  refine s_aload_n (k := 0) C (by decide +kernel) ?_
  refine s_iload_n (k := 2) C (by decide +kernel) ?_
  refine s_callV C rfl rfl (by decide +kernel) rfl w_5_73 w_4_60 w_4_61 w_1_2 w_4_62 (by decide +kernel) ?_
  exact s_iret C rfl (by decide +kernel)
set_option maxRecDepth 20000 in
theorem b_X10_act_173 {Z : Zt} {d : Nat} {p : Program} {e : Env} {R : Room} {s : State} {m : MethodId} {args : Array Value} {below : List Frame} {meth : Method} {c : Code} {Rp : RT} (C : Cx Z d jX10_act RX10 p R s m args meth c) : Sd Z jX10_act p e R s m args below meth c (MQ below (QcS Z Rp) args s 0 0 (fun a => Z.2.2.1 < a)) 173 (w_X10_act_173 (MS Z d) (Gw Z 5 p e R s m args below meth c (MQ below (QcS Z Rp) args s 0 0 (fun a => Z.2.2.1 < a))) Rp) := by
  unfold w_X10_act_173
  refine s_aload_n (k := 0) C (by decide +kernel) ?_
  refine s_iload_n (k := 2) C (by decide +kernel) ?_
  refine s_callV C rfl rfl (by decide +kernel) rfl w_5_74 w_4_143 w_4_144 w_1_2 w_4_145 (by decide +kernel) ?_
  exact s_iret C rfl (by decide +kernel)
set_option maxRecDepth 20000 in
theorem b_X10_act_179 {Z : Zt} {d : Nat} {p : Program} {e : Env} {R : Room} {s : State} {m : MethodId} {args : Array Value} {below : List Frame} {meth : Method} {c : Code} {Rp : RT} (C : Cx Z d jX10_act RX10 p R s m args meth c) : Sd Z jX10_act p e R s m args below meth c (MQ below (QcS Z Rp) args s 0 0 (fun a => Z.2.2.1 < a)) 179 (w_X10_act_179 (MS Z d) (Gw Z 5 p e R s m args below meth c (MQ below (QcS Z Rp) args s 0 0 (fun a => Z.2.2.1 < a))) Rp) := by
  unfold w_X10_act_179
  refine s_aload_n (k := 0) C (by decide +kernel) ?_
  refine s_iload_n (k := 2) C (by decide +kernel) ?_
  refine s_callV C rfl rfl (by decide +kernel) rfl w_5_75 w_4_151 w_4_152 w_1_2 w_4_153 (by decide +kernel) ?_
  exact s_iret C rfl (by decide +kernel)
set_option maxRecDepth 20000 in
theorem b_X10_act_185 {Z : Zt} {d : Nat} {p : Program} {e : Env} {R : Room} {s : State} {m : MethodId} {args : Array Value} {below : List Frame} {meth : Method} {c : Code} {Rp : RT} (C : Cx Z d jX10_act RX10 p R s m args meth c) : Sd Z jX10_act p e R s m args below meth c (MQ below (QcS Z Rp) args s 0 0 (fun a => Z.2.2.1 < a)) 185 (w_X10_act_185 (MS Z d) (Gw Z 5 p e R s m args below meth c (MQ below (QcS Z Rp) args s 0 0 (fun a => Z.2.2.1 < a))) Rp) := by
  unfold w_X10_act_185
  refine s_aload_n (k := 0) C (by decide +kernel) ?_
  refine s_iload_n (k := 2) C (by decide +kernel) ?_
  refine s_callV C rfl rfl (by decide +kernel) rfl w_5_76 w_4_160 w_4_161 w_1_2 w_4_162 (by decide +kernel) ?_
  exact s_iret C rfl (by decide +kernel)
set_option maxRecDepth 20000 in
theorem b_X10_act_191 {Z : Zt} {d : Nat} {p : Program} {e : Env} {R : Room} {s : State} {m : MethodId} {args : Array Value} {below : List Frame} {meth : Method} {c : Code} {Rp : RT} (C : Cx Z d jX10_act RX10 p R s m args meth c) : Sd Z jX10_act p e R s m args below meth c (MQ below (QcS Z Rp) args s 0 0 (fun a => Z.2.2.1 < a)) 191 (w_X10_act_191 (MS Z d) (Gw Z 5 p e R s m args below meth c (MQ below (QcS Z Rp) args s 0 0 (fun a => Z.2.2.1 < a))) Rp) := by
  unfold w_X10_act_191
  refine s_aload_n (k := 0) C (by decide +kernel) ?_
  refine s_iload_n (k := 2) C (by decide +kernel) ?_
  refine s_callV C rfl rfl (by decide +kernel) rfl w_5_77 w_3_91 w_3_92 w_1_2 w_3_93 (by decide +kernel) ?_
  exact s_iret C rfl (by decide +kernel)
theorem ms_X10_act {Z : Zt} {d : Nat} {S : Sh} {μ : Mi} {ρ : Mr} {Rp : RT} (a0 : Nat) (x1 : Int32) (x2 : Int32) (x3 : Int32) (x4 : Int32) (h : ∀ G : Nat → PT, (∀ (L st : List Value) (S : Sh) (q : Nat × Nat) (μ : Mi) (ρ : Mr), w_X10_act_80 (MS Z d) G Rp L st S q μ ρ → G 80 L st S q μ ρ) → (∀ (L st : List Value) (S : Sh) (q : Nat × Nat) (μ : Mi) (ρ : Mr), w_X10_act_86 (MS Z d) G Rp L st S q μ ρ → G 86 L st S q μ ρ) → (∀ (L st : List Value) (S : Sh) (q : Nat × Nat) (μ : Mi) (ρ : Mr), w_X10_act_92 (MS Z d) G Rp L st S q μ ρ → G 92 L st S q μ ρ) → (∀ (L st : List Value) (S : Sh) (q : Nat × Nat) (μ : Mi) (ρ : Mr), w_X10_act_102 (MS Z d) G Rp L st S q μ ρ → G 102 L st S q μ ρ) → (∀ (L st : List Value) (S : Sh) (q : Nat × Nat) (μ : Mi) (ρ : Mr), w_X10_act_112 (MS Z d) G Rp L st S q μ ρ → G 112 L st S q μ ρ) → (∀ (L st : List Value) (S : Sh) (q : Nat × Nat) (μ : Mi) (ρ : Mr), w_X10_act_119 (MS Z d) G Rp L st S q μ ρ → G 119 L st S q μ ρ) → (∀ (L st : List Value) (S : Sh) (q : Nat × Nat) (μ : Mi) (ρ : Mr), w_X10_act_126 (MS Z d) G Rp L st S q μ ρ → G 126 L st S q μ ρ) → (∀ (L st : List Value) (S : Sh) (q : Nat × Nat) (μ : Mi) (ρ : Mr), w_X10_act_133 (MS Z d) G Rp L st S q μ ρ → G 133 L st S q μ ρ) → (∀ (L st : List Value) (S : Sh) (q : Nat × Nat) (μ : Mi) (ρ : Mr), w_X10_act_139 (MS Z d) G Rp L st S q μ ρ → G 139 L st S q μ ρ) → (∀ (L st : List Value) (S : Sh) (q : Nat × Nat) (μ : Mi) (ρ : Mr), w_X10_act_145 (MS Z d) G Rp L st S q μ ρ → G 145 L st S q μ ρ) → (∀ (L st : List Value) (S : Sh) (q : Nat × Nat) (μ : Mi) (ρ : Mr), w_X10_act_151 (MS Z d) G Rp L st S q μ ρ → G 151 L st S q μ ρ) → (∀ (L st : List Value) (S : Sh) (q : Nat × Nat) (μ : Mi) (ρ : Mr), w_X10_act_159 (MS Z d) G Rp L st S q μ ρ → G 159 L st S q μ ρ) → (∀ (L st : List Value) (S : Sh) (q : Nat × Nat) (μ : Mi) (ρ : Mr), w_X10_act_167 (MS Z d) G Rp L st S q μ ρ → G 167 L st S q μ ρ) → (∀ (L st : List Value) (S : Sh) (q : Nat × Nat) (μ : Mi) (ρ : Mr), w_X10_act_173 (MS Z d) G Rp L st S q μ ρ → G 173 L st S q μ ρ) → (∀ (L st : List Value) (S : Sh) (q : Nat × Nat) (μ : Mi) (ρ : Mr), w_X10_act_179 (MS Z d) G Rp L st S q μ ρ → G 179 L st S q μ ρ) → (∀ (L st : List Value) (S : Sh) (q : Nat × Nat) (μ : Mi) (ρ : Mr), w_X10_act_185 (MS Z d) G Rp L st S q μ ρ → G 185 L st S q μ ρ) → (∀ (L st : List Value) (S : Sh) (q : Nat × Nat) (μ : Mi) (ρ : Mr), w_X10_act_191 (MS Z d) G Rp L st S q μ ρ → G 191 L st S q μ ρ) → w_X10_act_0 (MS Z d) G Rp [.ref a0, .int x1, .int x2, .int x3, .int x4] [] S (0, 0) μ ρ) : MS Z (d + 1) jX10_act [.ref a0, .int x1, .int x2, .int x3, .int x4] S μ ρ Rp :=
  MS_of [.ref a0, .int x1, .int x2, .int x3, .int x4] (by decide +kernel) rfl rfl (Nat.le_of_ble_eq_true rfl) rfl (fun p e R s m args below meth c C => b_X10_act_0 C _ _ _ _ _ _ (h _ (b_X10_act_80 C) (b_X10_act_86 C) (b_X10_act_92 C) (b_X10_act_102 C) (b_X10_act_112 C) (b_X10_act_119 C) (b_X10_act_126 C) (b_X10_act_133 C) (b_X10_act_139 C) (b_X10_act_145 C) (b_X10_act_151 C) (b_X10_act_159 C) (b_X10_act_167 C) (b_X10_act_173 C) (b_X10_act_179 C) (b_X10_act_185 C) (b_X10_act_191 C)))
def w_X10_beginsAnew_0 (M : CT) (G : Nat → PT) (Rp : RT) : PT := tIload 1 <| tCallS M jX11_isNoSet 1 <| tIf (fun x => x = 0) (G 10) <| tConst (-3) <| tIret Rp
def w_X10_beginsAnew_10 (M : CT) (G : Nat → PT) (Rp : RT) : PT := tAload 0 <| tIload 1 <| tCallV M jX10_renew 10 6 1 <| tIload 1 <| tCallS M jJ6_bitCount_0f7a4 1 <| tIret Rp
set_option maxRecDepth 20000 in
theorem b_X10_beginsAnew_0 {Z : Zt} {d : Nat} {p : Program} {e : Env} {R : Room} {s : State} {m : MethodId} {args : Array Value} {below : List Frame} {meth : Method} {c : Code} {Rp : RT} (C : Cx Z d jX10_beginsAnew RX10 p R s m args meth c) : Sd Z jX10_beginsAnew p e R s m args below meth c (MQ below (QcS Z Rp) args s 0 0 (fun a => Z.2.2.1 < a)) 0 (w_X10_beginsAnew_0 (MS Z d) (Gw Z 2 p e R s m args below meth c (MQ below (QcS Z Rp) args s 0 0 (fun a => Z.2.2.1 < a))) Rp) := by
  unfold w_X10_beginsAnew_0
  refine s_iload_n (k := 1) C (by decide +kernel) ?_
  refine s_callSN C (by decide +kernel) rfl w_3_70 w_3_71 w_1_1 w_3_72 (by decide +kernel) ?_
  refine s_if_eq (off := 6) (tgt := 10) C (by decide +kernel) (by decide) (fun _ _ _ _ _ _ h => h) ?_
  refine s_bipush (n := (-3)) C (by decide +kernel) (by decide) ?_
  exact s_iret C rfl (by decide +kernel)
set_option maxRecDepth 20000 in
theorem b_X10_beginsAnew_10 {Z : Zt} {d : Nat} {p : Program} {e : Env} {R : Room} {s : State} {m : MethodId} {args : Array Value} {below : List Frame} {meth : Method} {c : Code} {Rp : RT} (C : Cx Z d jX10_beginsAnew RX10 p R s m args meth c) : Sd Z jX10_beginsAnew p e R s m args below meth c (MQ below (QcS Z Rp) args s 0 0 (fun a => Z.2.2.1 < a)) 10 (w_X10_beginsAnew_10 (MS Z d) (Gw Z 2 p e R s m args below meth c (MQ below (QcS Z Rp) args s 0 0 (fun a => Z.2.2.1 < a))) Rp) := by
  unfold w_X10_beginsAnew_10
  refine s_aload_n (k := 0) C (by decide +kernel) ?_
  refine s_iload_n (k := 1) C (by decide +kernel) ?_
  refine s_callV C rfl rfl (by decide +kernel) rfl w_2_75 w_2_77 w_p1_0 w_1_2 w_2_78 (by decide +kernel) ?_
  refine s_iload_n (k := 1) C (by decide +kernel) ?_
  refine s_callS C (by decide +kernel) rfl w_3_73 w_3_74 w_1_15 w_3_75 (by decide +kernel) ?_
  exact s_iret C rfl (by decide +kernel)
theorem ms_X10_beginsAnew {Z : Zt} {d : Nat} {S : Sh} {μ : Mi} {ρ : Mr} {Rp : RT} (a0 : Nat) (x1 : Int32) (h : ∀ G : Nat → PT, (∀ (L st : List Value) (S : Sh) (q : Nat × Nat) (μ : Mi) (ρ : Mr), w_X10_beginsAnew_10 (MS Z d) G Rp L st S q μ ρ → G 10 L st S q μ ρ) → w_X10_beginsAnew_0 (MS Z d) G Rp [.ref a0, .int x1] [] S (0, 0) μ ρ) : MS Z (d + 1) jX10_beginsAnew [.ref a0, .int x1] S μ ρ Rp :=
  MS_of [.ref a0, .int x1] (by decide +kernel) rfl rfl (Nat.le_of_ble_eq_true rfl) rfl (fun p e R s m args below meth c C => b_X10_beginsAnew_0 C _ _ _ _ _ _ (h _ (b_X10_beginsAnew_10 C)))
def w_X10_takesCare_0 (M : CT) (G : Nat → PT) (Rp : RT) : PT := tIload 1 <| tIf (fun x => x < 0) (G 9) <| tIload 1 <| tConst 1 <| tIf2 (fun x y => x ≤ y) (G 12) <| G 9
def w_X10_takesCare_9 (M : CT) (G : Nat → PT) (Rp : RT) : PT := tConst (-3) <| tIret Rp
def w_X10_takesCare_12 (M : CT) (G : Nat → PT) (Rp : RT) : PT := tAload 0 <| tGetI 10 6 5 <| tIf (fun x => x = 0) (G 23) <| tConst 1 <| tGoto (G 24)
def w_X10_takesCare_23 (M : CT) (G : Nat → PT) (Rp : RT) : PT := tConst 0 <| G 24
def w_X10_takesCare_24 (M : CT) (G : Nat → PT) (Rp : RT) : PT := tIstore 2 <| tAload 0 <| tIload 1 <| tConst 1 <| tIf2 (fun x y => x ≠ y) (G 35) <| tConst 1 <| tGoto (G 36)
def w_X10_takesCare_35 (M : CT) (G : Nat → PT) (Rp : RT) : PT := tConst 0 <| G 36
def w_X10_takesCare_36 (M : CT) (G : Nat → PT) (Rp : RT) : PT := tPutZ 10 6 5 <| tIload 2 <| tIret Rp
set_option maxRecDepth 20000 in
theorem b_X10_takesCare_0 {Z : Zt} {d : Nat} {p : Program} {e : Env} {R : Room} {s : State} {m : MethodId} {args : Array Value} {below : List Frame} {meth : Method} {c : Code} {Rp : RT} (C : Cx Z d jX10_takesCare RX10 p R s m args meth c) : Sd Z jX10_takesCare p e R s m args below meth c (MQ below (QcS Z Rp) args s 0 0 (fun a => Z.2.2.1 < a)) 0 (w_X10_takesCare_0 (MS Z d) (Gw Z 3 p e R s m args below meth c (MQ below (QcS Z Rp) args s 0 0 (fun a => Z.2.2.1 < a))) Rp) := by
  unfold w_X10_takesCare_0
  refine s_iload_n (k := 1) C (by decide +kernel) ?_
  refine s_if_lt (off := 8) (tgt := 9) C (by decide +kernel) (by decide) (fun _ _ _ _ _ _ h => h) ?_
  refine s_iload_n (k := 1) C (by decide +kernel) ?_
  refine s_iconst (n := 1) C (by decide +kernel) (by decide) ?_
  refine s_icmp_le (off := 6) (tgt := 12) C (by decide +kernel) (by decide) (fun _ _ _ _ _ _ h => h) ?_
  exact (fun _ _ _ _ _ _ h => h)
set_option maxRecDepth 20000 in
theorem b_X10_takesCare_9 {Z : Zt} {d : Nat} {p : Program} {e : Env} {R : Room} {s : State} {m : MethodId} {args : Array Value} {below : List Frame} {meth : Method} {c : Code} {Rp : RT} (C : Cx Z d jX10_takesCare RX10 p R s m args meth c) : Sd Z jX10_takesCare p e R s m args below meth c (MQ below (QcS Z Rp) args s 0 0 (fun a => Z.2.2.1 < a)) 9 (w_X10_takesCare_9 (MS Z d) (Gw Z 3 p e R s m args below meth c (MQ below (QcS Z Rp) args s 0 0 (fun a => Z.2.2.1 < a))) Rp) := by
  unfold w_X10_takesCare_9
  refine s_bipush (n := (-3)) C (by decide +kernel) (by decide) ?_
  exact s_iret C rfl (by decide +kernel)
set_option maxRecDepth 20000 in
theorem b_X10_takesCare_12 {Z : Zt} {d : Nat} {p : Program} {e : Env} {R : Room} {s : State} {m : MethodId} {args : Array Value} {below : List Frame} {meth : Method} {c : Code} {Rp : RT} (C : Cx Z d jX10_takesCare RX10 p R s m args meth c) : Sd Z jX10_takesCare p e R s m args below meth c (MQ below (QcS Z Rp) args s 0 0 (fun a => Z.2.2.1 < a)) 12 (w_X10_takesCare_12 (MS Z d) (Gw Z 3 p e R s m args below meth c (MQ below (QcS Z Rp) args s 0 0 (fun a => Z.2.2.1 < a))) Rp) := by
  unfold w_X10_takesCare_12
  refine s_aload_n (k := 0) C (by decide +kernel) ?_
  refine s_getI C w_2_128 (by decide +kernel) rfl ?_
  refine s_if_eq (off := 7) (tgt := 23) C (by decide +kernel) (by decide) (fun _ _ _ _ _ _ h => h) ?_
  refine s_iconst (n := 1) C (by decide +kernel) (by decide) ?_
  exact s_goto (off := 4) (tgt := 24) C (by decide +kernel) (by decide) (fun _ _ _ _ _ _ h => h)
set_option maxRecDepth 20000 in
theorem b_X10_takesCare_23 {Z : Zt} {d : Nat} {p : Program} {e : Env} {R : Room} {s : State} {m : MethodId} {args : Array Value} {below : List Frame} {meth : Method} {c : Code} {Rp : RT} (C : Cx Z d jX10_takesCare RX10 p R s m args meth c) : Sd Z jX10_takesCare p e R s m args below meth c (MQ below (QcS Z Rp) args s 0 0 (fun a => Z.2.2.1 < a)) 23 (w_X10_takesCare_23 (MS Z d) (Gw Z 3 p e R s m args below meth c (MQ below (QcS Z Rp) args s 0 0 (fun a => Z.2.2.1 < a))) Rp) := by
  unfold w_X10_takesCare_23
  refine s_iconst (n := 0) C (by decide +kernel) (by decide) ?_
  exact (fun _ _ _ _ _ _ h => h)
set_option maxRecDepth 20000 in
theorem b_X10_takesCare_24 {Z : Zt} {d : Nat} {p : Program} {e : Env} {R : Room} {s : State} {m : MethodId} {args : Array Value} {below : List Frame} {meth : Method} {c : Code} {Rp : RT} (C : Cx Z d jX10_takesCare RX10 p R s m args meth c) : Sd Z jX10_takesCare p e R s m args below meth c (MQ below (QcS Z Rp) args s 0 0 (fun a => Z.2.2.1 < a)) 24 (w_X10_takesCare_24 (MS Z d) (Gw Z 3 p e R s m args below meth c (MQ below (QcS Z Rp) args s 0 0 (fun a => Z.2.2.1 < a))) Rp) := by
  unfold w_X10_takesCare_24
  refine s_istore_n (k := 2) C (by decide +kernel) ?_
  refine s_aload_n (k := 0) C (by decide +kernel) ?_
  refine s_iload_n (k := 1) C (by decide +kernel) ?_
  refine s_iconst (n := 1) C (by decide +kernel) (by decide) ?_
  refine s_icmp_ne (off := 7) (tgt := 35) C (by decide +kernel) (by decide) (fun _ _ _ _ _ _ h => h) ?_
  refine s_iconst (n := 1) C (by decide +kernel) (by decide) ?_
  exact s_goto (off := 4) (tgt := 36) C (by decide +kernel) (by decide) (fun _ _ _ _ _ _ h => h)
set_option maxRecDepth 20000 in
theorem b_X10_takesCare_35 {Z : Zt} {d : Nat} {p : Program} {e : Env} {R : Room} {s : State} {m : MethodId} {args : Array Value} {below : List Frame} {meth : Method} {c : Code} {Rp : RT} (C : Cx Z d jX10_takesCare RX10 p R s m args meth c) : Sd Z jX10_takesCare p e R s m args below meth c (MQ below (QcS Z Rp) args s 0 0 (fun a => Z.2.2.1 < a)) 35 (w_X10_takesCare_35 (MS Z d) (Gw Z 3 p e R s m args below meth c (MQ below (QcS Z Rp) args s 0 0 (fun a => Z.2.2.1 < a))) Rp) := by
  unfold w_X10_takesCare_35
  refine s_iconst (n := 0) C (by decide +kernel) (by decide) ?_
  exact (fun _ _ _ _ _ _ h => h)
set_option maxRecDepth 20000 in
theorem b_X10_takesCare_36 {Z : Zt} {d : Nat} {p : Program} {e : Env} {R : Room} {s : State} {m : MethodId} {args : Array Value} {below : List Frame} {meth : Method} {c : Code} {Rp : RT} (C : Cx Z d jX10_takesCare RX10 p R s m args meth c) : Sd Z jX10_takesCare p e R s m args below meth c (MQ below (QcS Z Rp) args s 0 0 (fun a => Z.2.2.1 < a)) 36 (w_X10_takesCare_36 (MS Z d) (Gw Z 3 p e R s m args below meth c (MQ below (QcS Z Rp) args s 0 0 (fun a => Z.2.2.1 < a))) Rp) := by
  unfold w_X10_takesCare_36
  refine s_putZ C w_2_128 (by decide +kernel) rfl (Or.inl rfl) ?_
  refine s_iload_n (k := 2) C (by decide +kernel) ?_
  exact s_iret C rfl (by decide +kernel)
theorem ms_X10_takesCare {Z : Zt} {d : Nat} {S : Sh} {μ : Mi} {ρ : Mr} {Rp : RT} (a0 : Nat) (x1 : Int32) (h : ∀ G : Nat → PT, (∀ (L st : List Value) (S : Sh) (q : Nat × Nat) (μ : Mi) (ρ : Mr), w_X10_takesCare_9 (MS Z d) G Rp L st S q μ ρ → G 9 L st S q μ ρ) → (∀ (L st : List Value) (S : Sh) (q : Nat × Nat) (μ : Mi) (ρ : Mr), w_X10_takesCare_12 (MS Z d) G Rp L st S q μ ρ → G 12 L st S q μ ρ) → (∀ (L st : List Value) (S : Sh) (q : Nat × Nat) (μ : Mi) (ρ : Mr), w_X10_takesCare_23 (MS Z d) G Rp L st S q μ ρ → G 23 L st S q μ ρ) → (∀ (L st : List Value) (S : Sh) (q : Nat × Nat) (μ : Mi) (ρ : Mr), w_X10_takesCare_24 (MS Z d) G Rp L st S q μ ρ → G 24 L st S q μ ρ) → (∀ (L st : List Value) (S : Sh) (q : Nat × Nat) (μ : Mi) (ρ : Mr), w_X10_takesCare_35 (MS Z d) G Rp L st S q μ ρ → G 35 L st S q μ ρ) → (∀ (L st : List Value) (S : Sh) (q : Nat × Nat) (μ : Mi) (ρ : Mr), w_X10_takesCare_36 (MS Z d) G Rp L st S q μ ρ → G 36 L st S q μ ρ) → w_X10_takesCare_0 (MS Z d) G Rp [.ref a0, .int x1, .null] [] S (0, 0) μ ρ) : MS Z (d + 1) jX10_takesCare [.ref a0, .int x1] S μ ρ Rp :=
  MS_of [.ref a0, .int x1, .null] (by decide +kernel) rfl rfl (Nat.le_of_ble_eq_true rfl) rfl (fun p e R s m args below meth c C => b_X10_takesCare_0 C _ _ _ _ _ _ (h _ (b_X10_takesCare_9 C) (b_X10_takesCare_12 C) (b_X10_takesCare_23 C) (b_X10_takesCare_24 C) (b_X10_takesCare_35 C) (b_X10_takesCare_36 C)))
def w_X10_canTimeOut_0 (M : CT) (G : Nat → PT) (Rp : RT) : PT := tAload 0 <| tGetR 10 6 0 <| tIload 1 <| tAldR 37 <| tAstore 2 <| tAload 2 <| tGetI 7 18 1 <| tIf (fun x => x = 0) (G 44) <| tAload 2 <| tGetI 7 18 4 <| tConst 2 <| tIf2 (fun x y => x = y) (G 44) <| tAload 2 <| tIload 1 <| tCallV M jX7_isMember 7 18 1 <| tIf (fun x => x = 0) (G 44) <| tAload 2 <| tGetI 7 18 2 <| tConst 200 <| tIf2 (fun x y => y ≤ x) (G 44) <| tConst 1 <| tGoto (G 45)
def w_X10_canTimeOut_44 (M : CT) (G : Nat → PT) (Rp : RT) : PT := tConst 0 <| G 45
def w_X10_canTimeOut_45 (M : CT) (G : Nat → PT) (Rp : RT) : PT := tZret Rp
set_option maxRecDepth 20000 in
theorem b_X10_canTimeOut_0 {Z : Zt} {d : Nat} {p : Program} {e : Env} {R : Room} {s : State} {m : MethodId} {args : Array Value} {below : List Frame} {meth : Method} {c : Code} {Rp : RT} (C : Cx Z d jX10_canTimeOut RX10 p R s m args meth c) : Sd Z jX10_canTimeOut p e R s m args below meth c (MQ below (QcS Z Rp) args s 0 0 (fun a => Z.2.2.1 < a)) 0 (w_X10_canTimeOut_0 (MS Z d) (Gw Z 3 p e R s m args below meth c (MQ below (QcS Z Rp) args s 0 0 (fun a => Z.2.2.1 < a))) Rp) := by
  unfold w_X10_canTimeOut_0
  refine s_aload_n (k := 0) C (by decide +kernel) ?_
  refine s_getR C w_2_113 (by decide +kernel) rfl ?_
  refine s_iload_n (k := 1) C (by decide +kernel) ?_
  refine s_aald C rfl (by decide +kernel) ?_
  refine s_astore_n (k := 2) C (by decide +kernel) ?_
  refine s_aload_n (k := 2) C (by decide +kernel) ?_
  refine s_getI C w_1_224 (by decide +kernel) rfl ?_
  refine s_if_eq (off := 33) (tgt := 44) C (by decide +kernel) (by decide) (fun _ _ _ _ _ _ h => h) ?_
  refine s_aload_n (k := 2) C (by decide +kernel) ?_
  refine s_getI C w_1_234 (by decide +kernel) rfl ?_
  refine s_iconst (n := 2) C (by decide +kernel) (by decide) ?_
  refine s_icmp_eq (off := 25) (tgt := 44) C (by decide +kernel) (by decide) (fun _ _ _ _ _ _ h => h) ?_
  refine s_aload_n (k := 2) C (by decide +kernel) ?_
  refine s_iload_n (k := 1) C (by decide +kernel) ?_
  refine s_callV C rfl rfl (by decide +kernel) rfl w_3_109 w_3_110 w_3_111 w_1_5 w_3_112 (by decide +kernel) ?_
  refine s_if_eq (off := 17) (tgt := 44) C (by decide +kernel) (by decide) (fun _ _ _ _ _ _ h => h) ?_
  refine s_aload_n (k := 2) C (by decide +kernel) ?_
  refine s_getI C w_1_227 (by decide +kernel) rfl ?_
  refine s_sipush (n := 200) C (by decide +kernel) (by decide) ?_
  refine s_icmp_ge (off := 7) (tgt := 44) C (by decide +kernel) (by decide) (fun _ _ _ _ _ _ h => h) ?_
  refine s_iconst (n := 1) C (by decide +kernel) (by decide) ?_
  exact s_goto (off := 4) (tgt := 45) C (by decide +kernel) (by decide) (fun _ _ _ _ _ _ h => h)
set_option maxRecDepth 20000 in
theorem b_X10_canTimeOut_44 {Z : Zt} {d : Nat} {p : Program} {e : Env} {R : Room} {s : State} {m : MethodId} {args : Array Value} {below : List Frame} {meth : Method} {c : Code} {Rp : RT} (C : Cx Z d jX10_canTimeOut RX10 p R s m args meth c) : Sd Z jX10_canTimeOut p e R s m args below meth c (MQ below (QcS Z Rp) args s 0 0 (fun a => Z.2.2.1 < a)) 44 (w_X10_canTimeOut_44 (MS Z d) (Gw Z 3 p e R s m args below meth c (MQ below (QcS Z Rp) args s 0 0 (fun a => Z.2.2.1 < a))) Rp) := by
  unfold w_X10_canTimeOut_44
  refine s_iconst (n := 0) C (by decide +kernel) (by decide) ?_
  exact (fun _ _ _ _ _ _ h => h)
set_option maxRecDepth 20000 in
theorem b_X10_canTimeOut_45 {Z : Zt} {d : Nat} {p : Program} {e : Env} {R : Room} {s : State} {m : MethodId} {args : Array Value} {below : List Frame} {meth : Method} {c : Code} {Rp : RT} (C : Cx Z d jX10_canTimeOut RX10 p R s m args meth c) : Sd Z jX10_canTimeOut p e R s m args below meth c (MQ below (QcS Z Rp) args s 0 0 (fun a => Z.2.2.1 < a)) 45 (w_X10_canTimeOut_45 (MS Z d) (Gw Z 3 p e R s m args below meth c (MQ below (QcS Z Rp) args s 0 0 (fun a => Z.2.2.1 < a))) Rp) := by
  unfold w_X10_canTimeOut_45
  exact s_zret C rfl (by decide +kernel)
theorem ms_X10_canTimeOut {Z : Zt} {d : Nat} {S : Sh} {μ : Mi} {ρ : Mr} {Rp : RT} (a0 : Nat) (x1 : Int32) (h : ∀ G : Nat → PT, (∀ (L st : List Value) (S : Sh) (q : Nat × Nat) (μ : Mi) (ρ : Mr), w_X10_canTimeOut_44 (MS Z d) G Rp L st S q μ ρ → G 44 L st S q μ ρ) → (∀ (L st : List Value) (S : Sh) (q : Nat × Nat) (μ : Mi) (ρ : Mr), w_X10_canTimeOut_45 (MS Z d) G Rp L st S q μ ρ → G 45 L st S q μ ρ) → w_X10_canTimeOut_0 (MS Z d) G Rp [.ref a0, .int x1, .null] [] S (0, 0) μ ρ) : MS Z (d + 1) jX10_canTimeOut [.ref a0, .int x1] S μ ρ Rp :=
  MS_of [.ref a0, .int x1, .null] (by decide +kernel) rfl rfl (Nat.le_of_ble_eq_true rfl) rfl (fun p e R s m args below meth c C => b_X10_canTimeOut_0 C _ _ _ _ _ _ (h _ (b_X10_canTimeOut_44 C) (b_X10_canTimeOut_45 C)))
def w_X10_timesOut_0 (M : CT) (G : Nat → PT) (Rp : RT) : PT := tIload 1 <| tCallS M jX11_isNoStore 1 <| tIf (fun x => x = 0) (G 10) <| tConst (-2) <| tIret Rp
def w_X10_timesOut_10 (M : CT) (G : Nat → PT) (Rp : RT) : PT := tAload 0 <| tIload 1 <| tCallV M jX10_canTimeOut 10 6 1 <| tIf (fun x => x ≠ 0) (G 21) <| tConst (-5) <| tIret Rp
def w_X10_timesOut_21 (M : CT) (G : Nat → PT) (Rp : RT) : PT := tAload 0 <| tGetR 10 6 0 <| tIload 1 <| tAldR 37 <| tAstore 2 <| tAload 0 <| tAload 2 <| tAload 0 <| tGetI 10 6 5 <| tIf (fun x => x = 0) (G 45) <| tAload 0 <| tAload 2 <| tCallV M jX10_askFirst 10 6 1 <| tGoto (G 46)
def w_X10_timesOut_45 (M : CT) (G : Nat → PT) (Rp : RT) : PT := tConst 1 <| G 46
def w_X10_timesOut_46 (M : CT) (G : Nat → PT) (Rp : RT) : PT := tIload 1 <| tCallV M jX10_finish 10 6 3 <| tAload 2 <| tGetI 7 18 2 <| tIret Rp
set_option maxRecDepth 20000 in
theorem b_X10_timesOut_0 {Z : Zt} {d : Nat} {p : Program} {e : Env} {R : Room} {s : State} {m : MethodId} {args : Array Value} {below : List Frame} {meth : Method} {c : Code} {Rp : RT} (C : Cx Z d jX10_timesOut RX10 p R s m args meth c) : Sd Z jX10_timesOut p e R s m args below meth c (MQ below (QcS Z Rp) args s 0 0 (fun a => Z.2.2.1 < a)) 0 (w_X10_timesOut_0 (MS Z d) (Gw Z 3 p e R s m args below meth c (MQ below (QcS Z Rp) args s 0 0 (fun a => Z.2.2.1 < a))) Rp) := by
  unfold w_X10_timesOut_0
  refine s_iload_n (k := 1) C (by decide +kernel) ?_
  refine s_callSN C (by decide +kernel) rfl w_3_102 w_3_103 w_1_1 w_3_104 (by decide +kernel) ?_
  refine s_if_eq (off := 6) (tgt := 10) C (by decide +kernel) (by decide) (fun _ _ _ _ _ _ h => h) ?_
  refine s_bipush (n := (-2)) C (by decide +kernel) (by decide) ?_
  exact s_iret C rfl (by decide +kernel)
set_option maxRecDepth 20000 in
theorem b_X10_timesOut_10 {Z : Zt} {d : Nat} {p : Program} {e : Env} {R : Room} {s : State} {m : MethodId} {args : Array Value} {below : List Frame} {meth : Method} {c : Code} {Rp : RT} (C : Cx Z d jX10_timesOut RX10 p R s m args meth c) : Sd Z jX10_timesOut p e R s m args below meth c (MQ below (QcS Z Rp) args s 0 0 (fun a => Z.2.2.1 < a)) 10 (w_X10_timesOut_10 (MS Z d) (Gw Z 3 p e R s m args below meth c (MQ below (QcS Z Rp) args s 0 0 (fun a => Z.2.2.1 < a))) Rp) := by
  unfold w_X10_timesOut_10
  refine s_aload_n (k := 0) C (by decide +kernel) ?_
  refine s_iload_n (k := 1) C (by decide +kernel) ?_
  refine s_callV C rfl rfl (by decide +kernel) rfl w_3_105 w_3_106 w_3_107 w_1_2 w_3_108 (by decide +kernel) ?_
  refine s_if_ne (off := 6) (tgt := 21) C (by decide +kernel) (by decide) (fun _ _ _ _ _ _ h => h) ?_
  refine s_bipush (n := (-5)) C (by decide +kernel) (by decide) ?_
  exact s_iret C rfl (by decide +kernel)
set_option maxRecDepth 20000 in
theorem b_X10_timesOut_21 {Z : Zt} {d : Nat} {p : Program} {e : Env} {R : Room} {s : State} {m : MethodId} {args : Array Value} {below : List Frame} {meth : Method} {c : Code} {Rp : RT} (C : Cx Z d jX10_timesOut RX10 p R s m args meth c) : Sd Z jX10_timesOut p e R s m args below meth c (MQ below (QcS Z Rp) args s 0 0 (fun a => Z.2.2.1 < a)) 21 (w_X10_timesOut_21 (MS Z d) (Gw Z 3 p e R s m args below meth c (MQ below (QcS Z Rp) args s 0 0 (fun a => Z.2.2.1 < a))) Rp) := by
  unfold w_X10_timesOut_21
  refine s_aload_n (k := 0) C (by decide +kernel) ?_
  refine s_getR C w_2_113 (by decide +kernel) rfl ?_
  refine s_iload_n (k := 1) C (by decide +kernel) ?_
  refine s_aald C rfl (by decide +kernel) ?_
  refine s_astore_n (k := 2) C (by decide +kernel) ?_
  refine s_aload_n (k := 0) C (by decide +kernel) ?_
  refine s_aload_n (k := 2) C (by decide +kernel) ?_
  refine s_aload_n (k := 0) C (by decide +kernel) ?_
  refine s_getI C w_2_128 (by decide +kernel) rfl ?_
  refine s_if_eq (off := 11) (tgt := 45) C (by decide +kernel) (by decide) (fun _ _ _ _ _ _ h => h) ?_
  refine s_aload_n (k := 0) C (by decide +kernel) ?_
  refine s_aload_n (k := 2) C (by decide +kernel) ?_
  refine s_callV C rfl rfl (by decide +kernel) rfl w_3_113 w_3_115 w_p1_3 w_1_2 w_3_116 (by decide +kernel) ?_
  exact s_goto (off := 4) (tgt := 46) C (by decide +kernel) (by decide) (fun _ _ _ _ _ _ h => h)
set_option maxRecDepth 20000 in
theorem b_X10_timesOut_45 {Z : Zt} {d : Nat} {p : Program} {e : Env} {R : Room} {s : State} {m : MethodId} {args : Array Value} {below : List Frame} {meth : Method} {c : Code} {Rp : RT} (C : Cx Z d jX10_timesOut RX10 p R s m args meth c) : Sd Z jX10_timesOut p e R s m args below meth c (MQ below (QcS Z Rp) args s 0 0 (fun a => Z.2.2.1 < a)) 45 (w_X10_timesOut_45 (MS Z d) (Gw Z 3 p e R s m args below meth c (MQ below (QcS Z Rp) args s 0 0 (fun a => Z.2.2.1 < a))) Rp) := by
  unfold w_X10_timesOut_45
  refine s_iconst (n := 1) C (by decide +kernel) (by decide) ?_
  exact (fun _ _ _ _ _ _ h => h)
set_option maxRecDepth 20000 in
theorem b_X10_timesOut_46 {Z : Zt} {d : Nat} {p : Program} {e : Env} {R : Room} {s : State} {m : MethodId} {args : Array Value} {below : List Frame} {meth : Method} {c : Code} {Rp : RT} (C : Cx Z d jX10_timesOut RX10 p R s m args meth c) : Sd Z jX10_timesOut p e R s m args below meth c (MQ below (QcS Z Rp) args s 0 0 (fun a => Z.2.2.1 < a)) 46 (w_X10_timesOut_46 (MS Z d) (Gw Z 3 p e R s m args below meth c (MQ below (QcS Z Rp) args s 0 0 (fun a => Z.2.2.1 < a))) Rp) := by
  unfold w_X10_timesOut_46
  refine s_iload_n (k := 1) C (by decide +kernel) ?_
  refine s_callV C rfl rfl (by decide +kernel) rfl w_3_138 w_3_140 w_p1_5 w_1_2 w_3_141 (by decide +kernel) ?_
  refine s_aload_n (k := 2) C (by decide +kernel) ?_
  refine s_getI C w_1_227 (by decide +kernel) rfl ?_
  exact s_iret C rfl (by decide +kernel)
theorem ms_X10_timesOut {Z : Zt} {d : Nat} {S : Sh} {μ : Mi} {ρ : Mr} {Rp : RT} (a0 : Nat) (x1 : Int32) (h : ∀ G : Nat → PT, (∀ (L st : List Value) (S : Sh) (q : Nat × Nat) (μ : Mi) (ρ : Mr), w_X10_timesOut_10 (MS Z d) G Rp L st S q μ ρ → G 10 L st S q μ ρ) → (∀ (L st : List Value) (S : Sh) (q : Nat × Nat) (μ : Mi) (ρ : Mr), w_X10_timesOut_21 (MS Z d) G Rp L st S q μ ρ → G 21 L st S q μ ρ) → (∀ (L st : List Value) (S : Sh) (q : Nat × Nat) (μ : Mi) (ρ : Mr), w_X10_timesOut_45 (MS Z d) G Rp L st S q μ ρ → G 45 L st S q μ ρ) → (∀ (L st : List Value) (S : Sh) (q : Nat × Nat) (μ : Mi) (ρ : Mr), w_X10_timesOut_46 (MS Z d) G Rp L st S q μ ρ → G 46 L st S q μ ρ) → w_X10_timesOut_0 (MS Z d) G Rp [.ref a0, .int x1, .null] [] S (0, 0) μ ρ) : MS Z (d + 1) jX10_timesOut [.ref a0, .int x1] S μ ρ Rp :=
  MS_of [.ref a0, .int x1, .null] (by decide +kernel) rfl rfl (Nat.le_of_ble_eq_true rfl) rfl (fun p e R s m args below meth c C => b_X10_timesOut_0 C _ _ _ _ _ _ (h _ (b_X10_timesOut_10 C) (b_X10_timesOut_21 C) (b_X10_timesOut_45 C) (b_X10_timesOut_46 C)))
def w_X10_isNoLeader_0 (M : CT) (G : Nat → PT) (Rp : RT) : PT := tAload 0 <| tGetR 10 6 0 <| tIload 1 <| tAldR 37 <| tGetI 7 18 4 <| tConst 2 <| tIf2 (fun x y => x = y) (G 17) <| tConst 1 <| tGoto (G 18)
def w_X10_isNoLeader_17 (M : CT) (G : Nat → PT) (Rp : RT) : PT := tConst 0 <| G 18
def w_X10_isNoLeader_18 (M : CT) (G : Nat → PT) (Rp : RT) : PT := tZret Rp
set_option maxRecDepth 20000 in
theorem b_X10_isNoLeader_0 {Z : Zt} {d : Nat} {p : Program} {e : Env} {R : Room} {s : State} {m : MethodId} {args : Array Value} {below : List Frame} {meth : Method} {c : Code} {Rp : RT} (C : Cx Z d jX10_isNoLeader RX10 p R s m args meth c) : Sd Z jX10_isNoLeader p e R s m args below meth c (MQ below (QcS Z Rp) args s 0 0 (fun a => Z.2.2.1 < a)) 0 (w_X10_isNoLeader_0 (MS Z d) (Gw Z 2 p e R s m args below meth c (MQ below (QcS Z Rp) args s 0 0 (fun a => Z.2.2.1 < a))) Rp) := by
  unfold w_X10_isNoLeader_0
  refine s_aload_n (k := 0) C (by decide +kernel) ?_
  refine s_getR C w_2_113 (by decide +kernel) rfl ?_
  refine s_iload_n (k := 1) C (by decide +kernel) ?_
  refine s_aald C rfl (by decide +kernel) ?_
  refine s_getI C w_1_234 (by decide +kernel) rfl ?_
  refine s_iconst (n := 2) C (by decide +kernel) (by decide) ?_
  refine s_icmp_eq (off := 7) (tgt := 17) C (by decide +kernel) (by decide) (fun _ _ _ _ _ _ h => h) ?_
  refine s_iconst (n := 1) C (by decide +kernel) (by decide) ?_
  exact s_goto (off := 4) (tgt := 18) C (by decide +kernel) (by decide) (fun _ _ _ _ _ _ h => h)
set_option maxRecDepth 20000 in
theorem b_X10_isNoLeader_17 {Z : Zt} {d : Nat} {p : Program} {e : Env} {R : Room} {s : State} {m : MethodId} {args : Array Value} {below : List Frame} {meth : Method} {c : Code} {Rp : RT} (C : Cx Z d jX10_isNoLeader RX10 p R s m args meth c) : Sd Z jX10_isNoLeader p e R s m args below meth c (MQ below (QcS Z Rp) args s 0 0 (fun a => Z.2.2.1 < a)) 17 (w_X10_isNoLeader_17 (MS Z d) (Gw Z 2 p e R s m args below meth c (MQ below (QcS Z Rp) args s 0 0 (fun a => Z.2.2.1 < a))) Rp) := by
  unfold w_X10_isNoLeader_17
  refine s_iconst (n := 0) C (by decide +kernel) (by decide) ?_
  exact (fun _ _ _ _ _ _ h => h)
set_option maxRecDepth 20000 in
theorem b_X10_isNoLeader_18 {Z : Zt} {d : Nat} {p : Program} {e : Env} {R : Room} {s : State} {m : MethodId} {args : Array Value} {below : List Frame} {meth : Method} {c : Code} {Rp : RT} (C : Cx Z d jX10_isNoLeader RX10 p R s m args meth c) : Sd Z jX10_isNoLeader p e R s m args below meth c (MQ below (QcS Z Rp) args s 0 0 (fun a => Z.2.2.1 < a)) 18 (w_X10_isNoLeader_18 (MS Z d) (Gw Z 2 p e R s m args below meth c (MQ below (QcS Z Rp) args s 0 0 (fun a => Z.2.2.1 < a))) Rp) := by
  unfold w_X10_isNoLeader_18
  exact s_zret C rfl (by decide +kernel)
theorem ms_X10_isNoLeader {Z : Zt} {d : Nat} {S : Sh} {μ : Mi} {ρ : Mr} {Rp : RT} (a0 : Nat) (x1 : Int32) (h : ∀ G : Nat → PT, (∀ (L st : List Value) (S : Sh) (q : Nat × Nat) (μ : Mi) (ρ : Mr), w_X10_isNoLeader_17 (MS Z d) G Rp L st S q μ ρ → G 17 L st S q μ ρ) → (∀ (L st : List Value) (S : Sh) (q : Nat × Nat) (μ : Mi) (ρ : Mr), w_X10_isNoLeader_18 (MS Z d) G Rp L st S q μ ρ → G 18 L st S q μ ρ) → w_X10_isNoLeader_0 (MS Z d) G Rp [.ref a0, .int x1] [] S (0, 0) μ ρ) : MS Z (d + 1) jX10_isNoLeader [.ref a0, .int x1] S μ ρ Rp :=
  MS_of [.ref a0, .int x1] (by decide +kernel) rfl rfl (Nat.le_of_ble_eq_true rfl) rfl (fun p e R s m args below meth c C => b_X10_isNoLeader_0 C _ _ _ _ _ _ (h _ (b_X10_isNoLeader_17 C) (b_X10_isNoLeader_18 C)))
def w_X10_beats_0 (M : CT) (G : Nat → PT) (Rp : RT) : PT := tIload 1 <| tCallS M jX11_isNoStore 1 <| tIf (fun x => x = 0) (G 10) <| tConst (-2) <| tIret Rp
def w_X10_beats_10 (M : CT) (G : Nat → PT) (Rp : RT) : PT := tAload 0 <| tIload 1 <| tCallV M jX10_isNoLeader 10 6 1 <| tIf (fun x => x = 0) (G 21) <| tConst (-5) <| tIret Rp
def w_X10_beats_21 (M : CT) (G : Nat → PT) (Rp : RT) : PT := tAload 0 <| tAload 0 <| tGetR 10 6 0 <| tIload 1 <| tAldR 37 <| tCallV M jX10_sendToAll 10 6 1 <| tAload 0 <| tGetR 10 6 1 <| tGetI 1 6 2 <| tIret Rp
set_option maxRecDepth 20000 in
theorem b_X10_beats_0 {Z : Zt} {d : Nat} {p : Program} {e : Env} {R : Room} {s : State} {m : MethodId} {args : Array Value} {below : List Frame} {meth : Method} {c : Code} {Rp : RT} (C : Cx Z d jX10_beats RX10 p R s m args meth c) : Sd Z jX10_beats p e R s m args below meth c (MQ below (QcS Z Rp) args s 0 0 (fun a => Z.2.2.1 < a)) 0 (w_X10_beats_0 (MS Z d) (Gw Z 2 p e R s m args below meth c (MQ below (QcS Z Rp) args s 0 0 (fun a => Z.2.2.1 < a))) Rp) := by
  unfold w_X10_beats_0
  refine s_iload_n (k := 1) C (by decide +kernel) ?_
  refine s_callSN C (by decide +kernel) rfl w_3_102 w_3_103 w_1_1 w_3_104 (by decide +kernel) ?_
  refine s_if_eq (off := 6) (tgt := 10) C (by decide +kernel) (by decide) (fun _ _ _ _ _ _ h => h) ?_
  refine s_bipush (n := (-2)) C (by decide +kernel) (by decide) ?_
  exact s_iret C rfl (by decide +kernel)
set_option maxRecDepth 20000 in
theorem b_X10_beats_10 {Z : Zt} {d : Nat} {p : Program} {e : Env} {R : Room} {s : State} {m : MethodId} {args : Array Value} {below : List Frame} {meth : Method} {c : Code} {Rp : RT} (C : Cx Z d jX10_beats RX10 p R s m args meth c) : Sd Z jX10_beats p e R s m args below meth c (MQ below (QcS Z Rp) args s 0 0 (fun a => Z.2.2.1 < a)) 10 (w_X10_beats_10 (MS Z d) (Gw Z 2 p e R s m args below meth c (MQ below (QcS Z Rp) args s 0 0 (fun a => Z.2.2.1 < a))) Rp) := by
  unfold w_X10_beats_10
  refine s_aload_n (k := 0) C (by decide +kernel) ?_
  refine s_iload_n (k := 1) C (by decide +kernel) ?_
  refine s_callV C rfl rfl (by decide +kernel) rfl w_3_198 w_3_200 w_p1_11 w_1_2 w_3_201 (by decide +kernel) ?_
  refine s_if_eq (off := 6) (tgt := 21) C (by decide +kernel) (by decide) (fun _ _ _ _ _ _ h => h) ?_
  refine s_bipush (n := (-5)) C (by decide +kernel) (by decide) ?_
  exact s_iret C rfl (by decide +kernel)
set_option maxRecDepth 20000 in
theorem b_X10_beats_21 {Z : Zt} {d : Nat} {p : Program} {e : Env} {R : Room} {s : State} {m : MethodId} {args : Array Value} {below : List Frame} {meth : Method} {c : Code} {Rp : RT} (C : Cx Z d jX10_beats RX10 p R s m args meth c) : Sd Z jX10_beats p e R s m args below meth c (MQ below (QcS Z Rp) args s 0 0 (fun a => Z.2.2.1 < a)) 21 (w_X10_beats_21 (MS Z d) (Gw Z 2 p e R s m args below meth c (MQ below (QcS Z Rp) args s 0 0 (fun a => Z.2.2.1 < a))) Rp) := by
  unfold w_X10_beats_21
  refine s_aload_n (k := 0) C (by decide +kernel) ?_
  refine s_aload_n (k := 0) C (by decide +kernel) ?_
  refine s_getR C w_2_113 (by decide +kernel) rfl ?_
  refine s_iload_n (k := 1) C (by decide +kernel) ?_
  refine s_aald C rfl (by decide +kernel) ?_
  refine s_callV C rfl rfl (by decide +kernel) rfl w_3_158 w_3_159 w_3_160 w_1_2 w_3_161 (by decide +kernel) ?_
  refine s_aload_n (k := 0) C (by decide +kernel) ?_
  refine s_getR C w_2_117 (by decide +kernel) rfl ?_
  refine s_getI C w_1_126 (by decide +kernel) rfl ?_
  exact s_iret C rfl (by decide +kernel)
theorem ms_X10_beats {Z : Zt} {d : Nat} {S : Sh} {μ : Mi} {ρ : Mr} {Rp : RT} (a0 : Nat) (x1 : Int32) (h : ∀ G : Nat → PT, (∀ (L st : List Value) (S : Sh) (q : Nat × Nat) (μ : Mi) (ρ : Mr), w_X10_beats_10 (MS Z d) G Rp L st S q μ ρ → G 10 L st S q μ ρ) → (∀ (L st : List Value) (S : Sh) (q : Nat × Nat) (μ : Mi) (ρ : Mr), w_X10_beats_21 (MS Z d) G Rp L st S q μ ρ → G 21 L st S q μ ρ) → w_X10_beats_0 (MS Z d) G Rp [.ref a0, .int x1] [] S (0, 0) μ ρ) : MS Z (d + 1) jX10_beats [.ref a0, .int x1] S μ ρ Rp :=
  MS_of [.ref a0, .int x1] (by decide +kernel) rfl rfl (Nat.le_of_ble_eq_true rfl) rfl (fun p e R s m args below meth c C => b_X10_beats_0 C _ _ _ _ _ _ (h _ (b_X10_beats_10 C) (b_X10_beats_21 C)))
def w_X10_proposes_0 (M : CT) (G : Nat → PT) (Rp : RT) : PT := tIload 1 <| tCallS M jX11_isNoStore 1 <| tIf (fun x => x ≠ 0) (G 24) <| tIload 2 <| tConst 1 <| tIf2 (fun x y => x < y) (G 24) <| tIload 2 <| tConst 2 <| tIf2 (fun x y => y < x) (G 24) <| tIload 3 <| tCallS M jX11_isNoCell 1 <| tIf (fun x => x = 0) (G 27) <| G 24
def w_X10_proposes_24 (M : CT) (G : Nat → PT) (Rp : RT) : PT := tConst (-2) <| tIret Rp
def w_X10_proposes_27 (M : CT) (G : Nat → PT) (Rp : RT) : PT := tIload 4 <| tConst (-999) <| tIf2 (fun x y => x < y) (G 43) <| tIload 4 <| tConst 999 <| tIf2 (fun x y => x ≤ y) (G 46) <| G 43
def w_X10_proposes_43 (M : CT) (G : Nat → PT) (Rp : RT) : PT := tConst (-3) <| tIret Rp
def w_X10_proposes_46 (M : CT) (G : Nat → PT) (Rp : RT) : PT := tAload 0 <| tIload 1 <| tCallV M jX10_isNoLeader 10 6 1 <| tIf (fun x => x = 0) (G 57) <| tConst (-5) <| tIret Rp
def w_X10_proposes_57 (M : CT) (G : Nat → PT) (Rp : RT) : PT := tAload 0 <| tAload 0 <| tGetR 10 6 0 <| tIload 1 <| tAldR 37 <| tIload 2 <| tIload 3 <| tIload 4 <| tCallV M jX10_putEntry 10 6 4 <| tIret Rp
set_option maxRecDepth 20000 in
theorem b_X10_proposes_0 {Z : Zt} {d : Nat} {p : Program} {e : Env} {R : Room} {s : State} {m : MethodId} {args : Array Value} {below : List Frame} {meth : Method} {c : Code} {Rp : RT} (C : Cx Z d jX10_proposes RX10 p R s m args meth c) : Sd Z jX10_proposes p e R s m args below meth c (MQ below (QcS Z Rp) args s 0 0 (fun a => Z.2.2.1 < a)) 0 (w_X10_proposes_0 (MS Z d) (Gw Z 5 p e R s m args below meth c (MQ below (QcS Z Rp) args s 0 0 (fun a => Z.2.2.1 < a))) Rp) := by
  unfold w_X10_proposes_0
  refine s_iload_n (k := 1) C (by decide +kernel) ?_
  refine s_callSN C (by decide +kernel) rfl w_3_102 w_3_103 w_1_1 w_3_104 (by decide +kernel) ?_
  refine s_if_ne (off := 20) (tgt := 24) C (by decide +kernel) (by decide) (fun _ _ _ _ _ _ h => h) ?_
  refine s_iload_n (k := 2) C (by decide +kernel) ?_
  refine s_iconst (n := 1) C (by decide +kernel) (by decide) ?_
  refine s_icmp_lt (off := 15) (tgt := 24) C (by decide +kernel) (by decide) (fun _ _ _ _ _ _ h => h) ?_
  refine s_iload_n (k := 2) C (by decide +kernel) ?_
  refine s_iconst (n := 2) C (by decide +kernel) (by decide) ?_
  refine s_icmp_gt (off := 10) (tgt := 24) C (by decide +kernel) (by decide) (fun _ _ _ _ _ _ h => h) ?_
  refine s_iload_n (k := 3) C (by decide +kernel) ?_
  refine s_callSN C (by decide +kernel) rfl w_3_210 w_3_211 w_1_1 w_3_212 (by decide +kernel) ?_
  refine s_if_eq (off := 6) (tgt := 27) C (by decide +kernel) (by decide) (fun _ _ _ _ _ _ h => h) ?_
  exact (fun _ _ _ _ _ _ h => h)
set_option maxRecDepth 20000 in
theorem b_X10_proposes_24 {Z : Zt} {d : Nat} {p : Program} {e : Env} {R : Room} {s : State} {m : MethodId} {args : Array Value} {below : List Frame} {meth : Method} {c : Code} {Rp : RT} (C : Cx Z d jX10_proposes RX10 p R s m args meth c) : Sd Z jX10_proposes p e R s m args below meth c (MQ below (QcS Z Rp) args s 0 0 (fun a => Z.2.2.1 < a)) 24 (w_X10_proposes_24 (MS Z d) (Gw Z 5 p e R s m args below meth c (MQ below (QcS Z Rp) args s 0 0 (fun a => Z.2.2.1 < a))) Rp) := by
  unfold w_X10_proposes_24
  refine s_bipush (n := (-2)) C (by decide +kernel) (by decide) ?_
  exact s_iret C rfl (by decide +kernel)
set_option maxRecDepth 20000 in
theorem b_X10_proposes_27 {Z : Zt} {d : Nat} {p : Program} {e : Env} {R : Room} {s : State} {m : MethodId} {args : Array Value} {below : List Frame} {meth : Method} {c : Code} {Rp : RT} (C : Cx Z d jX10_proposes RX10 p R s m args meth c) : Sd Z jX10_proposes p e R s m args below meth c (MQ below (QcS Z Rp) args s 0 0 (fun a => Z.2.2.1 < a)) 27 (w_X10_proposes_27 (MS Z d) (Gw Z 5 p e R s m args below meth c (MQ below (QcS Z Rp) args s 0 0 (fun a => Z.2.2.1 < a))) Rp) := by
  unfold w_X10_proposes_27
  refine s_iload (k := 4) C (by decide +kernel) ?_
  refine s_sipush (n := (-999)) C (by decide +kernel) (by decide) ?_
  refine s_icmp_lt (off := 11) (tgt := 43) C (by decide +kernel) (by decide) (fun _ _ _ _ _ _ h => h) ?_
  refine s_iload (k := 4) C (by decide +kernel) ?_
  refine s_sipush (n := 999) C (by decide +kernel) (by decide) ?_
  refine s_icmp_le (off := 6) (tgt := 46) C (by decide +kernel) (by decide) (fun _ _ _ _ _ _ h => h) ?_
  exact (fun _ _ _ _ _ _ h => h)
set_option maxRecDepth 20000 in
theorem b_X10_proposes_43 {Z : Zt} {d : Nat} {p : Program} {e : Env} {R : Room} {s : State} {m : MethodId} {args : Array Value} {below : List Frame} {meth : Method} {c : Code} {Rp : RT} (C : Cx Z d jX10_proposes RX10 p R s m args meth c) : Sd Z jX10_proposes p e R s m args below meth c (MQ below (QcS Z Rp) args s 0 0 (fun a => Z.2.2.1 < a)) 43 (w_X10_proposes_43 (MS Z d) (Gw Z 5 p e R s m args below meth c (MQ below (QcS Z Rp) args s 0 0 (fun a => Z.2.2.1 < a))) Rp) := by
  unfold w_X10_proposes_43
  refine s_bipush (n := (-3)) C (by decide +kernel) (by decide) ?_
  exact s_iret C rfl (by decide +kernel)
set_option maxRecDepth 20000 in
theorem b_X10_proposes_46 {Z : Zt} {d : Nat} {p : Program} {e : Env} {R : Room} {s : State} {m : MethodId} {args : Array Value} {below : List Frame} {meth : Method} {c : Code} {Rp : RT} (C : Cx Z d jX10_proposes RX10 p R s m args meth c) : Sd Z jX10_proposes p e R s m args below meth c (MQ below (QcS Z Rp) args s 0 0 (fun a => Z.2.2.1 < a)) 46 (w_X10_proposes_46 (MS Z d) (Gw Z 5 p e R s m args below meth c (MQ below (QcS Z Rp) args s 0 0 (fun a => Z.2.2.1 < a))) Rp) := by
  unfold w_X10_proposes_46
  refine s_aload_n (k := 0) C (by decide +kernel) ?_
  refine s_iload_n (k := 1) C (by decide +kernel) ?_
  refine s_callV C rfl rfl (by decide +kernel) rfl w_3_198 w_3_200 w_p1_11 w_1_2 w_3_201 (by decide +kernel) ?_
  refine s_if_eq (off := 6) (tgt := 57) C (by decide +kernel) (by decide) (fun _ _ _ _ _ _ h => h) ?_
  refine s_bipush (n := (-5)) C (by decide +kernel) (by decide) ?_
  exact s_iret C rfl (by decide +kernel)
set_option maxRecDepth 20000 in
theorem b_X10_proposes_57 {Z : Zt} {d : Nat} {p : Program} {e : Env} {R : Room} {s : State} {m : MethodId} {args : Array Value} {below : List Frame} {meth : Method} {c : Code} {Rp : RT} (C : Cx Z d jX10_proposes RX10 p R s m args meth c) : Sd Z jX10_proposes p e R s m args below meth c (MQ below (QcS Z Rp) args s 0 0 (fun a => Z.2.2.1 < a)) 57 (w_X10_proposes_57 (MS Z d) (Gw Z 5 p e R s m args below meth c (MQ below (QcS Z Rp) args s 0 0 (fun a => Z.2.2.1 < a))) Rp) := by
  unfold w_X10_proposes_57
  refine s_aload_n (k := 0) C (by decide +kernel) ?_
  refine s_aload_n (k := 0) C (by decide +kernel) ?_
  refine s_getR C w_2_113 (by decide +kernel) rfl ?_
  refine s_iload_n (k := 1) C (by decide +kernel) ?_
  refine s_aald C rfl (by decide +kernel) ?_
  refine s_iload_n (k := 2) C (by decide +kernel) ?_
  refine s_iload_n (k := 3) C (by decide +kernel) ?_
  refine s_iload (k := 4) C (by decide +kernel) ?_
  refine s_callV C rfl rfl (by decide +kernel) rfl w_3_213 w_3_215 w_p1_12 w_1_2 w_3_216 (by decide +kernel) ?_
  exact s_iret C rfl (by decide +kernel)
theorem ms_X10_proposes {Z : Zt} {d : Nat} {S : Sh} {μ : Mi} {ρ : Mr} {Rp : RT} (a0 : Nat) (x1 : Int32) (x2 : Int32) (x3 : Int32) (x4 : Int32) (h : ∀ G : Nat → PT, (∀ (L st : List Value) (S : Sh) (q : Nat × Nat) (μ : Mi) (ρ : Mr), w_X10_proposes_24 (MS Z d) G Rp L st S q μ ρ → G 24 L st S q μ ρ) → (∀ (L st : List Value) (S : Sh) (q : Nat × Nat) (μ : Mi) (ρ : Mr), w_X10_proposes_27 (MS Z d) G Rp L st S q μ ρ → G 27 L st S q μ ρ) → (∀ (L st : List Value) (S : Sh) (q : Nat × Nat) (μ : Mi) (ρ : Mr), w_X10_proposes_43 (MS Z d) G Rp L st S q μ ρ → G 43 L st S q μ ρ) → (∀ (L st : List Value) (S : Sh) (q : Nat × Nat) (μ : Mi) (ρ : Mr), w_X10_proposes_46 (MS Z d) G Rp L st S q μ ρ → G 46 L st S q μ ρ) → (∀ (L st : List Value) (S : Sh) (q : Nat × Nat) (μ : Mi) (ρ : Mr), w_X10_proposes_57 (MS Z d) G Rp L st S q μ ρ → G 57 L st S q μ ρ) → w_X10_proposes_0 (MS Z d) G Rp [.ref a0, .int x1, .int x2, .int x3, .int x4] [] S (0, 0) μ ρ) : MS Z (d + 1) jX10_proposes [.ref a0, .int x1, .int x2, .int x3, .int x4] S μ ρ Rp :=
  MS_of [.ref a0, .int x1, .int x2, .int x3, .int x4] (by decide +kernel) rfl rfl (Nat.le_of_ble_eq_true rfl) rfl (fun p e R s m args below meth c C => b_X10_proposes_0 C _ _ _ _ _ _ (h _ (b_X10_proposes_24 C) (b_X10_proposes_27 C) (b_X10_proposes_43 C) (b_X10_proposes_46 C) (b_X10_proposes_57 C)))
def w_X10_putEntry_0 (M : CT) (G : Nat → PT) (Rp : RT) : PT := tAload 1 <| tGetI 7 18 7 <| tConst 100 <| tIf2 (fun x y => x < y) (G 12) <| tConst (-4) <| tIret Rp
def w_X10_putEntry_12 (M : CT) (G : Nat → PT) (Rp : RT) : PT := tAload 1 <| tAload 1 <| tGetI 7 18 2 <| tIload 2 <| tIload 3 <| tIload 4 <| tCallS M jX0_of 4 <| tCallV M jX7_append 7 18 1 <| tAload 1 <| tGetI 7 18 7 <| tIstore 5 <| tAload 0 <| tAload 1 <| tConst 12 <| tAload 1 <| tGetI 7 18 0 <| tCallV M jX10_finish 10 6 3 <| tIload 5 <| tIret Rp
set_option maxRecDepth 20000 in
theorem b_X10_putEntry_0 {Z : Zt} {d : Nat} {p : Program} {e : Env} {R : Room} {s : State} {m : MethodId} {args : Array Value} {below : List Frame} {meth : Method} {c : Code} {Rp : RT} (C : Cx Z d jX10_putEntry RX10 p R s m args meth c) : Sd Z jX10_putEntry p e R s m args below meth c (MQ below (QcS Z Rp) args s 0 0 (fun a => Z.2.2.1 < a)) 0 (w_X10_putEntry_0 (MS Z d) (Gw Z 6 p e R s m args below meth c (MQ below (QcS Z Rp) args s 0 0 (fun a => Z.2.2.1 < a))) Rp) := by
  unfold w_X10_putEntry_0
  refine s_aload_n (k := 1) C (by decide +kernel) ?_
  refine s_getI C w_2_5 (by decide +kernel) rfl ?_
  refine s_bipush (n := 100) C (by decide +kernel) (by decide) ?_
  refine s_icmp_lt (off := 6) (tgt := 12) C (by decide +kernel) (by decide) (fun _ _ _ _ _ _ h => h) ?_
  refine s_bipush (n := (-4)) C (by decide +kernel) (by decide) ?_
  exact s_iret C rfl (by decide +kernel)
set_option maxRecDepth 20000 in
theorem b_X10_putEntry_12 {Z : Zt} {d : Nat} {p : Program} {e : Env} {R : Room} {s : State} {m : MethodId} {args : Array Value} {below : List Frame} {meth : Method} {c : Code} {Rp : RT} (C : Cx Z d jX10_putEntry RX10 p R s m args meth c) : Sd Z jX10_putEntry p e R s m args below meth c (MQ below (QcS Z Rp) args s 0 0 (fun a => Z.2.2.1 < a)) 12 (w_X10_putEntry_12 (MS Z d) (Gw Z 6 p e R s m args below meth c (MQ below (QcS Z Rp) args s 0 0 (fun a => Z.2.2.1 < a))) Rp) := by
  unfold w_X10_putEntry_12
  refine s_aload_n (k := 1) C (by decide +kernel) ?_
  refine s_aload_n (k := 1) C (by decide +kernel) ?_
  refine s_getI C w_1_227 (by decide +kernel) rfl ?_
  refine s_iload_n (k := 2) C (by decide +kernel) ?_
  refine s_iload_n (k := 3) C (by decide +kernel) ?_
  refine s_iload (k := 4) C (by decide +kernel) ?_
  refine s_callS C (by decide +kernel) rfl w_3_151 w_3_152 w_1_9 w_3_153 (by decide +kernel) ?_
  refine s_callV C rfl rfl (by decide +kernel) rfl w_3_154 w_3_155 w_3_156 w_1_5 w_3_157 (by decide +kernel) ?_
  refine s_aload_n (k := 1) C (by decide +kernel) ?_
  refine s_getI C w_2_5 (by decide +kernel) rfl ?_
  refine s_istore (k := 5) C (by decide +kernel) ?_
  refine s_aload_n (k := 0) C (by decide +kernel) ?_
  refine s_aload_n (k := 1) C (by decide +kernel) ?_
  refine s_bipush (n := 12) C (by decide +kernel) (by decide) ?_
  refine s_aload_n (k := 1) C (by decide +kernel) ?_
  refine s_getI C w_1_221 (by decide +kernel) rfl ?_
  refine s_callV C rfl rfl (by decide +kernel) rfl w_3_138 w_3_140 w_p1_5 w_1_2 w_3_141 (by decide +kernel) ?_
  refine s_iload (k := 5) C (by decide +kernel) ?_
  exact s_iret C rfl (by decide +kernel)
theorem ms_X10_putEntry {Z : Zt} {d : Nat} {S : Sh} {μ : Mi} {ρ : Mr} {Rp : RT} (a0 : Nat) (a1 : Nat) (x2 : Int32) (x3 : Int32) (x4 : Int32) (h : ∀ G : Nat → PT, (∀ (L st : List Value) (S : Sh) (q : Nat × Nat) (μ : Mi) (ρ : Mr), w_X10_putEntry_12 (MS Z d) G Rp L st S q μ ρ → G 12 L st S q μ ρ) → w_X10_putEntry_0 (MS Z d) G Rp [.ref a0, .ref a1, .int x2, .int x3, .int x4, .null] [] S (0, 0) μ ρ) : MS Z (d + 1) jX10_putEntry [.ref a0, .ref a1, .int x2, .int x3, .int x4] S μ ρ Rp :=
  MS_of [.ref a0, .ref a1, .int x2, .int x3, .int x4, .null] (by decide +kernel) rfl rfl (Nat.le_of_ble_eq_true rfl) rfl (fun p e R s m args below meth c C => b_X10_putEntry_0 C _ _ _ _ _ _ (h _ (b_X10_putEntry_12 C)))
def w_X10_reads_0 (M : CT) (G : Nat → PT) (Rp : RT) : PT := tIload 1 <| tCallS M jX11_isNoStore 1 <| tIf (fun x => x ≠ 0) (G 14) <| tIload 2 <| tCallS M jX11_isNoCell 1 <| tIf (fun x => x = 0) (G 17) <| G 14
def w_X10_reads_14 (M : CT) (G : Nat → PT) (Rp : RT) : PT := tConst (-2) <| tIret Rp
def w_X10_reads_17 (M : CT) (G : Nat → PT) (Rp : RT) : PT := tAload 0 <| tGetR 10 6 0 <| tIload 1 <| tAldR 37 <| tAstore 3 <| tAload 0 <| tIload 1 <| tCallV M jX10_isNoLeader 10 6 1 <| tIf (fun x => x ≠ 0) (G 58) <| tAload 3 <| tGetR 7 18 17 <| tGetI 5 4 0 <| tConst 1 <| tIf2 (fun x y => x = y) (G 58) <| tAload 3 <| tAload 3 <| tGetI 7 18 8 <| tCallV M jX7_termAt 7 18 1 <| tAload 3 <| tGetI 7 18 2 <| tIf2 (fun x y => x = y) (G 61) <| G 58
def w_X10_reads_58 (M : CT) (G : Nat → PT) (Rp : RT) : PT := tConst (-5) <| tIret Rp
def w_X10_reads_61 (M : CT) (G : Nat → PT) (Rp : RT) : PT := tAload 3 <| tDup <| tGetI 7 18 6 <| tConst 1 <| tBin (fun x y => x + y) <| tPutI 7 18 6 <| tAload 3 <| tGetR 7 18 17 <| tConst 1 <| tPutI 5 4 0 <| tAload 3 <| tGetR 7 18 17 <| tIload 2 <| tPutI 5 4 1 <| tAload 3 <| tGetR 7 18 17 <| tConst 0 <| tPutI 5 4 2 <| tAload 3 <| tGetR 7 18 17 <| tConst 1 <| tIload 1 <| tBin (fun x y => x <<< (y &&& 31)) <| tPutI 5 4 3 <| tAload 0 <| tAload 3 <| tCallV M jX10_sendToAll 10 6 1 <| tAload 3 <| tAload 3 <| tGetR 7 18 17 <| tGetI 5 4 3 <| tCallV M jX7_isMajority 7 18 1 <| tIf (fun x => x = 0) (G 128) <| tAload 3 <| tCallV M jX7_answerRead 7 18 0 <| G 128
def w_X10_reads_128 (M : CT) (G : Nat → PT) (Rp : RT) : PT := tAload 3 <| tGetR 7 18 17 <| tGetI 5 4 0 <| tIret Rp
set_option maxRecDepth 20000 in
theorem b_X10_reads_0 {Z : Zt} {d : Nat} {p : Program} {e : Env} {R : Room} {s : State} {m : MethodId} {args : Array Value} {below : List Frame} {meth : Method} {c : Code} {Rp : RT} (C : Cx Z d jX10_reads RX10 p R s m args meth c) : Sd Z jX10_reads p e R s m args below meth c (MQ below (QcS Z Rp) args s 0 0 (fun a => Z.2.2.1 < a)) 0 (w_X10_reads_0 (MS Z d) (Gw Z 4 p e R s m args below meth c (MQ below (QcS Z Rp) args s 0 0 (fun a => Z.2.2.1 < a))) Rp) := by
  unfold w_X10_reads_0
  refine s_iload_n (k := 1) C (by decide +kernel) ?_
  refine s_callSN C (by decide +kernel) rfl w_3_102 w_3_103 w_1_1 w_3_104 (by decide +kernel) ?_
  refine s_if_ne (off := 10) (tgt := 14) C (by decide +kernel) (by decide) (fun _ _ _ _ _ _ h => h) ?_
  refine s_iload_n (k := 2) C (by decide +kernel) ?_
  refine s_callSN C (by decide +kernel) rfl w_3_210 w_3_211 w_1_1 w_3_212 (by decide +kernel) ?_
  refine s_if_eq (off := 6) (tgt := 17) C (by decide +kernel) (by decide) (fun _ _ _ _ _ _ h => h) ?_
  exact (fun _ _ _ _ _ _ h => h)
set_option maxRecDepth 20000 in
theorem b_X10_reads_14 {Z : Zt} {d : Nat} {p : Program} {e : Env} {R : Room} {s : State} {m : MethodId} {args : Array Value} {below : List Frame} {meth : Method} {c : Code} {Rp : RT} (C : Cx Z d jX10_reads RX10 p R s m args meth c) : Sd Z jX10_reads p e R s m args below meth c (MQ below (QcS Z Rp) args s 0 0 (fun a => Z.2.2.1 < a)) 14 (w_X10_reads_14 (MS Z d) (Gw Z 4 p e R s m args below meth c (MQ below (QcS Z Rp) args s 0 0 (fun a => Z.2.2.1 < a))) Rp) := by
  unfold w_X10_reads_14
  refine s_bipush (n := (-2)) C (by decide +kernel) (by decide) ?_
  exact s_iret C rfl (by decide +kernel)
set_option maxRecDepth 20000 in
theorem b_X10_reads_17 {Z : Zt} {d : Nat} {p : Program} {e : Env} {R : Room} {s : State} {m : MethodId} {args : Array Value} {below : List Frame} {meth : Method} {c : Code} {Rp : RT} (C : Cx Z d jX10_reads RX10 p R s m args meth c) : Sd Z jX10_reads p e R s m args below meth c (MQ below (QcS Z Rp) args s 0 0 (fun a => Z.2.2.1 < a)) 17 (w_X10_reads_17 (MS Z d) (Gw Z 4 p e R s m args below meth c (MQ below (QcS Z Rp) args s 0 0 (fun a => Z.2.2.1 < a))) Rp) := by
  unfold w_X10_reads_17
  refine s_aload_n (k := 0) C (by decide +kernel) ?_
  refine s_getR C w_2_113 (by decide +kernel) rfl ?_
  refine s_iload_n (k := 1) C (by decide +kernel) ?_
  refine s_aald C rfl (by decide +kernel) ?_
  refine s_astore_n (k := 3) C (by decide +kernel) ?_
  refine s_aload_n (k := 0) C (by decide +kernel) ?_
  refine s_iload_n (k := 1) C (by decide +kernel) ?_
  refine s_callV C rfl rfl (by decide +kernel) rfl w_3_198 w_3_200 w_p1_11 w_1_2 w_3_201 (by decide +kernel) ?_
  refine s_if_ne (off := 29) (tgt := 58) C (by decide +kernel) (by decide) (fun _ _ _ _ _ _ h => h) ?_
  refine s_aload_n (k := 3) C (by decide +kernel) ?_
  refine s_getR C w_2_37 (by decide +kernel) rfl ?_
  refine s_getI C w_1_197 (by decide +kernel) rfl ?_
  refine s_iconst (n := 1) C (by decide +kernel) (by decide) ?_
  refine s_icmp_eq (off := 18) (tgt := 58) C (by decide +kernel) (by decide) (fun _ _ _ _ _ _ h => h) ?_
  refine s_aload_n (k := 3) C (by decide +kernel) ?_
  refine s_aload_n (k := 3) C (by decide +kernel) ?_
  refine s_getI C w_2_9 (by decide +kernel) rfl ?_
  refine s_callV C rfl rfl (by decide +kernel) rfl w_3_129 w_3_130 w_3_131 w_1_5 w_3_132 (by decide +kernel) ?_
  refine s_aload_n (k := 3) C (by decide +kernel) ?_
  refine s_getI C w_1_227 (by decide +kernel) rfl ?_
  refine s_icmp_eq (off := 6) (tgt := 61) C (by decide +kernel) (by decide) (fun _ _ _ _ _ _ h => h) ?_
  exact (fun _ _ _ _ _ _ h => h)
set_option maxRecDepth 20000 in
theorem b_X10_reads_58 {Z : Zt} {d : Nat} {p : Program} {e : Env} {R : Room} {s : State} {m : MethodId} {args : Array Value} {below : List Frame} {meth : Method} {c : Code} {Rp : RT} (C : Cx Z d jX10_reads RX10 p R s m args meth c) : Sd Z jX10_reads p e R s m args below meth c (MQ below (QcS Z Rp) args s 0 0 (fun a => Z.2.2.1 < a)) 58 (w_X10_reads_58 (MS Z d) (Gw Z 4 p e R s m args below meth c (MQ below (QcS Z Rp) args s 0 0 (fun a => Z.2.2.1 < a))) Rp) := by
  unfold w_X10_reads_58
  refine s_bipush (n := (-5)) C (by decide +kernel) (by decide) ?_
  exact s_iret C rfl (by decide +kernel)
set_option maxRecDepth 20000 in
theorem b_X10_reads_61 {Z : Zt} {d : Nat} {p : Program} {e : Env} {R : Room} {s : State} {m : MethodId} {args : Array Value} {below : List Frame} {meth : Method} {c : Code} {Rp : RT} (C : Cx Z d jX10_reads RX10 p R s m args meth c) : Sd Z jX10_reads p e R s m args below meth c (MQ below (QcS Z Rp) args s 0 0 (fun a => Z.2.2.1 < a)) 61 (w_X10_reads_61 (MS Z d) (Gw Z 4 p e R s m args below meth c (MQ below (QcS Z Rp) args s 0 0 (fun a => Z.2.2.1 < a))) Rp) := by
  unfold w_X10_reads_61
  refine s_aload_n (k := 3) C (by decide +kernel) ?_
  refine s_dup C (by decide +kernel) ?_
  refine s_getI C w_2_1 (by decide +kernel) rfl ?_
  refine s_iconst (n := 1) C (by decide +kernel) (by decide) ?_
  refine s_iadd C (by decide +kernel) ?_
  refine s_putI C w_2_1 (by decide +kernel) rfl (Or.inl rfl) ?_
  refine s_aload_n (k := 3) C (by decide +kernel) ?_
  refine s_getR C w_2_37 (by decide +kernel) rfl ?_
  refine s_iconst (n := 1) C (by decide +kernel) (by decide) ?_
  refine s_putI C w_1_197 (by decide +kernel) rfl (Or.inl rfl) ?_
  refine s_aload_n (k := 3) C (by decide +kernel) ?_
  refine s_getR C w_2_37 (by decide +kernel) rfl ?_
  refine s_iload_n (k := 2) C (by decide +kernel) ?_
  refine s_putI C w_1_200 (by decide +kernel) rfl (Or.inl rfl) ?_
  refine s_aload_n (k := 3) C (by decide +kernel) ?_
  refine s_getR C w_2_37 (by decide +kernel) rfl ?_
  refine s_iconst (n := 0) C (by decide +kernel) (by decide) ?_
  refine s_putI C w_1_204 (by decide +kernel) rfl (Or.inl rfl) ?_
  refine s_aload_n (k := 3) C (by decide +kernel) ?_
  refine s_getR C w_2_37 (by decide +kernel) rfl ?_
  refine s_iconst (n := 1) C (by decide +kernel) (by decide) ?_
  refine s_iload_n (k := 1) C (by decide +kernel) ?_
  refine s_ishl C (by decide +kernel) ?_
  refine s_putI C w_1_208 (by decide +kernel) rfl (Or.inl rfl) ?_
  refine s_aload_n (k := 0) C (by decide +kernel) ?_
  refine s_aload_n (k := 3) C (by decide +kernel) ?_
  refine s_callV C rfl rfl (by decide +kernel) rfl w_3_158 w_3_159 w_3_160 w_1_2 w_3_161 (by decide +kernel) ?_
  refine s_aload_n (k := 3) C (by decide +kernel) ?_
  refine s_aload_n (k := 3) C (by decide +kernel) ?_
  refine s_getR C w_2_37 (by decide +kernel) rfl ?_
  refine s_getI C w_1_208 (by decide +kernel) rfl ?_
  refine s_callV C rfl rfl (by decide +kernel) rfl w_3_133 w_3_134 w_3_135 w_1_5 w_3_136 (by decide +kernel) ?_
  refine s_if_eq (off := 7) (tgt := 128) C (by decide +kernel) (by decide) (fun _ _ _ _ _ _ h => h) ?_
  refine s_aload_n (k := 3) C (by decide +kernel) ?_
  refine s_callV C rfl rfl (by decide +kernel) rfl w_3_225 w_3_226 w_3_227 w_1_5 w_3_228 (by decide +kernel) ?_
  exact (fun _ _ _ _ _ _ h => h)
set_option maxRecDepth 20000 in
theorem b_X10_reads_128 {Z : Zt} {d : Nat} {p : Program} {e : Env} {R : Room} {s : State} {m : MethodId} {args : Array Value} {below : List Frame} {meth : Method} {c : Code} {Rp : RT} (C : Cx Z d jX10_reads RX10 p R s m args meth c) : Sd Z jX10_reads p e R s m args below meth c (MQ below (QcS Z Rp) args s 0 0 (fun a => Z.2.2.1 < a)) 128 (w_X10_reads_128 (MS Z d) (Gw Z 4 p e R s m args below meth c (MQ below (QcS Z Rp) args s 0 0 (fun a => Z.2.2.1 < a))) Rp) := by
  unfold w_X10_reads_128
  refine s_aload_n (k := 3) C (by decide +kernel) ?_
  refine s_getR C w_2_37 (by decide +kernel) rfl ?_
  refine s_getI C w_1_197 (by decide +kernel) rfl ?_
  exact s_iret C rfl (by decide +kernel)
theorem ms_X10_reads {Z : Zt} {d : Nat} {S : Sh} {μ : Mi} {ρ : Mr} {Rp : RT} (a0 : Nat) (x1 : Int32) (x2 : Int32) (h : ∀ G : Nat → PT, (∀ (L st : List Value) (S : Sh) (q : Nat × Nat) (μ : Mi) (ρ : Mr), w_X10_reads_14 (MS Z d) G Rp L st S q μ ρ → G 14 L st S q μ ρ) → (∀ (L st : List Value) (S : Sh) (q : Nat × Nat) (μ : Mi) (ρ : Mr), w_X10_reads_17 (MS Z d) G Rp L st S q μ ρ → G 17 L st S q μ ρ) → (∀ (L st : List Value) (S : Sh) (q : Nat × Nat) (μ : Mi) (ρ : Mr), w_X10_reads_58 (MS Z d) G Rp L st S q μ ρ → G 58 L st S q μ ρ) → (∀ (L st : List Value) (S : Sh) (q : Nat × Nat) (μ : Mi) (ρ : Mr), w_X10_reads_61 (MS Z d) G Rp L st S q μ ρ → G 61 L st S q μ ρ) → (∀ (L st : List Value) (S : Sh) (q : Nat × Nat) (μ : Mi) (ρ : Mr), w_X10_reads_128 (MS Z d) G Rp L st S q μ ρ → G 128 L st S q μ ρ) → w_X10_reads_0 (MS Z d) G Rp [.ref a0, .int x1, .int x2, .null] [] S (0, 0) μ ρ) : MS Z (d + 1) jX10_reads [.ref a0, .int x1, .int x2] S μ ρ Rp :=
  MS_of [.ref a0, .int x1, .int x2, .null] (by decide +kernel) rfl rfl (Nat.le_of_ble_eq_true rfl) rfl (fun p e R s m args below meth c C => b_X10_reads_0 C _ _ _ _ _ _ (h _ (b_X10_reads_14 C) (b_X10_reads_17 C) (b_X10_reads_58 C) (b_X10_reads_61 C) (b_X10_reads_128 C)))
def w_X10_hands_0 (M : CT) (G : Nat → PT) (Rp : RT) : PT := tIload 1 <| tCallS M jX11_isNoStore 1 <| tIf (fun x => x ≠ 0) (G 14) <| tIload 2 <| tCallS M jX11_isNoStore 1 <| tIf (fun x => x = 0) (G 17) <| G 14
def w_X10_hands_14 (M : CT) (G : Nat → PT) (Rp : RT) : PT := tConst (-2) <| tIret Rp
def w_X10_hands_17 (M : CT) (G : Nat → PT) (Rp : RT) : PT := tIload 1 <| tIload 2 <| tIf2 (fun x y => x ≠ y) (G 25) <| tConst (-3) <| tIret Rp
def w_X10_hands_25 (M : CT) (G : Nat → PT) (Rp : RT) : PT := tAload 0 <| tGetR 10 6 0 <| tIload 1 <| tAldR 37 <| tAstore 3 <| tAload 0 <| tIload 1 <| tCallV M jX10_isNoLeader 10 6 1 <| tIf (fun x => x ≠ 0) (G 61) <| tAload 3 <| tIload 2 <| tCallV M jX7_isMember 7 18 1 <| tIf (fun x => x = 0) (G 61) <| tAload 3 <| tGetR 7 18 15 <| tIload 2 <| tAld 20 <| tAload 3 <| tGetI 7 18 7 <| tIf2 (fun x y => x = y) (G 64) <| G 61
def w_X10_hands_61 (M : CT) (G : Nat → PT) (Rp : RT) : PT := tConst (-5) <| tIret Rp
def w_X10_hands_64 (M : CT) (G : Nat → PT) (Rp : RT) : PT := tAload 0 <| tGetR 10 6 1 <| tIload 1 <| tIload 2 <| tConst 6 <| tAload 3 <| tGetI 7 18 2 <| tCallV M jX1_post 1 6 4 <| tPop <| tAload 0 <| tGetR 10 6 1 <| tGetI 1 6 2 <| tIret Rp
set_option maxRecDepth 20000 in
theorem b_X10_hands_0 {Z : Zt} {d : Nat} {p : Program} {e : Env} {R : Room} {s : State} {m : MethodId} {args : Array Value} {below : List Frame} {meth : Method} {c : Code} {Rp : RT} (C : Cx Z d jX10_hands RX10 p R s m args meth c) : Sd Z jX10_hands p e R s m args below meth c (MQ below (QcS Z Rp) args s 0 0 (fun a => Z.2.2.1 < a)) 0 (w_X10_hands_0 (MS Z d) (Gw Z 4 p e R s m args below meth c (MQ below (QcS Z Rp) args s 0 0 (fun a => Z.2.2.1 < a))) Rp) := by
  unfold w_X10_hands_0
  refine s_iload_n (k := 1) C (by decide +kernel) ?_
  refine s_callSN C (by decide +kernel) rfl w_3_102 w_3_103 w_1_1 w_3_104 (by decide +kernel) ?_
  refine s_if_ne (off := 10) (tgt := 14) C (by decide +kernel) (by decide) (fun _ _ _ _ _ _ h => h) ?_
  refine s_iload_n (k := 2) C (by decide +kernel) ?_
  refine s_callSN C (by decide +kernel) rfl w_3_102 w_3_103 w_1_1 w_3_104 (by decide +kernel) ?_
  refine s_if_eq (off := 6) (tgt := 17) C (by decide +kernel) (by decide) (fun _ _ _ _ _ _ h => h) ?_
  exact (fun _ _ _ _ _ _ h => h)
set_option maxRecDepth 20000 in
theorem b_X10_hands_14 {Z : Zt} {d : Nat} {p : Program} {e : Env} {R : Room} {s : State} {m : MethodId} {args : Array Value} {below : List Frame} {meth : Method} {c : Code} {Rp : RT} (C : Cx Z d jX10_hands RX10 p R s m args meth c) : Sd Z jX10_hands p e R s m args below meth c (MQ below (QcS Z Rp) args s 0 0 (fun a => Z.2.2.1 < a)) 14 (w_X10_hands_14 (MS Z d) (Gw Z 4 p e R s m args below meth c (MQ below (QcS Z Rp) args s 0 0 (fun a => Z.2.2.1 < a))) Rp) := by
  unfold w_X10_hands_14
  refine s_bipush (n := (-2)) C (by decide +kernel) (by decide) ?_
  exact s_iret C rfl (by decide +kernel)
set_option maxRecDepth 20000 in
theorem b_X10_hands_17 {Z : Zt} {d : Nat} {p : Program} {e : Env} {R : Room} {s : State} {m : MethodId} {args : Array Value} {below : List Frame} {meth : Method} {c : Code} {Rp : RT} (C : Cx Z d jX10_hands RX10 p R s m args meth c) : Sd Z jX10_hands p e R s m args below meth c (MQ below (QcS Z Rp) args s 0 0 (fun a => Z.2.2.1 < a)) 17 (w_X10_hands_17 (MS Z d) (Gw Z 4 p e R s m args below meth c (MQ below (QcS Z Rp) args s 0 0 (fun a => Z.2.2.1 < a))) Rp) := by
  unfold w_X10_hands_17
  refine s_iload_n (k := 1) C (by decide +kernel) ?_
  refine s_iload_n (k := 2) C (by decide +kernel) ?_
  refine s_icmp_ne (off := 6) (tgt := 25) C (by decide +kernel) (by decide) (fun _ _ _ _ _ _ h => h) ?_
  refine s_bipush (n := (-3)) C (by decide +kernel) (by decide) ?_
  exact s_iret C rfl (by decide +kernel)
set_option maxRecDepth 20000 in
theorem b_X10_hands_25 {Z : Zt} {d : Nat} {p : Program} {e : Env} {R : Room} {s : State} {m : MethodId} {args : Array Value} {below : List Frame} {meth : Method} {c : Code} {Rp : RT} (C : Cx Z d jX10_hands RX10 p R s m args meth c) : Sd Z jX10_hands p e R s m args below meth c (MQ below (QcS Z Rp) args s 0 0 (fun a => Z.2.2.1 < a)) 25 (w_X10_hands_25 (MS Z d) (Gw Z 4 p e R s m args below meth c (MQ below (QcS Z Rp) args s 0 0 (fun a => Z.2.2.1 < a))) Rp) := by
  unfold w_X10_hands_25
  refine s_aload_n (k := 0) C (by decide +kernel) ?_
  refine s_getR C w_2_113 (by decide +kernel) rfl ?_
  refine s_iload_n (k := 1) C (by decide +kernel) ?_
  refine s_aald C rfl (by decide +kernel) ?_
  refine s_astore_n (k := 3) C (by decide +kernel) ?_
  refine s_aload_n (k := 0) C (by decide +kernel) ?_
  refine s_iload_n (k := 1) C (by decide +kernel) ?_
  refine s_callV C rfl rfl (by decide +kernel) rfl w_3_198 w_3_200 w_p1_11 w_1_2 w_3_201 (by decide +kernel) ?_
  refine s_if_ne (off := 24) (tgt := 61) C (by decide +kernel) (by decide) (fun _ _ _ _ _ _ h => h) ?_
  refine s_aload_n (k := 3) C (by decide +kernel) ?_
  refine s_iload_n (k := 2) C (by decide +kernel) ?_
  refine s_callV C rfl rfl (by decide +kernel) rfl w_3_109 w_3_110 w_3_111 w_1_5 w_3_112 (by decide +kernel) ?_
  refine s_if_eq (off := 16) (tgt := 61) C (by decide +kernel) (by decide) (fun _ _ _ _ _ _ h => h) ?_
  refine s_aload_n (k := 3) C (by decide +kernel) ?_
  refine s_getR C w_2_30 (by decide +kernel) rfl ?_
  refine s_iload_n (k := 2) C (by decide +kernel) ?_
  refine s_iald C (by decide +kernel) ?_
  refine s_aload_n (k := 3) C (by decide +kernel) ?_
  refine s_getI C w_2_5 (by decide +kernel) rfl ?_
  refine s_icmp_eq (off := 6) (tgt := 64) C (by decide +kernel) (by decide) (fun _ _ _ _ _ _ h => h) ?_
  exact (fun _ _ _ _ _ _ h => h)
set_option maxRecDepth 20000 in
theorem b_X10_hands_61 {Z : Zt} {d : Nat} {p : Program} {e : Env} {R : Room} {s : State} {m : MethodId} {args : Array Value} {below : List Frame} {meth : Method} {c : Code} {Rp : RT} (C : Cx Z d jX10_hands RX10 p R s m args meth c) : Sd Z jX10_hands p e R s m args below meth c (MQ below (QcS Z Rp) args s 0 0 (fun a => Z.2.2.1 < a)) 61 (w_X10_hands_61 (MS Z d) (Gw Z 4 p e R s m args below meth c (MQ below (QcS Z Rp) args s 0 0 (fun a => Z.2.2.1 < a))) Rp) := by
  unfold w_X10_hands_61
  refine s_bipush (n := (-5)) C (by decide +kernel) (by decide) ?_
  exact s_iret C rfl (by decide +kernel)
set_option maxRecDepth 20000 in
theorem b_X10_hands_64 {Z : Zt} {d : Nat} {p : Program} {e : Env} {R : Room} {s : State} {m : MethodId} {args : Array Value} {below : List Frame} {meth : Method} {c : Code} {Rp : RT} (C : Cx Z d jX10_hands RX10 p R s m args meth c) : Sd Z jX10_hands p e R s m args below meth c (MQ below (QcS Z Rp) args s 0 0 (fun a => Z.2.2.1 < a)) 64 (w_X10_hands_64 (MS Z d) (Gw Z 4 p e R s m args below meth c (MQ below (QcS Z Rp) args s 0 0 (fun a => Z.2.2.1 < a))) Rp) := by
  unfold w_X10_hands_64
  refine s_aload_n (k := 0) C (by decide +kernel) ?_
  refine s_getR C w_2_117 (by decide +kernel) rfl ?_
  refine s_iload_n (k := 1) C (by decide +kernel) ?_
  refine s_iload_n (k := 2) C (by decide +kernel) ?_
  refine s_bipush (n := 6) C (by decide +kernel) (by decide) ?_
  refine s_aload_n (k := 3) C (by decide +kernel) ?_
  refine s_getI C w_1_227 (by decide +kernel) rfl ?_
  refine s_callV C rfl rfl (by decide +kernel) rfl w_3_125 w_3_126 w_3_127 w_1_3 w_3_128 (by decide +kernel) ?_
  refine s_pop C (by decide +kernel) ?_
  refine s_aload_n (k := 0) C (by decide +kernel) ?_
  refine s_getR C w_2_117 (by decide +kernel) rfl ?_
  refine s_getI C w_1_126 (by decide +kernel) rfl ?_
  exact s_iret C rfl (by decide +kernel)
theorem ms_X10_hands {Z : Zt} {d : Nat} {S : Sh} {μ : Mi} {ρ : Mr} {Rp : RT} (a0 : Nat) (x1 : Int32) (x2 : Int32) (h : ∀ G : Nat → PT, (∀ (L st : List Value) (S : Sh) (q : Nat × Nat) (μ : Mi) (ρ : Mr), w_X10_hands_14 (MS Z d) G Rp L st S q μ ρ → G 14 L st S q μ ρ) → (∀ (L st : List Value) (S : Sh) (q : Nat × Nat) (μ : Mi) (ρ : Mr), w_X10_hands_17 (MS Z d) G Rp L st S q μ ρ → G 17 L st S q μ ρ) → (∀ (L st : List Value) (S : Sh) (q : Nat × Nat) (μ : Mi) (ρ : Mr), w_X10_hands_25 (MS Z d) G Rp L st S q μ ρ → G 25 L st S q μ ρ) → (∀ (L st : List Value) (S : Sh) (q : Nat × Nat) (μ : Mi) (ρ : Mr), w_X10_hands_61 (MS Z d) G Rp L st S q μ ρ → G 61 L st S q μ ρ) → (∀ (L st : List Value) (S : Sh) (q : Nat × Nat) (μ : Mi) (ρ : Mr), w_X10_hands_64 (MS Z d) G Rp L st S q μ ρ → G 64 L st S q μ ρ) → w_X10_hands_0 (MS Z d) G Rp [.ref a0, .int x1, .int x2, .null] [] S (0, 0) μ ρ) : MS Z (d + 1) jX10_hands [.ref a0, .int x1, .int x2] S μ ρ Rp :=
  MS_of [.ref a0, .int x1, .int x2, .null] (by decide +kernel) rfl rfl (Nat.le_of_ble_eq_true rfl) rfl (fun p e R s m args below meth c C => b_X10_hands_0 C _ _ _ _ _ _ (h _ (b_X10_hands_14 C) (b_X10_hands_17 C) (b_X10_hands_25 C) (b_X10_hands_61 C) (b_X10_hands_64 C)))
def w_X10_changes_0 (M : CT) (G : Nat → PT) (Rp : RT) : PT := tIload 1 <| tCallS M jX11_isNoStore 1 <| tIf (fun x => x = 0) (G 10) <| tConst (-2) <| tIret Rp
def w_X10_changes_10 (M : CT) (G : Nat → PT) (Rp : RT) : PT := tIload 2 <| tCallS M jX11_isNoSet 1 <| tIf (fun x => x = 0) (G 20) <| tConst (-3) <| tIret Rp
def w_X10_changes_20 (M : CT) (G : Nat → PT) (Rp : RT) : PT := tAload 0 <| tGetR 10 6 0 <| tIload 1 <| tAldR 37 <| tAstore 3 <| tAload 0 <| tIload 1 <| tCallV M jX10_isNoLeader 10 6 1 <| tIf (fun x => x ≠ 0) (G 61) <| tAload 3 <| tGetI 7 18 11 <| tIf (fun x => x ≠ 0) (G 61) <| tAload 3 <| tGetI 7 18 9 <| tAload 3 <| tGetI 7 18 8 <| tIf2 (fun x y => y < x) (G 61) <| tAload 3 <| tGetI 7 18 10 <| tIload 2 <| tIf2 (fun x y => x ≠ y) (G 64) <| G 61
def w_X10_changes_61 (M : CT) (G : Nat → PT) (Rp : RT) : PT := tConst (-5) <| tIret Rp
def w_X10_changes_64 (M : CT) (G : Nat → PT) (Rp : RT) : PT := tAload 0 <| tAload 3 <| tConst 3 <| tAload 3 <| tGetI 7 18 10 <| tIload 2 <| tCallV M jX10_putEntry 10 6 4 <| tIret Rp
set_option maxRecDepth 20000 in
theorem b_X10_changes_0 {Z : Zt} {d : Nat} {p : Program} {e : Env} {R : Room} {s : State} {m : MethodId} {args : Array Value} {below : List Frame} {meth : Method} {c : Code} {Rp : RT} (C : Cx Z d jX10_changes RX10 p R s m args meth c) : Sd Z jX10_changes p e R s m args below meth c (MQ below (QcS Z Rp) args s 0 0 (fun a => Z.2.2.1 < a)) 0 (w_X10_changes_0 (MS Z d) (Gw Z 4 p e R s m args below meth c (MQ below (QcS Z Rp) args s 0 0 (fun a => Z.2.2.1 < a))) Rp) := by
  unfold w_X10_changes_0
  refine s_iload_n (k := 1) C (by decide +kernel) ?_
  refine s_callSN C (by decide +kernel) rfl w_3_102 w_3_103 w_1_1 w_3_104 (by decide +kernel) ?_
  refine s_if_eq (off := 6) (tgt := 10) C (by decide +kernel) (by decide) (fun _ _ _ _ _ _ h => h) ?_
  refine s_bipush (n := (-2)) C (by decide +kernel) (by decide) ?_
  exact s_iret C rfl (by decide +kernel)
set_option maxRecDepth 20000 in
theorem b_X10_changes_10 {Z : Zt} {d : Nat} {p : Program} {e : Env} {R : Room} {s : State} {m : MethodId} {args : Array Value} {below : List Frame} {meth : Method} {c : Code} {Rp : RT} (C : Cx Z d jX10_changes RX10 p R s m args meth c) : Sd Z jX10_changes p e R s m args below meth c (MQ below (QcS Z Rp) args s 0 0 (fun a => Z.2.2.1 < a)) 10 (w_X10_changes_10 (MS Z d) (Gw Z 4 p e R s m args below meth c (MQ below (QcS Z Rp) args s 0 0 (fun a => Z.2.2.1 < a))) Rp) := by
  unfold w_X10_changes_10
  refine s_iload_n (k := 2) C (by decide +kernel) ?_
  refine s_callSN C (by decide +kernel) rfl w_3_70 w_3_71 w_1_1 w_3_72 (by decide +kernel) ?_
  refine s_if_eq (off := 6) (tgt := 20) C (by decide +kernel) (by decide) (fun _ _ _ _ _ _ h => h) ?_
  refine s_bipush (n := (-3)) C (by decide +kernel) (by decide) ?_
  exact s_iret C rfl (by decide +kernel)
set_option maxRecDepth 20000 in
theorem b_X10_changes_20 {Z : Zt} {d : Nat} {p : Program} {e : Env} {R : Room} {s : State} {m : MethodId} {args : Array Value} {below : List Frame} {meth : Method} {c : Code} {Rp : RT} (C : Cx Z d jX10_changes RX10 p R s m args meth c) : Sd Z jX10_changes p e R s m args below meth c (MQ below (QcS Z Rp) args s 0 0 (fun a => Z.2.2.1 < a)) 20 (w_X10_changes_20 (MS Z d) (Gw Z 4 p e R s m args below meth c (MQ below (QcS Z Rp) args s 0 0 (fun a => Z.2.2.1 < a))) Rp) := by
  unfold w_X10_changes_20
  refine s_aload_n (k := 0) C (by decide +kernel) ?_
  refine s_getR C w_2_113 (by decide +kernel) rfl ?_
  refine s_iload_n (k := 1) C (by decide +kernel) ?_
  refine s_aald C rfl (by decide +kernel) ?_
  refine s_astore_n (k := 3) C (by decide +kernel) ?_
  refine s_aload_n (k := 0) C (by decide +kernel) ?_
  refine s_iload_n (k := 1) C (by decide +kernel) ?_
  refine s_callV C rfl rfl (by decide +kernel) rfl w_3_198 w_3_200 w_p1_11 w_1_2 w_3_201 (by decide +kernel) ?_
  refine s_if_ne (off := 29) (tgt := 61) C (by decide +kernel) (by decide) (fun _ _ _ _ _ _ h => h) ?_
  refine s_aload_n (k := 3) C (by decide +kernel) ?_
  refine s_getI C w_2_19 (by decide +kernel) rfl ?_
  refine s_if_ne (off := 22) (tgt := 61) C (by decide +kernel) (by decide) (fun _ _ _ _ _ _ h => h) ?_
  refine s_aload_n (k := 3) C (by decide +kernel) ?_
  refine s_getI C w_2_11 (by decide +kernel) rfl ?_
  refine s_aload_n (k := 3) C (by decide +kernel) ?_
  refine s_getI C w_2_9 (by decide +kernel) rfl ?_
  refine s_icmp_gt (off := 11) (tgt := 61) C (by decide +kernel) (by decide) (fun _ _ _ _ _ _ h => h) ?_
  refine s_aload_n (k := 3) C (by decide +kernel) ?_
  refine s_getI C w_2_15 (by decide +kernel) rfl ?_
  refine s_iload_n (k := 2) C (by decide +kernel) ?_
  refine s_icmp_ne (off := 6) (tgt := 64) C (by decide +kernel) (by decide) (fun _ _ _ _ _ _ h => h) ?_
  exact (fun _ _ _ _ _ _ h => h)
set_option maxRecDepth 20000 in
theorem b_X10_changes_61 {Z : Zt} {d : Nat} {p : Program} {e : Env} {R : Room} {s : State} {m : MethodId} {args : Array Value} {below : List Frame} {meth : Method} {c : Code} {Rp : RT} (C : Cx Z d jX10_changes RX10 p R s m args meth c) : Sd Z jX10_changes p e R s m args below meth c (MQ below (QcS Z Rp) args s 0 0 (fun a => Z.2.2.1 < a)) 61 (w_X10_changes_61 (MS Z d) (Gw Z 4 p e R s m args below meth c (MQ below (QcS Z Rp) args s 0 0 (fun a => Z.2.2.1 < a))) Rp) := by
  unfold w_X10_changes_61
  refine s_bipush (n := (-5)) C (by decide +kernel) (by decide) ?_
  exact s_iret C rfl (by decide +kernel)
set_option maxRecDepth 20000 in
theorem b_X10_changes_64 {Z : Zt} {d : Nat} {p : Program} {e : Env} {R : Room} {s : State} {m : MethodId} {args : Array Value} {below : List Frame} {meth : Method} {c : Code} {Rp : RT} (C : Cx Z d jX10_changes RX10 p R s m args meth c) : Sd Z jX10_changes p e R s m args below meth c (MQ below (QcS Z Rp) args s 0 0 (fun a => Z.2.2.1 < a)) 64 (w_X10_changes_64 (MS Z d) (Gw Z 4 p e R s m args below meth c (MQ below (QcS Z Rp) args s 0 0 (fun a => Z.2.2.1 < a))) Rp) := by
  unfold w_X10_changes_64
  refine s_aload_n (k := 0) C (by decide +kernel) ?_
  refine s_aload_n (k := 3) C (by decide +kernel) ?_
  refine s_iconst (n := 3) C (by decide +kernel) (by decide) ?_
  refine s_aload_n (k := 3) C (by decide +kernel) ?_
  refine s_getI C w_2_15 (by decide +kernel) rfl ?_
  refine s_iload_n (k := 2) C (by decide +kernel) ?_
  refine s_callV C rfl rfl (by decide +kernel) rfl w_3_213 w_3_215 w_p1_12 w_1_2 w_3_216 (by decide +kernel) ?_
  exact s_iret C rfl (by decide +kernel)
theorem ms_X10_changes {Z : Zt} {d : Nat} {S : Sh} {μ : Mi} {ρ : Mr} {Rp : RT} (a0 : Nat) (x1 : Int32) (x2 : Int32) (h : ∀ G : Nat → PT, (∀ (L st : List Value) (S : Sh) (q : Nat × Nat) (μ : Mi) (ρ : Mr), w_X10_changes_10 (MS Z d) G Rp L st S q μ ρ → G 10 L st S q μ ρ) → (∀ (L st : List Value) (S : Sh) (q : Nat × Nat) (μ : Mi) (ρ : Mr), w_X10_changes_20 (MS Z d) G Rp L st S q μ ρ → G 20 L st S q μ ρ) → (∀ (L st : List Value) (S : Sh) (q : Nat × Nat) (μ : Mi) (ρ : Mr), w_X10_changes_61 (MS Z d) G Rp L st S q μ ρ → G 61 L st S q μ ρ) → (∀ (L st : List Value) (S : Sh) (q : Nat × Nat) (μ : Mi) (ρ : Mr), w_X10_changes_64 (MS Z d) G Rp L st S q μ ρ → G 64 L st S q μ ρ) → w_X10_changes_0 (MS Z d) G Rp [.ref a0, .int x1, .int x2, .null] [] S (0, 0) μ ρ) : MS Z (d + 1) jX10_changes [.ref a0, .int x1, .int x2] S μ ρ Rp :=
  MS_of [.ref a0, .int x1, .int x2, .null] (by decide +kernel) rfl rfl (Nat.le_of_ble_eq_true rfl) rfl (fun p e R s m args below meth c C => b_X10_changes_0 C _ _ _ _ _ _ (h _ (b_X10_changes_10 C) (b_X10_changes_20 C) (b_X10_changes_61 C) (b_X10_changes_64 C)))
def w_X10_compacts_0 (M : CT) (G : Nat → PT) (Rp : RT) : PT := tIload 1 <| tCallS M jX11_isNoStore 1 <| tIf (fun x => x = 0) (G 10) <| tConst (-2) <| tIret Rp
def w_X10_compacts_10 (M : CT) (G : Nat → PT) (Rp : RT) : PT := tAload 0 <| tGetR 10 6 0 <| tIload 1 <| tAldR 37 <| tAstore 2 <| tAload 2 <| tGetI 7 18 8 <| tAload 2 <| tGetR 7 18 16 <| tGetI 6 5 0 <| tBin (fun x y => x - y) <| tIstore 3 <| tAload 2 <| tGetI 7 18 1 <| tIf (fun x => x = 0) (G 41) <| tIload 3 <| tIf (fun x => 0 < x) (G 44) <| G 41
def w_X10_compacts_41 (M : CT) (G : Nat → PT) (Rp : RT) : PT := tConst (-5) <| tIret Rp
def w_X10_compacts_44 (M : CT) (G : Nat → PT) (Rp : RT) : PT := tAload 2 <| tCallV M jX7_takeSnapshot 7 18 0 <| tIload 3 <| tIret Rp
set_option maxRecDepth 20000 in
theorem b_X10_compacts_0 {Z : Zt} {d : Nat} {p : Program} {e : Env} {R : Room} {s : State} {m : MethodId} {args : Array Value} {below : List Frame} {meth : Method} {c : Code} {Rp : RT} (C : Cx Z d jX10_compacts RX10 p R s m args meth c) : Sd Z jX10_compacts p e R s m args below meth c (MQ below (QcS Z Rp) args s 0 0 (fun a => Z.2.2.1 < a)) 0 (w_X10_compacts_0 (MS Z d) (Gw Z 4 p e R s m args below meth c (MQ below (QcS Z Rp) args s 0 0 (fun a => Z.2.2.1 < a))) Rp) := by
  unfold w_X10_compacts_0
  refine s_iload_n (k := 1) C (by decide +kernel) ?_
  refine s_callSN C (by decide +kernel) rfl w_3_102 w_3_103 w_1_1 w_3_104 (by decide +kernel) ?_
  refine s_if_eq (off := 6) (tgt := 10) C (by decide +kernel) (by decide) (fun _ _ _ _ _ _ h => h) ?_
  refine s_bipush (n := (-2)) C (by decide +kernel) (by decide) ?_
  exact s_iret C rfl (by decide +kernel)
set_option maxRecDepth 20000 in
theorem b_X10_compacts_10 {Z : Zt} {d : Nat} {p : Program} {e : Env} {R : Room} {s : State} {m : MethodId} {args : Array Value} {below : List Frame} {meth : Method} {c : Code} {Rp : RT} (C : Cx Z d jX10_compacts RX10 p R s m args meth c) : Sd Z jX10_compacts p e R s m args below meth c (MQ below (QcS Z Rp) args s 0 0 (fun a => Z.2.2.1 < a)) 10 (w_X10_compacts_10 (MS Z d) (Gw Z 4 p e R s m args below meth c (MQ below (QcS Z Rp) args s 0 0 (fun a => Z.2.2.1 < a))) Rp) := by
  unfold w_X10_compacts_10
  refine s_aload_n (k := 0) C (by decide +kernel) ?_
  refine s_getR C w_2_113 (by decide +kernel) rfl ?_
  refine s_iload_n (k := 1) C (by decide +kernel) ?_
  refine s_aald C rfl (by decide +kernel) ?_
  refine s_astore_n (k := 2) C (by decide +kernel) ?_
  refine s_aload_n (k := 2) C (by decide +kernel) ?_
  refine s_getI C w_2_9 (by decide +kernel) rfl ?_
  refine s_aload_n (k := 2) C (by decide +kernel) ?_
  refine s_getR C w_2_34 (by decide +kernel) rfl ?_
  refine s_getI C w_1_163 (by decide +kernel) rfl ?_
  refine s_isub C (by decide +kernel) ?_
  refine s_istore_n (k := 3) C (by decide +kernel) ?_
  refine s_aload_n (k := 2) C (by decide +kernel) ?_
  refine s_getI C w_1_224 (by decide +kernel) rfl ?_
  refine s_if_eq (off := 7) (tgt := 41) C (by decide +kernel) (by decide) (fun _ _ _ _ _ _ h => h) ?_
  refine s_iload_n (k := 3) C (by decide +kernel) ?_
  refine s_if_gt (off := 6) (tgt := 44) C (by decide +kernel) (by decide) (fun _ _ _ _ _ _ h => h) ?_
  exact (fun _ _ _ _ _ _ h => h)
set_option maxRecDepth 20000 in
theorem b_X10_compacts_41 {Z : Zt} {d : Nat} {p : Program} {e : Env} {R : Room} {s : State} {m : MethodId} {args : Array Value} {below : List Frame} {meth : Method} {c : Code} {Rp : RT} (C : Cx Z d jX10_compacts RX10 p R s m args meth c) : Sd Z jX10_compacts p e R s m args below meth c (MQ below (QcS Z Rp) args s 0 0 (fun a => Z.2.2.1 < a)) 41 (w_X10_compacts_41 (MS Z d) (Gw Z 4 p e R s m args below meth c (MQ below (QcS Z Rp) args s 0 0 (fun a => Z.2.2.1 < a))) Rp) := by
  unfold w_X10_compacts_41
  refine s_bipush (n := (-5)) C (by decide +kernel) (by decide) ?_
  exact s_iret C rfl (by decide +kernel)
set_option maxRecDepth 20000 in
theorem b_X10_compacts_44 {Z : Zt} {d : Nat} {p : Program} {e : Env} {R : Room} {s : State} {m : MethodId} {args : Array Value} {below : List Frame} {meth : Method} {c : Code} {Rp : RT} (C : Cx Z d jX10_compacts RX10 p R s m args meth c) : Sd Z jX10_compacts p e R s m args below meth c (MQ below (QcS Z Rp) args s 0 0 (fun a => Z.2.2.1 < a)) 44 (w_X10_compacts_44 (MS Z d) (Gw Z 4 p e R s m args below meth c (MQ below (QcS Z Rp) args s 0 0 (fun a => Z.2.2.1 < a))) Rp) := by
  unfold w_X10_compacts_44
  refine s_aload_n (k := 2) C (by decide +kernel) ?_
  refine s_callV C rfl rfl (by decide +kernel) rfl w_4_13 w_4_14 w_4_15 w_1_5 w_4_16 (by decide +kernel) ?_
  refine s_iload_n (k := 3) C (by decide +kernel) ?_
  exact s_iret C rfl (by decide +kernel)
theorem ms_X10_compacts {Z : Zt} {d : Nat} {S : Sh} {μ : Mi} {ρ : Mr} {Rp : RT} (a0 : Nat) (x1 : Int32) (h : ∀ G : Nat → PT, (∀ (L st : List Value) (S : Sh) (q : Nat × Nat) (μ : Mi) (ρ : Mr), w_X10_compacts_10 (MS Z d) G Rp L st S q μ ρ → G 10 L st S q μ ρ) → (∀ (L st : List Value) (S : Sh) (q : Nat × Nat) (μ : Mi) (ρ : Mr), w_X10_compacts_41 (MS Z d) G Rp L st S q μ ρ → G 41 L st S q μ ρ) → (∀ (L st : List Value) (S : Sh) (q : Nat × Nat) (μ : Mi) (ρ : Mr), w_X10_compacts_44 (MS Z d) G Rp L st S q μ ρ → G 44 L st S q μ ρ) → w_X10_compacts_0 (MS Z d) G Rp [.ref a0, .int x1, .null, .null] [] S (0, 0) μ ρ) : MS Z (d + 1) jX10_compacts [.ref a0, .int x1] S μ ρ Rp :=
  MS_of [.ref a0, .int x1, .null, .null] (by decide +kernel) rfl rfl (Nat.le_of_ble_eq_true rfl) rfl (fun p e R s m args below meth c C => b_X10_compacts_0 C _ _ _ _ _ _ (h _ (b_X10_compacts_10 C) (b_X10_compacts_41 C) (b_X10_compacts_44 C)))
def w_X10_stops_0 (M : CT) (G : Nat → PT) (Rp : RT) : PT := tIload 1 <| tCallS M jX11_isNoStore 1 <| tIf (fun x => x = 0) (G 10) <| tConst (-2) <| tIret Rp
def w_X10_stops_10 (M : CT) (G : Nat → PT) (Rp : RT) : PT := tAload 0 <| tGetR 10 6 0 <| tIload 1 <| tAldR 37 <| tAstore 2 <| tAload 2 <| tGetI 7 18 1 <| tIf (fun x => x ≠ 0) (G 27) <| tConst (-5) <| tIret Rp
def w_X10_stops_27 (M : CT) (G : Nat → PT) (Rp : RT) : PT := tAload 2 <| tGetI 7 18 4 <| tIstore 3 <| tAload 2 <| tCallV M jX7_goesDown 7 18 0 <| tIload 3 <| tIret Rp
set_option maxRecDepth 20000 in
theorem b_X10_stops_0 {Z : Zt} {d : Nat} {p : Program} {e : Env} {R : Room} {s : State} {m : MethodId} {args : Array Value} {below : List Frame} {meth : Method} {c : Code} {Rp : RT} (C : Cx Z d jX10_stops RX10 p R s m args meth c) : Sd Z jX10_stops p e R s m args below meth c (MQ below (QcS Z Rp) args s 0 0 (fun a => Z.2.2.1 < a)) 0 (w_X10_stops_0 (MS Z d) (Gw Z 4 p e R s m args below meth c (MQ below (QcS Z Rp) args s 0 0 (fun a => Z.2.2.1 < a))) Rp) := by
  unfold w_X10_stops_0
  refine s_iload_n (k := 1) C (by decide +kernel) ?_
  refine s_callSN C (by decide +kernel) rfl w_3_102 w_3_103 w_1_1 w_3_104 (by decide +kernel) ?_
  refine s_if_eq (off := 6) (tgt := 10) C (by decide +kernel) (by decide) (fun _ _ _ _ _ _ h => h) ?_
  refine s_bipush (n := (-2)) C (by decide +kernel) (by decide) ?_
  exact s_iret C rfl (by decide +kernel)
set_option maxRecDepth 20000 in
theorem b_X10_stops_10 {Z : Zt} {d : Nat} {p : Program} {e : Env} {R : Room} {s : State} {m : MethodId} {args : Array Value} {below : List Frame} {meth : Method} {c : Code} {Rp : RT} (C : Cx Z d jX10_stops RX10 p R s m args meth c) : Sd Z jX10_stops p e R s m args below meth c (MQ below (QcS Z Rp) args s 0 0 (fun a => Z.2.2.1 < a)) 10 (w_X10_stops_10 (MS Z d) (Gw Z 4 p e R s m args below meth c (MQ below (QcS Z Rp) args s 0 0 (fun a => Z.2.2.1 < a))) Rp) := by
  unfold w_X10_stops_10
  refine s_aload_n (k := 0) C (by decide +kernel) ?_
  refine s_getR C w_2_113 (by decide +kernel) rfl ?_
  refine s_iload_n (k := 1) C (by decide +kernel) ?_
  refine s_aald C rfl (by decide +kernel) ?_
  refine s_astore_n (k := 2) C (by decide +kernel) ?_
  refine s_aload_n (k := 2) C (by decide +kernel) ?_
  refine s_getI C w_1_224 (by decide +kernel) rfl ?_
  refine s_if_ne (off := 6) (tgt := 27) C (by decide +kernel) (by decide) (fun _ _ _ _ _ _ h => h) ?_
  refine s_bipush (n := (-5)) C (by decide +kernel) (by decide) ?_
  exact s_iret C rfl (by decide +kernel)
set_option maxRecDepth 20000 in
theorem b_X10_stops_27 {Z : Zt} {d : Nat} {p : Program} {e : Env} {R : Room} {s : State} {m : MethodId} {args : Array Value} {below : List Frame} {meth : Method} {c : Code} {Rp : RT} (C : Cx Z d jX10_stops RX10 p R s m args meth c) : Sd Z jX10_stops p e R s m args below meth c (MQ below (QcS Z Rp) args s 0 0 (fun a => Z.2.2.1 < a)) 27 (w_X10_stops_27 (MS Z d) (Gw Z 4 p e R s m args below meth c (MQ below (QcS Z Rp) args s 0 0 (fun a => Z.2.2.1 < a))) Rp) := by
  unfold w_X10_stops_27
  refine s_aload_n (k := 2) C (by decide +kernel) ?_
  refine s_getI C w_1_234 (by decide +kernel) rfl ?_
  refine s_istore_n (k := 3) C (by decide +kernel) ?_
  refine s_aload_n (k := 2) C (by decide +kernel) ?_
  refine s_callV C rfl rfl (by decide +kernel) rfl w_4_26 w_4_27 w_4_28 w_1_5 w_4_29 (by decide +kernel) ?_
  refine s_iload_n (k := 3) C (by decide +kernel) ?_
  exact s_iret C rfl (by decide +kernel)
theorem ms_X10_stops {Z : Zt} {d : Nat} {S : Sh} {μ : Mi} {ρ : Mr} {Rp : RT} (a0 : Nat) (x1 : Int32) (h : ∀ G : Nat → PT, (∀ (L st : List Value) (S : Sh) (q : Nat × Nat) (μ : Mi) (ρ : Mr), w_X10_stops_10 (MS Z d) G Rp L st S q μ ρ → G 10 L st S q μ ρ) → (∀ (L st : List Value) (S : Sh) (q : Nat × Nat) (μ : Mi) (ρ : Mr), w_X10_stops_27 (MS Z d) G Rp L st S q μ ρ → G 27 L st S q μ ρ) → w_X10_stops_0 (MS Z d) G Rp [.ref a0, .int x1, .null, .null] [] S (0, 0) μ ρ) : MS Z (d + 1) jX10_stops [.ref a0, .int x1] S μ ρ Rp :=
  MS_of [.ref a0, .int x1, .null, .null] (by decide +kernel) rfl rfl (Nat.le_of_ble_eq_true rfl) rfl (fun p e R s m args below meth c C => b_X10_stops_0 C _ _ _ _ _ _ (h _ (b_X10_stops_10 C) (b_X10_stops_27 C)))
def w_X10_starts_0 (M : CT) (G : Nat → PT) (Rp : RT) : PT := tIload 1 <| tCallS M jX11_isNoStore 1 <| tIf (fun x => x = 0) (G 10) <| tConst (-2) <| tIret Rp
def w_X10_starts_10 (M : CT) (G : Nat → PT) (Rp : RT) : PT := tAload 0 <| tGetR 10 6 0 <| tIload 1 <| tAldR 37 <| tAstore 2 <| tAload 2 <| tGetI 7 18 1 <| tIf (fun x => x = 0) (G 27) <| tConst (-5) <| tIret Rp
def w_X10_starts_27 (M : CT) (G : Nat → PT) (Rp : RT) : PT := tAload 2 <| tConst 1 <| tPutZ 7 18 1 <| tAload 2 <| tGetI 7 18 7 <| tIret Rp
set_option maxRecDepth 20000 in
theorem b_X10_starts_0 {Z : Zt} {d : Nat} {p : Program} {e : Env} {R : Room} {s : State} {m : MethodId} {args : Array Value} {below : List Frame} {meth : Method} {c : Code} {Rp : RT} (C : Cx Z d jX10_starts RX10 p R s m args meth c) : Sd Z jX10_starts p e R s m args below meth c (MQ below (QcS Z Rp) args s 0 0 (fun a => Z.2.2.1 < a)) 0 (w_X10_starts_0 (MS Z d) (Gw Z 3 p e R s m args below meth c (MQ below (QcS Z Rp) args s 0 0 (fun a => Z.2.2.1 < a))) Rp) := by
  unfold w_X10_starts_0
  refine s_iload_n (k := 1) C (by decide +kernel) ?_
  refine s_callSN C (by decide +kernel) rfl w_3_102 w_3_103 w_1_1 w_3_104 (by decide +kernel) ?_
  refine s_if_eq (off := 6) (tgt := 10) C (by decide +kernel) (by decide) (fun _ _ _ _ _ _ h => h) ?_
  refine s_bipush (n := (-2)) C (by decide +kernel) (by decide) ?_
  exact s_iret C rfl (by decide +kernel)
set_option maxRecDepth 20000 in
theorem b_X10_starts_10 {Z : Zt} {d : Nat} {p : Program} {e : Env} {R : Room} {s : State} {m : MethodId} {args : Array Value} {below : List Frame} {meth : Method} {c : Code} {Rp : RT} (C : Cx Z d jX10_starts RX10 p R s m args meth c) : Sd Z jX10_starts p e R s m args below meth c (MQ below (QcS Z Rp) args s 0 0 (fun a => Z.2.2.1 < a)) 10 (w_X10_starts_10 (MS Z d) (Gw Z 3 p e R s m args below meth c (MQ below (QcS Z Rp) args s 0 0 (fun a => Z.2.2.1 < a))) Rp) := by
  unfold w_X10_starts_10
  refine s_aload_n (k := 0) C (by decide +kernel) ?_
  refine s_getR C w_2_113 (by decide +kernel) rfl ?_
  refine s_iload_n (k := 1) C (by decide +kernel) ?_
  refine s_aald C rfl (by decide +kernel) ?_
  refine s_astore_n (k := 2) C (by decide +kernel) ?_
  refine s_aload_n (k := 2) C (by decide +kernel) ?_
  refine s_getI C w_1_224 (by decide +kernel) rfl ?_
  refine s_if_eq (off := 6) (tgt := 27) C (by decide +kernel) (by decide) (fun _ _ _ _ _ _ h => h) ?_
  refine s_bipush (n := (-5)) C (by decide +kernel) (by decide) ?_
  exact s_iret C rfl (by decide +kernel)
set_option maxRecDepth 20000 in
theorem b_X10_starts_27 {Z : Zt} {d : Nat} {p : Program} {e : Env} {R : Room} {s : State} {m : MethodId} {args : Array Value} {below : List Frame} {meth : Method} {c : Code} {Rp : RT} (C : Cx Z d jX10_starts RX10 p R s m args meth c) : Sd Z jX10_starts p e R s m args below meth c (MQ below (QcS Z Rp) args s 0 0 (fun a => Z.2.2.1 < a)) 27 (w_X10_starts_27 (MS Z d) (Gw Z 3 p e R s m args below meth c (MQ below (QcS Z Rp) args s 0 0 (fun a => Z.2.2.1 < a))) Rp) := by
  unfold w_X10_starts_27
  refine s_aload_n (k := 2) C (by decide +kernel) ?_
  refine s_iconst (n := 1) C (by decide +kernel) (by decide) ?_
  refine s_putZ C w_1_224 (by decide +kernel) rfl (Or.inl rfl) ?_
  refine s_aload_n (k := 2) C (by decide +kernel) ?_
  refine s_getI C w_2_5 (by decide +kernel) rfl ?_
  exact s_iret C rfl (by decide +kernel)
theorem ms_X10_starts {Z : Zt} {d : Nat} {S : Sh} {μ : Mi} {ρ : Mr} {Rp : RT} (a0 : Nat) (x1 : Int32) (h : ∀ G : Nat → PT, (∀ (L st : List Value) (S : Sh) (q : Nat × Nat) (μ : Mi) (ρ : Mr), w_X10_starts_10 (MS Z d) G Rp L st S q μ ρ → G 10 L st S q μ ρ) → (∀ (L st : List Value) (S : Sh) (q : Nat × Nat) (μ : Mi) (ρ : Mr), w_X10_starts_27 (MS Z d) G Rp L st S q μ ρ → G 27 L st S q μ ρ) → w_X10_starts_0 (MS Z d) G Rp [.ref a0, .int x1, .null] [] S (0, 0) μ ρ) : MS Z (d + 1) jX10_starts [.ref a0, .int x1] S μ ρ Rp :=
  MS_of [.ref a0, .int x1, .null] (by decide +kernel) rfl rfl (Nat.le_of_ble_eq_true rfl) rfl (fun p e R s m args below meth c C => b_X10_starts_0 C _ _ _ _ _ _ (h _ (b_X10_starts_10 C) (b_X10_starts_27 C)))
def w_X10_links_0 (M : CT) (G : Nat → PT) (Rp : RT) : PT := tIload 1 <| tCallS M jX11_isNoStore 1 <| tIf (fun x => x ≠ 0) (G 14) <| tIload 2 <| tCallS M jX11_isNoStore 1 <| tIf (fun x => x = 0) (G 17) <| G 14
def w_X10_links_14 (M : CT) (G : Nat → PT) (Rp : RT) : PT := tConst (-2) <| tIret Rp
def w_X10_links_17 (M : CT) (G : Nat → PT) (Rp : RT) : PT := tIload 3 <| tIf (fun x => x < 0) (G 31) <| tIload 3 <| tConst 1 <| tIf2 (fun x y => y < x) (G 31) <| tIload 1 <| tIload 2 <| tIf2 (fun x y => x ≠ y) (G 34) <| G 31
def w_X10_links_31 (M : CT) (G : Nat → PT) (Rp : RT) : PT := tConst (-3) <| tIret Rp
def w_X10_links_34 (M : CT) (G : Nat → PT) (Rp : RT) : PT := tAload 0 <| tGetR 10 6 1 <| tIload 1 <| tIload 2 <| tCallV M jX1_isCut 1 6 2 <| tIload 3 <| tIf (fun x => x ≠ 0) (G 51) <| tConst 1 <| tGoto (G 52)
def w_X10_links_51 (M : CT) (G : Nat → PT) (Rp : RT) : PT := tConst 0 <| G 52
def w_X10_links_52 (M : CT) (G : Nat → PT) (Rp : RT) : PT := tIf2 (fun x y => x ≠ y) (G 57) <| tConst 0 <| tIret Rp
def w_X10_links_57 (M : CT) (G : Nat → PT) (Rp : RT) : PT := tAload 0 <| tGetR 10 6 1 <| tIload 1 <| tIload 2 <| tCallV M jX1_turnLink 1 6 2 <| tConst 1 <| tIret Rp
set_option maxRecDepth 20000 in
theorem b_X10_links_0 {Z : Zt} {d : Nat} {p : Program} {e : Env} {R : Room} {s : State} {m : MethodId} {args : Array Value} {below : List Frame} {meth : Method} {c : Code} {Rp : RT} (C : Cx Z d jX10_links RX10 p R s m args meth c) : Sd Z jX10_links p e R s m args below meth c (MQ below (QcS Z Rp) args s 0 0 (fun a => Z.2.2.1 < a)) 0 (w_X10_links_0 (MS Z d) (Gw Z 4 p e R s m args below meth c (MQ below (QcS Z Rp) args s 0 0 (fun a => Z.2.2.1 < a))) Rp) := by
  unfold w_X10_links_0
  refine s_iload_n (k := 1) C (by decide +kernel) ?_
  refine s_callSN C (by decide +kernel) rfl w_3_102 w_3_103 w_1_1 w_3_104 (by decide +kernel) ?_
  refine s_if_ne (off := 10) (tgt := 14) C (by decide +kernel) (by decide) (fun _ _ _ _ _ _ h => h) ?_
  refine s_iload_n (k := 2) C (by decide +kernel) ?_
  refine s_callSN C (by decide +kernel) rfl w_3_102 w_3_103 w_1_1 w_3_104 (by decide +kernel) ?_
  refine s_if_eq (off := 6) (tgt := 17) C (by decide +kernel) (by decide) (fun _ _ _ _ _ _ h => h) ?_
  exact (fun _ _ _ _ _ _ h => h)
set_option maxRecDepth 20000 in
theorem b_X10_links_14 {Z : Zt} {d : Nat} {p : Program} {e : Env} {R : Room} {s : State} {m : MethodId} {args : Array Value} {below : List Frame} {meth : Method} {c : Code} {Rp : RT} (C : Cx Z d jX10_links RX10 p R s m args meth c) : Sd Z jX10_links p e R s m args below meth c (MQ below (QcS Z Rp) args s 0 0 (fun a => Z.2.2.1 < a)) 14 (w_X10_links_14 (MS Z d) (Gw Z 4 p e R s m args below meth c (MQ below (QcS Z Rp) args s 0 0 (fun a => Z.2.2.1 < a))) Rp) := by
  unfold w_X10_links_14
  refine s_bipush (n := (-2)) C (by decide +kernel) (by decide) ?_
  exact s_iret C rfl (by decide +kernel)
set_option maxRecDepth 20000 in
theorem b_X10_links_17 {Z : Zt} {d : Nat} {p : Program} {e : Env} {R : Room} {s : State} {m : MethodId} {args : Array Value} {below : List Frame} {meth : Method} {c : Code} {Rp : RT} (C : Cx Z d jX10_links RX10 p R s m args meth c) : Sd Z jX10_links p e R s m args below meth c (MQ below (QcS Z Rp) args s 0 0 (fun a => Z.2.2.1 < a)) 17 (w_X10_links_17 (MS Z d) (Gw Z 4 p e R s m args below meth c (MQ below (QcS Z Rp) args s 0 0 (fun a => Z.2.2.1 < a))) Rp) := by
  unfold w_X10_links_17
  refine s_iload_n (k := 3) C (by decide +kernel) ?_
  refine s_if_lt (off := 13) (tgt := 31) C (by decide +kernel) (by decide) (fun _ _ _ _ _ _ h => h) ?_
  refine s_iload_n (k := 3) C (by decide +kernel) ?_
  refine s_iconst (n := 1) C (by decide +kernel) (by decide) ?_
  refine s_icmp_gt (off := 8) (tgt := 31) C (by decide +kernel) (by decide) (fun _ _ _ _ _ _ h => h) ?_
  refine s_iload_n (k := 1) C (by decide +kernel) ?_
  refine s_iload_n (k := 2) C (by decide +kernel) ?_
  refine s_icmp_ne (off := 6) (tgt := 34) C (by decide +kernel) (by decide) (fun _ _ _ _ _ _ h => h) ?_
  exact (fun _ _ _ _ _ _ h => h)
set_option maxRecDepth 20000 in
theorem b_X10_links_31 {Z : Zt} {d : Nat} {p : Program} {e : Env} {R : Room} {s : State} {m : MethodId} {args : Array Value} {below : List Frame} {meth : Method} {c : Code} {Rp : RT} (C : Cx Z d jX10_links RX10 p R s m args meth c) : Sd Z jX10_links p e R s m args below meth c (MQ below (QcS Z Rp) args s 0 0 (fun a => Z.2.2.1 < a)) 31 (w_X10_links_31 (MS Z d) (Gw Z 4 p e R s m args below meth c (MQ below (QcS Z Rp) args s 0 0 (fun a => Z.2.2.1 < a))) Rp) := by
  unfold w_X10_links_31
  refine s_bipush (n := (-3)) C (by decide +kernel) (by decide) ?_
  exact s_iret C rfl (by decide +kernel)
set_option maxRecDepth 20000 in
theorem b_X10_links_34 {Z : Zt} {d : Nat} {p : Program} {e : Env} {R : Room} {s : State} {m : MethodId} {args : Array Value} {below : List Frame} {meth : Method} {c : Code} {Rp : RT} (C : Cx Z d jX10_links RX10 p R s m args meth c) : Sd Z jX10_links p e R s m args below meth c (MQ below (QcS Z Rp) args s 0 0 (fun a => Z.2.2.1 < a)) 34 (w_X10_links_34 (MS Z d) (Gw Z 4 p e R s m args below meth c (MQ below (QcS Z Rp) args s 0 0 (fun a => Z.2.2.1 < a))) Rp) := by
  unfold w_X10_links_34
  refine s_aload_n (k := 0) C (by decide +kernel) ?_
  refine s_getR C w_2_117 (by decide +kernel) rfl ?_
  refine s_iload_n (k := 1) C (by decide +kernel) ?_
  refine s_iload_n (k := 2) C (by decide +kernel) ?_
  refine s_callV C rfl rfl (by decide +kernel) rfl w_4_47 w_4_48 w_4_49 w_1_3 w_4_50 (by decide +kernel) ?_
  refine s_iload_n (k := 3) C (by decide +kernel) ?_
  refine s_if_ne (off := 7) (tgt := 51) C (by decide +kernel) (by decide) (fun _ _ _ _ _ _ h => h) ?_
  refine s_iconst (n := 1) C (by decide +kernel) (by decide) ?_
  exact s_goto (off := 4) (tgt := 52) C (by decide +kernel) (by decide) (fun _ _ _ _ _ _ h => h)
set_option maxRecDepth 20000 in
theorem b_X10_links_51 {Z : Zt} {d : Nat} {p : Program} {e : Env} {R : Room} {s : State} {m : MethodId} {args : Array Value} {below : List Frame} {meth : Method} {c : Code} {Rp : RT} (C : Cx Z d jX10_links RX10 p R s m args meth c) : Sd Z jX10_links p e R s m args below meth c (MQ below (QcS Z Rp) args s 0 0 (fun a => Z.2.2.1 < a)) 51 (w_X10_links_51 (MS Z d) (Gw Z 4 p e R s m args below meth c (MQ below (QcS Z Rp) args s 0 0 (fun a => Z.2.2.1 < a))) Rp) := by
  unfold w_X10_links_51
  refine s_iconst (n := 0) C (by decide +kernel) (by decide) ?_
  exact (fun _ _ _ _ _ _ h => h)
set_option maxRecDepth 20000 in
theorem b_X10_links_52 {Z : Zt} {d : Nat} {p : Program} {e : Env} {R : Room} {s : State} {m : MethodId} {args : Array Value} {below : List Frame} {meth : Method} {c : Code} {Rp : RT} (C : Cx Z d jX10_links RX10 p R s m args meth c) : Sd Z jX10_links p e R s m args below meth c (MQ below (QcS Z Rp) args s 0 0 (fun a => Z.2.2.1 < a)) 52 (w_X10_links_52 (MS Z d) (Gw Z 4 p e R s m args below meth c (MQ below (QcS Z Rp) args s 0 0 (fun a => Z.2.2.1 < a))) Rp) := by
  unfold w_X10_links_52
  refine s_icmp_ne (off := 5) (tgt := 57) C (by decide +kernel) (by decide) (fun _ _ _ _ _ _ h => h) ?_
  refine s_iconst (n := 0) C (by decide +kernel) (by decide) ?_
  exact s_iret C rfl (by decide +kernel)
set_option maxRecDepth 20000 in
theorem b_X10_links_57 {Z : Zt} {d : Nat} {p : Program} {e : Env} {R : Room} {s : State} {m : MethodId} {args : Array Value} {below : List Frame} {meth : Method} {c : Code} {Rp : RT} (C : Cx Z d jX10_links RX10 p R s m args meth c) : Sd Z jX10_links p e R s m args below meth c (MQ below (QcS Z Rp) args s 0 0 (fun a => Z.2.2.1 < a)) 57 (w_X10_links_57 (MS Z d) (Gw Z 4 p e R s m args below meth c (MQ below (QcS Z Rp) args s 0 0 (fun a => Z.2.2.1 < a))) Rp) := by
  unfold w_X10_links_57
  refine s_aload_n (k := 0) C (by decide +kernel) ?_
  refine s_getR C w_2_117 (by decide +kernel) rfl ?_
  refine s_iload_n (k := 1) C (by decide +kernel) ?_
  refine s_iload_n (k := 2) C (by decide +kernel) ?_
  refine s_callV C rfl rfl (by decide +kernel) rfl w_4_51 w_4_52 w_4_53 w_1_3 w_4_54 (by decide +kernel) ?_
  refine s_iconst (n := 1) C (by decide +kernel) (by decide) ?_
  exact s_iret C rfl (by decide +kernel)
theorem ms_X10_links {Z : Zt} {d : Nat} {S : Sh} {μ : Mi} {ρ : Mr} {Rp : RT} (a0 : Nat) (x1 : Int32) (x2 : Int32) (x3 : Int32) (h : ∀ G : Nat → PT, (∀ (L st : List Value) (S : Sh) (q : Nat × Nat) (μ : Mi) (ρ : Mr), w_X10_links_14 (MS Z d) G Rp L st S q μ ρ → G 14 L st S q μ ρ) → (∀ (L st : List Value) (S : Sh) (q : Nat × Nat) (μ : Mi) (ρ : Mr), w_X10_links_17 (MS Z d) G Rp L st S q μ ρ → G 17 L st S q μ ρ) → (∀ (L st : List Value) (S : Sh) (q : Nat × Nat) (μ : Mi) (ρ : Mr), w_X10_links_31 (MS Z d) G Rp L st S q μ ρ → G 31 L st S q μ ρ) → (∀ (L st : List Value) (S : Sh) (q : Nat × Nat) (μ : Mi) (ρ : Mr), w_X10_links_34 (MS Z d) G Rp L st S q μ ρ → G 34 L st S q μ ρ) → (∀ (L st : List Value) (S : Sh) (q : Nat × Nat) (μ : Mi) (ρ : Mr), w_X10_links_51 (MS Z d) G Rp L st S q μ ρ → G 51 L st S q μ ρ) → (∀ (L st : List Value) (S : Sh) (q : Nat × Nat) (μ : Mi) (ρ : Mr), w_X10_links_52 (MS Z d) G Rp L st S q μ ρ → G 52 L st S q μ ρ) → (∀ (L st : List Value) (S : Sh) (q : Nat × Nat) (μ : Mi) (ρ : Mr), w_X10_links_57 (MS Z d) G Rp L st S q μ ρ → G 57 L st S q μ ρ) → w_X10_links_0 (MS Z d) G Rp [.ref a0, .int x1, .int x2, .int x3] [] S (0, 0) μ ρ) : MS Z (d + 1) jX10_links [.ref a0, .int x1, .int x2, .int x3] S μ ρ Rp :=
  MS_of [.ref a0, .int x1, .int x2, .int x3] (by decide +kernel) rfl rfl (Nat.le_of_ble_eq_true rfl) rfl (fun p e R s m args below meth c C => b_X10_links_0 C _ _ _ _ _ _ (h _ (b_X10_links_14 C) (b_X10_links_17 C) (b_X10_links_31 C) (b_X10_links_34 C) (b_X10_links_51 C) (b_X10_links_52 C) (b_X10_links_57 C)))
def w_X10_isNoMessage_0 (M : CT) (G : Nat → PT) (Rp : RT) : PT := tIload 1 <| tIf (fun x => x < 0) (G 15) <| tIload 1 <| tAload 0 <| tGetR 10 6 1 <| tGetI 1 6 2 <| tIf2 (fun x y => x < y) (G 19) <| G 15
def w_X10_isNoMessage_15 (M : CT) (G : Nat → PT) (Rp : RT) : PT := tConst 1 <| tGoto (G 20)
def w_X10_isNoMessage_19 (M : CT) (G : Nat → PT) (Rp : RT) : PT := tConst 0 <| G 20
def w_X10_isNoMessage_20 (M : CT) (G : Nat → PT) (Rp : RT) : PT := tZret Rp
set_option maxRecDepth 20000 in
theorem b_X10_isNoMessage_0 {Z : Zt} {d : Nat} {p : Program} {e : Env} {R : Room} {s : State} {m : MethodId} {args : Array Value} {below : List Frame} {meth : Method} {c : Code} {Rp : RT} (C : Cx Z d jX10_isNoMessage RX10 p R s m args meth c) : Sd Z jX10_isNoMessage p e R s m args below meth c (MQ below (QcS Z Rp) args s 0 0 (fun a => Z.2.2.1 < a)) 0 (w_X10_isNoMessage_0 (MS Z d) (Gw Z 2 p e R s m args below meth c (MQ below (QcS Z Rp) args s 0 0 (fun a => Z.2.2.1 < a))) Rp) := by
  unfold w_X10_isNoMessage_0
  refine s_iload_n (k := 1) C (by decide +kernel) ?_
  refine s_if_lt (off := 14) (tgt := 15) C (by decide +kernel) (by decide) (fun _ _ _ _ _ _ h => h) ?_
  refine s_iload_n (k := 1) C (by decide +kernel) ?_
  refine s_aload_n (k := 0) C (by decide +kernel) ?_
  refine s_getR C w_2_117 (by decide +kernel) rfl ?_
  refine s_getI C w_1_126 (by decide +kernel) rfl ?_
  refine s_icmp_lt (off := 7) (tgt := 19) C (by decide +kernel) (by decide) (fun _ _ _ _ _ _ h => h) ?_
  exact (fun _ _ _ _ _ _ h => h)
set_option maxRecDepth 20000 in
theorem b_X10_isNoMessage_15 {Z : Zt} {d : Nat} {p : Program} {e : Env} {R : Room} {s : State} {m : MethodId} {args : Array Value} {below : List Frame} {meth : Method} {c : Code} {Rp : RT} (C : Cx Z d jX10_isNoMessage RX10 p R s m args meth c) : Sd Z jX10_isNoMessage p e R s m args below meth c (MQ below (QcS Z Rp) args s 0 0 (fun a => Z.2.2.1 < a)) 15 (w_X10_isNoMessage_15 (MS Z d) (Gw Z 2 p e R s m args below meth c (MQ below (QcS Z Rp) args s 0 0 (fun a => Z.2.2.1 < a))) Rp) := by
  unfold w_X10_isNoMessage_15
  refine s_iconst (n := 1) C (by decide +kernel) (by decide) ?_
  exact s_goto (off := 4) (tgt := 20) C (by decide +kernel) (by decide) (fun _ _ _ _ _ _ h => h)
set_option maxRecDepth 20000 in
theorem b_X10_isNoMessage_19 {Z : Zt} {d : Nat} {p : Program} {e : Env} {R : Room} {s : State} {m : MethodId} {args : Array Value} {below : List Frame} {meth : Method} {c : Code} {Rp : RT} (C : Cx Z d jX10_isNoMessage RX10 p R s m args meth c) : Sd Z jX10_isNoMessage p e R s m args below meth c (MQ below (QcS Z Rp) args s 0 0 (fun a => Z.2.2.1 < a)) 19 (w_X10_isNoMessage_19 (MS Z d) (Gw Z 2 p e R s m args below meth c (MQ below (QcS Z Rp) args s 0 0 (fun a => Z.2.2.1 < a))) Rp) := by
  unfold w_X10_isNoMessage_19
  refine s_iconst (n := 0) C (by decide +kernel) (by decide) ?_
  exact (fun _ _ _ _ _ _ h => h)
set_option maxRecDepth 20000 in
theorem b_X10_isNoMessage_20 {Z : Zt} {d : Nat} {p : Program} {e : Env} {R : Room} {s : State} {m : MethodId} {args : Array Value} {below : List Frame} {meth : Method} {c : Code} {Rp : RT} (C : Cx Z d jX10_isNoMessage RX10 p R s m args meth c) : Sd Z jX10_isNoMessage p e R s m args below meth c (MQ below (QcS Z Rp) args s 0 0 (fun a => Z.2.2.1 < a)) 20 (w_X10_isNoMessage_20 (MS Z d) (Gw Z 2 p e R s m args below meth c (MQ below (QcS Z Rp) args s 0 0 (fun a => Z.2.2.1 < a))) Rp) := by
  unfold w_X10_isNoMessage_20
  exact s_zret C rfl (by decide +kernel)
theorem ms_X10_isNoMessage {Z : Zt} {d : Nat} {S : Sh} {μ : Mi} {ρ : Mr} {Rp : RT} (a0 : Nat) (x1 : Int32) (h : ∀ G : Nat → PT, (∀ (L st : List Value) (S : Sh) (q : Nat × Nat) (μ : Mi) (ρ : Mr), w_X10_isNoMessage_15 (MS Z d) G Rp L st S q μ ρ → G 15 L st S q μ ρ) → (∀ (L st : List Value) (S : Sh) (q : Nat × Nat) (μ : Mi) (ρ : Mr), w_X10_isNoMessage_19 (MS Z d) G Rp L st S q μ ρ → G 19 L st S q μ ρ) → (∀ (L st : List Value) (S : Sh) (q : Nat × Nat) (μ : Mi) (ρ : Mr), w_X10_isNoMessage_20 (MS Z d) G Rp L st S q μ ρ → G 20 L st S q μ ρ) → w_X10_isNoMessage_0 (MS Z d) G Rp [.ref a0, .int x1] [] S (0, 0) μ ρ) : MS Z (d + 1) jX10_isNoMessage [.ref a0, .int x1] S μ ρ Rp :=
  MS_of [.ref a0, .int x1] (by decide +kernel) rfl rfl (Nat.le_of_ble_eq_true rfl) rfl (fun p e R s m args below meth c C => b_X10_isNoMessage_0 C _ _ _ _ _ _ (h _ (b_X10_isNoMessage_15 C) (b_X10_isNoMessage_19 C) (b_X10_isNoMessage_20 C)))
def w_X10_comes_0 (M : CT) (G : Nat → PT) (Rp : RT) : PT := tAload 0 <| tIload 1 <| tCallV M jX10_isNoMessage 10 6 1 <| tIf (fun x => x = 0) (G 13) <| tConst (-2) <| tGoto (G 18)
def w_X10_comes_13 (M : CT) (G : Nat → PT) (Rp : RT) : PT := tAload 0 <| tIload 1 <| tCallV M jX10_takeIn 10 6 1 <| G 18
def w_X10_comes_18 (M : CT) (G : Nat → PT) (Rp : RT) : PT := tIret Rp
set_option maxRecDepth 20000 in
theorem b_X10_comes_0 {Z : Zt} {d : Nat} {p : Program} {e : Env} {R : Room} {s : State} {m : MethodId} {args : Array Value} {below : List Frame} {meth : Method} {c : Code} {Rp : RT} (C : Cx Z d jX10_comes RX10 p R s m args meth c) : Sd Z jX10_comes p e R s m args below meth c (MQ below (QcS Z Rp) args s 0 0 (fun a => Z.2.2.1 < a)) 0 (w_X10_comes_0 (MS Z d) (Gw Z 2 p e R s m args below meth c (MQ below (QcS Z Rp) args s 0 0 (fun a => Z.2.2.1 < a))) Rp) := by
  unfold w_X10_comes_0
  refine s_aload_n (k := 0) C (by decide +kernel) ?_
  refine s_iload_n (k := 1) C (by decide +kernel) ?_
  refine s_callV C rfl rfl (by decide +kernel) rfl w_4_63 w_4_65 w_p1_13 w_1_2 w_4_66 (by decide +kernel) ?_
  refine s_if_eq (off := 8) (tgt := 13) C (by decide +kernel) (by decide) (fun _ _ _ _ _ _ h => h) ?_
  refine s_bipush (n := (-2)) C (by decide +kernel) (by decide) ?_
  exact s_goto (off := 8) (tgt := 18) C (by decide +kernel) (by decide) (fun _ _ _ _ _ _ h => h)
set_option maxRecDepth 20000 in
theorem b_X10_comes_13 {Z : Zt} {d : Nat} {p : Program} {e : Env} {R : Room} {s : State} {m : MethodId} {args : Array Value} {below : List Frame} {meth : Method} {c : Code} {Rp : RT} (C : Cx Z d jX10_comes RX10 p R s m args meth c) : Sd Z jX10_comes p e R s m args below meth c (MQ below (QcS Z Rp) args s 0 0 (fun a => Z.2.2.1 < a)) 13 (w_X10_comes_13 (MS Z d) (Gw Z 2 p e R s m args below meth c (MQ below (QcS Z Rp) args s 0 0 (fun a => Z.2.2.1 < a))) Rp) := by
  unfold w_X10_comes_13
  refine s_aload_n (k := 0) C (by decide +kernel) ?_
  refine s_iload_n (k := 1) C (by decide +kernel) ?_
  refine s_callV C rfl rfl (by decide +kernel) rfl w_4_67 w_4_68 w_4_69 w_1_2 w_4_70 (by decide +kernel) ?_
  exact (fun _ _ _ _ _ _ h => h)
set_option maxRecDepth 20000 in
theorem b_X10_comes_18 {Z : Zt} {d : Nat} {p : Program} {e : Env} {R : Room} {s : State} {m : MethodId} {args : Array Value} {below : List Frame} {meth : Method} {c : Code} {Rp : RT} (C : Cx Z d jX10_comes RX10 p R s m args meth c) : Sd Z jX10_comes p e R s m args below meth c (MQ below (QcS Z Rp) args s 0 0 (fun a => Z.2.2.1 < a)) 18 (w_X10_comes_18 (MS Z d) (Gw Z 2 p e R s m args below meth c (MQ below (QcS Z Rp) args s 0 0 (fun a => Z.2.2.1 < a))) Rp) := by
  unfold w_X10_comes_18
  exact s_iret C rfl (by decide +kernel)
theorem ms_X10_comes {Z : Zt} {d : Nat} {S : Sh} {μ : Mi} {ρ : Mr} {Rp : RT} (a0 : Nat) (x1 : Int32) (h : ∀ G : Nat → PT, (∀ (L st : List Value) (S : Sh) (q : Nat × Nat) (μ : Mi) (ρ : Mr), w_X10_comes_13 (MS Z d) G Rp L st S q μ ρ → G 13 L st S q μ ρ) → (∀ (L st : List Value) (S : Sh) (q : Nat × Nat) (μ : Mi) (ρ : Mr), w_X10_comes_18 (MS Z d) G Rp L st S q μ ρ → G 18 L st S q μ ρ) → w_X10_comes_0 (MS Z d) G Rp [.ref a0, .int x1] [] S (0, 0) μ ρ) : MS Z (d + 1) jX10_comes [.ref a0, .int x1] S μ ρ Rp :=
  MS_of [.ref a0, .int x1] (by decide +kernel) rfl rfl (Nat.le_of_ble_eq_true rfl) rfl (fun p e R s m args below meth c C => b_X10_comes_0 C _ _ _ _ _ _ (h _ (b_X10_comes_13 C) (b_X10_comes_18 C)))
def w_X10_loses_0 (M : CT) (G : Nat → PT) (Rp : RT) : PT := tAload 0 <| tIload 1 <| tCallV M jX10_isNoMessage 10 6 1 <| tIf (fun x => x = 0) (G 11) <| tConst (-2) <| tIret Rp
def w_X10_loses_11 (M : CT) (G : Nat → PT) (Rp : RT) : PT := tAload 0 <| tGetR 10 6 1 <| tIload 1 <| tCallV M jX1_takeOut 1 6 1 <| tPop <| tAload 0 <| tGetR 10 6 1 <| tDup <| tGetI 1 6 3 <| tConst 1 <| tBin (fun x y => x + y) <| tPutI 1 6 3 <| tAload 0 <| tGetR 10 6 1 <| tGetI 1 6 2 <| tIret Rp
set_option maxRecDepth 20000 in
theorem b_X10_loses_0 {Z : Zt} {d : Nat} {p : Program} {e : Env} {R : Room} {s : State} {m : MethodId} {args : Array Value} {below : List Frame} {meth : Method} {c : Code} {Rp : RT} (C : Cx Z d jX10_loses RX10 p R s m args meth c) : Sd Z jX10_loses p e R s m args below meth c (MQ below (QcS Z Rp) args s 0 0 (fun a => Z.2.2.1 < a)) 0 (w_X10_loses_0 (MS Z d) (Gw Z 2 p e R s m args below meth c (MQ below (QcS Z Rp) args s 0 0 (fun a => Z.2.2.1 < a))) Rp) := by
  unfold w_X10_loses_0
  refine s_aload_n (k := 0) C (by decide +kernel) ?_
  refine s_iload_n (k := 1) C (by decide +kernel) ?_
  refine s_callV C rfl rfl (by decide +kernel) rfl w_4_63 w_4_65 w_p1_13 w_1_2 w_4_66 (by decide +kernel) ?_
  refine s_if_eq (off := 6) (tgt := 11) C (by decide +kernel) (by decide) (fun _ _ _ _ _ _ h => h) ?_
  refine s_bipush (n := (-2)) C (by decide +kernel) (by decide) ?_
  exact s_iret C rfl (by decide +kernel)
set_option maxRecDepth 20000 in
theorem b_X10_loses_11 {Z : Zt} {d : Nat} {p : Program} {e : Env} {R : Room} {s : State} {m : MethodId} {args : Array Value} {below : List Frame} {meth : Method} {c : Code} {Rp : RT} (C : Cx Z d jX10_loses RX10 p R s m args meth c) : Sd Z jX10_loses p e R s m args below meth c (MQ below (QcS Z Rp) args s 0 0 (fun a => Z.2.2.1 < a)) 11 (w_X10_loses_11 (MS Z d) (Gw Z 2 p e R s m args below meth c (MQ below (QcS Z Rp) args s 0 0 (fun a => Z.2.2.1 < a))) Rp) := by
  unfold w_X10_loses_11
  refine s_aload_n (k := 0) C (by decide +kernel) ?_
  refine s_getR C w_2_117 (by decide +kernel) rfl ?_
  refine s_iload_n (k := 1) C (by decide +kernel) ?_
  refine s_callV C rfl rfl (by decide +kernel) rfl w_4_71 w_4_72 w_4_73 w_1_3 w_4_74 (by decide +kernel) ?_
  refine s_pop C (by decide +kernel) ?_
  refine s_aload_n (k := 0) C (by decide +kernel) ?_
  refine s_getR C w_2_117 (by decide +kernel) rfl ?_
  refine s_dup C (by decide +kernel) ?_
  refine s_getI C w_1_131 (by decide +kernel) rfl ?_
  refine s_iconst (n := 1) C (by decide +kernel) (by decide) ?_
  refine s_iadd C (by decide +kernel) ?_
  refine s_putI C w_1_131 (by decide +kernel) rfl (Or.inl rfl) ?_
  refine s_aload_n (k := 0) C (by decide +kernel) ?_
  refine s_getR C w_2_117 (by decide +kernel) rfl ?_
  refine s_getI C w_1_126 (by decide +kernel) rfl ?_
  exact s_iret C rfl (by decide +kernel)
theorem ms_X10_loses {Z : Zt} {d : Nat} {S : Sh} {μ : Mi} {ρ : Mr} {Rp : RT} (a0 : Nat) (x1 : Int32) (h : ∀ G : Nat → PT, (∀ (L st : List Value) (S : Sh) (q : Nat × Nat) (μ : Mi) (ρ : Mr), w_X10_loses_11 (MS Z d) G Rp L st S q μ ρ → G 11 L st S q μ ρ) → w_X10_loses_0 (MS Z d) G Rp [.ref a0, .int x1] [] S (0, 0) μ ρ) : MS Z (d + 1) jX10_loses [.ref a0, .int x1] S μ ρ Rp :=
  MS_of [.ref a0, .int x1] (by decide +kernel) rfl rfl (Nat.le_of_ble_eq_true rfl) rfl (fun p e R s m args below meth c C => b_X10_loses_0 C _ _ _ _ _ _ (h _ (b_X10_loses_11 C)))
def w_X10_doubles_0 (M : CT) (G : Nat → PT) (Rp : RT) : PT := tAload 0 <| tIload 1 <| tCallV M jX10_isNoMessage 10 6 1 <| tIf (fun x => x = 0) (G 11) <| tConst (-2) <| tIret Rp
def w_X10_doubles_11 (M : CT) (G : Nat → PT) (Rp : RT) : PT := tAload 0 <| tGetR 10 6 1 <| tGetI 1 6 2 <| tConst 60 <| tIf2 (fun x y => x < y) (G 26) <| tConst (-4) <| tIret Rp
def w_X10_doubles_26 (M : CT) (G : Nat → PT) (Rp : RT) : PT := tAload 0 <| tGetR 10 6 1 <| tGetR 1 6 0 <| tAload 0 <| tGetR 10 6 1 <| tGetI 1 6 2 <| tAldR 32 <| tAload 0 <| tGetR 10 6 1 <| tGetR 1 6 0 <| tIload 1 <| tAldR 32 <| tCallV M jX2_copyFrom 2 10 1 <| tAload 0 <| tGetR 10 6 1 <| tDup <| tGetI 1 6 2 <| tConst 1 <| tBin (fun x y => x + y) <| tPutI 1 6 2 <| tAload 0 <| tGetR 10 6 1 <| tGetI 1 6 2 <| tIret Rp
set_option maxRecDepth 20000 in
theorem b_X10_doubles_0 {Z : Zt} {d : Nat} {p : Program} {e : Env} {R : Room} {s : State} {m : MethodId} {args : Array Value} {below : List Frame} {meth : Method} {c : Code} {Rp : RT} (C : Cx Z d jX10_doubles RX10 p R s m args meth c) : Sd Z jX10_doubles p e R s m args below meth c (MQ below (QcS Z Rp) args s 0 0 (fun a => Z.2.2.1 < a)) 0 (w_X10_doubles_0 (MS Z d) (Gw Z 2 p e R s m args below meth c (MQ below (QcS Z Rp) args s 0 0 (fun a => Z.2.2.1 < a))) Rp) := by
  unfold w_X10_doubles_0
  refine s_aload_n (k := 0) C (by decide +kernel) ?_
  refine s_iload_n (k := 1) C (by decide +kernel) ?_
  refine s_callV C rfl rfl (by decide +kernel) rfl w_4_63 w_4_65 w_p1_13 w_1_2 w_4_66 (by decide +kernel) ?_
  refine s_if_eq (off := 6) (tgt := 11) C (by decide +kernel) (by decide) (fun _ _ _ _ _ _ h => h) ?_
  refine s_bipush (n := (-2)) C (by decide +kernel) (by decide) ?_
  exact s_iret C rfl (by decide +kernel)
set_option maxRecDepth 20000 in
theorem b_X10_doubles_11 {Z : Zt} {d : Nat} {p : Program} {e : Env} {R : Room} {s : State} {m : MethodId} {args : Array Value} {below : List Frame} {meth : Method} {c : Code} {Rp : RT} (C : Cx Z d jX10_doubles RX10 p R s m args meth c) : Sd Z jX10_doubles p e R s m args below meth c (MQ below (QcS Z Rp) args s 0 0 (fun a => Z.2.2.1 < a)) 11 (w_X10_doubles_11 (MS Z d) (Gw Z 2 p e R s m args below meth c (MQ below (QcS Z Rp) args s 0 0 (fun a => Z.2.2.1 < a))) Rp) := by
  unfold w_X10_doubles_11
  refine s_aload_n (k := 0) C (by decide +kernel) ?_
  refine s_getR C w_2_117 (by decide +kernel) rfl ?_
  refine s_getI C w_1_126 (by decide +kernel) rfl ?_
  refine s_bipush (n := 60) C (by decide +kernel) (by decide) ?_
  refine s_icmp_lt (off := 6) (tgt := 26) C (by decide +kernel) (by decide) (fun _ _ _ _ _ _ h => h) ?_
  refine s_bipush (n := (-4)) C (by decide +kernel) (by decide) ?_
  exact s_iret C rfl (by decide +kernel)
set_option maxRecDepth 20000 in
theorem b_X10_doubles_26 {Z : Zt} {d : Nat} {p : Program} {e : Env} {R : Room} {s : State} {m : MethodId} {args : Array Value} {below : List Frame} {meth : Method} {c : Code} {Rp : RT} (C : Cx Z d jX10_doubles RX10 p R s m args meth c) : Sd Z jX10_doubles p e R s m args below meth c (MQ below (QcS Z Rp) args s 0 0 (fun a => Z.2.2.1 < a)) 26 (w_X10_doubles_26 (MS Z d) (Gw Z 2 p e R s m args below meth c (MQ below (QcS Z Rp) args s 0 0 (fun a => Z.2.2.1 < a))) Rp) := by
  unfold w_X10_doubles_26
  refine s_aload_n (k := 0) C (by decide +kernel) ?_
  refine s_getR C w_2_117 (by decide +kernel) rfl ?_
  refine s_getR C w_1_121 (by decide +kernel) rfl ?_
  refine s_aload_n (k := 0) C (by decide +kernel) ?_
  refine s_getR C w_2_117 (by decide +kernel) rfl ?_
  refine s_getI C w_1_126 (by decide +kernel) rfl ?_
  refine s_aald C rfl (by decide +kernel) ?_
  refine s_aload_n (k := 0) C (by decide +kernel) ?_
  refine s_getR C w_2_117 (by decide +kernel) rfl ?_
  refine s_getR C w_1_121 (by decide +kernel) rfl ?_
  refine s_iload_n (k := 1) C (by decide +kernel) ?_
  refine s_aald C rfl (by decide +kernel) ?_
  refine s_callV C rfl rfl (by decide +kernel) rfl w_4_154 w_3_61 w_3_62 w_1_4 w_3_63 (by decide +kernel) ?_
  refine s_aload_n (k := 0) C (by decide +kernel) ?_
  refine s_getR C w_2_117 (by decide +kernel) rfl ?_
  refine s_dup C (by decide +kernel) ?_
  refine s_getI C w_1_126 (by decide +kernel) rfl ?_
  refine s_iconst (n := 1) C (by decide +kernel) (by decide) ?_
  refine s_iadd C (by decide +kernel) ?_
  refine s_putI C w_1_126 (by decide +kernel) rfl (Or.inl rfl) ?_
  refine s_aload_n (k := 0) C (by decide +kernel) ?_
  refine s_getR C w_2_117 (by decide +kernel) rfl ?_
  refine s_getI C w_1_126 (by decide +kernel) rfl ?_
  exact s_iret C rfl (by decide +kernel)
theorem ms_X10_doubles {Z : Zt} {d : Nat} {S : Sh} {μ : Mi} {ρ : Mr} {Rp : RT} (a0 : Nat) (x1 : Int32) (h : ∀ G : Nat → PT, (∀ (L st : List Value) (S : Sh) (q : Nat × Nat) (μ : Mi) (ρ : Mr), w_X10_doubles_11 (MS Z d) G Rp L st S q μ ρ → G 11 L st S q μ ρ) → (∀ (L st : List Value) (S : Sh) (q : Nat × Nat) (μ : Mi) (ρ : Mr), w_X10_doubles_26 (MS Z d) G Rp L st S q μ ρ → G 26 L st S q μ ρ) → w_X10_doubles_0 (MS Z d) G Rp [.ref a0, .int x1] [] S (0, 0) μ ρ) : MS Z (d + 1) jX10_doubles [.ref a0, .int x1] S μ ρ Rp :=
  MS_of [.ref a0, .int x1] (by decide +kernel) rfl rfl (Nat.le_of_ble_eq_true rfl) rfl (fun p e R s m args below meth c C => b_X10_doubles_0 C _ _ _ _ _ _ (h _ (b_X10_doubles_11 C) (b_X10_doubles_26 C)))
def w_X10_settles_0 (M : CT) (G : Nat → PT) (Rp : RT) : PT := tIload 1 <| tConst 1 <| tIf2 (fun x y => x < y) (G 12) <| tIload 1 <| tConst 200 <| tIf2 (fun x y => x ≤ y) (G 15) <| G 12
def w_X10_settles_12 (M : CT) (G : Nat → PT) (Rp : RT) : PT := tConst (-3) <| tIret Rp
def w_X10_settles_15 (M : CT) (G : Nat → PT) (Rp : RT) : PT := tAload 0 <| tGetR 10 6 1 <| tGetI 1 6 2 <| tIf (fun x => x ≠ 0) (G 28) <| tConst (-5) <| tIret Rp
def w_X10_settles_28 (M : CT) (G : Nat → PT) (Rp : RT) : PT := tConst 0 <| tIstore 2 <| G 30
def w_X10_settles_30 (M : CT) (G : Nat → PT) (Rp : RT) : PT := tIload 2 <| tIload 1 <| tIf2 (fun x y => y ≤ x) (G 57) <| tAload 0 <| tGetR 10 6 1 <| tGetI 1 6 2 <| tIf (fun x => x ≤ 0) (G 57) <| tAload 0 <| tConst 0 <| tCallV M jX10_takeIn 10 6 1 <| tPop <| tIinc 2 1 <| tGoto (G 30)
def w_X10_settles_57 (M : CT) (G : Nat → PT) (Rp : RT) : PT := tIload 2 <| tIret Rp
set_option maxRecDepth 20000 in
theorem b_X10_settles_0 {Z : Zt} {d : Nat} {p : Program} {e : Env} {R : Room} {s : State} {m : MethodId} {args : Array Value} {below : List Frame} {meth : Method} {c : Code} {Rp : RT} (C : Cx Z d jX10_settles RX10 p R s m args meth c) : Sd Z jX10_settles p e R s m args below meth c (MQ below (QcS Z Rp) args s 0 0 (fun a => Z.2.2.1 < a)) 0 (w_X10_settles_0 (MS Z d) (Gw Z 3 p e R s m args below meth c (MQ below (QcS Z Rp) args s 0 0 (fun a => Z.2.2.1 < a))) Rp) := by
  unfold w_X10_settles_0
  refine s_iload_n (k := 1) C (by decide +kernel) ?_
  refine s_iconst (n := 1) C (by decide +kernel) (by decide) ?_
  refine s_icmp_lt (off := 10) (tgt := 12) C (by decide +kernel) (by decide) (fun _ _ _ _ _ _ h => h) ?_
  refine s_iload_n (k := 1) C (by decide +kernel) ?_
  refine s_sipush (n := 200) C (by decide +kernel) (by decide) ?_
  refine s_icmp_le (off := 6) (tgt := 15) C (by decide +kernel) (by decide) (fun _ _ _ _ _ _ h => h) ?_
  exact (fun _ _ _ _ _ _ h => h)
set_option maxRecDepth 20000 in
theorem b_X10_settles_12 {Z : Zt} {d : Nat} {p : Program} {e : Env} {R : Room} {s : State} {m : MethodId} {args : Array Value} {below : List Frame} {meth : Method} {c : Code} {Rp : RT} (C : Cx Z d jX10_settles RX10 p R s m args meth c) : Sd Z jX10_settles p e R s m args below meth c (MQ below (QcS Z Rp) args s 0 0 (fun a => Z.2.2.1 < a)) 12 (w_X10_settles_12 (MS Z d) (Gw Z 3 p e R s m args below meth c (MQ below (QcS Z Rp) args s 0 0 (fun a => Z.2.2.1 < a))) Rp) := by
  unfold w_X10_settles_12
  refine s_bipush (n := (-3)) C (by decide +kernel) (by decide) ?_
  exact s_iret C rfl (by decide +kernel)
set_option maxRecDepth 20000 in
theorem b_X10_settles_15 {Z : Zt} {d : Nat} {p : Program} {e : Env} {R : Room} {s : State} {m : MethodId} {args : Array Value} {below : List Frame} {meth : Method} {c : Code} {Rp : RT} (C : Cx Z d jX10_settles RX10 p R s m args meth c) : Sd Z jX10_settles p e R s m args below meth c (MQ below (QcS Z Rp) args s 0 0 (fun a => Z.2.2.1 < a)) 15 (w_X10_settles_15 (MS Z d) (Gw Z 3 p e R s m args below meth c (MQ below (QcS Z Rp) args s 0 0 (fun a => Z.2.2.1 < a))) Rp) := by
  unfold w_X10_settles_15
  refine s_aload_n (k := 0) C (by decide +kernel) ?_
  refine s_getR C w_2_117 (by decide +kernel) rfl ?_
  refine s_getI C w_1_126 (by decide +kernel) rfl ?_
  refine s_if_ne (off := 6) (tgt := 28) C (by decide +kernel) (by decide) (fun _ _ _ _ _ _ h => h) ?_
  refine s_bipush (n := (-5)) C (by decide +kernel) (by decide) ?_
  exact s_iret C rfl (by decide +kernel)
set_option maxRecDepth 20000 in
theorem b_X10_settles_28 {Z : Zt} {d : Nat} {p : Program} {e : Env} {R : Room} {s : State} {m : MethodId} {args : Array Value} {below : List Frame} {meth : Method} {c : Code} {Rp : RT} (C : Cx Z d jX10_settles RX10 p R s m args meth c) : Sd Z jX10_settles p e R s m args below meth c (MQ below (QcS Z Rp) args s 0 0 (fun a => Z.2.2.1 < a)) 28 (w_X10_settles_28 (MS Z d) (Gw Z 3 p e R s m args below meth c (MQ below (QcS Z Rp) args s 0 0 (fun a => Z.2.2.1 < a))) Rp) := by
  unfold w_X10_settles_28
  refine s_iconst (n := 0) C (by decide +kernel) (by decide) ?_
  refine s_istore_n (k := 2) C (by decide +kernel) ?_
  exact (fun _ _ _ _ _ _ h => h)
set_option maxRecDepth 20000 in
theorem b_X10_settles_30 {Z : Zt} {d : Nat} {p : Program} {e : Env} {R : Room} {s : State} {m : MethodId} {args : Array Value} {below : List Frame} {meth : Method} {c : Code} {Rp : RT} (C : Cx Z d jX10_settles RX10 p R s m args meth c) : Sd Z jX10_settles p e R s m args below meth c (MQ below (QcS Z Rp) args s 0 0 (fun a => Z.2.2.1 < a)) 30 (w_X10_settles_30 (MS Z d) (Gw Z 3 p e R s m args below meth c (MQ below (QcS Z Rp) args s 0 0 (fun a => Z.2.2.1 < a))) Rp) := by
  unfold w_X10_settles_30
  refine s_iload_n (k := 2) C (by decide +kernel) ?_
  refine s_iload_n (k := 1) C (by decide +kernel) ?_
  refine s_icmp_ge (off := 25) (tgt := 57) C (by decide +kernel) (by decide) (fun _ _ _ _ _ _ h => h) ?_
  refine s_aload_n (k := 0) C (by decide +kernel) ?_
  refine s_getR C w_2_117 (by decide +kernel) rfl ?_
  refine s_getI C w_1_126 (by decide +kernel) rfl ?_
  refine s_if_le (off := 15) (tgt := 57) C (by decide +kernel) (by decide) (fun _ _ _ _ _ _ h => h) ?_
  refine s_aload_n (k := 0) C (by decide +kernel) ?_
  refine s_iconst (n := 0) C (by decide +kernel) (by decide) ?_
  refine s_callV C rfl rfl (by decide +kernel) rfl w_4_67 w_4_68 w_4_69 w_1_2 w_4_70 (by decide +kernel) ?_
  refine s_pop C (by decide +kernel) ?_
  refine s_iinc (n := 1) C (by decide +kernel) (by decide) ?_
  exact s_goto (off := (-24)) (tgt := 30) C (by decide +kernel) (by decide) (fun _ _ _ _ _ _ h => h)
set_option maxRecDepth 20000 in
theorem b_X10_settles_57 {Z : Zt} {d : Nat} {p : Program} {e : Env} {R : Room} {s : State} {m : MethodId} {args : Array Value} {below : List Frame} {meth : Method} {c : Code} {Rp : RT} (C : Cx Z d jX10_settles RX10 p R s m args meth c) : Sd Z jX10_settles p e R s m args below meth c (MQ below (QcS Z Rp) args s 0 0 (fun a => Z.2.2.1 < a)) 57 (w_X10_settles_57 (MS Z d) (Gw Z 3 p e R s m args below meth c (MQ below (QcS Z Rp) args s 0 0 (fun a => Z.2.2.1 < a))) Rp) := by
  unfold w_X10_settles_57
  refine s_iload_n (k := 2) C (by decide +kernel) ?_
  exact s_iret C rfl (by decide +kernel)
theorem ms_X10_settles {Z : Zt} {d : Nat} {S : Sh} {μ : Mi} {ρ : Mr} {Rp : RT} (a0 : Nat) (x1 : Int32) (h : ∀ G : Nat → PT, (∀ (L st : List Value) (S : Sh) (q : Nat × Nat) (μ : Mi) (ρ : Mr), w_X10_settles_12 (MS Z d) G Rp L st S q μ ρ → G 12 L st S q μ ρ) → (∀ (L st : List Value) (S : Sh) (q : Nat × Nat) (μ : Mi) (ρ : Mr), w_X10_settles_15 (MS Z d) G Rp L st S q μ ρ → G 15 L st S q μ ρ) → (∀ (L st : List Value) (S : Sh) (q : Nat × Nat) (μ : Mi) (ρ : Mr), w_X10_settles_28 (MS Z d) G Rp L st S q μ ρ → G 28 L st S q μ ρ) → (∀ (L st : List Value) (S : Sh) (q : Nat × Nat) (μ : Mi) (ρ : Mr), w_X10_settles_30 (MS Z d) G Rp L st S q μ ρ → G 30 L st S q μ ρ) → (∀ (L st : List Value) (S : Sh) (q : Nat × Nat) (μ : Mi) (ρ : Mr), w_X10_settles_57 (MS Z d) G Rp L st S q μ ρ → G 57 L st S q μ ρ) → w_X10_settles_0 (MS Z d) G Rp [.ref a0, .int x1, .null] [] S (0, 0) μ ρ) : MS Z (d + 1) jX10_settles [.ref a0, .int x1] S μ ρ Rp :=
  MS_of [.ref a0, .int x1, .null] (by decide +kernel) rfl rfl (Nat.le_of_ble_eq_true rfl) rfl (fun p e R s m args below meth c C => b_X10_settles_0 C _ _ _ _ _ _ (h _ (b_X10_settles_12 C) (b_X10_settles_15 C) (b_X10_settles_28 C) (b_X10_settles_30 C) (b_X10_settles_57 C)))
def w_X10_canCome_0 (M : CT) (G : Nat → PT) (Rp : RT) : PT := tAload 0 <| tGetR 10 6 0 <| tAload 1 <| tGetI 2 10 1 <| tAldR 37 <| tGetI 7 18 1 <| tIf (fun x => x = 0) (G 37) <| tAload 0 <| tGetR 10 6 1 <| tAload 1 <| tGetI 2 10 0 <| tAload 1 <| tGetI 2 10 1 <| tCallV M jX1_isCut 1 6 2 <| tIf (fun x => x ≠ 0) (G 37) <| tConst 1 <| tGoto (G 38)
def w_X10_canCome_37 (M : CT) (G : Nat → PT) (Rp : RT) : PT := tConst 0 <| G 38
def w_X10_canCome_38 (M : CT) (G : Nat → PT) (Rp : RT) : PT := tZret Rp
set_option maxRecDepth 20000 in
theorem b_X10_canCome_0 {Z : Zt} {d : Nat} {p : Program} {e : Env} {R : Room} {s : State} {m : MethodId} {args : Array Value} {below : List Frame} {meth : Method} {c : Code} {Rp : RT} (C : Cx Z d jX10_canCome RX10 p R s m args meth c) : Sd Z jX10_canCome p e R s m args below meth c (MQ below (QcS Z Rp) args s 0 0 (fun a => Z.2.2.1 < a)) 0 (w_X10_canCome_0 (MS Z d) (Gw Z 2 p e R s m args below meth c (MQ below (QcS Z Rp) args s 0 0 (fun a => Z.2.2.1 < a))) Rp) := by
  unfold w_X10_canCome_0
  refine s_aload_n (k := 0) C (by decide +kernel) ?_
  refine s_getR C w_2_113 (by decide +kernel) rfl ?_
  refine s_aload_n (k := 1) C (by decide +kernel) ?_
  refine s_getI C w_1_60 (by decide +kernel) rfl ?_
  refine s_aald C rfl (by decide +kernel) ?_
  refine s_getI C w_1_224 (by decide +kernel) rfl ?_
  refine s_if_eq (off := 25) (tgt := 37) C (by decide +kernel) (by decide) (fun _ _ _ _ _ _ h => h) ?_
  refine s_aload_n (k := 0) C (by decide +kernel) ?_
  refine s_getR C w_2_117 (by decide +kernel) rfl ?_
  refine s_aload_n (k := 1) C (by decide +kernel) ?_
  refine s_getI C w_1_55 (by decide +kernel) rfl ?_
  refine s_aload_n (k := 1) C (by decide +kernel) ?_
  refine s_getI C w_1_60 (by decide +kernel) rfl ?_
  refine s_callV C rfl rfl (by decide +kernel) rfl w_4_47 w_4_48 w_4_49 w_1_3 w_4_50 (by decide +kernel) ?_
  refine s_if_ne (off := 7) (tgt := 37) C (by decide +kernel) (by decide) (fun _ _ _ _ _ _ h => h) ?_
  refine s_iconst (n := 1) C (by decide +kernel) (by decide) ?_
  exact s_goto (off := 4) (tgt := 38) C (by decide +kernel) (by decide) (fun _ _ _ _ _ _ h => h)
set_option maxRecDepth 20000 in
theorem b_X10_canCome_37 {Z : Zt} {d : Nat} {p : Program} {e : Env} {R : Room} {s : State} {m : MethodId} {args : Array Value} {below : List Frame} {meth : Method} {c : Code} {Rp : RT} (C : Cx Z d jX10_canCome RX10 p R s m args meth c) : Sd Z jX10_canCome p e R s m args below meth c (MQ below (QcS Z Rp) args s 0 0 (fun a => Z.2.2.1 < a)) 37 (w_X10_canCome_37 (MS Z d) (Gw Z 2 p e R s m args below meth c (MQ below (QcS Z Rp) args s 0 0 (fun a => Z.2.2.1 < a))) Rp) := by
  unfold w_X10_canCome_37
  refine s_iconst (n := 0) C (by decide +kernel) (by decide) ?_
  exact (fun _ _ _ _ _ _ h => h)
set_option maxRecDepth 20000 in
theorem b_X10_canCome_38 {Z : Zt} {d : Nat} {p : Program} {e : Env} {R : Room} {s : State} {m : MethodId} {args : Array Value} {below : List Frame} {meth : Method} {c : Code} {Rp : RT} (C : Cx Z d jX10_canCome RX10 p R s m args meth c) : Sd Z jX10_canCome p e R s m args below meth c (MQ below (QcS Z Rp) args s 0 0 (fun a => Z.2.2.1 < a)) 38 (w_X10_canCome_38 (MS Z d) (Gw Z 2 p e R s m args below meth c (MQ below (QcS Z Rp) args s 0 0 (fun a => Z.2.2.1 < a))) Rp) := by
  unfold w_X10_canCome_38
  exact s_zret C rfl (by decide +kernel)
theorem ms_X10_canCome {Z : Zt} {d : Nat} {S : Sh} {μ : Mi} {ρ : Mr} {Rp : RT} (a0 : Nat) (a1 : Nat) (h : ∀ G : Nat → PT, (∀ (L st : List Value) (S : Sh) (q : Nat × Nat) (μ : Mi) (ρ : Mr), w_X10_canCome_37 (MS Z d) G Rp L st S q μ ρ → G 37 L st S q μ ρ) → (∀ (L st : List Value) (S : Sh) (q : Nat × Nat) (μ : Mi) (ρ : Mr), w_X10_canCome_38 (MS Z d) G Rp L st S q μ ρ → G 38 L st S q μ ρ) → w_X10_canCome_0 (MS Z d) G Rp [.ref a0, .ref a1] [] S (0, 0) μ ρ) : MS Z (d + 1) jX10_canCome [.ref a0, .ref a1] S μ ρ Rp :=
  MS_of [.ref a0, .ref a1] (by decide +kernel) rfl rfl (Nat.le_of_ble_eq_true rfl) rfl (fun p e R s m args below meth c C => b_X10_canCome_0 C _ _ _ _ _ _ (h _ (b_X10_canCome_37 C) (b_X10_canCome_38 C)))
