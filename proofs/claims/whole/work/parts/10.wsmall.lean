def w_J6_bitCount_0f7a4_0 (M : CT) (G : Nat → PT) (Rp : RT) : PT := tIload 0 <| tIload 0 <| tConst 1 <| tBin (fun x y => (x.toUInt32 >>> (y.toUInt32 &&& Int32.toUInt32 31)).toInt32) <| tConst 1431655765 <| tBin (fun x y => x &&& y) <| tBin (fun x y => x - y) <| tIstore 0 <| tIload 0 <| tConst 858993459 <| tBin (fun x y => x &&& y) <| tIload 0 <| tConst 2 <| tBin (fun x y => (x.toUInt32 >>> (y.toUInt32 &&& Int32.toUInt32 31)).toInt32) <| tConst 858993459 <| tBin (fun x y => x &&& y) <| tBin (fun x y => x + y) <| tIstore 0 <| tIload 0 <| tIload 0 <| tConst 4 <| tBin (fun x y => (x.toUInt32 >>> (y.toUInt32 &&& Int32.toUInt32 31)).toInt32) <| tBin (fun x y => x + y) <| tConst 252645135 <| tBin (fun x y => x &&& y) <| tIstore 0 <| tIload 0 <| tIload 0 <| tConst 8 <| tBin (fun x y => (x.toUInt32 >>> (y.toUInt32 &&& Int32.toUInt32 31)).toInt32) <| tBin (fun x y => x + y) <| tIstore 0 <| tIload 0 <| tIload 0 <| tConst 16 <| tBin (fun x y => (x.toUInt32 >>> (y.toUInt32 &&& Int32.toUInt32 31)).toInt32) <| tBin (fun x y => x + y) <| tIstore 0 <| tIload 0 <| tConst 63 <| tBin (fun x y => x &&& y) <| tIret Rp
set_option maxRecDepth 20000 in
theorem b_J6_bitCount_0f7a4_0 {Z : Zt} {d : Nat} {p : Program} {e : Env} {R : Room} {s : State} {m : MethodId} {args : Array Value} {below : List Frame} {meth : Method} {c : Code} {Rp : RT} (C : Cx Z d jJ6_bitCount_0f7a4 RJ6 p R s m args meth c) : Sd Z jJ6_bitCount_0f7a4 p e R s m args below meth c (MQ below (QcS Z Rp) args s 0 0 (fun a => Z.2.2.1 < a)) 0 (w_J6_bitCount_0f7a4_0 (MS Z d) (Gw Z 1 p e R s m args below meth c (MQ below (QcS Z Rp) args s 0 0 (fun a => Z.2.2.1 < a))) Rp) := by
  unfold w_J6_bitCount_0f7a4_0
  refine s_iload_n (k := 0) C (by decide +kernel) ?_
  refine s_iload_n (k := 0) C (by decide +kernel) ?_
  refine s_iconst (n := 1) C (by decide +kernel) (by decide) ?_
  refine s_iushr C (by decide +kernel) ?_
  refine s_ldcw C w_3_76 (by decide +kernel) ?_
  refine s_iand C (by decide +kernel) ?_
  refine s_isub C (by decide +kernel) ?_
  refine s_istore_n (k := 0) C (by decide +kernel) ?_
  refine s_iload_n (k := 0) C (by decide +kernel) ?_
  refine s_ldcw C w_3_77 (by decide +kernel) ?_
  refine s_iand C (by decide +kernel) ?_
  refine s_iload_n (k := 0) C (by decide +kernel) ?_
  refine s_iconst (n := 2) C (by decide +kernel) (by decide) ?_
  refine s_iushr C (by decide +kernel) ?_
  refine s_ldcw C w_3_77 (by decide +kernel) ?_
  refine s_iand C (by decide +kernel) ?_
  refine s_iadd C (by decide +kernel) ?_
  refine s_istore_n (k := 0) C (by decide +kernel) ?_
  refine s_iload_n (k := 0) C (by decide +kernel) ?_
  refine s_iload_n (k := 0) C (by decide +kernel) ?_
  refine s_iconst (n := 4) C (by decide +kernel) (by decide) ?_
  refine s_iushr C (by decide +kernel) ?_
  refine s_iadd C (by decide +kernel) ?_
  refine s_ldcw C w_3_78 (by decide +kernel) ?_
  refine s_iand C (by decide +kernel) ?_
  refine s_istore_n (k := 0) C (by decide +kernel) ?_
  refine s_iload_n (k := 0) C (by decide +kernel) ?_
  refine s_iload_n (k := 0) C (by decide +kernel) ?_
  refine s_bipush (n := 8) C (by decide +kernel) (by decide) ?_
  refine s_iushr C (by decide +kernel) ?_
  refine s_iadd C (by decide +kernel) ?_
  refine s_istore_n (k := 0) C (by decide +kernel) ?_
  refine s_iload_n (k := 0) C (by decide +kernel) ?_
  refine s_iload_n (k := 0) C (by decide +kernel) ?_
  refine s_bipush (n := 16) C (by decide +kernel) (by decide) ?_
  refine s_iushr C (by decide +kernel) ?_
  refine s_iadd C (by decide +kernel) ?_
  refine s_istore_n (k := 0) C (by decide +kernel) ?_
  refine s_iload_n (k := 0) C (by decide +kernel) ?_
  refine s_bipush (n := 63) C (by decide +kernel) (by decide) ?_
  refine s_iand C (by decide +kernel) ?_
  exact s_iret C rfl (by decide +kernel)
theorem ms_J6_bitCount_0f7a4 {Z : Zt} {d : Nat} {S : Sh} {μ : Mi} {ρ : Mr} {Rp : RT} (x1 : Int32) (h : ∀ G : Nat → PT, w_J6_bitCount_0f7a4_0 (MS Z d) G Rp [.int x1] [] S (0, 0) μ ρ) : MS Z (d + 1) jJ6_bitCount_0f7a4 [.int x1] S μ ρ Rp :=
  MS_of [.int x1] (by decide +kernel) rfl rfl (Nat.le_of_ble_eq_true rfl) rfl (fun p e R s m args below meth c C => b_J6_bitCount_0f7a4_0 C _ _ _ _ _ _ (h _ ))
def w_J7_fill_53178_0 (M : CT) (G : Nat → PT) (Rp : RT) : PT := tConst 0 <| tIstore 2 <| tAload 0 <| tAlen <| tIstore 3 <| G 5
def w_J7_fill_53178_5 (M : CT) (G : Nat → PT) (Rp : RT) : PT := tIload 2 <| tIload 3 <| tIf2 (fun x y => y ≤ x) (G 20) <| tAload 0 <| tIload 2 <| tIload 1 <| tIast <| tIinc 2 1 <| tGoto (G 5)
def w_J7_fill_53178_20 (M : CT) (G : Nat → PT) (Rp : RT) : PT := tVret Rp
set_option maxRecDepth 20000 in
theorem b_J7_fill_53178_0 {Z : Zt} {d : Nat} {p : Program} {e : Env} {R : Room} {s : State} {m : MethodId} {args : Array Value} {below : List Frame} {meth : Method} {c : Code} {Rp : RT} (C : Cx Z d jJ7_fill_53178 RJ7 p R s m args meth c) : Sd Z jJ7_fill_53178 p e R s m args below meth c (MQ below (QcS Z Rp) args s 0 0 (fun a => Z.2.2.1 < a)) 0 (w_J7_fill_53178_0 (MS Z d) (Gw Z 4 p e R s m args below meth c (MQ below (QcS Z Rp) args s 0 0 (fun a => Z.2.2.1 < a))) Rp) := by
  unfold w_J7_fill_53178_0
  refine s_iconst (n := 0) C (by decide +kernel) (by decide) ?_
  refine s_istore_n (k := 2) C (by decide +kernel) ?_
  refine s_aload_n (k := 0) C (by decide +kernel) ?_
  refine s_alen C (by decide +kernel) ?_
  refine s_istore_n (k := 3) C (by decide +kernel) ?_
  exact (fun _ _ _ _ _ _ h => h)
set_option maxRecDepth 20000 in
theorem b_J7_fill_53178_5 {Z : Zt} {d : Nat} {p : Program} {e : Env} {R : Room} {s : State} {m : MethodId} {args : Array Value} {below : List Frame} {meth : Method} {c : Code} {Rp : RT} (C : Cx Z d jJ7_fill_53178 RJ7 p R s m args meth c) : Sd Z jJ7_fill_53178 p e R s m args below meth c (MQ below (QcS Z Rp) args s 0 0 (fun a => Z.2.2.1 < a)) 5 (w_J7_fill_53178_5 (MS Z d) (Gw Z 4 p e R s m args below meth c (MQ below (QcS Z Rp) args s 0 0 (fun a => Z.2.2.1 < a))) Rp) := by
  unfold w_J7_fill_53178_5
  refine s_iload_n (k := 2) C (by decide +kernel) ?_
  refine s_iload_n (k := 3) C (by decide +kernel) ?_
  refine s_icmp_ge (off := 13) (tgt := 20) C (by decide +kernel) (by decide) (fun _ _ _ _ _ _ h => h) ?_
  refine s_aload_n (k := 0) C (by decide +kernel) ?_
  refine s_iload_n (k := 2) C (by decide +kernel) ?_
  refine s_iload_n (k := 1) C (by decide +kernel) ?_
  refine s_iast C (by decide +kernel) ?_
  refine s_iinc (n := 1) C (by decide +kernel) (by decide) ?_
  exact s_goto (off := (-12)) (tgt := 5) C (by decide +kernel) (by decide) (fun _ _ _ _ _ _ h => h)
set_option maxRecDepth 20000 in
theorem b_J7_fill_53178_20 {Z : Zt} {d : Nat} {p : Program} {e : Env} {R : Room} {s : State} {m : MethodId} {args : Array Value} {below : List Frame} {meth : Method} {c : Code} {Rp : RT} (C : Cx Z d jJ7_fill_53178 RJ7 p R s m args meth c) : Sd Z jJ7_fill_53178 p e R s m args below meth c (MQ below (QcS Z Rp) args s 0 0 (fun a => Z.2.2.1 < a)) 20 (w_J7_fill_53178_20 (MS Z d) (Gw Z 4 p e R s m args below meth c (MQ below (QcS Z Rp) args s 0 0 (fun a => Z.2.2.1 < a))) Rp) := by
  unfold w_J7_fill_53178_20
  exact s_vret C rfl (by decide +kernel)
theorem ms_J7_fill_53178 {Z : Zt} {d : Nat} {S : Sh} {μ : Mi} {ρ : Mr} {Rp : RT} (a1 : Nat) (x2 : Int32) (h : ∀ G : Nat → PT, (∀ (L st : List Value) (S : Sh) (q : Nat × Nat) (μ : Mi) (ρ : Mr), w_J7_fill_53178_5 (MS Z d) G Rp L st S q μ ρ → G 5 L st S q μ ρ) → (∀ (L st : List Value) (S : Sh) (q : Nat × Nat) (μ : Mi) (ρ : Mr), w_J7_fill_53178_20 (MS Z d) G Rp L st S q μ ρ → G 20 L st S q μ ρ) → w_J7_fill_53178_0 (MS Z d) G Rp [.ref a1, .int x2, .null, .null] [] S (0, 0) μ ρ) : MS Z (d + 1) jJ7_fill_53178 [.ref a1, .int x2] S μ ρ Rp :=
  MS_of [.ref a1, .int x2, .null, .null] (by decide +kernel) rfl rfl (Nat.le_of_ble_eq_true rfl) rfl (fun p e R s m args below meth c C => b_J7_fill_53178_0 C _ _ _ _ _ _ (h _ (b_J7_fill_53178_5 C) (b_J7_fill_53178_20 C)))
def w_X0_of_0 (M : CT) (G : Nat → PT) (Rp : RT) : PT := tIload 3 <| tConst 16 <| tBin (fun x y => x <<< (y &&& 31)) <| tIload 2 <| tConst 11 <| tBin (fun x y => x <<< (y &&& 31)) <| tBin (fun x y => x ||| y) <| tIload 1 <| tConst 8 <| tBin (fun x y => x <<< (y &&& 31)) <| tBin (fun x y => x ||| y) <| tIload 0 <| tBin (fun x y => x ||| y) <| tIret Rp
set_option maxRecDepth 20000 in
theorem b_X0_of_0 {Z : Zt} {d : Nat} {p : Program} {e : Env} {R : Room} {s : State} {m : MethodId} {args : Array Value} {below : List Frame} {meth : Method} {c : Code} {Rp : RT} (C : Cx Z d jX0_of RX0 p R s m args meth c) : Sd Z jX0_of p e R s m args below meth c (MQ below (QcS Z Rp) args s 0 0 (fun a => Z.2.2.1 < a)) 0 (w_X0_of_0 (MS Z d) (Gw Z 4 p e R s m args below meth c (MQ below (QcS Z Rp) args s 0 0 (fun a => Z.2.2.1 < a))) Rp) := by
  unfold w_X0_of_0
  refine s_iload_n (k := 3) C (by decide +kernel) ?_
  refine s_bipush (n := 16) C (by decide +kernel) (by decide) ?_
  refine s_ishl C (by decide +kernel) ?_
  refine s_iload_n (k := 2) C (by decide +kernel) ?_
  refine s_bipush (n := 11) C (by decide +kernel) (by decide) ?_
  refine s_ishl C (by decide +kernel) ?_
  refine s_ior C (by decide +kernel) ?_
  refine s_iload_n (k := 1) C (by decide +kernel) ?_
  refine s_bipush (n := 8) C (by decide +kernel) (by decide) ?_
  refine s_ishl C (by decide +kernel) ?_
  refine s_ior C (by decide +kernel) ?_
  refine s_iload_n (k := 0) C (by decide +kernel) ?_
  refine s_ior C (by decide +kernel) ?_
  exact s_iret C rfl (by decide +kernel)
theorem ms_X0_of {Z : Zt} {d : Nat} {S : Sh} {μ : Mi} {ρ : Mr} {Rp : RT} (x1 : Int32) (x2 : Int32) (x3 : Int32) (x4 : Int32) (h : ∀ G : Nat → PT, w_X0_of_0 (MS Z d) G Rp [.int x1, .int x2, .int x3, .int x4] [] S (0, 0) μ ρ) : MS Z (d + 1) jX0_of [.int x1, .int x2, .int x3, .int x4] S μ ρ Rp :=
  MS_of [.int x1, .int x2, .int x3, .int x4] (by decide +kernel) rfl rfl (Nat.le_of_ble_eq_true rfl) rfl (fun p e R s m args below meth c C => b_X0_of_0 C _ _ _ _ _ _ (h _ ))
def w_X0_termOf_0 (M : CT) (G : Nat → PT) (Rp : RT) : PT := tIload 0 <| tConst 255 <| tBin (fun x y => x &&& y) <| tIret Rp
set_option maxRecDepth 20000 in
theorem b_X0_termOf_0 {Z : Zt} {d : Nat} {p : Program} {e : Env} {R : Room} {s : State} {m : MethodId} {args : Array Value} {below : List Frame} {meth : Method} {c : Code} {Rp : RT} (C : Cx Z d jX0_termOf RX0 p R s m args meth c) : Sd Z jX0_termOf p e R s m args below meth c (MQ below (QcS Z Rp) args s 0 0 (fun a => Z.2.2.1 < a)) 0 (w_X0_termOf_0 (MS Z d) (Gw Z 1 p e R s m args below meth c (MQ below (QcS Z Rp) args s 0 0 (fun a => Z.2.2.1 < a))) Rp) := by
  unfold w_X0_termOf_0
  refine s_iload_n (k := 0) C (by decide +kernel) ?_
  refine s_sipush (n := 255) C (by decide +kernel) (by decide) ?_
  refine s_iand C (by decide +kernel) ?_
  exact s_iret C rfl (by decide +kernel)
theorem ms_X0_termOf {Z : Zt} {d : Nat} {S : Sh} {μ : Mi} {ρ : Mr} {Rp : RT} (x1 : Int32) (h : ∀ G : Nat → PT, w_X0_termOf_0 (MS Z d) G Rp [.int x1] [] S (0, 0) μ ρ) : MS Z (d + 1) jX0_termOf [.int x1] S μ ρ Rp :=
  MS_of [.int x1] (by decide +kernel) rfl rfl (Nat.le_of_ble_eq_true rfl) rfl (fun p e R s m args below meth c C => b_X0_termOf_0 C _ _ _ _ _ _ (h _ ))
def w_X0_kindOf_0 (M : CT) (G : Nat → PT) (Rp : RT) : PT := tIload 0 <| tConst 8 <| tBin (fun x y => x >>> (y &&& 31)) <| tConst 7 <| tBin (fun x y => x &&& y) <| tIret Rp
set_option maxRecDepth 20000 in
theorem b_X0_kindOf_0 {Z : Zt} {d : Nat} {p : Program} {e : Env} {R : Room} {s : State} {m : MethodId} {args : Array Value} {below : List Frame} {meth : Method} {c : Code} {Rp : RT} (C : Cx Z d jX0_kindOf RX0 p R s m args meth c) : Sd Z jX0_kindOf p e R s m args below meth c (MQ below (QcS Z Rp) args s 0 0 (fun a => Z.2.2.1 < a)) 0 (w_X0_kindOf_0 (MS Z d) (Gw Z 1 p e R s m args below meth c (MQ below (QcS Z Rp) args s 0 0 (fun a => Z.2.2.1 < a))) Rp) := by
  unfold w_X0_kindOf_0
  refine s_iload_n (k := 0) C (by decide +kernel) ?_
  refine s_bipush (n := 8) C (by decide +kernel) (by decide) ?_
  refine s_ishr C (by decide +kernel) ?_
  refine s_bipush (n := 7) C (by decide +kernel) (by decide) ?_
  refine s_iand C (by decide +kernel) ?_
  exact s_iret C rfl (by decide +kernel)
theorem ms_X0_kindOf {Z : Zt} {d : Nat} {S : Sh} {μ : Mi} {ρ : Mr} {Rp : RT} (x1 : Int32) (h : ∀ G : Nat → PT, w_X0_kindOf_0 (MS Z d) G Rp [.int x1] [] S (0, 0) μ ρ) : MS Z (d + 1) jX0_kindOf [.int x1] S μ ρ Rp :=
  MS_of [.int x1] (by decide +kernel) rfl rfl (Nat.le_of_ble_eq_true rfl) rfl (fun p e R s m args below meth c C => b_X0_kindOf_0 C _ _ _ _ _ _ (h _ ))
def w_X0_cellOf_0 (M : CT) (G : Nat → PT) (Rp : RT) : PT := tIload 0 <| tConst 11 <| tBin (fun x y => x >>> (y &&& 31)) <| tConst 31 <| tBin (fun x y => x &&& y) <| tIret Rp
set_option maxRecDepth 20000 in
theorem b_X0_cellOf_0 {Z : Zt} {d : Nat} {p : Program} {e : Env} {R : Room} {s : State} {m : MethodId} {args : Array Value} {below : List Frame} {meth : Method} {c : Code} {Rp : RT} (C : Cx Z d jX0_cellOf RX0 p R s m args meth c) : Sd Z jX0_cellOf p e R s m args below meth c (MQ below (QcS Z Rp) args s 0 0 (fun a => Z.2.2.1 < a)) 0 (w_X0_cellOf_0 (MS Z d) (Gw Z 1 p e R s m args below meth c (MQ below (QcS Z Rp) args s 0 0 (fun a => Z.2.2.1 < a))) Rp) := by
  unfold w_X0_cellOf_0
  refine s_iload_n (k := 0) C (by decide +kernel) ?_
  refine s_bipush (n := 11) C (by decide +kernel) (by decide) ?_
  refine s_ishr C (by decide +kernel) ?_
  refine s_bipush (n := 31) C (by decide +kernel) (by decide) ?_
  refine s_iand C (by decide +kernel) ?_
  exact s_iret C rfl (by decide +kernel)
theorem ms_X0_cellOf {Z : Zt} {d : Nat} {S : Sh} {μ : Mi} {ρ : Mr} {Rp : RT} (x1 : Int32) (h : ∀ G : Nat → PT, w_X0_cellOf_0 (MS Z d) G Rp [.int x1] [] S (0, 0) μ ρ) : MS Z (d + 1) jX0_cellOf [.int x1] S μ ρ Rp :=
  MS_of [.int x1] (by decide +kernel) rfl rfl (Nat.le_of_ble_eq_true rfl) rfl (fun p e R s m args below meth c C => b_X0_cellOf_0 C _ _ _ _ _ _ (h _ ))
def w_X0_numberOf_0 (M : CT) (G : Nat → PT) (Rp : RT) : PT := tIload 0 <| tConst 16 <| tBin (fun x y => x >>> (y &&& 31)) <| tIret Rp
set_option maxRecDepth 20000 in
theorem b_X0_numberOf_0 {Z : Zt} {d : Nat} {p : Program} {e : Env} {R : Room} {s : State} {m : MethodId} {args : Array Value} {below : List Frame} {meth : Method} {c : Code} {Rp : RT} (C : Cx Z d jX0_numberOf RX0 p R s m args meth c) : Sd Z jX0_numberOf p e R s m args below meth c (MQ below (QcS Z Rp) args s 0 0 (fun a => Z.2.2.1 < a)) 0 (w_X0_numberOf_0 (MS Z d) (Gw Z 1 p e R s m args below meth c (MQ below (QcS Z Rp) args s 0 0 (fun a => Z.2.2.1 < a))) Rp) := by
  unfold w_X0_numberOf_0
  refine s_iload_n (k := 0) C (by decide +kernel) ?_
  refine s_bipush (n := 16) C (by decide +kernel) (by decide) ?_
  refine s_ishr C (by decide +kernel) ?_
  exact s_iret C rfl (by decide +kernel)
theorem ms_X0_numberOf {Z : Zt} {d : Nat} {S : Sh} {μ : Mi} {ρ : Mr} {Rp : RT} (x1 : Int32) (h : ∀ G : Nat → PT, w_X0_numberOf_0 (MS Z d) G Rp [.int x1] [] S (0, 0) μ ρ) : MS Z (d + 1) jX0_numberOf [.int x1] S μ ρ Rp :=
  MS_of [.int x1] (by decide +kernel) rfl rfl (Nat.le_of_ble_eq_true rfl) rfl (fun p e R s m args below meth c C => b_X0_numberOf_0 C _ _ _ _ _ _ (h _ ))
def w_X0_tellsMembers_0 (M : CT) (G : Nat → PT) (Rp : RT) : PT := tIload 0 <| tConst 8 <| tBin (fun x y => x >>> (y &&& 31)) <| tConst 7 <| tBin (fun x y => x &&& y) <| tConst 3 <| tIf2 (fun x y => x < y) (G 15) <| tConst 1 <| tGoto (G 16)
def w_X0_tellsMembers_15 (M : CT) (G : Nat → PT) (Rp : RT) : PT := tConst 0 <| G 16
def w_X0_tellsMembers_16 (M : CT) (G : Nat → PT) (Rp : RT) : PT := tZret Rp
set_option maxRecDepth 20000 in
theorem b_X0_tellsMembers_0 {Z : Zt} {d : Nat} {p : Program} {e : Env} {R : Room} {s : State} {m : MethodId} {args : Array Value} {below : List Frame} {meth : Method} {c : Code} {Rp : RT} (C : Cx Z d jX0_tellsMembers RX0 p R s m args meth c) : Sd Z jX0_tellsMembers p e R s m args below meth c (MQ below (QcS Z Rp) args s 0 0 (fun a => Z.2.2.1 < a)) 0 (w_X0_tellsMembers_0 (MS Z d) (Gw Z 1 p e R s m args below meth c (MQ below (QcS Z Rp) args s 0 0 (fun a => Z.2.2.1 < a))) Rp) := by
  unfold w_X0_tellsMembers_0
  refine s_iload_n (k := 0) C (by decide +kernel) ?_
  refine s_bipush (n := 8) C (by decide +kernel) (by decide) ?_
  refine s_ishr C (by decide +kernel) ?_
  refine s_bipush (n := 7) C (by decide +kernel) (by decide) ?_
  refine s_iand C (by decide +kernel) ?_
  refine s_iconst (n := 3) C (by decide +kernel) (by decide) ?_
  refine s_icmp_lt (off := 7) (tgt := 15) C (by decide +kernel) (by decide) (fun _ _ _ _ _ _ h => h) ?_
  refine s_iconst (n := 1) C (by decide +kernel) (by decide) ?_
  exact s_goto (off := 4) (tgt := 16) C (by decide +kernel) (by decide) (fun _ _ _ _ _ _ h => h)
set_option maxRecDepth 20000 in
theorem b_X0_tellsMembers_15 {Z : Zt} {d : Nat} {p : Program} {e : Env} {R : Room} {s : State} {m : MethodId} {args : Array Value} {below : List Frame} {meth : Method} {c : Code} {Rp : RT} (C : Cx Z d jX0_tellsMembers RX0 p R s m args meth c) : Sd Z jX0_tellsMembers p e R s m args below meth c (MQ below (QcS Z Rp) args s 0 0 (fun a => Z.2.2.1 < a)) 15 (w_X0_tellsMembers_15 (MS Z d) (Gw Z 1 p e R s m args below meth c (MQ below (QcS Z Rp) args s 0 0 (fun a => Z.2.2.1 < a))) Rp) := by
  unfold w_X0_tellsMembers_15
  refine s_iconst (n := 0) C (by decide +kernel) (by decide) ?_
  exact (fun _ _ _ _ _ _ h => h)
set_option maxRecDepth 20000 in
theorem b_X0_tellsMembers_16 {Z : Zt} {d : Nat} {p : Program} {e : Env} {R : Room} {s : State} {m : MethodId} {args : Array Value} {below : List Frame} {meth : Method} {c : Code} {Rp : RT} (C : Cx Z d jX0_tellsMembers RX0 p R s m args meth c) : Sd Z jX0_tellsMembers p e R s m args below meth c (MQ below (QcS Z Rp) args s 0 0 (fun a => Z.2.2.1 < a)) 16 (w_X0_tellsMembers_16 (MS Z d) (Gw Z 1 p e R s m args below meth c (MQ below (QcS Z Rp) args s 0 0 (fun a => Z.2.2.1 < a))) Rp) := by
  unfold w_X0_tellsMembers_16
  exact s_zret C rfl (by decide +kernel)
theorem ms_X0_tellsMembers {Z : Zt} {d : Nat} {S : Sh} {μ : Mi} {ρ : Mr} {Rp : RT} (x1 : Int32) (h : ∀ G : Nat → PT, (∀ (L st : List Value) (S : Sh) (q : Nat × Nat) (μ : Mi) (ρ : Mr), w_X0_tellsMembers_15 (MS Z d) G Rp L st S q μ ρ → G 15 L st S q μ ρ) → (∀ (L st : List Value) (S : Sh) (q : Nat × Nat) (μ : Mi) (ρ : Mr), w_X0_tellsMembers_16 (MS Z d) G Rp L st S q μ ρ → G 16 L st S q μ ρ) → w_X0_tellsMembers_0 (MS Z d) G Rp [.int x1] [] S (0, 0) μ ρ) : MS Z (d + 1) jX0_tellsMembers [.int x1] S μ ρ Rp :=
  MS_of [.int x1] (by decide +kernel) rfl rfl (Nat.le_of_ble_eq_true rfl) rfl (fun p e R s m args below meth c C => b_X0_tellsMembers_0 C _ _ _ _ _ _ (h _ (b_X0_tellsMembers_15 C) (b_X0_tellsMembers_16 C)))
def w_X0_part_0 (M : CT) (G : Nat → PT) (Rp : RT) : PT := tIload 1 <| tSw [(0, G 32), (1, G 37), (2, G 42), (3, G 47)] (G 52)
def w_X0_part_32 (M : CT) (G : Nat → PT) (Rp : RT) : PT := tIload 0 <| tCallS M jX0_termOf 1 <| tIret Rp
def w_X0_part_37 (M : CT) (G : Nat → PT) (Rp : RT) : PT := tIload 0 <| tCallS M jX0_kindOf 1 <| tIret Rp
def w_X0_part_42 (M : CT) (G : Nat → PT) (Rp : RT) : PT := tIload 0 <| tCallS M jX0_cellOf 1 <| tIret Rp
def w_X0_part_47 (M : CT) (G : Nat → PT) (Rp : RT) : PT := tIload 0 <| tCallS M jX0_numberOf 1 <| tIret Rp
def w_X0_part_52 (M : CT) (G : Nat → PT) (Rp : RT) : PT := tConst (-1000) <| tIret Rp
set_option maxRecDepth 20000 in
theorem b_X0_part_0 {Z : Zt} {d : Nat} {p : Program} {e : Env} {R : Room} {s : State} {m : MethodId} {args : Array Value} {below : List Frame} {meth : Method} {c : Code} {Rp : RT} (C : Cx Z d jX0_part RX0 p R s m args meth c) : Sd Z jX0_part p e R s m args below meth c (MQ below (QcS Z Rp) args s 0 0 (fun a => Z.2.2.1 < a)) 0 (w_X0_part_0 (MS Z d) (Gw Z 2 p e R s m args below meth c (MQ below (QcS Z Rp) args s 0 0 (fun a => Z.2.2.1 < a))) Rp) := by
  unfold w_X0_part_0
  refine s_iload_n (k := 1) C (by decide +kernel) ?_
  refine s_tsw (df := 51) (lo := 0) (hi := 3) (offs := #[31, 36, 41, 46]) (len := 31) (tgt := 52) C (by decide +kernel) (by decide) (fun _ _ _ _ _ _ h => h) (fun i r h => ?_) (fun x h => tsw_out 4 x (fun q hq => ?_))
  · match i, h with
    | 0, h => cases h; dsimp only; exact ⟨by decide, by decide, 31, 32, by rfl, by decide, (fun _ _ _ _ _ _ h => h)⟩
    | 1, h => cases h; dsimp only; exact ⟨by decide, by decide, 36, 37, by rfl, by decide, (fun _ _ _ _ _ _ h => h)⟩
    | 2, h => cases h; dsimp only; exact ⟨by decide, by decide, 41, 42, by rfl, by decide, (fun _ _ _ _ _ _ h => h)⟩
    | 3, h => cases h; dsimp only; exact ⟨by decide, by decide, 46, 47, by rfl, by decide, (fun _ _ _ _ _ _ h => h)⟩
    | q + 4, h => simp at h
  · match q, hq with
    | 0, _ => exact h _ (List.mem_of_getElem? (i := 0) rfl)
    | 1, _ => exact h _ (List.mem_of_getElem? (i := 1) rfl)
    | 2, _ => exact h _ (List.mem_of_getElem? (i := 2) rfl)
    | 3, _ => exact h _ (List.mem_of_getElem? (i := 3) rfl)
    | q + 4, hq => exact absurd hq (by omega)
set_option maxRecDepth 20000 in
theorem b_X0_part_32 {Z : Zt} {d : Nat} {p : Program} {e : Env} {R : Room} {s : State} {m : MethodId} {args : Array Value} {below : List Frame} {meth : Method} {c : Code} {Rp : RT} (C : Cx Z d jX0_part RX0 p R s m args meth c) : Sd Z jX0_part p e R s m args below meth c (MQ below (QcS Z Rp) args s 0 0 (fun a => Z.2.2.1 < a)) 32 (w_X0_part_32 (MS Z d) (Gw Z 2 p e R s m args below meth c (MQ below (QcS Z Rp) args s 0 0 (fun a => Z.2.2.1 < a))) Rp) := by
  unfold w_X0_part_32
  refine s_iload_n (k := 0) C (by decide +kernel) ?_
  refine s_callS C (by decide +kernel) rfl w_5_114 w_3_175 w_1_9 w_3_176 (by decide +kernel) ?_
  exact s_iret C rfl (by decide +kernel)
set_option maxRecDepth 20000 in
theorem b_X0_part_37 {Z : Zt} {d : Nat} {p : Program} {e : Env} {R : Room} {s : State} {m : MethodId} {args : Array Value} {below : List Frame} {meth : Method} {c : Code} {Rp : RT} (C : Cx Z d jX0_part RX0 p R s m args meth c) : Sd Z jX0_part p e R s m args below meth c (MQ below (QcS Z Rp) args s 0 0 (fun a => Z.2.2.1 < a)) 37 (w_X0_part_37 (MS Z d) (Gw Z 2 p e R s m args below meth c (MQ below (QcS Z Rp) args s 0 0 (fun a => Z.2.2.1 < a))) Rp) := by
  unfold w_X0_part_37
  refine s_iload_n (k := 0) C (by decide +kernel) ?_
  refine s_callS C (by decide +kernel) rfl w_5_115 w_3_183 w_1_9 w_3_184 (by decide +kernel) ?_
  exact s_iret C rfl (by decide +kernel)
set_option maxRecDepth 20000 in
theorem b_X0_part_42 {Z : Zt} {d : Nat} {p : Program} {e : Env} {R : Room} {s : State} {m : MethodId} {args : Array Value} {below : List Frame} {meth : Method} {c : Code} {Rp : RT} (C : Cx Z d jX0_part RX0 p R s m args meth c) : Sd Z jX0_part p e R s m args below meth c (MQ below (QcS Z Rp) args s 0 0 (fun a => Z.2.2.1 < a)) 42 (w_X0_part_42 (MS Z d) (Gw Z 2 p e R s m args below meth c (MQ below (QcS Z Rp) args s 0 0 (fun a => Z.2.2.1 < a))) Rp) := by
  unfold w_X0_part_42
  refine s_iload_n (k := 0) C (by decide +kernel) ?_
  refine s_callS C (by decide +kernel) rfl w_5_116 w_2_103 w_1_9 w_2_104 (by decide +kernel) ?_
  exact s_iret C rfl (by decide +kernel)
set_option maxRecDepth 20000 in
theorem b_X0_part_47 {Z : Zt} {d : Nat} {p : Program} {e : Env} {R : Room} {s : State} {m : MethodId} {args : Array Value} {below : List Frame} {meth : Method} {c : Code} {Rp : RT} (C : Cx Z d jX0_part RX0 p R s m args meth c) : Sd Z jX0_part p e R s m args below meth c (MQ below (QcS Z Rp) args s 0 0 (fun a => Z.2.2.1 < a)) 47 (w_X0_part_47 (MS Z d) (Gw Z 2 p e R s m args below meth c (MQ below (QcS Z Rp) args s 0 0 (fun a => Z.2.2.1 < a))) Rp) := by
  unfold w_X0_part_47
  refine s_iload_n (k := 0) C (by decide +kernel) ?_
  refine s_callS C (by decide +kernel) rfl w_5_117 w_2_106 w_1_9 w_2_107 (by decide +kernel) ?_
  exact s_iret C rfl (by decide +kernel)
set_option maxRecDepth 20000 in
theorem b_X0_part_52 {Z : Zt} {d : Nat} {p : Program} {e : Env} {R : Room} {s : State} {m : MethodId} {args : Array Value} {below : List Frame} {meth : Method} {c : Code} {Rp : RT} (C : Cx Z d jX0_part RX0 p R s m args meth c) : Sd Z jX0_part p e R s m args below meth c (MQ below (QcS Z Rp) args s 0 0 (fun a => Z.2.2.1 < a)) 52 (w_X0_part_52 (MS Z d) (Gw Z 2 p e R s m args below meth c (MQ below (QcS Z Rp) args s 0 0 (fun a => Z.2.2.1 < a))) Rp) := by
  unfold w_X0_part_52
  refine s_sipush (n := (-1000)) C (by decide +kernel) (by decide) ?_
  exact s_iret C rfl (by decide +kernel)
theorem ms_X0_part {Z : Zt} {d : Nat} {S : Sh} {μ : Mi} {ρ : Mr} {Rp : RT} (x1 : Int32) (x2 : Int32) (h : ∀ G : Nat → PT, (∀ (L st : List Value) (S : Sh) (q : Nat × Nat) (μ : Mi) (ρ : Mr), w_X0_part_32 (MS Z d) G Rp L st S q μ ρ → G 32 L st S q μ ρ) → (∀ (L st : List Value) (S : Sh) (q : Nat × Nat) (μ : Mi) (ρ : Mr), w_X0_part_37 (MS Z d) G Rp L st S q μ ρ → G 37 L st S q μ ρ) → (∀ (L st : List Value) (S : Sh) (q : Nat × Nat) (μ : Mi) (ρ : Mr), w_X0_part_42 (MS Z d) G Rp L st S q μ ρ → G 42 L st S q μ ρ) → (∀ (L st : List Value) (S : Sh) (q : Nat × Nat) (μ : Mi) (ρ : Mr), w_X0_part_47 (MS Z d) G Rp L st S q μ ρ → G 47 L st S q μ ρ) → (∀ (L st : List Value) (S : Sh) (q : Nat × Nat) (μ : Mi) (ρ : Mr), w_X0_part_52 (MS Z d) G Rp L st S q μ ρ → G 52 L st S q μ ρ) → w_X0_part_0 (MS Z d) G Rp [.int x1, .int x2] [] S (0, 0) μ ρ) : MS Z (d + 1) jX0_part [.int x1, .int x2] S μ ρ Rp :=
  MS_of [.int x1, .int x2] (by decide +kernel) rfl rfl (Nat.le_of_ble_eq_true rfl) rfl (fun p e R s m args below meth c C => b_X0_part_0 C _ _ _ _ _ _ (h _ (b_X0_part_32 C) (b_X0_part_37 C) (b_X0_part_42 C) (b_X0_part_47 C) (b_X0_part_52 C)))
def w_X2_init_0 (M : CT) (G : Nat → PT) (Rp : RT) : PT := tAload 0 <| tObjI <| tAload 0 <| tConst 6 <| tNewa 20 1 6 <| tPutR 2 10 9 <| tVret Rp
set_option maxRecDepth 20000 in
theorem b_X2_init_0 {Z : Zt} {d : Nat} {p : Program} {e : Env} {R : Room} {s : State} {m : MethodId} {args : Array Value} {below : List Frame} {meth : Method} {c : Code} {Rp : RT} (C : Cx Z d jX2_init RX2 p R s m args meth c) : Sd Z jX2_init p e R s m args below meth c (MQ below (QcS Z Rp) args s 1 6 (fun a => Z.2.2.1 < a)) 0 (w_X2_init_0 (MS Z d) (Gw Z 1 p e R s m args below meth c (MQ below (QcS Z Rp) args s 1 6 (fun a => Z.2.2.1 < a))) Rp) := by
  unfold w_X2_init_0
  refine s_aload_n (k := 0) C (by decide +kernel) ?_
  refine s_objI C w_1_50 w_1_28 w_1_29 (by decide +kernel) ?_
  refine s_aload_n (k := 0) C (by decide +kernel) ?_
  refine s_bipush (n := 6) C (by decide +kernel) (by decide) ?_
  refine s_newa (aty := .int) C rfl w_1_117 (fun _ _ h => h) (by decide +kernel) ?_
  refine s_putR C w_1_93 (by decide +kernel) rfl (Or.inr ⟨rfl, rfl, rfl⟩) ?_
  exact s_vret C rfl (by decide +kernel)
theorem ms_X2_init {Z : Zt} {d : Nat} {S : Sh} {μ : Mi} {ρ : Mr} {Rp : RT} (a0 : Nat) (h : ∀ G : Nat → PT, w_X2_init_0 (MS Z d) G Rp [.ref a0] [] S (0, 0) μ ρ) : MS Z (d + 1) jX2_init [.ref a0] S μ ρ Rp :=
  MS_of [.ref a0] (by decide +kernel) rfl rfl (Nat.le_of_ble_eq_true rfl) rfl (fun p e R s m args below meth c C => b_X2_init_0 C _ _ _ _ _ _ (h _ ))
def w_X2_copyFrom_0 (M : CT) (G : Nat → PT) (Rp : RT) : PT := tAload 0 <| tAload 1 <| tGetI 2 10 0 <| tPutI 2 10 0 <| tAload 0 <| tAload 1 <| tGetI 2 10 1 <| tPutI 2 10 1 <| tAload 0 <| tAload 1 <| tGetI 2 10 2 <| tPutI 2 10 2 <| tAload 0 <| tAload 1 <| tGetI 2 10 3 <| tPutI 2 10 3 <| tAload 0 <| tAload 1 <| tGetI 2 10 4 <| tPutI 2 10 4 <| tAload 0 <| tAload 1 <| tGetI 2 10 5 <| tPutI 2 10 5 <| tAload 0 <| tAload 1 <| tGetI 2 10 6 <| tPutI 2 10 6 <| tAload 0 <| tAload 1 <| tGetI 2 10 7 <| tPutI 2 10 7 <| tAload 0 <| tAload 1 <| tGetI 2 10 8 <| tPutI 2 10 8 <| tAload 1 <| tGetR 2 10 9 <| tConst 0 <| tAload 0 <| tGetR 2 10 9 <| tConst 0 <| tConst 6 <| tCopy <| tVret Rp
set_option maxRecDepth 20000 in
theorem b_X2_copyFrom_0 {Z : Zt} {d : Nat} {p : Program} {e : Env} {R : Room} {s : State} {m : MethodId} {args : Array Value} {below : List Frame} {meth : Method} {c : Code} {Rp : RT} (C : Cx Z d jX2_copyFrom RX2 p R s m args meth c) : Sd Z jX2_copyFrom p e R s m args below meth c (MQ below (QcS Z Rp) args s 0 0 (fun a => Z.2.2.1 < a)) 0 (w_X2_copyFrom_0 (MS Z d) (Gw Z 2 p e R s m args below meth c (MQ below (QcS Z Rp) args s 0 0 (fun a => Z.2.2.1 < a))) Rp) := by
  unfold w_X2_copyFrom_0
  refine s_aload_n (k := 0) C (by decide +kernel) ?_
  refine s_aload_n (k := 1) C (by decide +kernel) ?_
  refine s_getI C w_1_51 (by decide +kernel) rfl ?_
  refine s_putI C w_1_51 (by decide +kernel) rfl (Or.inl rfl) ?_
  refine s_aload_n (k := 0) C (by decide +kernel) ?_
  refine s_aload_n (k := 1) C (by decide +kernel) ?_
  refine s_getI C w_1_56 (by decide +kernel) rfl ?_
  refine s_putI C w_1_56 (by decide +kernel) rfl (Or.inl rfl) ?_
  refine s_aload_n (k := 0) C (by decide +kernel) ?_
  refine s_aload_n (k := 1) C (by decide +kernel) ?_
  refine s_getI C w_1_61 (by decide +kernel) rfl ?_
  refine s_putI C w_1_61 (by decide +kernel) rfl (Or.inl rfl) ?_
  refine s_aload_n (k := 0) C (by decide +kernel) ?_
  refine s_aload_n (k := 1) C (by decide +kernel) ?_
  refine s_getI C w_1_66 (by decide +kernel) rfl ?_
  refine s_putI C w_1_66 (by decide +kernel) rfl (Or.inl rfl) ?_
  refine s_aload_n (k := 0) C (by decide +kernel) ?_
  refine s_aload_n (k := 1) C (by decide +kernel) ?_
  refine s_getI C w_1_70 (by decide +kernel) rfl ?_
  refine s_putI C w_1_70 (by decide +kernel) rfl (Or.inl rfl) ?_
  refine s_aload_n (k := 0) C (by decide +kernel) ?_
  refine s_aload_n (k := 1) C (by decide +kernel) ?_
  refine s_getI C w_1_75 (by decide +kernel) rfl ?_
  refine s_putI C w_1_75 (by decide +kernel) rfl (Or.inl rfl) ?_
  refine s_aload_n (k := 0) C (by decide +kernel) ?_
  refine s_aload_n (k := 1) C (by decide +kernel) ?_
  refine s_getI C w_1_80 (by decide +kernel) rfl ?_
  refine s_putI C w_1_80 (by decide +kernel) rfl (Or.inl rfl) ?_
  refine s_aload_n (k := 0) C (by decide +kernel) ?_
  refine s_aload_n (k := 1) C (by decide +kernel) ?_
  refine s_getI C w_1_85 (by decide +kernel) rfl ?_
  refine s_putI C w_1_85 (by decide +kernel) rfl (Or.inl rfl) ?_
  refine s_aload_n (k := 0) C (by decide +kernel) ?_
  refine s_aload_n (k := 1) C (by decide +kernel) ?_
  refine s_getI C w_1_89 (by decide +kernel) rfl ?_
  refine s_putI C w_1_89 (by decide +kernel) rfl (Or.inl rfl) ?_
  refine s_aload_n (k := 1) C (by decide +kernel) ?_
  refine s_getR C w_1_93 (by decide +kernel) rfl ?_
  refine s_iconst (n := 0) C (by decide +kernel) (by decide) ?_
  refine s_aload_n (k := 0) C (by decide +kernel) ?_
  refine s_getR C w_1_93 (by decide +kernel) rfl ?_
  refine s_iconst (n := 0) C (by decide +kernel) (by decide) ?_
  refine s_bipush (n := 6) C (by decide +kernel) (by decide) ?_
  refine s_copy C w_3_64 w_3_46 w_3_45 w_1_14 (by decide +kernel) ?_
  exact s_vret C rfl (by decide +kernel)
theorem ms_X2_copyFrom {Z : Zt} {d : Nat} {S : Sh} {μ : Mi} {ρ : Mr} {Rp : RT} (a0 : Nat) (a1 : Nat) (h : ∀ G : Nat → PT, w_X2_copyFrom_0 (MS Z d) G Rp [.ref a0, .ref a1] [] S (0, 0) μ ρ) : MS Z (d + 1) jX2_copyFrom [.ref a0, .ref a1] S μ ρ Rp :=
  MS_of [.ref a0, .ref a1] (by decide +kernel) rfl rfl (Nat.le_of_ble_eq_true rfl) rfl (fun p e R s m args below meth c C => b_X2_copyFrom_0 C _ _ _ _ _ _ (h _ ))
def w_X5_init_0 (M : CT) (G : Nat → PT) (Rp : RT) : PT := tAload 0 <| tObjI <| tVret Rp
set_option maxRecDepth 20000 in
theorem b_X5_init_0 {Z : Zt} {d : Nat} {p : Program} {e : Env} {R : Room} {s : State} {m : MethodId} {args : Array Value} {below : List Frame} {meth : Method} {c : Code} {Rp : RT} (C : Cx Z d jX5_init RX5 p R s m args meth c) : Sd Z jX5_init p e R s m args below meth c (MQ below (QcS Z Rp) args s 0 0 (fun a => Z.2.2.1 < a)) 0 (w_X5_init_0 (MS Z d) (Gw Z 1 p e R s m args below meth c (MQ below (QcS Z Rp) args s 0 0 (fun a => Z.2.2.1 < a))) Rp) := by
  unfold w_X5_init_0
  refine s_aload_n (k := 0) C (by decide +kernel) ?_
  refine s_objI C w_1_193 w_1_28 w_1_29 (by decide +kernel) ?_
  exact s_vret C rfl (by decide +kernel)
theorem ms_X5_init {Z : Zt} {d : Nat} {S : Sh} {μ : Mi} {ρ : Mr} {Rp : RT} (a0 : Nat) (h : ∀ G : Nat → PT, w_X5_init_0 (MS Z d) G Rp [.ref a0] [] S (0, 0) μ ρ) : MS Z (d + 1) jX5_init [.ref a0] S μ ρ Rp :=
  MS_of [.ref a0] (by decide +kernel) rfl rfl (Nat.le_of_ble_eq_true rfl) rfl (fun p e R s m args below meth c C => b_X5_init_0 C _ _ _ _ _ _ (h _ ))
def w_X5_clear_0 (M : CT) (G : Nat → PT) (Rp : RT) : PT := tAload 0 <| tConst 0 <| tPutI 5 4 0 <| tAload 0 <| tConst 0 <| tPutI 5 4 1 <| tAload 0 <| tConst 0 <| tPutI 5 4 2 <| tAload 0 <| tConst 0 <| tPutI 5 4 3 <| tVret Rp
set_option maxRecDepth 20000 in
theorem b_X5_clear_0 {Z : Zt} {d : Nat} {p : Program} {e : Env} {R : Room} {s : State} {m : MethodId} {args : Array Value} {below : List Frame} {meth : Method} {c : Code} {Rp : RT} (C : Cx Z d jX5_clear RX5 p R s m args meth c) : Sd Z jX5_clear p e R s m args below meth c (MQ below (QcS Z Rp) args s 0 0 (fun a => Z.2.2.1 < a)) 0 (w_X5_clear_0 (MS Z d) (Gw Z 1 p e R s m args below meth c (MQ below (QcS Z Rp) args s 0 0 (fun a => Z.2.2.1 < a))) Rp) := by
  unfold w_X5_clear_0
  refine s_aload_n (k := 0) C (by decide +kernel) ?_
  refine s_iconst (n := 0) C (by decide +kernel) (by decide) ?_
  refine s_putI C w_1_194 (by decide +kernel) rfl (Or.inl rfl) ?_
  refine s_aload_n (k := 0) C (by decide +kernel) ?_
  refine s_iconst (n := 0) C (by decide +kernel) (by decide) ?_
  refine s_putI C w_1_198 (by decide +kernel) rfl (Or.inl rfl) ?_
  refine s_aload_n (k := 0) C (by decide +kernel) ?_
  refine s_iconst (n := 0) C (by decide +kernel) (by decide) ?_
  refine s_putI C w_1_202 (by decide +kernel) rfl (Or.inl rfl) ?_
  refine s_aload_n (k := 0) C (by decide +kernel) ?_
  refine s_iconst (n := 0) C (by decide +kernel) (by decide) ?_
  refine s_putI C w_1_206 (by decide +kernel) rfl (Or.inl rfl) ?_
  exact s_vret C rfl (by decide +kernel)
theorem ms_X5_clear {Z : Zt} {d : Nat} {S : Sh} {μ : Mi} {ρ : Mr} {Rp : RT} (a0 : Nat) (h : ∀ G : Nat → PT, w_X5_clear_0 (MS Z d) G Rp [.ref a0] [] S (0, 0) μ ρ) : MS Z (d + 1) jX5_clear [.ref a0] S μ ρ Rp :=
  MS_of [.ref a0] (by decide +kernel) rfl rfl (Nat.le_of_ble_eq_true rfl) rfl (fun p e R s m args below meth c C => b_X5_clear_0 C _ _ _ _ _ _ (h _ ))
def w_X5_copyFrom_0 (M : CT) (G : Nat → PT) (Rp : RT) : PT := tAload 0 <| tAload 1 <| tGetI 5 4 0 <| tPutI 5 4 0 <| tAload 0 <| tAload 1 <| tGetI 5 4 1 <| tPutI 5 4 1 <| tAload 0 <| tAload 1 <| tGetI 5 4 2 <| tPutI 5 4 2 <| tAload 0 <| tAload 1 <| tGetI 5 4 3 <| tPutI 5 4 3 <| tVret Rp
set_option maxRecDepth 20000 in
theorem b_X5_copyFrom_0 {Z : Zt} {d : Nat} {p : Program} {e : Env} {R : Room} {s : State} {m : MethodId} {args : Array Value} {below : List Frame} {meth : Method} {c : Code} {Rp : RT} (C : Cx Z d jX5_copyFrom RX5 p R s m args meth c) : Sd Z jX5_copyFrom p e R s m args below meth c (MQ below (QcS Z Rp) args s 0 0 (fun a => Z.2.2.1 < a)) 0 (w_X5_copyFrom_0 (MS Z d) (Gw Z 2 p e R s m args below meth c (MQ below (QcS Z Rp) args s 0 0 (fun a => Z.2.2.1 < a))) Rp) := by
  unfold w_X5_copyFrom_0
  refine s_aload_n (k := 0) C (by decide +kernel) ?_
  refine s_aload_n (k := 1) C (by decide +kernel) ?_
  refine s_getI C w_1_194 (by decide +kernel) rfl ?_
  refine s_putI C w_1_194 (by decide +kernel) rfl (Or.inl rfl) ?_
  refine s_aload_n (k := 0) C (by decide +kernel) ?_
  refine s_aload_n (k := 1) C (by decide +kernel) ?_
  refine s_getI C w_1_198 (by decide +kernel) rfl ?_
  refine s_putI C w_1_198 (by decide +kernel) rfl (Or.inl rfl) ?_
  refine s_aload_n (k := 0) C (by decide +kernel) ?_
  refine s_aload_n (k := 1) C (by decide +kernel) ?_
  refine s_getI C w_1_202 (by decide +kernel) rfl ?_
  refine s_putI C w_1_202 (by decide +kernel) rfl (Or.inl rfl) ?_
  refine s_aload_n (k := 0) C (by decide +kernel) ?_
  refine s_aload_n (k := 1) C (by decide +kernel) ?_
  refine s_getI C w_1_206 (by decide +kernel) rfl ?_
  refine s_putI C w_1_206 (by decide +kernel) rfl (Or.inl rfl) ?_
  exact s_vret C rfl (by decide +kernel)
theorem ms_X5_copyFrom {Z : Zt} {d : Nat} {S : Sh} {μ : Mi} {ρ : Mr} {Rp : RT} (a0 : Nat) (a1 : Nat) (h : ∀ G : Nat → PT, w_X5_copyFrom_0 (MS Z d) G Rp [.ref a0, .ref a1] [] S (0, 0) μ ρ) : MS Z (d + 1) jX5_copyFrom [.ref a0, .ref a1] S μ ρ Rp :=
  MS_of [.ref a0, .ref a1] (by decide +kernel) rfl rfl (Nat.le_of_ble_eq_true rfl) rfl (fun p e R s m args below meth c C => b_X5_copyFrom_0 C _ _ _ _ _ _ (h _ ))
def w_X6_init_0 (M : CT) (G : Nat → PT) (Rp : RT) : PT := tAload 0 <| tObjI <| tAload 0 <| tConst 4 <| tNewa 20 1 4 <| tPutR 6 5 4 <| tVret Rp
set_option maxRecDepth 20000 in
theorem b_X6_init_0 {Z : Zt} {d : Nat} {p : Program} {e : Env} {R : Room} {s : State} {m : MethodId} {args : Array Value} {below : List Frame} {meth : Method} {c : Code} {Rp : RT} (C : Cx Z d jX6_init RX6 p R s m args meth c) : Sd Z jX6_init p e R s m args below meth c (MQ below (QcS Z Rp) args s 1 4 (fun a => Z.2.2.1 < a)) 0 (w_X6_init_0 (MS Z d) (Gw Z 1 p e R s m args below meth c (MQ below (QcS Z Rp) args s 1 4 (fun a => Z.2.2.1 < a))) Rp) := by
  unfold w_X6_init_0
  refine s_aload_n (k := 0) C (by decide +kernel) ?_
  refine s_objI C w_1_159 w_1_28 w_1_29 (by decide +kernel) ?_
  refine s_aload_n (k := 0) C (by decide +kernel) ?_
  refine s_iconst (n := 4) C (by decide +kernel) (by decide) ?_
  refine s_newa (aty := .int) C rfl w_1_117 (fun _ _ h => h) (by decide +kernel) ?_
  refine s_putR C w_1_174 (by decide +kernel) rfl (Or.inr ⟨rfl, rfl, rfl⟩) ?_
  exact s_vret C rfl (by decide +kernel)
theorem ms_X6_init {Z : Zt} {d : Nat} {S : Sh} {μ : Mi} {ρ : Mr} {Rp : RT} (a0 : Nat) (h : ∀ G : Nat → PT, w_X6_init_0 (MS Z d) G Rp [.ref a0] [] S (0, 0) μ ρ) : MS Z (d + 1) jX6_init [.ref a0] S μ ρ Rp :=
  MS_of [.ref a0] (by decide +kernel) rfl rfl (Nat.le_of_ble_eq_true rfl) rfl (fun p e R s m args below meth c C => b_X6_init_0 C _ _ _ _ _ _ (h _ ))
def w_X6_renew_0 (M : CT) (G : Nat → PT) (Rp : RT) : PT := tAload 0 <| tConst 0 <| tPutI 6 5 0 <| tAload 0 <| tConst 0 <| tPutI 6 5 1 <| tAload 0 <| tIload 1 <| tPutI 6 5 2 <| tAload 0 <| tConst 0 <| tPutI 6 5 3 <| tAload 0 <| tGetR 6 5 4 <| tConst 0 <| tCallS M jJ7_fill_53178 2 <| tVret Rp
set_option maxRecDepth 20000 in
theorem b_X6_renew_0 {Z : Zt} {d : Nat} {p : Program} {e : Env} {R : Room} {s : State} {m : MethodId} {args : Array Value} {below : List Frame} {meth : Method} {c : Code} {Rp : RT} (C : Cx Z d jX6_renew RX6 p R s m args meth c) : Sd Z jX6_renew p e R s m args below meth c (MQ below (QcS Z Rp) args s 0 0 (fun a => Z.2.2.1 < a)) 0 (w_X6_renew_0 (MS Z d) (Gw Z 2 p e R s m args below meth c (MQ below (QcS Z Rp) args s 0 0 (fun a => Z.2.2.1 < a))) Rp) := by
  unfold w_X6_renew_0
  refine s_aload_n (k := 0) C (by decide +kernel) ?_
  refine s_iconst (n := 0) C (by decide +kernel) (by decide) ?_
  refine s_putI C w_1_160 (by decide +kernel) rfl (Or.inl rfl) ?_
  refine s_aload_n (k := 0) C (by decide +kernel) ?_
  refine s_iconst (n := 0) C (by decide +kernel) (by decide) ?_
  refine s_putI C w_1_164 (by decide +kernel) rfl (Or.inl rfl) ?_
  refine s_aload_n (k := 0) C (by decide +kernel) ?_
  refine s_iload_n (k := 1) C (by decide +kernel) ?_
  refine s_putI C w_1_168 (by decide +kernel) rfl (Or.inl rfl) ?_
  refine s_aload_n (k := 0) C (by decide +kernel) ?_
  refine s_iconst (n := 0) C (by decide +kernel) (by decide) ?_
  refine s_putI C w_1_171 (by decide +kernel) rfl (Or.inl rfl) ?_
  refine s_aload_n (k := 0) C (by decide +kernel) ?_
  refine s_getR C w_1_174 (by decide +kernel) rfl ?_
  refine s_iconst (n := 0) C (by decide +kernel) (by decide) ?_
  refine s_callS C (by decide +kernel) rfl w_2_87 w_2_88 w_1_8 w_2_89 (by decide +kernel) ?_
  exact s_vret C rfl (by decide +kernel)
theorem ms_X6_renew {Z : Zt} {d : Nat} {S : Sh} {μ : Mi} {ρ : Mr} {Rp : RT} (a0 : Nat) (x1 : Int32) (h : ∀ G : Nat → PT, w_X6_renew_0 (MS Z d) G Rp [.ref a0, .int x1] [] S (0, 0) μ ρ) : MS Z (d + 1) jX6_renew [.ref a0, .int x1] S μ ρ Rp :=
  MS_of [.ref a0, .int x1] (by decide +kernel) rfl rfl (Nat.le_of_ble_eq_true rfl) rfl (fun p e R s m args below meth c C => b_X6_renew_0 C _ _ _ _ _ _ (h _ ))
def w_X6_copyFrom_0 (M : CT) (G : Nat → PT) (Rp : RT) : PT := tAload 0 <| tAload 1 <| tGetI 6 5 0 <| tPutI 6 5 0 <| tAload 0 <| tAload 1 <| tGetI 6 5 1 <| tPutI 6 5 1 <| tAload 0 <| tAload 1 <| tGetI 6 5 2 <| tPutI 6 5 2 <| tAload 0 <| tAload 1 <| tGetI 6 5 3 <| tPutI 6 5 3 <| tAload 1 <| tGetR 6 5 4 <| tConst 0 <| tAload 0 <| tGetR 6 5 4 <| tConst 0 <| tConst 4 <| tCopy <| tVret Rp
set_option maxRecDepth 20000 in
theorem b_X6_copyFrom_0 {Z : Zt} {d : Nat} {p : Program} {e : Env} {R : Room} {s : State} {m : MethodId} {args : Array Value} {below : List Frame} {meth : Method} {c : Code} {Rp : RT} (C : Cx Z d jX6_copyFrom RX6 p R s m args meth c) : Sd Z jX6_copyFrom p e R s m args below meth c (MQ below (QcS Z Rp) args s 0 0 (fun a => Z.2.2.1 < a)) 0 (w_X6_copyFrom_0 (MS Z d) (Gw Z 2 p e R s m args below meth c (MQ below (QcS Z Rp) args s 0 0 (fun a => Z.2.2.1 < a))) Rp) := by
  unfold w_X6_copyFrom_0
  refine s_aload_n (k := 0) C (by decide +kernel) ?_
  refine s_aload_n (k := 1) C (by decide +kernel) ?_
  refine s_getI C w_1_160 (by decide +kernel) rfl ?_
  refine s_putI C w_1_160 (by decide +kernel) rfl (Or.inl rfl) ?_
  refine s_aload_n (k := 0) C (by decide +kernel) ?_
  refine s_aload_n (k := 1) C (by decide +kernel) ?_
  refine s_getI C w_1_164 (by decide +kernel) rfl ?_
  refine s_putI C w_1_164 (by decide +kernel) rfl (Or.inl rfl) ?_
  refine s_aload_n (k := 0) C (by decide +kernel) ?_
  refine s_aload_n (k := 1) C (by decide +kernel) ?_
  refine s_getI C w_1_168 (by decide +kernel) rfl ?_
  refine s_putI C w_1_168 (by decide +kernel) rfl (Or.inl rfl) ?_
  refine s_aload_n (k := 0) C (by decide +kernel) ?_
  refine s_aload_n (k := 1) C (by decide +kernel) ?_
  refine s_getI C w_1_171 (by decide +kernel) rfl ?_
  refine s_putI C w_1_171 (by decide +kernel) rfl (Or.inl rfl) ?_
  refine s_aload_n (k := 1) C (by decide +kernel) ?_
  refine s_getR C w_1_174 (by decide +kernel) rfl ?_
  refine s_iconst (n := 0) C (by decide +kernel) (by decide) ?_
  refine s_aload_n (k := 0) C (by decide +kernel) ?_
  refine s_getR C w_1_174 (by decide +kernel) rfl ?_
  refine s_iconst (n := 0) C (by decide +kernel) (by decide) ?_
  refine s_iconst (n := 4) C (by decide +kernel) (by decide) ?_
  refine s_copy C w_3_51 w_3_46 w_3_45 w_1_14 (by decide +kernel) ?_
  exact s_vret C rfl (by decide +kernel)
theorem ms_X6_copyFrom {Z : Zt} {d : Nat} {S : Sh} {μ : Mi} {ρ : Mr} {Rp : RT} (a0 : Nat) (a1 : Nat) (h : ∀ G : Nat → PT, w_X6_copyFrom_0 (MS Z d) G Rp [.ref a0, .ref a1] [] S (0, 0) μ ρ) : MS Z (d + 1) jX6_copyFrom [.ref a0, .ref a1] S μ ρ Rp :=
  MS_of [.ref a0, .ref a1] (by decide +kernel) rfl rfl (Nat.le_of_ble_eq_true rfl) rfl (fun p e R s m args below meth c C => b_X6_copyFrom_0 C _ _ _ _ _ _ (h _ ))
def w_X4_init_0 (M : CT) (G : Nat → PT) (Rp : RT) : PT := tAload 0 <| tObjI <| tAload 0 <| tConst 300 <| tNewa 20 7 1506 <| tPutR 4 10 0 <| tAload 0 <| tConst 300 <| tNewa 20 7 1506 <| tPutR 4 10 1 <| tAload 0 <| tConst 300 <| tNewa 20 7 1506 <| tPutR 4 10 2 <| tAload 0 <| tConst 300 <| tNewa 20 7 1506 <| tPutR 4 10 3 <| tAload 0 <| tConst 300 <| tNewa 20 7 1506 <| tPutR 4 10 4 <| tAload 0 <| tConst 3 <| tNewa 20 7 1506 <| tPutR 4 10 5 <| tAload 0 <| tConst 3 <| tNewa 20 7 1506 <| tPutR 4 10 6 <| tAload 0 <| tConst 0 <| tPutI 4 10 7 <| tAload 0 <| tConst 0 <| tPutI 4 10 8 <| tAload 0 <| tConst 0 <| tPutI 4 10 9 <| tVret Rp
set_option maxRecDepth 20000 in
theorem b_X4_init_0 {Z : Zt} {d : Nat} {p : Program} {e : Env} {R : Room} {s : State} {m : MethodId} {args : Array Value} {below : List Frame} {meth : Method} {c : Code} {Rp : RT} (C : Cx Z d jX4_init RX4 p R s m args meth c) : Sd Z jX4_init p e R s m args below meth c (MQ below (QcS Z Rp) args s 7 1506 (fun a => Z.2.2.1 < a)) 0 (w_X4_init_0 (MS Z d) (Gw Z 1 p e R s m args below meth c (MQ below (QcS Z Rp) args s 7 1506 (fun a => Z.2.2.1 < a))) Rp) := by
  unfold w_X4_init_0
  refine s_aload_n (k := 0) C (by decide +kernel) ?_
  refine s_objI C w_2_195 w_1_28 w_1_29 (by decide +kernel) ?_
  refine s_aload_n (k := 0) C (by decide +kernel) ?_
  refine s_sipush (n := 300) C (by decide +kernel) (by decide) ?_
  refine s_newa (aty := .int) C rfl w_1_117 (fun _ _ h => h) (by decide +kernel) ?_
  refine s_putR C w_2_196 (by decide +kernel) rfl (Or.inr ⟨rfl, rfl, rfl⟩) ?_
  refine s_aload_n (k := 0) C (by decide +kernel) ?_
  refine s_sipush (n := 300) C (by decide +kernel) (by decide) ?_
  refine s_newa (aty := .int) C rfl w_1_117 (fun _ _ h => h) (by decide +kernel) ?_
  refine s_putR C w_2_198 (by decide +kernel) rfl (Or.inr ⟨rfl, rfl, rfl⟩) ?_
  refine s_aload_n (k := 0) C (by decide +kernel) ?_
  refine s_sipush (n := 300) C (by decide +kernel) (by decide) ?_
  refine s_newa (aty := .int) C rfl w_1_117 (fun _ _ h => h) (by decide +kernel) ?_
  refine s_putR C w_2_200 (by decide +kernel) rfl (Or.inr ⟨rfl, rfl, rfl⟩) ?_
  refine s_aload_n (k := 0) C (by decide +kernel) ?_
  refine s_sipush (n := 300) C (by decide +kernel) (by decide) ?_
  refine s_newa (aty := .int) C rfl w_1_117 (fun _ _ h => h) (by decide +kernel) ?_
  refine s_putR C w_2_202 (by decide +kernel) rfl (Or.inr ⟨rfl, rfl, rfl⟩) ?_
  refine s_aload_n (k := 0) C (by decide +kernel) ?_
  refine s_sipush (n := 300) C (by decide +kernel) (by decide) ?_
  refine s_newa (aty := .int) C rfl w_1_117 (fun _ _ h => h) (by decide +kernel) ?_
  refine s_putR C w_2_204 (by decide +kernel) rfl (Or.inr ⟨rfl, rfl, rfl⟩) ?_
  refine s_aload_n (k := 0) C (by decide +kernel) ?_
  refine s_iconst (n := 3) C (by decide +kernel) (by decide) ?_
  refine s_newa (aty := .int) C rfl w_1_117 (fun _ _ h => h) (by decide +kernel) ?_
  refine s_putR C w_2_206 (by decide +kernel) rfl (Or.inr ⟨rfl, rfl, rfl⟩) ?_
  refine s_aload_n (k := 0) C (by decide +kernel) ?_
  refine s_iconst (n := 3) C (by decide +kernel) (by decide) ?_
  refine s_newa (aty := .int) C rfl w_1_117 (fun _ _ h => h) (by decide +kernel) ?_
  refine s_putR C w_2_207 (by decide +kernel) rfl (Or.inr ⟨rfl, rfl, rfl⟩) ?_
  refine s_aload_n (k := 0) C (by decide +kernel) ?_
  refine s_iconst (n := 0) C (by decide +kernel) (by decide) ?_
  refine s_putI C w_2_208 (by decide +kernel) rfl (Or.inl rfl) ?_
  refine s_aload_n (k := 0) C (by decide +kernel) ?_
  refine s_iconst (n := 0) C (by decide +kernel) (by decide) ?_
  refine s_putI C w_2_209 (by decide +kernel) rfl (Or.inl rfl) ?_
  refine s_aload_n (k := 0) C (by decide +kernel) ?_
  refine s_iconst (n := 0) C (by decide +kernel) (by decide) ?_
  refine s_putI C w_2_211 (by decide +kernel) rfl (Or.inl rfl) ?_
  exact s_vret C rfl (by decide +kernel)
theorem ms_X4_init {Z : Zt} {d : Nat} {S : Sh} {μ : Mi} {ρ : Mr} {Rp : RT} (a0 : Nat) (h : ∀ G : Nat → PT, w_X4_init_0 (MS Z d) G Rp [.ref a0] [] S (0, 0) μ ρ) : MS Z (d + 1) jX4_init [.ref a0] S μ ρ Rp :=
  MS_of [.ref a0] (by decide +kernel) rfl rfl (Nat.le_of_ble_eq_true rfl) rfl (fun p e R s m args below meth c C => b_X4_init_0 C _ _ _ _ _ _ (h _ ))
def w_X4_clear_0 (M : CT) (G : Nat → PT) (Rp : RT) : PT := tAload 0 <| tConst 0 <| tPutI 4 10 7 <| tAload 0 <| tConst 0 <| tPutI 4 10 8 <| tVret Rp
set_option maxRecDepth 20000 in
theorem b_X4_clear_0 {Z : Zt} {d : Nat} {p : Program} {e : Env} {R : Room} {s : State} {m : MethodId} {args : Array Value} {below : List Frame} {meth : Method} {c : Code} {Rp : RT} (C : Cx Z d jX4_clear RX4 p R s m args meth c) : Sd Z jX4_clear p e R s m args below meth c (MQ below (QcS Z Rp) args s 0 0 (fun a => Z.2.2.1 < a)) 0 (w_X4_clear_0 (MS Z d) (Gw Z 1 p e R s m args below meth c (MQ below (QcS Z Rp) args s 0 0 (fun a => Z.2.2.1 < a))) Rp) := by
  unfold w_X4_clear_0
  refine s_aload_n (k := 0) C (by decide +kernel) ?_
  refine s_iconst (n := 0) C (by decide +kernel) (by decide) ?_
  refine s_putI C w_2_208 (by decide +kernel) rfl (Or.inl rfl) ?_
  refine s_aload_n (k := 0) C (by decide +kernel) ?_
  refine s_iconst (n := 0) C (by decide +kernel) (by decide) ?_
  refine s_putI C w_2_209 (by decide +kernel) rfl (Or.inl rfl) ?_
  exact s_vret C rfl (by decide +kernel)
theorem ms_X4_clear {Z : Zt} {d : Nat} {S : Sh} {μ : Mi} {ρ : Mr} {Rp : RT} (a0 : Nat) (h : ∀ G : Nat → PT, w_X4_clear_0 (MS Z d) G Rp [.ref a0] [] S (0, 0) μ ρ) : MS Z (d + 1) jX4_clear [.ref a0] S μ ρ Rp :=
  MS_of [.ref a0] (by decide +kernel) rfl rfl (Nat.le_of_ble_eq_true rfl) rfl (fun p e R s m args below meth c C => b_X4_clear_0 C _ _ _ _ _ _ (h _ ))
def w_X4_add_0 (M : CT) (G : Nat → PT) (Rp : RT) : PT := tAload 0 <| tGetI 4 10 7 <| tConst 300 <| tIf2 (fun x y => y ≤ x) (G 50) <| tAload 0 <| tGetR 4 10 0 <| tAload 0 <| tGetI 4 10 7 <| tIload 1 <| tIast <| tAload 0 <| tGetR 4 10 1 <| tAload 0 <| tGetI 4 10 7 <| tIload 2 <| tIast <| tAload 0 <| tGetR 4 10 2 <| tAload 0 <| tGetI 4 10 7 <| tIload 3 <| tIast <| tAload 0 <| tDup <| tGetI 4 10 7 <| tConst 1 <| tBin (fun x y => x + y) <| tPutI 4 10 7 <| G 50
def w_X4_add_50 (M : CT) (G : Nat → PT) (Rp : RT) : PT := tVret Rp
set_option maxRecDepth 20000 in
theorem b_X4_add_0 {Z : Zt} {d : Nat} {p : Program} {e : Env} {R : Room} {s : State} {m : MethodId} {args : Array Value} {below : List Frame} {meth : Method} {c : Code} {Rp : RT} (C : Cx Z d jX4_add RX4 p R s m args meth c) : Sd Z jX4_add p e R s m args below meth c (MQ below (QcS Z Rp) args s 0 0 (fun a => Z.2.2.1 < a)) 0 (w_X4_add_0 (MS Z d) (Gw Z 4 p e R s m args below meth c (MQ below (QcS Z Rp) args s 0 0 (fun a => Z.2.2.1 < a))) Rp) := by
  unfold w_X4_add_0
  refine s_aload_n (k := 0) C (by decide +kernel) ?_
  refine s_getI C w_2_208 (by decide +kernel) rfl ?_
  refine s_sipush (n := 300) C (by decide +kernel) (by decide) ?_
  refine s_icmp_ge (off := 43) (tgt := 50) C (by decide +kernel) (by decide) (fun _ _ _ _ _ _ h => h) ?_
  refine s_aload_n (k := 0) C (by decide +kernel) ?_
  refine s_getR C w_2_196 (by decide +kernel) rfl ?_
  refine s_aload_n (k := 0) C (by decide +kernel) ?_
  refine s_getI C w_2_208 (by decide +kernel) rfl ?_
  refine s_iload_n (k := 1) C (by decide +kernel) ?_
  refine s_iast C (by decide +kernel) ?_
  refine s_aload_n (k := 0) C (by decide +kernel) ?_
  refine s_getR C w_2_198 (by decide +kernel) rfl ?_
  refine s_aload_n (k := 0) C (by decide +kernel) ?_
  refine s_getI C w_2_208 (by decide +kernel) rfl ?_
  refine s_iload_n (k := 2) C (by decide +kernel) ?_
  refine s_iast C (by decide +kernel) ?_
  refine s_aload_n (k := 0) C (by decide +kernel) ?_
  refine s_getR C w_2_200 (by decide +kernel) rfl ?_
  refine s_aload_n (k := 0) C (by decide +kernel) ?_
  refine s_getI C w_2_208 (by decide +kernel) rfl ?_
  refine s_iload_n (k := 3) C (by decide +kernel) ?_
  refine s_iast C (by decide +kernel) ?_
  refine s_aload_n (k := 0) C (by decide +kernel) ?_
  refine s_dup C (by decide +kernel) ?_
  refine s_getI C w_2_208 (by decide +kernel) rfl ?_
  refine s_iconst (n := 1) C (by decide +kernel) (by decide) ?_
  refine s_iadd C (by decide +kernel) ?_
  refine s_putI C w_2_208 (by decide +kernel) rfl (Or.inl rfl) ?_
  exact (fun _ _ _ _ _ _ h => h)
set_option maxRecDepth 20000 in
theorem b_X4_add_50 {Z : Zt} {d : Nat} {p : Program} {e : Env} {R : Room} {s : State} {m : MethodId} {args : Array Value} {below : List Frame} {meth : Method} {c : Code} {Rp : RT} (C : Cx Z d jX4_add RX4 p R s m args meth c) : Sd Z jX4_add p e R s m args below meth c (MQ below (QcS Z Rp) args s 0 0 (fun a => Z.2.2.1 < a)) 50 (w_X4_add_50 (MS Z d) (Gw Z 4 p e R s m args below meth c (MQ below (QcS Z Rp) args s 0 0 (fun a => Z.2.2.1 < a))) Rp) := by
  unfold w_X4_add_50
  exact s_vret C rfl (by decide +kernel)
theorem ms_X4_add {Z : Zt} {d : Nat} {S : Sh} {μ : Mi} {ρ : Mr} {Rp : RT} (a0 : Nat) (x1 : Int32) (x2 : Int32) (x3 : Int32) (h : ∀ G : Nat → PT, (∀ (L st : List Value) (S : Sh) (q : Nat × Nat) (μ : Mi) (ρ : Mr), w_X4_add_50 (MS Z d) G Rp L st S q μ ρ → G 50 L st S q μ ρ) → w_X4_add_0 (MS Z d) G Rp [.ref a0, .int x1, .int x2, .int x3] [] S (0, 0) μ ρ) : MS Z (d + 1) jX4_add [.ref a0, .int x1, .int x2, .int x3] S μ ρ Rp :=
  MS_of [.ref a0, .int x1, .int x2, .int x3] (by decide +kernel) rfl rfl (Nat.le_of_ble_eq_true rfl) rfl (fun p e R s m args below meth c C => b_X4_add_0 C _ _ _ _ _ _ (h _ (b_X4_add_50 C)))
def w_X4_addAct_0 (M : CT) (G : Nat → PT) (Rp : RT) : PT := tAload 0 <| tGetI 4 10 7 <| tConst 300 <| tIf2 (fun x y => y ≤ x) (G 43) <| tAload 0 <| tGetR 4 10 3 <| tAload 0 <| tGetI 4 10 7 <| tAload 3 <| tConst 1 <| tAld 20 <| tIast <| tAload 0 <| tGetR 4 10 4 <| tAload 0 <| tGetI 4 10 7 <| tAload 3 <| tConst 2 <| tAld 20 <| tIast <| tAload 0 <| tIload 1 <| tIload 2 <| tAload 3 <| tConst 0 <| tAld 20 <| tCallV M jX4_add 4 10 3 <| G 43
def w_X4_addAct_43 (M : CT) (G : Nat → PT) (Rp : RT) : PT := tVret Rp
set_option maxRecDepth 20000 in
theorem b_X4_addAct_0 {Z : Zt} {d : Nat} {p : Program} {e : Env} {R : Room} {s : State} {m : MethodId} {args : Array Value} {below : List Frame} {meth : Method} {c : Code} {Rp : RT} (C : Cx Z d jX4_addAct RX4 p R s m args meth c) : Sd Z jX4_addAct p e R s m args below meth c (MQ below (QcS Z Rp) args s 0 0 (fun a => Z.2.2.1 < a)) 0 (w_X4_addAct_0 (MS Z d) (Gw Z 4 p e R s m args below meth c (MQ below (QcS Z Rp) args s 0 0 (fun a => Z.2.2.1 < a))) Rp) := by
  unfold w_X4_addAct_0
  refine s_aload_n (k := 0) C (by decide +kernel) ?_
  refine s_getI C w_2_208 (by decide +kernel) rfl ?_
  refine s_sipush (n := 300) C (by decide +kernel) (by decide) ?_
  refine s_icmp_ge (off := 36) (tgt := 43) C (by decide +kernel) (by decide) (fun _ _ _ _ _ _ h => h) ?_
  refine s_aload_n (k := 0) C (by decide +kernel) ?_
  refine s_getR C w_2_202 (by decide +kernel) rfl ?_
  refine s_aload_n (k := 0) C (by decide +kernel) ?_
  refine s_getI C w_2_208 (by decide +kernel) rfl ?_
  refine s_aload_n (k := 3) C (by decide +kernel) ?_
  refine s_iconst (n := 1) C (by decide +kernel) (by decide) ?_
  refine s_iald C (by decide +kernel) ?_
  refine s_iast C (by decide +kernel) ?_
  refine s_aload_n (k := 0) C (by decide +kernel) ?_
  refine s_getR C w_2_204 (by decide +kernel) rfl ?_
  refine s_aload_n (k := 0) C (by decide +kernel) ?_
  refine s_getI C w_2_208 (by decide +kernel) rfl ?_
  refine s_aload_n (k := 3) C (by decide +kernel) ?_
  refine s_iconst (n := 2) C (by decide +kernel) (by decide) ?_
  refine s_iald C (by decide +kernel) ?_
  refine s_iast C (by decide +kernel) ?_
  refine s_aload_n (k := 0) C (by decide +kernel) ?_
  refine s_iload_n (k := 1) C (by decide +kernel) ?_
  refine s_iload_n (k := 2) C (by decide +kernel) ?_
  refine s_aload_n (k := 3) C (by decide +kernel) ?_
  refine s_iconst (n := 0) C (by decide +kernel) (by decide) ?_
  refine s_iald C (by decide +kernel) ?_
  refine s_callV C rfl rfl (by decide +kernel) rfl w_4_200 w_4_202 w_p2_10 w_1_12 w_4_203 (by decide +kernel) ?_
  exact (fun _ _ _ _ _ _ h => h)
set_option maxRecDepth 20000 in
theorem b_X4_addAct_43 {Z : Zt} {d : Nat} {p : Program} {e : Env} {R : Room} {s : State} {m : MethodId} {args : Array Value} {below : List Frame} {meth : Method} {c : Code} {Rp : RT} (C : Cx Z d jX4_addAct RX4 p R s m args meth c) : Sd Z jX4_addAct p e R s m args below meth c (MQ below (QcS Z Rp) args s 0 0 (fun a => Z.2.2.1 < a)) 43 (w_X4_addAct_43 (MS Z d) (Gw Z 4 p e R s m args below meth c (MQ below (QcS Z Rp) args s 0 0 (fun a => Z.2.2.1 < a))) Rp) := by
  unfold w_X4_addAct_43
  exact s_vret C rfl (by decide +kernel)
theorem ms_X4_addAct {Z : Zt} {d : Nat} {S : Sh} {μ : Mi} {ρ : Mr} {Rp : RT} (a0 : Nat) (x1 : Int32) (x2 : Int32) (a3 : Nat) (h : ∀ G : Nat → PT, (∀ (L st : List Value) (S : Sh) (q : Nat × Nat) (μ : Mi) (ρ : Mr), w_X4_addAct_43 (MS Z d) G Rp L st S q μ ρ → G 43 L st S q μ ρ) → w_X4_addAct_0 (MS Z d) G Rp [.ref a0, .int x1, .int x2, .ref a3] [] S (0, 0) μ ρ) : MS Z (d + 1) jX4_addAct [.ref a0, .int x1, .int x2, .ref a3] S μ ρ Rp :=
  MS_of [.ref a0, .int x1, .int x2, .ref a3] (by decide +kernel) rfl rfl (Nat.le_of_ble_eq_true rfl) rfl (fun p e R s m args below meth c C => b_X4_addAct_0 C _ _ _ _ _ _ (h _ (b_X4_addAct_43 C)))
def w_X4_openLoop_0 (M : CT) (G : Nat → PT) (Rp : RT) : PT := tAload 0 <| tGetI 4 10 8 <| tConst 3 <| tIf2 (fun x y => y ≤ x) (G 39) <| tAload 0 <| tGetR 4 10 5 <| tAload 0 <| tGetI 4 10 8 <| tAload 0 <| tGetI 4 10 7 <| tIast <| tAload 0 <| tDup <| tGetI 4 10 8 <| tConst 1 <| tBin (fun x y => x + y) <| tPutI 4 10 8 <| tAload 0 <| tConst 100 <| tConst (-1) <| tIload 1 <| tCallV M jX4_add 4 10 3 <| G 39
def w_X4_openLoop_39 (M : CT) (G : Nat → PT) (Rp : RT) : PT := tVret Rp
set_option maxRecDepth 20000 in
theorem b_X4_openLoop_0 {Z : Zt} {d : Nat} {p : Program} {e : Env} {R : Room} {s : State} {m : MethodId} {args : Array Value} {below : List Frame} {meth : Method} {c : Code} {Rp : RT} (C : Cx Z d jX4_openLoop RX4 p R s m args meth c) : Sd Z jX4_openLoop p e R s m args below meth c (MQ below (QcS Z Rp) args s 0 0 (fun a => Z.2.2.1 < a)) 0 (w_X4_openLoop_0 (MS Z d) (Gw Z 2 p e R s m args below meth c (MQ below (QcS Z Rp) args s 0 0 (fun a => Z.2.2.1 < a))) Rp) := by
  unfold w_X4_openLoop_0
  refine s_aload_n (k := 0) C (by decide +kernel) ?_
  refine s_getI C w_2_209 (by decide +kernel) rfl ?_
  refine s_iconst (n := 3) C (by decide +kernel) (by decide) ?_
  refine s_icmp_ge (off := 34) (tgt := 39) C (by decide +kernel) (by decide) (fun _ _ _ _ _ _ h => h) ?_
  refine s_aload_n (k := 0) C (by decide +kernel) ?_
  refine s_getR C w_2_206 (by decide +kernel) rfl ?_
  refine s_aload_n (k := 0) C (by decide +kernel) ?_
  refine s_getI C w_2_209 (by decide +kernel) rfl ?_
  refine s_aload_n (k := 0) C (by decide +kernel) ?_
  refine s_getI C w_2_208 (by decide +kernel) rfl ?_
  refine s_iast C (by decide +kernel) ?_
  refine s_aload_n (k := 0) C (by decide +kernel) ?_
  refine s_dup C (by decide +kernel) ?_
  refine s_getI C w_2_209 (by decide +kernel) rfl ?_
  refine s_iconst (n := 1) C (by decide +kernel) (by decide) ?_
  refine s_iadd C (by decide +kernel) ?_
  refine s_putI C w_2_209 (by decide +kernel) rfl (Or.inl rfl) ?_
  refine s_aload_n (k := 0) C (by decide +kernel) ?_
  refine s_bipush (n := 100) C (by decide +kernel) (by decide) ?_
  refine s_iconst (n := (-1)) C (by decide +kernel) (by decide) ?_
  refine s_iload_n (k := 1) C (by decide +kernel) ?_
  refine s_callV C rfl rfl (by decide +kernel) rfl w_4_200 w_4_202 w_p2_10 w_1_12 w_4_203 (by decide +kernel) ?_
  exact (fun _ _ _ _ _ _ h => h)
set_option maxRecDepth 20000 in
theorem b_X4_openLoop_39 {Z : Zt} {d : Nat} {p : Program} {e : Env} {R : Room} {s : State} {m : MethodId} {args : Array Value} {below : List Frame} {meth : Method} {c : Code} {Rp : RT} (C : Cx Z d jX4_openLoop RX4 p R s m args meth c) : Sd Z jX4_openLoop p e R s m args below meth c (MQ below (QcS Z Rp) args s 0 0 (fun a => Z.2.2.1 < a)) 39 (w_X4_openLoop_39 (MS Z d) (Gw Z 2 p e R s m args below meth c (MQ below (QcS Z Rp) args s 0 0 (fun a => Z.2.2.1 < a))) Rp) := by
  unfold w_X4_openLoop_39
  exact s_vret C rfl (by decide +kernel)
theorem ms_X4_openLoop {Z : Zt} {d : Nat} {S : Sh} {μ : Mi} {ρ : Mr} {Rp : RT} (a0 : Nat) (x1 : Int32) (h : ∀ G : Nat → PT, (∀ (L st : List Value) (S : Sh) (q : Nat × Nat) (μ : Mi) (ρ : Mr), w_X4_openLoop_39 (MS Z d) G Rp L st S q μ ρ → G 39 L st S q μ ρ) → w_X4_openLoop_0 (MS Z d) G Rp [.ref a0, .int x1] [] S (0, 0) μ ρ) : MS Z (d + 1) jX4_openLoop [.ref a0, .int x1] S μ ρ Rp :=
  MS_of [.ref a0, .int x1] (by decide +kernel) rfl rfl (Nat.le_of_ble_eq_true rfl) rfl (fun p e R s m args below meth c C => b_X4_openLoop_0 C _ _ _ _ _ _ (h _ (b_X4_openLoop_39 C)))
def w_X4_closeLoop_0 (M : CT) (G : Nat → PT) (Rp : RT) : PT := tAload 0 <| tGetI 4 10 8 <| tIf (fun x => x ≤ 0) (G 64) <| tAload 0 <| tDup <| tGetI 4 10 8 <| tConst 1 <| tBin (fun x y => x - y) <| tPutI 4 10 8 <| tAload 0 <| tGetI 4 10 7 <| tAload 0 <| tGetR 4 10 5 <| tAload 0 <| tGetI 4 10 8 <| tAld 20 <| tConst 1 <| tBin (fun x y => x + y) <| tIf2 (fun x y => x ≠ y) (G 48) <| tAload 0 <| tDup <| tGetI 4 10 7 <| tConst 1 <| tBin (fun x y => x - y) <| tPutI 4 10 7 <| tGoto (G 64)
def w_X4_closeLoop_48 (M : CT) (G : Nat → PT) (Rp : RT) : PT := tAload 0 <| tConst 101 <| tConst (-1) <| tAload 0 <| tGetR 4 10 5 <| tAload 0 <| tGetI 4 10 8 <| tAld 20 <| tCallV M jX4_add 4 10 3 <| G 64
def w_X4_closeLoop_64 (M : CT) (G : Nat → PT) (Rp : RT) : PT := tVret Rp
set_option maxRecDepth 20000 in
theorem b_X4_closeLoop_0 {Z : Zt} {d : Nat} {p : Program} {e : Env} {R : Room} {s : State} {m : MethodId} {args : Array Value} {below : List Frame} {meth : Method} {c : Code} {Rp : RT} (C : Cx Z d jX4_closeLoop RX4 p R s m args meth c) : Sd Z jX4_closeLoop p e R s m args below meth c (MQ below (QcS Z Rp) args s 0 0 (fun a => Z.2.2.1 < a)) 0 (w_X4_closeLoop_0 (MS Z d) (Gw Z 1 p e R s m args below meth c (MQ below (QcS Z Rp) args s 0 0 (fun a => Z.2.2.1 < a))) Rp) := by
  unfold w_X4_closeLoop_0
  refine s_aload_n (k := 0) C (by decide +kernel) ?_
  refine s_getI C w_2_209 (by decide +kernel) rfl ?_
  refine s_if_le (off := 60) (tgt := 64) C (by decide +kernel) (by decide) (fun _ _ _ _ _ _ h => h) ?_
  refine s_aload_n (k := 0) C (by decide +kernel) ?_
  refine s_dup C (by decide +kernel) ?_
  refine s_getI C w_2_209 (by decide +kernel) rfl ?_
  refine s_iconst (n := 1) C (by decide +kernel) (by decide) ?_
  refine s_isub C (by decide +kernel) ?_
  refine s_putI C w_2_209 (by decide +kernel) rfl (Or.inl rfl) ?_
  refine s_aload_n (k := 0) C (by decide +kernel) ?_
  refine s_getI C w_2_208 (by decide +kernel) rfl ?_
  refine s_aload_n (k := 0) C (by decide +kernel) ?_
  refine s_getR C w_2_206 (by decide +kernel) rfl ?_
  refine s_aload_n (k := 0) C (by decide +kernel) ?_
  refine s_getI C w_2_209 (by decide +kernel) rfl ?_
  refine s_iald C (by decide +kernel) ?_
  refine s_iconst (n := 1) C (by decide +kernel) (by decide) ?_
  refine s_iadd C (by decide +kernel) ?_
  refine s_icmp_ne (off := 16) (tgt := 48) C (by decide +kernel) (by decide) (fun _ _ _ _ _ _ h => h) ?_
  refine s_aload_n (k := 0) C (by decide +kernel) ?_
  refine s_dup C (by decide +kernel) ?_
  refine s_getI C w_2_208 (by decide +kernel) rfl ?_
  refine s_iconst (n := 1) C (by decide +kernel) (by decide) ?_
  refine s_isub C (by decide +kernel) ?_
  refine s_putI C w_2_208 (by decide +kernel) rfl (Or.inl rfl) ?_
  exact s_goto (off := 19) (tgt := 64) C (by decide +kernel) (by decide) (fun _ _ _ _ _ _ h => h)
set_option maxRecDepth 20000 in
theorem b_X4_closeLoop_48 {Z : Zt} {d : Nat} {p : Program} {e : Env} {R : Room} {s : State} {m : MethodId} {args : Array Value} {below : List Frame} {meth : Method} {c : Code} {Rp : RT} (C : Cx Z d jX4_closeLoop RX4 p R s m args meth c) : Sd Z jX4_closeLoop p e R s m args below meth c (MQ below (QcS Z Rp) args s 0 0 (fun a => Z.2.2.1 < a)) 48 (w_X4_closeLoop_48 (MS Z d) (Gw Z 1 p e R s m args below meth c (MQ below (QcS Z Rp) args s 0 0 (fun a => Z.2.2.1 < a))) Rp) := by
  unfold w_X4_closeLoop_48
  refine s_aload_n (k := 0) C (by decide +kernel) ?_
  refine s_bipush (n := 101) C (by decide +kernel) (by decide) ?_
  refine s_iconst (n := (-1)) C (by decide +kernel) (by decide) ?_
  refine s_aload_n (k := 0) C (by decide +kernel) ?_
  refine s_getR C w_2_206 (by decide +kernel) rfl ?_
  refine s_aload_n (k := 0) C (by decide +kernel) ?_
  refine s_getI C w_2_209 (by decide +kernel) rfl ?_
  refine s_iald C (by decide +kernel) ?_
  refine s_callV C rfl rfl (by decide +kernel) rfl w_4_200 w_4_202 w_p2_10 w_1_12 w_4_203 (by decide +kernel) ?_
  exact (fun _ _ _ _ _ _ h => h)
set_option maxRecDepth 20000 in
theorem b_X4_closeLoop_64 {Z : Zt} {d : Nat} {p : Program} {e : Env} {R : Room} {s : State} {m : MethodId} {args : Array Value} {below : List Frame} {meth : Method} {c : Code} {Rp : RT} (C : Cx Z d jX4_closeLoop RX4 p R s m args meth c) : Sd Z jX4_closeLoop p e R s m args below meth c (MQ below (QcS Z Rp) args s 0 0 (fun a => Z.2.2.1 < a)) 64 (w_X4_closeLoop_64 (MS Z d) (Gw Z 1 p e R s m args below meth c (MQ below (QcS Z Rp) args s 0 0 (fun a => Z.2.2.1 < a))) Rp) := by
  unfold w_X4_closeLoop_64
  exact s_vret C rfl (by decide +kernel)
theorem ms_X4_closeLoop {Z : Zt} {d : Nat} {S : Sh} {μ : Mi} {ρ : Mr} {Rp : RT} (a0 : Nat) (h : ∀ G : Nat → PT, (∀ (L st : List Value) (S : Sh) (q : Nat × Nat) (μ : Mi) (ρ : Mr), w_X4_closeLoop_48 (MS Z d) G Rp L st S q μ ρ → G 48 L st S q μ ρ) → (∀ (L st : List Value) (S : Sh) (q : Nat × Nat) (μ : Mi) (ρ : Mr), w_X4_closeLoop_64 (MS Z d) G Rp L st S q μ ρ → G 64 L st S q μ ρ) → w_X4_closeLoop_0 (MS Z d) G Rp [.ref a0] [] S (0, 0) μ ρ) : MS Z (d + 1) jX4_closeLoop [.ref a0] S μ ρ Rp :=
  MS_of [.ref a0] (by decide +kernel) rfl rfl (Nat.le_of_ble_eq_true rfl) rfl (fun p e R s m args below meth c C => b_X4_closeLoop_0 C _ _ _ _ _ _ (h _ (b_X4_closeLoop_48 C) (b_X4_closeLoop_64 C)))
def w_X4_rewind_0 (M : CT) (G : Nat → PT) (Rp : RT) : PT := tAload 0 <| tConst (-1) <| tPutI 4 10 9 <| tAload 0 <| tConst 0 <| tPutI 4 10 8 <| tVret Rp
set_option maxRecDepth 20000 in
theorem b_X4_rewind_0 {Z : Zt} {d : Nat} {p : Program} {e : Env} {R : Room} {s : State} {m : MethodId} {args : Array Value} {below : List Frame} {meth : Method} {c : Code} {Rp : RT} (C : Cx Z d jX4_rewind RX4 p R s m args meth c) : Sd Z jX4_rewind p e R s m args below meth c (MQ below (QcS Z Rp) args s 0 0 (fun a => Z.2.2.1 < a)) 0 (w_X4_rewind_0 (MS Z d) (Gw Z 1 p e R s m args below meth c (MQ below (QcS Z Rp) args s 0 0 (fun a => Z.2.2.1 < a))) Rp) := by
  unfold w_X4_rewind_0
  refine s_aload_n (k := 0) C (by decide +kernel) ?_
  refine s_iconst (n := (-1)) C (by decide +kernel) (by decide) ?_
  refine s_putI C w_2_211 (by decide +kernel) rfl (Or.inl rfl) ?_
  refine s_aload_n (k := 0) C (by decide +kernel) ?_
  refine s_iconst (n := 0) C (by decide +kernel) (by decide) ?_
  refine s_putI C w_2_209 (by decide +kernel) rfl (Or.inl rfl) ?_
  exact s_vret C rfl (by decide +kernel)
theorem ms_X4_rewind {Z : Zt} {d : Nat} {S : Sh} {μ : Mi} {ρ : Mr} {Rp : RT} (a0 : Nat) (h : ∀ G : Nat → PT, w_X4_rewind_0 (MS Z d) G Rp [.ref a0] [] S (0, 0) μ ρ) : MS Z (d + 1) jX4_rewind [.ref a0] S μ ρ Rp :=
  MS_of [.ref a0] (by decide +kernel) rfl rfl (Nat.le_of_ble_eq_true rfl) rfl (fun p e R s m args below meth c C => b_X4_rewind_0 C _ _ _ _ _ _ (h _ ))
def w_X4_moveOn_0 (M : CT) (G : Nat → PT) (Rp : RT) : PT := tConst 0 <| tIstore 1 <| G 2
def w_X4_moveOn_2 (M : CT) (G : Nat → PT) (Rp : RT) : PT := tIload 1 <| tConst 300 <| tIf2 (fun x y => y ≤ x) (G 114) <| tAload 0 <| tDup <| tGetI 4 10 9 <| tConst 1 <| tBin (fun x y => x + y) <| tPutI 4 10 9 <| tAload 0 <| tGetI 4 10 9 <| tAload 0 <| tGetI 4 10 7 <| tIf2 (fun x y => x < y) (G 32) <| tConst 0 <| tZret Rp
def w_X4_moveOn_32 (M : CT) (G : Nat → PT) (Rp : RT) : PT := tAload 0 <| tGetR 4 10 0 <| tAload 0 <| tGetI 4 10 9 <| tAld 20 <| tConst 100 <| tIf2 (fun x y => x ≠ y) (G 85) <| tAload 0 <| tGetI 4 10 8 <| tConst 3 <| tIf2 (fun x y => y ≤ x) (G 108) <| tAload 0 <| tGetR 4 10 6 <| tAload 0 <| tGetI 4 10 8 <| tAload 0 <| tGetR 4 10 2 <| tAload 0 <| tGetI 4 10 9 <| tAld 20 <| tIast <| tAload 0 <| tDup <| tGetI 4 10 8 <| tConst 1 <| tBin (fun x y => x + y) <| tPutI 4 10 8 <| tGoto (G 108)
def w_X4_moveOn_85 (M : CT) (G : Nat → PT) (Rp : RT) : PT := tAload 0 <| tGetR 4 10 0 <| tAload 0 <| tGetI 4 10 9 <| tAld 20 <| tConst 101 <| tIf2 (fun x y => x ≠ y) (G 106) <| tAload 0 <| tCallV M jX4_turn 4 10 0 <| tGoto (G 108)
def w_X4_moveOn_106 (M : CT) (G : Nat → PT) (Rp : RT) : PT := tConst 1 <| tZret Rp
def w_X4_moveOn_108 (M : CT) (G : Nat → PT) (Rp : RT) : PT := tIinc 1 1 <| tGoto (G 2)
def w_X4_moveOn_114 (M : CT) (G : Nat → PT) (Rp : RT) : PT := tConst 0 <| tZret Rp
set_option maxRecDepth 20000 in
theorem b_X4_moveOn_0 {Z : Zt} {d : Nat} {p : Program} {e : Env} {R : Room} {s : State} {m : MethodId} {args : Array Value} {below : List Frame} {meth : Method} {c : Code} {Rp : RT} (C : Cx Z d jX4_moveOn RX4 p R s m args meth c) : Sd Z jX4_moveOn p e R s m args below meth c (MQ below (QcS Z Rp) args s 0 0 (fun a => Z.2.2.1 < a)) 0 (w_X4_moveOn_0 (MS Z d) (Gw Z 2 p e R s m args below meth c (MQ below (QcS Z Rp) args s 0 0 (fun a => Z.2.2.1 < a))) Rp) := by
  unfold w_X4_moveOn_0
  refine s_iconst (n := 0) C (by decide +kernel) (by decide) ?_
  refine s_istore_n (k := 1) C (by decide +kernel) ?_
  exact (fun _ _ _ _ _ _ h => h)
set_option maxRecDepth 20000 in
theorem b_X4_moveOn_2 {Z : Zt} {d : Nat} {p : Program} {e : Env} {R : Room} {s : State} {m : MethodId} {args : Array Value} {below : List Frame} {meth : Method} {c : Code} {Rp : RT} (C : Cx Z d jX4_moveOn RX4 p R s m args meth c) : Sd Z jX4_moveOn p e R s m args below meth c (MQ below (QcS Z Rp) args s 0 0 (fun a => Z.2.2.1 < a)) 2 (w_X4_moveOn_2 (MS Z d) (Gw Z 2 p e R s m args below meth c (MQ below (QcS Z Rp) args s 0 0 (fun a => Z.2.2.1 < a))) Rp) := by
  unfold w_X4_moveOn_2
  refine s_iload_n (k := 1) C (by decide +kernel) ?_
  refine s_sipush (n := 300) C (by decide +kernel) (by decide) ?_
  refine s_icmp_ge (off := 108) (tgt := 114) C (by decide +kernel) (by decide) (fun _ _ _ _ _ _ h => h) ?_
  refine s_aload_n (k := 0) C (by decide +kernel) ?_
  refine s_dup C (by decide +kernel) ?_
  refine s_getI C w_2_211 (by decide +kernel) rfl ?_
  refine s_iconst (n := 1) C (by decide +kernel) (by decide) ?_
  refine s_iadd C (by decide +kernel) ?_
  refine s_putI C w_2_211 (by decide +kernel) rfl (Or.inl rfl) ?_
  refine s_aload_n (k := 0) C (by decide +kernel) ?_
  refine s_getI C w_2_211 (by decide +kernel) rfl ?_
  refine s_aload_n (k := 0) C (by decide +kernel) ?_
  refine s_getI C w_2_208 (by decide +kernel) rfl ?_
  refine s_icmp_lt (off := 5) (tgt := 32) C (by decide +kernel) (by decide) (fun _ _ _ _ _ _ h => h) ?_
  refine s_iconst (n := 0) C (by decide +kernel) (by decide) ?_
  exact s_zret C rfl (by decide +kernel)
set_option maxRecDepth 20000 in
theorem b_X4_moveOn_32 {Z : Zt} {d : Nat} {p : Program} {e : Env} {R : Room} {s : State} {m : MethodId} {args : Array Value} {below : List Frame} {meth : Method} {c : Code} {Rp : RT} (C : Cx Z d jX4_moveOn RX4 p R s m args meth c) : Sd Z jX4_moveOn p e R s m args below meth c (MQ below (QcS Z Rp) args s 0 0 (fun a => Z.2.2.1 < a)) 32 (w_X4_moveOn_32 (MS Z d) (Gw Z 2 p e R s m args below meth c (MQ below (QcS Z Rp) args s 0 0 (fun a => Z.2.2.1 < a))) Rp) := by
  unfold w_X4_moveOn_32
  refine s_aload_n (k := 0) C (by decide +kernel) ?_
  refine s_getR C w_2_196 (by decide +kernel) rfl ?_
  refine s_aload_n (k := 0) C (by decide +kernel) ?_
  refine s_getI C w_2_211 (by decide +kernel) rfl ?_
  refine s_iald C (by decide +kernel) ?_
  refine s_bipush (n := 100) C (by decide +kernel) (by decide) ?_
  refine s_icmp_ne (off := 42) (tgt := 85) C (by decide +kernel) (by decide) (fun _ _ _ _ _ _ h => h) ?_
  refine s_aload_n (k := 0) C (by decide +kernel) ?_
  refine s_getI C w_2_209 (by decide +kernel) rfl ?_
  refine s_iconst (n := 3) C (by decide +kernel) (by decide) ?_
  refine s_icmp_ge (off := 57) (tgt := 108) C (by decide +kernel) (by decide) (fun _ _ _ _ _ _ h => h) ?_
  refine s_aload_n (k := 0) C (by decide +kernel) ?_
  refine s_getR C w_2_207 (by decide +kernel) rfl ?_
  refine s_aload_n (k := 0) C (by decide +kernel) ?_
  refine s_getI C w_2_209 (by decide +kernel) rfl ?_
  refine s_aload_n (k := 0) C (by decide +kernel) ?_
  refine s_getR C w_2_200 (by decide +kernel) rfl ?_
  refine s_aload_n (k := 0) C (by decide +kernel) ?_
  refine s_getI C w_2_211 (by decide +kernel) rfl ?_
  refine s_iald C (by decide +kernel) ?_
  refine s_iast C (by decide +kernel) ?_
  refine s_aload_n (k := 0) C (by decide +kernel) ?_
  refine s_dup C (by decide +kernel) ?_
  refine s_getI C w_2_209 (by decide +kernel) rfl ?_
  refine s_iconst (n := 1) C (by decide +kernel) (by decide) ?_
  refine s_iadd C (by decide +kernel) ?_
  refine s_putI C w_2_209 (by decide +kernel) rfl (Or.inl rfl) ?_
  exact s_goto (off := 26) (tgt := 108) C (by decide +kernel) (by decide) (fun _ _ _ _ _ _ h => h)
set_option maxRecDepth 20000 in
theorem b_X4_moveOn_85 {Z : Zt} {d : Nat} {p : Program} {e : Env} {R : Room} {s : State} {m : MethodId} {args : Array Value} {below : List Frame} {meth : Method} {c : Code} {Rp : RT} (C : Cx Z d jX4_moveOn RX4 p R s m args meth c) : Sd Z jX4_moveOn p e R s m args below meth c (MQ below (QcS Z Rp) args s 0 0 (fun a => Z.2.2.1 < a)) 85 (w_X4_moveOn_85 (MS Z d) (Gw Z 2 p e R s m args below meth c (MQ below (QcS Z Rp) args s 0 0 (fun a => Z.2.2.1 < a))) Rp) := by
  unfold w_X4_moveOn_85
  refine s_aload_n (k := 0) C (by decide +kernel) ?_
  refine s_getR C w_2_196 (by decide +kernel) rfl ?_
  refine s_aload_n (k := 0) C (by decide +kernel) ?_
  refine s_getI C w_2_211 (by decide +kernel) rfl ?_
  refine s_iald C (by decide +kernel) ?_
  refine s_bipush (n := 101) C (by decide +kernel) (by decide) ?_
  refine s_icmp_ne (off := 10) (tgt := 106) C (by decide +kernel) (by decide) (fun _ _ _ _ _ _ h => h) ?_
  refine s_aload_n (k := 0) C (by decide +kernel) ?_
  refine s_callV C rfl rfl (by decide +kernel) rfl w_5_55 w_5_57 w_p3_1 w_1_12 w_5_58 (by decide +kernel) ?_
  exact s_goto (off := 5) (tgt := 108) C (by decide +kernel) (by decide) (fun _ _ _ _ _ _ h => h)
set_option maxRecDepth 20000 in
theorem b_X4_moveOn_106 {Z : Zt} {d : Nat} {p : Program} {e : Env} {R : Room} {s : State} {m : MethodId} {args : Array Value} {below : List Frame} {meth : Method} {c : Code} {Rp : RT} (C : Cx Z d jX4_moveOn RX4 p R s m args meth c) : Sd Z jX4_moveOn p e R s m args below meth c (MQ below (QcS Z Rp) args s 0 0 (fun a => Z.2.2.1 < a)) 106 (w_X4_moveOn_106 (MS Z d) (Gw Z 2 p e R s m args below meth c (MQ below (QcS Z Rp) args s 0 0 (fun a => Z.2.2.1 < a))) Rp) := by
  unfold w_X4_moveOn_106
  refine s_iconst (n := 1) C (by decide +kernel) (by decide) ?_
  exact s_zret C rfl (by decide +kernel)
set_option maxRecDepth 20000 in
theorem b_X4_moveOn_108 {Z : Zt} {d : Nat} {p : Program} {e : Env} {R : Room} {s : State} {m : MethodId} {args : Array Value} {below : List Frame} {meth : Method} {c : Code} {Rp : RT} (C : Cx Z d jX4_moveOn RX4 p R s m args meth c) : Sd Z jX4_moveOn p e R s m args below meth c (MQ below (QcS Z Rp) args s 0 0 (fun a => Z.2.2.1 < a)) 108 (w_X4_moveOn_108 (MS Z d) (Gw Z 2 p e R s m args below meth c (MQ below (QcS Z Rp) args s 0 0 (fun a => Z.2.2.1 < a))) Rp) := by
  unfold w_X4_moveOn_108
  refine s_iinc (n := 1) C (by decide +kernel) (by decide) ?_
  exact s_goto (off := (-109)) (tgt := 2) C (by decide +kernel) (by decide) (fun _ _ _ _ _ _ h => h)
set_option maxRecDepth 20000 in
theorem b_X4_moveOn_114 {Z : Zt} {d : Nat} {p : Program} {e : Env} {R : Room} {s : State} {m : MethodId} {args : Array Value} {below : List Frame} {meth : Method} {c : Code} {Rp : RT} (C : Cx Z d jX4_moveOn RX4 p R s m args meth c) : Sd Z jX4_moveOn p e R s m args below meth c (MQ below (QcS Z Rp) args s 0 0 (fun a => Z.2.2.1 < a)) 114 (w_X4_moveOn_114 (MS Z d) (Gw Z 2 p e R s m args below meth c (MQ below (QcS Z Rp) args s 0 0 (fun a => Z.2.2.1 < a))) Rp) := by
  unfold w_X4_moveOn_114
  refine s_iconst (n := 0) C (by decide +kernel) (by decide) ?_
  exact s_zret C rfl (by decide +kernel)
theorem ms_X4_moveOn {Z : Zt} {d : Nat} {S : Sh} {μ : Mi} {ρ : Mr} {Rp : RT} (a0 : Nat) (h : ∀ G : Nat → PT, (∀ (L st : List Value) (S : Sh) (q : Nat × Nat) (μ : Mi) (ρ : Mr), w_X4_moveOn_2 (MS Z d) G Rp L st S q μ ρ → G 2 L st S q μ ρ) → (∀ (L st : List Value) (S : Sh) (q : Nat × Nat) (μ : Mi) (ρ : Mr), w_X4_moveOn_32 (MS Z d) G Rp L st S q μ ρ → G 32 L st S q μ ρ) → (∀ (L st : List Value) (S : Sh) (q : Nat × Nat) (μ : Mi) (ρ : Mr), w_X4_moveOn_85 (MS Z d) G Rp L st S q μ ρ → G 85 L st S q μ ρ) → (∀ (L st : List Value) (S : Sh) (q : Nat × Nat) (μ : Mi) (ρ : Mr), w_X4_moveOn_106 (MS Z d) G Rp L st S q μ ρ → G 106 L st S q μ ρ) → (∀ (L st : List Value) (S : Sh) (q : Nat × Nat) (μ : Mi) (ρ : Mr), w_X4_moveOn_108 (MS Z d) G Rp L st S q μ ρ → G 108 L st S q μ ρ) → (∀ (L st : List Value) (S : Sh) (q : Nat × Nat) (μ : Mi) (ρ : Mr), w_X4_moveOn_114 (MS Z d) G Rp L st S q μ ρ → G 114 L st S q μ ρ) → w_X4_moveOn_0 (MS Z d) G Rp [.ref a0, .null] [] S (0, 0) μ ρ) : MS Z (d + 1) jX4_moveOn [.ref a0] S μ ρ Rp :=
  MS_of [.ref a0, .null] (by decide +kernel) rfl rfl (Nat.le_of_ble_eq_true rfl) rfl (fun p e R s m args below meth c C => b_X4_moveOn_0 C _ _ _ _ _ _ (h _ (b_X4_moveOn_2 C) (b_X4_moveOn_32 C) (b_X4_moveOn_85 C) (b_X4_moveOn_106 C) (b_X4_moveOn_108 C) (b_X4_moveOn_114 C)))
def w_X4_turn_0 (M : CT) (G : Nat → PT) (Rp : RT) : PT := tAload 0 <| tGetI 4 10 8 <| tConst 1 <| tIf2 (fun x y => y ≤ x) (G 9) <| tVret Rp
def w_X4_turn_9 (M : CT) (G : Nat → PT) (Rp : RT) : PT := tAload 0 <| tGetR 4 10 6 <| tAload 0 <| tGetI 4 10 8 <| tConst 1 <| tBin (fun x y => x - y) <| tDup2 <| tAld 20 <| tConst 1 <| tBin (fun x y => x - y) <| tIast <| tAload 0 <| tGetR 4 10 6 <| tAload 0 <| tGetI 4 10 8 <| tConst 1 <| tBin (fun x y => x - y) <| tAld 20 <| tIf (fun x => x ≤ 0) (G 54) <| tAload 0 <| tAload 0 <| tGetR 4 10 2 <| tAload 0 <| tGetI 4 10 9 <| tAld 20 <| tPutI 4 10 9 <| tGoto (G 64)
def w_X4_turn_54 (M : CT) (G : Nat → PT) (Rp : RT) : PT := tAload 0 <| tDup <| tGetI 4 10 8 <| tConst 1 <| tBin (fun x y => x - y) <| tPutI 4 10 8 <| G 64
def w_X4_turn_64 (M : CT) (G : Nat → PT) (Rp : RT) : PT := tVret Rp
set_option maxRecDepth 20000 in
theorem b_X4_turn_0 {Z : Zt} {d : Nat} {p : Program} {e : Env} {R : Room} {s : State} {m : MethodId} {args : Array Value} {below : List Frame} {meth : Method} {c : Code} {Rp : RT} (C : Cx Z d jX4_turn RX4 p R s m args meth c) : Sd Z jX4_turn p e R s m args below meth c (MQ below (QcS Z Rp) args s 0 0 (fun a => Z.2.2.1 < a)) 0 (w_X4_turn_0 (MS Z d) (Gw Z 1 p e R s m args below meth c (MQ below (QcS Z Rp) args s 0 0 (fun a => Z.2.2.1 < a))) Rp) := by
  unfold w_X4_turn_0
  refine s_aload_n (k := 0) C (by decide +kernel) ?_
  refine s_getI C w_2_209 (by decide +kernel) rfl ?_
  refine s_iconst (n := 1) C (by decide +kernel) (by decide) ?_
  refine s_icmp_ge (off := 4) (tgt := 9) C (by decide +kernel) (by decide) (fun _ _ _ _ _ _ h => h) ?_
  exact s_vret C rfl (by decide +kernel)
set_option maxRecDepth 20000 in
theorem b_X4_turn_9 {Z : Zt} {d : Nat} {p : Program} {e : Env} {R : Room} {s : State} {m : MethodId} {args : Array Value} {below : List Frame} {meth : Method} {c : Code} {Rp : RT} (C : Cx Z d jX4_turn RX4 p R s m args meth c) : Sd Z jX4_turn p e R s m args below meth c (MQ below (QcS Z Rp) args s 0 0 (fun a => Z.2.2.1 < a)) 9 (w_X4_turn_9 (MS Z d) (Gw Z 1 p e R s m args below meth c (MQ below (QcS Z Rp) args s 0 0 (fun a => Z.2.2.1 < a))) Rp) := by
  unfold w_X4_turn_9
  refine s_aload_n (k := 0) C (by decide +kernel) ?_
  refine s_getR C w_2_207 (by decide +kernel) rfl ?_
  refine s_aload_n (k := 0) C (by decide +kernel) ?_
  refine s_getI C w_2_209 (by decide +kernel) rfl ?_
  refine s_iconst (n := 1) C (by decide +kernel) (by decide) ?_
  refine s_isub C (by decide +kernel) ?_
  refine s_dup2 C (by decide +kernel) ?_
  refine s_iald C (by decide +kernel) ?_
  refine s_iconst (n := 1) C (by decide +kernel) (by decide) ?_
  refine s_isub C (by decide +kernel) ?_
  refine s_iast C (by decide +kernel) ?_
  refine s_aload_n (k := 0) C (by decide +kernel) ?_
  refine s_getR C w_2_207 (by decide +kernel) rfl ?_
  refine s_aload_n (k := 0) C (by decide +kernel) ?_
  refine s_getI C w_2_209 (by decide +kernel) rfl ?_
  refine s_iconst (n := 1) C (by decide +kernel) (by decide) ?_
  refine s_isub C (by decide +kernel) ?_
  refine s_iald C (by decide +kernel) ?_
  refine s_if_le (off := 19) (tgt := 54) C (by decide +kernel) (by decide) (fun _ _ _ _ _ _ h => h) ?_
  refine s_aload_n (k := 0) C (by decide +kernel) ?_
  refine s_aload_n (k := 0) C (by decide +kernel) ?_
  refine s_getR C w_2_200 (by decide +kernel) rfl ?_
  refine s_aload_n (k := 0) C (by decide +kernel) ?_
  refine s_getI C w_2_211 (by decide +kernel) rfl ?_
  refine s_iald C (by decide +kernel) ?_
  refine s_putI C w_2_211 (by decide +kernel) rfl (Or.inl rfl) ?_
  exact s_goto (off := 13) (tgt := 64) C (by decide +kernel) (by decide) (fun _ _ _ _ _ _ h => h)
set_option maxRecDepth 20000 in
theorem b_X4_turn_54 {Z : Zt} {d : Nat} {p : Program} {e : Env} {R : Room} {s : State} {m : MethodId} {args : Array Value} {below : List Frame} {meth : Method} {c : Code} {Rp : RT} (C : Cx Z d jX4_turn RX4 p R s m args meth c) : Sd Z jX4_turn p e R s m args below meth c (MQ below (QcS Z Rp) args s 0 0 (fun a => Z.2.2.1 < a)) 54 (w_X4_turn_54 (MS Z d) (Gw Z 1 p e R s m args below meth c (MQ below (QcS Z Rp) args s 0 0 (fun a => Z.2.2.1 < a))) Rp) := by
  unfold w_X4_turn_54
  refine s_aload_n (k := 0) C (by decide +kernel) ?_
  refine s_dup C (by decide +kernel) ?_
  refine s_getI C w_2_209 (by decide +kernel) rfl ?_
  refine s_iconst (n := 1) C (by decide +kernel) (by decide) ?_
  refine s_isub C (by decide +kernel) ?_
  refine s_putI C w_2_209 (by decide +kernel) rfl (Or.inl rfl) ?_
  exact (fun _ _ _ _ _ _ h => h)
set_option maxRecDepth 20000 in
theorem b_X4_turn_64 {Z : Zt} {d : Nat} {p : Program} {e : Env} {R : Room} {s : State} {m : MethodId} {args : Array Value} {below : List Frame} {meth : Method} {c : Code} {Rp : RT} (C : Cx Z d jX4_turn RX4 p R s m args meth c) : Sd Z jX4_turn p e R s m args below meth c (MQ below (QcS Z Rp) args s 0 0 (fun a => Z.2.2.1 < a)) 64 (w_X4_turn_64 (MS Z d) (Gw Z 1 p e R s m args below meth c (MQ below (QcS Z Rp) args s 0 0 (fun a => Z.2.2.1 < a))) Rp) := by
  unfold w_X4_turn_64
  exact s_vret C rfl (by decide +kernel)
theorem ms_X4_turn {Z : Zt} {d : Nat} {S : Sh} {μ : Mi} {ρ : Mr} {Rp : RT} (a0 : Nat) (h : ∀ G : Nat → PT, (∀ (L st : List Value) (S : Sh) (q : Nat × Nat) (μ : Mi) (ρ : Mr), w_X4_turn_9 (MS Z d) G Rp L st S q μ ρ → G 9 L st S q μ ρ) → (∀ (L st : List Value) (S : Sh) (q : Nat × Nat) (μ : Mi) (ρ : Mr), w_X4_turn_54 (MS Z d) G Rp L st S q μ ρ → G 54 L st S q μ ρ) → (∀ (L st : List Value) (S : Sh) (q : Nat × Nat) (μ : Mi) (ρ : Mr), w_X4_turn_64 (MS Z d) G Rp L st S q μ ρ → G 64 L st S q μ ρ) → w_X4_turn_0 (MS Z d) G Rp [.ref a0] [] S (0, 0) μ ρ) : MS Z (d + 1) jX4_turn [.ref a0] S μ ρ Rp :=
  MS_of [.ref a0] (by decide +kernel) rfl rfl (Nat.le_of_ble_eq_true rfl) rfl (fun p e R s m args below meth c C => b_X4_turn_0 C _ _ _ _ _ _ (h _ (b_X4_turn_9 C) (b_X4_turn_54 C) (b_X4_turn_64 C)))
def w_X9_init_0 (M : CT) (G : Nat → PT) (Rp : RT) : PT := tAload 0 <| tObjI <| tAload 0 <| tConst 300 <| tNewa 20 2 303 <| tPutR 9 7 0 <| tAload 0 <| tConst 3 <| tNewa 20 2 303 <| tPutR 9 7 1 <| tAload 0 <| tConst 0 <| tPutI 9 7 2 <| tAload 0 <| tConst 0 <| tPutI 9 7 3 <| tAload 0 <| tConst (-1) <| tPutI 9 7 4 <| tAload 0 <| tConst 0 <| tPutI 9 7 5 <| tAload 0 <| tConst 0 <| tPutI 9 7 6 <| tVret Rp
set_option maxRecDepth 20000 in
theorem b_X9_init_0 {Z : Zt} {d : Nat} {p : Program} {e : Env} {R : Room} {s : State} {m : MethodId} {args : Array Value} {below : List Frame} {meth : Method} {c : Code} {Rp : RT} (C : Cx Z d jX9_init RX9 p R s m args meth c) : Sd Z jX9_init p e R s m args below meth c (MQ below (QcS Z Rp) args s 2 303 (fun a => Z.2.2.1 < a)) 0 (w_X9_init_0 (MS Z d) (Gw Z 1 p e R s m args below meth c (MQ below (QcS Z Rp) args s 2 303 (fun a => Z.2.2.1 < a))) Rp) := by
  unfold w_X9_init_0
  refine s_aload_n (k := 0) C (by decide +kernel) ?_
  refine s_objI C w_2_164 w_1_28 w_1_29 (by decide +kernel) ?_
  refine s_aload_n (k := 0) C (by decide +kernel) ?_
  refine s_sipush (n := 300) C (by decide +kernel) (by decide) ?_
  refine s_newa (aty := .int) C rfl w_1_117 (fun _ _ h => h) (by decide +kernel) ?_
  refine s_putR C w_2_165 (by decide +kernel) rfl (Or.inr ⟨rfl, rfl, rfl⟩) ?_
  refine s_aload_n (k := 0) C (by decide +kernel) ?_
  refine s_iconst (n := 3) C (by decide +kernel) (by decide) ?_
  refine s_newa (aty := .int) C rfl w_1_117 (fun _ _ h => h) (by decide +kernel) ?_
  refine s_putR C w_2_166 (by decide +kernel) rfl (Or.inr ⟨rfl, rfl, rfl⟩) ?_
  refine s_aload_n (k := 0) C (by decide +kernel) ?_
  refine s_iconst (n := 0) C (by decide +kernel) (by decide) ?_
  refine s_putI C w_2_167 (by decide +kernel) rfl (Or.inl rfl) ?_
  refine s_aload_n (k := 0) C (by decide +kernel) ?_
  refine s_iconst (n := 0) C (by decide +kernel) (by decide) ?_
  refine s_putI C w_2_169 (by decide +kernel) rfl (Or.inl rfl) ?_
  refine s_aload_n (k := 0) C (by decide +kernel) ?_
  refine s_iconst (n := (-1)) C (by decide +kernel) (by decide) ?_
  refine s_putI C w_2_171 (by decide +kernel) rfl (Or.inl rfl) ?_
  refine s_aload_n (k := 0) C (by decide +kernel) ?_
  refine s_iconst (n := 0) C (by decide +kernel) (by decide) ?_
  refine s_putI C w_2_173 (by decide +kernel) rfl (Or.inl rfl) ?_
  refine s_aload_n (k := 0) C (by decide +kernel) ?_
  refine s_iconst (n := 0) C (by decide +kernel) (by decide) ?_
  refine s_putI C w_2_174 (by decide +kernel) rfl (Or.inl rfl) ?_
  exact s_vret C rfl (by decide +kernel)
theorem ms_X9_init {Z : Zt} {d : Nat} {S : Sh} {μ : Mi} {ρ : Mr} {Rp : RT} (a0 : Nat) (h : ∀ G : Nat → PT, w_X9_init_0 (MS Z d) G Rp [.ref a0] [] S (0, 0) μ ρ) : MS Z (d + 1) jX9_init [.ref a0] S μ ρ Rp :=
  MS_of [.ref a0] (by decide +kernel) rfl rfl (Nat.le_of_ble_eq_true rfl) rfl (fun p e R s m args below meth c C => b_X9_init_0 C _ _ _ _ _ _ (h _ ))
def w_X9_append_0 (M : CT) (G : Nat → PT) (Rp : RT) : PT := tConst 24 <| tIstore 2 <| G 3
def w_X9_append_3 (M : CT) (G : Nat → PT) (Rp : RT) : PT := tIload 2 <| tIf (fun x => x < 0) (G 49) <| tAload 0 <| tGetI 9 7 2 <| tConst 300 <| tIf2 (fun x y => y ≤ x) (G 49) <| tAload 0 <| tGetR 9 7 0 <| tAload 0 <| tGetI 9 7 2 <| tIload 1 <| tIload 2 <| tBin (fun x y => x >>> (y &&& 31)) <| tConst 255 <| tBin (fun x y => x &&& y) <| tIast <| tAload 0 <| tDup <| tGetI 9 7 2 <| tConst 1 <| tBin (fun x y => x + y) <| tPutI 9 7 2 <| tIinc 2 (-8) <| tGoto (G 3)
def w_X9_append_49 (M : CT) (G : Nat → PT) (Rp : RT) : PT := tVret Rp
set_option maxRecDepth 20000 in
theorem b_X9_append_0 {Z : Zt} {d : Nat} {p : Program} {e : Env} {R : Room} {s : State} {m : MethodId} {args : Array Value} {below : List Frame} {meth : Method} {c : Code} {Rp : RT} (C : Cx Z d jX9_append RX9 p R s m args meth c) : Sd Z jX9_append p e R s m args below meth c (MQ below (QcS Z Rp) args s 0 0 (fun a => Z.2.2.1 < a)) 0 (w_X9_append_0 (MS Z d) (Gw Z 3 p e R s m args below meth c (MQ below (QcS Z Rp) args s 0 0 (fun a => Z.2.2.1 < a))) Rp) := by
  unfold w_X9_append_0
  refine s_bipush (n := 24) C (by decide +kernel) (by decide) ?_
  refine s_istore_n (k := 2) C (by decide +kernel) ?_
  exact (fun _ _ _ _ _ _ h => h)
set_option maxRecDepth 20000 in
theorem b_X9_append_3 {Z : Zt} {d : Nat} {p : Program} {e : Env} {R : Room} {s : State} {m : MethodId} {args : Array Value} {below : List Frame} {meth : Method} {c : Code} {Rp : RT} (C : Cx Z d jX9_append RX9 p R s m args meth c) : Sd Z jX9_append p e R s m args below meth c (MQ below (QcS Z Rp) args s 0 0 (fun a => Z.2.2.1 < a)) 3 (w_X9_append_3 (MS Z d) (Gw Z 3 p e R s m args below meth c (MQ below (QcS Z Rp) args s 0 0 (fun a => Z.2.2.1 < a))) Rp) := by
  unfold w_X9_append_3
  refine s_iload_n (k := 2) C (by decide +kernel) ?_
  refine s_if_lt (off := 45) (tgt := 49) C (by decide +kernel) (by decide) (fun _ _ _ _ _ _ h => h) ?_
  refine s_aload_n (k := 0) C (by decide +kernel) ?_
  refine s_getI C w_2_167 (by decide +kernel) rfl ?_
  refine s_sipush (n := 300) C (by decide +kernel) (by decide) ?_
  refine s_icmp_ge (off := 35) (tgt := 49) C (by decide +kernel) (by decide) (fun _ _ _ _ _ _ h => h) ?_
  refine s_aload_n (k := 0) C (by decide +kernel) ?_
  refine s_getR C w_2_165 (by decide +kernel) rfl ?_
  refine s_aload_n (k := 0) C (by decide +kernel) ?_
  refine s_getI C w_2_167 (by decide +kernel) rfl ?_
  refine s_iload_n (k := 1) C (by decide +kernel) ?_
  refine s_iload_n (k := 2) C (by decide +kernel) ?_
  refine s_ishr C (by decide +kernel) ?_
  refine s_sipush (n := 255) C (by decide +kernel) (by decide) ?_
  refine s_iand C (by decide +kernel) ?_
  refine s_iast C (by decide +kernel) ?_
  refine s_aload_n (k := 0) C (by decide +kernel) ?_
  refine s_dup C (by decide +kernel) ?_
  refine s_getI C w_2_167 (by decide +kernel) rfl ?_
  refine s_iconst (n := 1) C (by decide +kernel) (by decide) ?_
  refine s_iadd C (by decide +kernel) ?_
  refine s_putI C w_2_167 (by decide +kernel) rfl (Or.inl rfl) ?_
  refine s_iinc (n := (-8)) C (by decide +kernel) (by decide) ?_
  exact s_goto (off := (-43)) (tgt := 3) C (by decide +kernel) (by decide) (fun _ _ _ _ _ _ h => h)
set_option maxRecDepth 20000 in
theorem b_X9_append_49 {Z : Zt} {d : Nat} {p : Program} {e : Env} {R : Room} {s : State} {m : MethodId} {args : Array Value} {below : List Frame} {meth : Method} {c : Code} {Rp : RT} (C : Cx Z d jX9_append RX9 p R s m args meth c) : Sd Z jX9_append p e R s m args below meth c (MQ below (QcS Z Rp) args s 0 0 (fun a => Z.2.2.1 < a)) 49 (w_X9_append_49 (MS Z d) (Gw Z 3 p e R s m args below meth c (MQ below (QcS Z Rp) args s 0 0 (fun a => Z.2.2.1 < a))) Rp) := by
  unfold w_X9_append_49
  exact s_vret C rfl (by decide +kernel)
theorem ms_X9_append {Z : Zt} {d : Nat} {S : Sh} {μ : Mi} {ρ : Mr} {Rp : RT} (a0 : Nat) (x1 : Int32) (h : ∀ G : Nat → PT, (∀ (L st : List Value) (S : Sh) (q : Nat × Nat) (μ : Mi) (ρ : Mr), w_X9_append_3 (MS Z d) G Rp L st S q μ ρ → G 3 L st S q μ ρ) → (∀ (L st : List Value) (S : Sh) (q : Nat × Nat) (μ : Mi) (ρ : Mr), w_X9_append_49 (MS Z d) G Rp L st S q μ ρ → G 49 L st S q μ ρ) → w_X9_append_0 (MS Z d) G Rp [.ref a0, .int x1, .null] [] S (0, 0) μ ρ) : MS Z (d + 1) jX9_append [.ref a0, .int x1] S μ ρ Rp :=
  MS_of [.ref a0, .int x1, .null] (by decide +kernel) rfl rfl (Nat.le_of_ble_eq_true rfl) rfl (fun p e R s m args below meth c C => b_X9_append_0 C _ _ _ _ _ _ (h _ (b_X9_append_3 C) (b_X9_append_49 C)))
def w_X9_parse_0 (M : CT) (G : Nat → PT) (Rp : RT) : PT := tAload 0 <| tConst 0 <| tPutI 9 7 3 <| tAload 0 <| tConst (-1) <| tPutI 9 7 4 <| tAload 0 <| tIload 1 <| tConst 300 <| tMin <| tPutI 9 7 5 <| tAload 0 <| tConst 0 <| tPutI 9 7 6 <| tAload 2 <| tCallV M jX4_clear 4 10 0 <| tConst 0 <| tIstore 3 <| G 32
def w_X9_parse_32 (M : CT) (G : Nat → PT) (Rp : RT) : PT := tIload 3 <| tConst 300 <| tIf2 (fun x y => y < x) (G 75) <| tAload 0 <| tGetI 9 7 3 <| tIf (fun x => x ≠ 0) (G 75) <| tAload 0 <| tCallV M jX9_skipBlanks 9 7 0 <| tAload 0 <| tGetI 9 7 6 <| tAload 0 <| tGetI 9 7 5 <| tIf2 (fun x y => x < y) (G 64) <| tGoto (G 75)
def w_X9_parse_64 (M : CT) (G : Nat → PT) (Rp : RT) : PT := tAload 0 <| tAload 2 <| tCallV M jX9_parseItem 9 7 1 <| tIinc 3 1 <| tGoto (G 32)
def w_X9_parse_75 (M : CT) (G : Nat → PT) (Rp : RT) : PT := tAload 0 <| tGetI 9 7 3 <| tIf (fun x => x ≠ 0) (G 98) <| tAload 2 <| tGetI 4 10 8 <| tIf (fun x => x ≤ 0) (G 98) <| tAload 0 <| tConst 1 <| tAload 0 <| tGetI 9 7 5 <| tCallV M jX9_fail 9 7 2 <| G 98
def w_X9_parse_98 (M : CT) (G : Nat → PT) (Rp : RT) : PT := tVret Rp
set_option maxRecDepth 20000 in
theorem b_X9_parse_0 {Z : Zt} {d : Nat} {p : Program} {e : Env} {R : Room} {s : State} {m : MethodId} {args : Array Value} {below : List Frame} {meth : Method} {c : Code} {Rp : RT} (C : Cx Z d jX9_parse RX9 p R s m args meth c) : Sd Z jX9_parse p e R s m args below meth c (MQ below (QcS Z Rp) args s 0 0 (fun a => Z.2.2.1 < a)) 0 (w_X9_parse_0 (MS Z d) (Gw Z 4 p e R s m args below meth c (MQ below (QcS Z Rp) args s 0 0 (fun a => Z.2.2.1 < a))) Rp) := by
  unfold w_X9_parse_0
  refine s_aload_n (k := 0) C (by decide +kernel) ?_
  refine s_iconst (n := 0) C (by decide +kernel) (by decide) ?_
  refine s_putI C w_2_169 (by decide +kernel) rfl (Or.inl rfl) ?_
  refine s_aload_n (k := 0) C (by decide +kernel) ?_
  refine s_iconst (n := (-1)) C (by decide +kernel) (by decide) ?_
  refine s_putI C w_2_171 (by decide +kernel) rfl (Or.inl rfl) ?_
  refine s_aload_n (k := 0) C (by decide +kernel) ?_
  refine s_iload_n (k := 1) C (by decide +kernel) ?_
  refine s_sipush (n := 300) C (by decide +kernel) (by decide) ?_
  refine s_min C w_4_179 w_3_84 w_1_16 w_min (by decide +kernel) ?_
  refine s_putI C w_2_173 (by decide +kernel) rfl (Or.inl rfl) ?_
  refine s_aload_n (k := 0) C (by decide +kernel) ?_
  refine s_iconst (n := 0) C (by decide +kernel) (by decide) ?_
  refine s_putI C w_2_174 (by decide +kernel) rfl (Or.inl rfl) ?_
  refine s_aload_n (k := 2) C (by decide +kernel) ?_
  refine s_callV C rfl rfl (by decide +kernel) rfl w_4_180 w_4_181 w_4_182 w_1_12 w_4_183 (by decide +kernel) ?_
  refine s_iconst (n := 0) C (by decide +kernel) (by decide) ?_
  refine s_istore_n (k := 3) C (by decide +kernel) ?_
  exact (fun _ _ _ _ _ _ h => h)
set_option maxRecDepth 20000 in
theorem b_X9_parse_32 {Z : Zt} {d : Nat} {p : Program} {e : Env} {R : Room} {s : State} {m : MethodId} {args : Array Value} {below : List Frame} {meth : Method} {c : Code} {Rp : RT} (C : Cx Z d jX9_parse RX9 p R s m args meth c) : Sd Z jX9_parse p e R s m args below meth c (MQ below (QcS Z Rp) args s 0 0 (fun a => Z.2.2.1 < a)) 32 (w_X9_parse_32 (MS Z d) (Gw Z 4 p e R s m args below meth c (MQ below (QcS Z Rp) args s 0 0 (fun a => Z.2.2.1 < a))) Rp) := by
  unfold w_X9_parse_32
  refine s_iload_n (k := 3) C (by decide +kernel) ?_
  refine s_sipush (n := 300) C (by decide +kernel) (by decide) ?_
  refine s_icmp_gt (off := 39) (tgt := 75) C (by decide +kernel) (by decide) (fun _ _ _ _ _ _ h => h) ?_
  refine s_aload_n (k := 0) C (by decide +kernel) ?_
  refine s_getI C w_2_169 (by decide +kernel) rfl ?_
  refine s_if_ne (off := 32) (tgt := 75) C (by decide +kernel) (by decide) (fun _ _ _ _ _ _ h => h) ?_
  refine s_aload_n (k := 0) C (by decide +kernel) ?_
  refine s_callV C rfl rfl (by decide +kernel) rfl w_4_184 w_4_186 w_p2_7 w_1_11 w_4_187 (by decide +kernel) ?_
  refine s_aload_n (k := 0) C (by decide +kernel) ?_
  refine s_getI C w_2_174 (by decide +kernel) rfl ?_
  refine s_aload_n (k := 0) C (by decide +kernel) ?_
  refine s_getI C w_2_173 (by decide +kernel) rfl ?_
  refine s_icmp_lt (off := 6) (tgt := 64) C (by decide +kernel) (by decide) (fun _ _ _ _ _ _ h => h) ?_
  exact s_goto (off := 14) (tgt := 75) C (by decide +kernel) (by decide) (fun _ _ _ _ _ _ h => h)
set_option maxRecDepth 20000 in
theorem b_X9_parse_64 {Z : Zt} {d : Nat} {p : Program} {e : Env} {R : Room} {s : State} {m : MethodId} {args : Array Value} {below : List Frame} {meth : Method} {c : Code} {Rp : RT} (C : Cx Z d jX9_parse RX9 p R s m args meth c) : Sd Z jX9_parse p e R s m args below meth c (MQ below (QcS Z Rp) args s 0 0 (fun a => Z.2.2.1 < a)) 64 (w_X9_parse_64 (MS Z d) (Gw Z 4 p e R s m args below meth c (MQ below (QcS Z Rp) args s 0 0 (fun a => Z.2.2.1 < a))) Rp) := by
  unfold w_X9_parse_64
  refine s_aload_n (k := 0) C (by decide +kernel) ?_
  refine s_aload_n (k := 2) C (by decide +kernel) ?_
  refine s_callV C rfl rfl (by decide +kernel) rfl w_4_188 w_4_190 w_p2_8 w_1_11 w_4_191 (by decide +kernel) ?_
  refine s_iinc (n := 1) C (by decide +kernel) (by decide) ?_
  exact s_goto (off := (-40)) (tgt := 32) C (by decide +kernel) (by decide) (fun _ _ _ _ _ _ h => h)
set_option maxRecDepth 20000 in
theorem b_X9_parse_75 {Z : Zt} {d : Nat} {p : Program} {e : Env} {R : Room} {s : State} {m : MethodId} {args : Array Value} {below : List Frame} {meth : Method} {c : Code} {Rp : RT} (C : Cx Z d jX9_parse RX9 p R s m args meth c) : Sd Z jX9_parse p e R s m args below meth c (MQ below (QcS Z Rp) args s 0 0 (fun a => Z.2.2.1 < a)) 75 (w_X9_parse_75 (MS Z d) (Gw Z 4 p e R s m args below meth c (MQ below (QcS Z Rp) args s 0 0 (fun a => Z.2.2.1 < a))) Rp) := by
  unfold w_X9_parse_75
  refine s_aload_n (k := 0) C (by decide +kernel) ?_
  refine s_getI C w_2_169 (by decide +kernel) rfl ?_
  refine s_if_ne (off := 19) (tgt := 98) C (by decide +kernel) (by decide) (fun _ _ _ _ _ _ h => h) ?_
  refine s_aload_n (k := 2) C (by decide +kernel) ?_
  refine s_getI C w_2_210 (by decide +kernel) rfl ?_
  refine s_if_le (off := 12) (tgt := 98) C (by decide +kernel) (by decide) (fun _ _ _ _ _ _ h => h) ?_
  refine s_aload_n (k := 0) C (by decide +kernel) ?_
  refine s_iconst (n := 1) C (by decide +kernel) (by decide) ?_
  refine s_aload_n (k := 0) C (by decide +kernel) ?_
  refine s_getI C w_2_173 (by decide +kernel) rfl ?_
  refine s_callV C rfl rfl (by decide +kernel) rfl w_5_21 w_5_23 w_p2_13 w_1_11 w_5_24 (by decide +kernel) ?_
  exact (fun _ _ _ _ _ _ h => h)
set_option maxRecDepth 20000 in
theorem b_X9_parse_98 {Z : Zt} {d : Nat} {p : Program} {e : Env} {R : Room} {s : State} {m : MethodId} {args : Array Value} {below : List Frame} {meth : Method} {c : Code} {Rp : RT} (C : Cx Z d jX9_parse RX9 p R s m args meth c) : Sd Z jX9_parse p e R s m args below meth c (MQ below (QcS Z Rp) args s 0 0 (fun a => Z.2.2.1 < a)) 98 (w_X9_parse_98 (MS Z d) (Gw Z 4 p e R s m args below meth c (MQ below (QcS Z Rp) args s 0 0 (fun a => Z.2.2.1 < a))) Rp) := by
  unfold w_X9_parse_98
  exact s_vret C rfl (by decide +kernel)
theorem ms_X9_parse {Z : Zt} {d : Nat} {S : Sh} {μ : Mi} {ρ : Mr} {Rp : RT} (a0 : Nat) (x1 : Int32) (a2 : Nat) (h : ∀ G : Nat → PT, (∀ (L st : List Value) (S : Sh) (q : Nat × Nat) (μ : Mi) (ρ : Mr), w_X9_parse_32 (MS Z d) G Rp L st S q μ ρ → G 32 L st S q μ ρ) → (∀ (L st : List Value) (S : Sh) (q : Nat × Nat) (μ : Mi) (ρ : Mr), w_X9_parse_64 (MS Z d) G Rp L st S q μ ρ → G 64 L st S q μ ρ) → (∀ (L st : List Value) (S : Sh) (q : Nat × Nat) (μ : Mi) (ρ : Mr), w_X9_parse_75 (MS Z d) G Rp L st S q μ ρ → G 75 L st S q μ ρ) → (∀ (L st : List Value) (S : Sh) (q : Nat × Nat) (μ : Mi) (ρ : Mr), w_X9_parse_98 (MS Z d) G Rp L st S q μ ρ → G 98 L st S q μ ρ) → w_X9_parse_0 (MS Z d) G Rp [.ref a0, .int x1, .ref a2, .null] [] S (0, 0) μ ρ) : MS Z (d + 1) jX9_parse [.ref a0, .int x1, .ref a2] S μ ρ Rp :=
  MS_of [.ref a0, .int x1, .ref a2, .null] (by decide +kernel) rfl rfl (Nat.le_of_ble_eq_true rfl) rfl (fun p e R s m args below meth c C => b_X9_parse_0 C _ _ _ _ _ _ (h _ (b_X9_parse_32 C) (b_X9_parse_64 C) (b_X9_parse_75 C) (b_X9_parse_98 C)))
def w_X9_fail_0 (M : CT) (G : Nat → PT) (Rp : RT) : PT := tAload 0 <| tIload 1 <| tPutI 9 7 3 <| tAload 0 <| tIload 2 <| tPutI 9 7 4 <| tVret Rp
set_option maxRecDepth 20000 in
theorem b_X9_fail_0 {Z : Zt} {d : Nat} {p : Program} {e : Env} {R : Room} {s : State} {m : MethodId} {args : Array Value} {below : List Frame} {meth : Method} {c : Code} {Rp : RT} (C : Cx Z d jX9_fail RX9 p R s m args meth c) : Sd Z jX9_fail p e R s m args below meth c (MQ below (QcS Z Rp) args s 0 0 (fun a => Z.2.2.1 < a)) 0 (w_X9_fail_0 (MS Z d) (Gw Z 3 p e R s m args below meth c (MQ below (QcS Z Rp) args s 0 0 (fun a => Z.2.2.1 < a))) Rp) := by
  unfold w_X9_fail_0
  refine s_aload_n (k := 0) C (by decide +kernel) ?_
  refine s_iload_n (k := 1) C (by decide +kernel) ?_
  refine s_putI C w_2_169 (by decide +kernel) rfl (Or.inl rfl) ?_
  refine s_aload_n (k := 0) C (by decide +kernel) ?_
  refine s_iload_n (k := 2) C (by decide +kernel) ?_
  refine s_putI C w_2_171 (by decide +kernel) rfl (Or.inl rfl) ?_
  exact s_vret C rfl (by decide +kernel)
theorem ms_X9_fail {Z : Zt} {d : Nat} {S : Sh} {μ : Mi} {ρ : Mr} {Rp : RT} (a0 : Nat) (x1 : Int32) (x2 : Int32) (h : ∀ G : Nat → PT, w_X9_fail_0 (MS Z d) G Rp [.ref a0, .int x1, .int x2] [] S (0, 0) μ ρ) : MS Z (d + 1) jX9_fail [.ref a0, .int x1, .int x2] S μ ρ Rp :=
  MS_of [.ref a0, .int x1, .int x2] (by decide +kernel) rfl rfl (Nat.le_of_ble_eq_true rfl) rfl (fun p e R s m args below meth c C => b_X9_fail_0 C _ _ _ _ _ _ (h _ ))
def w_X9_here_0 (M : CT) (G : Nat → PT) (Rp : RT) : PT := tAload 0 <| tGetI 9 7 6 <| tAload 0 <| tGetI 9 7 5 <| tIf2 (fun x y => y ≤ x) (G 23) <| tAload 0 <| tGetR 9 7 0 <| tAload 0 <| tGetI 9 7 6 <| tAld 20 <| tGoto (G 24)
def w_X9_here_23 (M : CT) (G : Nat → PT) (Rp : RT) : PT := tConst (-1) <| G 24
def w_X9_here_24 (M : CT) (G : Nat → PT) (Rp : RT) : PT := tIret Rp
set_option maxRecDepth 20000 in
theorem b_X9_here_0 {Z : Zt} {d : Nat} {p : Program} {e : Env} {R : Room} {s : State} {m : MethodId} {args : Array Value} {below : List Frame} {meth : Method} {c : Code} {Rp : RT} (C : Cx Z d jX9_here RX9 p R s m args meth c) : Sd Z jX9_here p e R s m args below meth c (MQ below (QcS Z Rp) args s 0 0 (fun a => Z.2.2.1 < a)) 0 (w_X9_here_0 (MS Z d) (Gw Z 1 p e R s m args below meth c (MQ below (QcS Z Rp) args s 0 0 (fun a => Z.2.2.1 < a))) Rp) := by
  unfold w_X9_here_0
  refine s_aload_n (k := 0) C (by decide +kernel) ?_
  refine s_getI C w_2_174 (by decide +kernel) rfl ?_
  refine s_aload_n (k := 0) C (by decide +kernel) ?_
  refine s_getI C w_2_173 (by decide +kernel) rfl ?_
  refine s_icmp_ge (off := 15) (tgt := 23) C (by decide +kernel) (by decide) (fun _ _ _ _ _ _ h => h) ?_
  refine s_aload_n (k := 0) C (by decide +kernel) ?_
  refine s_getR C w_2_165 (by decide +kernel) rfl ?_
  refine s_aload_n (k := 0) C (by decide +kernel) ?_
  refine s_getI C w_2_174 (by decide +kernel) rfl ?_
  refine s_iald C (by decide +kernel) ?_
  exact s_goto (off := 4) (tgt := 24) C (by decide +kernel) (by decide) (fun _ _ _ _ _ _ h => h)
set_option maxRecDepth 20000 in
theorem b_X9_here_23 {Z : Zt} {d : Nat} {p : Program} {e : Env} {R : Room} {s : State} {m : MethodId} {args : Array Value} {below : List Frame} {meth : Method} {c : Code} {Rp : RT} (C : Cx Z d jX9_here RX9 p R s m args meth c) : Sd Z jX9_here p e R s m args below meth c (MQ below (QcS Z Rp) args s 0 0 (fun a => Z.2.2.1 < a)) 23 (w_X9_here_23 (MS Z d) (Gw Z 1 p e R s m args below meth c (MQ below (QcS Z Rp) args s 0 0 (fun a => Z.2.2.1 < a))) Rp) := by
  unfold w_X9_here_23
  refine s_iconst (n := (-1)) C (by decide +kernel) (by decide) ?_
  exact (fun _ _ _ _ _ _ h => h)
set_option maxRecDepth 20000 in
theorem b_X9_here_24 {Z : Zt} {d : Nat} {p : Program} {e : Env} {R : Room} {s : State} {m : MethodId} {args : Array Value} {below : List Frame} {meth : Method} {c : Code} {Rp : RT} (C : Cx Z d jX9_here RX9 p R s m args meth c) : Sd Z jX9_here p e R s m args below meth c (MQ below (QcS Z Rp) args s 0 0 (fun a => Z.2.2.1 < a)) 24 (w_X9_here_24 (MS Z d) (Gw Z 1 p e R s m args below meth c (MQ below (QcS Z Rp) args s 0 0 (fun a => Z.2.2.1 < a))) Rp) := by
  unfold w_X9_here_24
  exact s_iret C rfl (by decide +kernel)
theorem ms_X9_here {Z : Zt} {d : Nat} {S : Sh} {μ : Mi} {ρ : Mr} {Rp : RT} (a0 : Nat) (h : ∀ G : Nat → PT, (∀ (L st : List Value) (S : Sh) (q : Nat × Nat) (μ : Mi) (ρ : Mr), w_X9_here_23 (MS Z d) G Rp L st S q μ ρ → G 23 L st S q μ ρ) → (∀ (L st : List Value) (S : Sh) (q : Nat × Nat) (μ : Mi) (ρ : Mr), w_X9_here_24 (MS Z d) G Rp L st S q μ ρ → G 24 L st S q μ ρ) → w_X9_here_0 (MS Z d) G Rp [.ref a0] [] S (0, 0) μ ρ) : MS Z (d + 1) jX9_here [.ref a0] S μ ρ Rp :=
  MS_of [.ref a0] (by decide +kernel) rfl rfl (Nat.le_of_ble_eq_true rfl) rfl (fun p e R s m args below meth c C => b_X9_here_0 C _ _ _ _ _ _ (h _ (b_X9_here_23 C) (b_X9_here_24 C)))
def w_X9_skipBlanks_0 (M : CT) (G : Nat → PT) (Rp : RT) : PT := tAload 0 <| tGetI 9 7 6 <| tAload 0 <| tGetI 9 7 5 <| tIf2 (fun x y => y ≤ x) (G 38) <| tAload 0 <| tGetR 9 7 0 <| tAload 0 <| tGetI 9 7 6 <| tAld 20 <| tConst 32 <| tIf2 (fun x y => x ≠ y) (G 38) <| tAload 0 <| tDup <| tGetI 9 7 6 <| tConst 1 <| tBin (fun x y => x + y) <| tPutI 9 7 6 <| tGoto (G 0)
def w_X9_skipBlanks_38 (M : CT) (G : Nat → PT) (Rp : RT) : PT := tVret Rp
set_option maxRecDepth 20000 in
theorem b_X9_skipBlanks_0 {Z : Zt} {d : Nat} {p : Program} {e : Env} {R : Room} {s : State} {m : MethodId} {args : Array Value} {below : List Frame} {meth : Method} {c : Code} {Rp : RT} (C : Cx Z d jX9_skipBlanks RX9 p R s m args meth c) : Sd Z jX9_skipBlanks p e R s m args below meth c (MQ below (QcS Z Rp) args s 0 0 (fun a => Z.2.2.1 < a)) 0 (w_X9_skipBlanks_0 (MS Z d) (Gw Z 1 p e R s m args below meth c (MQ below (QcS Z Rp) args s 0 0 (fun a => Z.2.2.1 < a))) Rp) := by
  unfold w_X9_skipBlanks_0
  refine s_aload_n (k := 0) C (by decide +kernel) ?_
  refine s_getI C w_2_174 (by decide +kernel) rfl ?_
  refine s_aload_n (k := 0) C (by decide +kernel) ?_
  refine s_getI C w_2_173 (by decide +kernel) rfl ?_
  refine s_icmp_ge (off := 30) (tgt := 38) C (by decide +kernel) (by decide) (fun _ _ _ _ _ _ h => h) ?_
  refine s_aload_n (k := 0) C (by decide +kernel) ?_
  refine s_getR C w_2_165 (by decide +kernel) rfl ?_
  refine s_aload_n (k := 0) C (by decide +kernel) ?_
  refine s_getI C w_2_174 (by decide +kernel) rfl ?_
  refine s_iald C (by decide +kernel) ?_
  refine s_bipush (n := 32) C (by decide +kernel) (by decide) ?_
  refine s_icmp_ne (off := 16) (tgt := 38) C (by decide +kernel) (by decide) (fun _ _ _ _ _ _ h => h) ?_
  refine s_aload_n (k := 0) C (by decide +kernel) ?_
  refine s_dup C (by decide +kernel) ?_
  refine s_getI C w_2_174 (by decide +kernel) rfl ?_
  refine s_iconst (n := 1) C (by decide +kernel) (by decide) ?_
  refine s_iadd C (by decide +kernel) ?_
  refine s_putI C w_2_174 (by decide +kernel) rfl (Or.inl rfl) ?_
  exact s_goto (off := (-35)) (tgt := 0) C (by decide +kernel) (by decide) (fun _ _ _ _ _ _ h => h)
set_option maxRecDepth 20000 in
theorem b_X9_skipBlanks_38 {Z : Zt} {d : Nat} {p : Program} {e : Env} {R : Room} {s : State} {m : MethodId} {args : Array Value} {below : List Frame} {meth : Method} {c : Code} {Rp : RT} (C : Cx Z d jX9_skipBlanks RX9 p R s m args meth c) : Sd Z jX9_skipBlanks p e R s m args below meth c (MQ below (QcS Z Rp) args s 0 0 (fun a => Z.2.2.1 < a)) 38 (w_X9_skipBlanks_38 (MS Z d) (Gw Z 1 p e R s m args below meth c (MQ below (QcS Z Rp) args s 0 0 (fun a => Z.2.2.1 < a))) Rp) := by
  unfold w_X9_skipBlanks_38
  exact s_vret C rfl (by decide +kernel)
theorem ms_X9_skipBlanks {Z : Zt} {d : Nat} {S : Sh} {μ : Mi} {ρ : Mr} {Rp : RT} (a0 : Nat) (h : ∀ G : Nat → PT, (∀ (L st : List Value) (S : Sh) (q : Nat × Nat) (μ : Mi) (ρ : Mr), w_X9_skipBlanks_0 (MS Z d) G Rp L st S q μ ρ → G 0 L st S q μ ρ) → (∀ (L st : List Value) (S : Sh) (q : Nat × Nat) (μ : Mi) (ρ : Mr), w_X9_skipBlanks_38 (MS Z d) G Rp L st S q μ ρ → G 38 L st S q μ ρ) → w_X9_skipBlanks_0 (MS Z d) G Rp [.ref a0] [] S (0, 0) μ ρ) : MS Z (d + 1) jX9_skipBlanks [.ref a0] S μ ρ Rp :=
  MS_of [.ref a0] (by decide +kernel) rfl rfl (Nat.le_of_ble_eq_true rfl) rfl (fun p e R s m args below meth c C => b_X9_skipBlanks_0 C _ _ _ _ _ _ (h _ (b_X9_skipBlanks_0 C) (b_X9_skipBlanks_38 C)))
def w_X9_parseItem_0 (M : CT) (G : Nat → PT) (Rp : RT) : PT := tAload 0 <| tGetI 9 7 6 <| tIstore 2 <| tAload 0 <| tCallV M jX9_here 9 7 0 <| tConst 125 <| tIf2 (fun x y => x ≠ y) (G 36) <| tAload 1 <| tGetI 4 10 8 <| tIf (fun x => x ≤ 0) (G 36) <| tAload 0 <| tDup <| tGetI 9 7 6 <| tConst 1 <| tBin (fun x y => x + y) <| tPutI 9 7 6 <| tAload 1 <| tCallV M jX4_closeLoop 4 10 0 <| tVret Rp
def w_X9_parseItem_36 (M : CT) (G : Nat → PT) (Rp : RT) : PT := tAload 0 <| tCallV M jX9_parseWord 9 7 0 <| tIstore 3 <| tIload 3 <| tConst (-1) <| tIf2 (fun x y => x ≠ y) (G 55) <| tAload 0 <| tConst 1 <| tIload 2 <| tCallV M jX9_fail 9 7 2 <| tGoto (G 76)
def w_X9_parseItem_55 (M : CT) (G : Nat → PT) (Rp : RT) : PT := tIload 3 <| tConst 17 <| tIf2 (fun x y => x ≠ y) (G 69) <| tAload 0 <| tAload 1 <| tCallV M jX9_parseTimes 9 7 1 <| tGoto (G 76)
def w_X9_parseItem_69 (M : CT) (G : Nat → PT) (Rp : RT) : PT := tAload 0 <| tAload 1 <| tIload 3 <| tIload 2 <| tCallV M jX9_parseAct 9 7 3 <| G 76
def w_X9_parseItem_76 (M : CT) (G : Nat → PT) (Rp : RT) : PT := tVret Rp
set_option maxRecDepth 20000 in
theorem b_X9_parseItem_0 {Z : Zt} {d : Nat} {p : Program} {e : Env} {R : Room} {s : State} {m : MethodId} {args : Array Value} {below : List Frame} {meth : Method} {c : Code} {Rp : RT} (C : Cx Z d jX9_parseItem RX9 p R s m args meth c) : Sd Z jX9_parseItem p e R s m args below meth c (MQ below (QcS Z Rp) args s 0 0 (fun a => Z.2.2.1 < a)) 0 (w_X9_parseItem_0 (MS Z d) (Gw Z 4 p e R s m args below meth c (MQ below (QcS Z Rp) args s 0 0 (fun a => Z.2.2.1 < a))) Rp) := by
  unfold w_X9_parseItem_0
  refine s_aload_n (k := 0) C (by decide +kernel) ?_
  refine s_getI C w_2_174 (by decide +kernel) rfl ?_
  refine s_istore_n (k := 2) C (by decide +kernel) ?_
  refine s_aload_n (k := 0) C (by decide +kernel) ?_
  refine s_callV C rfl rfl (by decide +kernel) rfl w_4_192 w_4_194 w_p2_9 w_1_11 w_4_195 (by decide +kernel) ?_
  refine s_bipush (n := 125) C (by decide +kernel) (by decide) ?_
  refine s_icmp_ne (off := 25) (tgt := 36) C (by decide +kernel) (by decide) (fun _ _ _ _ _ _ h => h) ?_
  refine s_aload_n (k := 1) C (by decide +kernel) ?_
  refine s_getI C w_2_210 (by decide +kernel) rfl ?_
  refine s_if_le (off := 18) (tgt := 36) C (by decide +kernel) (by decide) (fun _ _ _ _ _ _ h => h) ?_
  refine s_aload_n (k := 0) C (by decide +kernel) ?_
  refine s_dup C (by decide +kernel) ?_
  refine s_getI C w_2_174 (by decide +kernel) rfl ?_
  refine s_iconst (n := 1) C (by decide +kernel) (by decide) ?_
  refine s_iadd C (by decide +kernel) ?_
  refine s_putI C w_2_174 (by decide +kernel) rfl (Or.inl rfl) ?_
  refine s_aload_n (k := 1) C (by decide +kernel) ?_
  refine s_callV C rfl rfl (by decide +kernel) rfl w_4_196 w_4_197 w_4_198 w_1_12 w_4_199 (by decide +kernel) ?_
  exact s_vret C rfl (by decide +kernel)
set_option maxRecDepth 20000 in
theorem b_X9_parseItem_36 {Z : Zt} {d : Nat} {p : Program} {e : Env} {R : Room} {s : State} {m : MethodId} {args : Array Value} {below : List Frame} {meth : Method} {c : Code} {Rp : RT} (C : Cx Z d jX9_parseItem RX9 p R s m args meth c) : Sd Z jX9_parseItem p e R s m args below meth c (MQ below (QcS Z Rp) args s 0 0 (fun a => Z.2.2.1 < a)) 36 (w_X9_parseItem_36 (MS Z d) (Gw Z 4 p e R s m args below meth c (MQ below (QcS Z Rp) args s 0 0 (fun a => Z.2.2.1 < a))) Rp) := by
  unfold w_X9_parseItem_36
  refine s_aload_n (k := 0) C (by decide +kernel) ?_
  refine s_callV C rfl rfl (by decide +kernel) rfl w_4_204 w_4_206 w_p2_11 w_1_11 w_4_207 (by decide +kernel) ?_
  refine s_istore_n (k := 3) C (by decide +kernel) ?_
  refine s_iload_n (k := 3) C (by decide +kernel) ?_
  refine s_iconst (n := (-1)) C (by decide +kernel) (by decide) ?_
  refine s_icmp_ne (off := 12) (tgt := 55) C (by decide +kernel) (by decide) (fun _ _ _ _ _ _ h => h) ?_
  refine s_aload_n (k := 0) C (by decide +kernel) ?_
  refine s_iconst (n := 1) C (by decide +kernel) (by decide) ?_
  refine s_iload_n (k := 2) C (by decide +kernel) ?_
  refine s_callV C rfl rfl (by decide +kernel) rfl w_5_21 w_5_23 w_p2_13 w_1_11 w_5_24 (by decide +kernel) ?_
  exact s_goto (off := 24) (tgt := 76) C (by decide +kernel) (by decide) (fun _ _ _ _ _ _ h => h)
set_option maxRecDepth 20000 in
theorem b_X9_parseItem_55 {Z : Zt} {d : Nat} {p : Program} {e : Env} {R : Room} {s : State} {m : MethodId} {args : Array Value} {below : List Frame} {meth : Method} {c : Code} {Rp : RT} (C : Cx Z d jX9_parseItem RX9 p R s m args meth c) : Sd Z jX9_parseItem p e R s m args below meth c (MQ below (QcS Z Rp) args s 0 0 (fun a => Z.2.2.1 < a)) 55 (w_X9_parseItem_55 (MS Z d) (Gw Z 4 p e R s m args below meth c (MQ below (QcS Z Rp) args s 0 0 (fun a => Z.2.2.1 < a))) Rp) := by
  unfold w_X9_parseItem_55
  refine s_iload_n (k := 3) C (by decide +kernel) ?_
  refine s_bipush (n := 17) C (by decide +kernel) (by decide) ?_
  refine s_icmp_ne (off := 11) (tgt := 69) C (by decide +kernel) (by decide) (fun _ _ _ _ _ _ h => h) ?_
  refine s_aload_n (k := 0) C (by decide +kernel) ?_
  refine s_aload_n (k := 1) C (by decide +kernel) ?_
  refine s_callV C rfl rfl (by decide +kernel) rfl w_5_25 w_5_27 w_p2_14 w_1_11 w_5_28 (by decide +kernel) ?_
  exact s_goto (off := 10) (tgt := 76) C (by decide +kernel) (by decide) (fun _ _ _ _ _ _ h => h)
set_option maxRecDepth 20000 in
theorem b_X9_parseItem_69 {Z : Zt} {d : Nat} {p : Program} {e : Env} {R : Room} {s : State} {m : MethodId} {args : Array Value} {below : List Frame} {meth : Method} {c : Code} {Rp : RT} (C : Cx Z d jX9_parseItem RX9 p R s m args meth c) : Sd Z jX9_parseItem p e R s m args below meth c (MQ below (QcS Z Rp) args s 0 0 (fun a => Z.2.2.1 < a)) 69 (w_X9_parseItem_69 (MS Z d) (Gw Z 4 p e R s m args below meth c (MQ below (QcS Z Rp) args s 0 0 (fun a => Z.2.2.1 < a))) Rp) := by
  unfold w_X9_parseItem_69
  refine s_aload_n (k := 0) C (by decide +kernel) ?_
  refine s_aload_n (k := 1) C (by decide +kernel) ?_
  refine s_iload_n (k := 3) C (by decide +kernel) ?_
  refine s_iload_n (k := 2) C (by decide +kernel) ?_
  refine s_callV C rfl rfl (by decide +kernel) rfl w_5_37 w_5_39 w_p3_0 w_1_11 w_5_40 (by decide +kernel) ?_
  exact (fun _ _ _ _ _ _ h => h)
set_option maxRecDepth 20000 in
theorem b_X9_parseItem_76 {Z : Zt} {d : Nat} {p : Program} {e : Env} {R : Room} {s : State} {m : MethodId} {args : Array Value} {below : List Frame} {meth : Method} {c : Code} {Rp : RT} (C : Cx Z d jX9_parseItem RX9 p R s m args meth c) : Sd Z jX9_parseItem p e R s m args below meth c (MQ below (QcS Z Rp) args s 0 0 (fun a => Z.2.2.1 < a)) 76 (w_X9_parseItem_76 (MS Z d) (Gw Z 4 p e R s m args below meth c (MQ below (QcS Z Rp) args s 0 0 (fun a => Z.2.2.1 < a))) Rp) := by
  unfold w_X9_parseItem_76
  exact s_vret C rfl (by decide +kernel)
theorem ms_X9_parseItem {Z : Zt} {d : Nat} {S : Sh} {μ : Mi} {ρ : Mr} {Rp : RT} (a0 : Nat) (a1 : Nat) (h : ∀ G : Nat → PT, (∀ (L st : List Value) (S : Sh) (q : Nat × Nat) (μ : Mi) (ρ : Mr), w_X9_parseItem_36 (MS Z d) G Rp L st S q μ ρ → G 36 L st S q μ ρ) → (∀ (L st : List Value) (S : Sh) (q : Nat × Nat) (μ : Mi) (ρ : Mr), w_X9_parseItem_55 (MS Z d) G Rp L st S q μ ρ → G 55 L st S q μ ρ) → (∀ (L st : List Value) (S : Sh) (q : Nat × Nat) (μ : Mi) (ρ : Mr), w_X9_parseItem_69 (MS Z d) G Rp L st S q μ ρ → G 69 L st S q μ ρ) → (∀ (L st : List Value) (S : Sh) (q : Nat × Nat) (μ : Mi) (ρ : Mr), w_X9_parseItem_76 (MS Z d) G Rp L st S q μ ρ → G 76 L st S q μ ρ) → w_X9_parseItem_0 (MS Z d) G Rp [.ref a0, .ref a1, .null, .null] [] S (0, 0) μ ρ) : MS Z (d + 1) jX9_parseItem [.ref a0, .ref a1] S μ ρ Rp :=
  MS_of [.ref a0, .ref a1, .null, .null] (by decide +kernel) rfl rfl (Nat.le_of_ble_eq_true rfl) rfl (fun p e R s m args below meth c C => b_X9_parseItem_0 C _ _ _ _ _ _ (h _ (b_X9_parseItem_36 C) (b_X9_parseItem_55 C) (b_X9_parseItem_69 C) (b_X9_parseItem_76 C)))
def w_X9_parseNumber_0 (M : CT) (G : Nat → PT) (Rp : RT) : PT := tAload 0 <| tGetI 9 7 6 <| tIstore 1 <| tConst 0 <| tIstore 2 <| G 7
def w_X9_parseNumber_7 (M : CT) (G : Nat → PT) (Rp : RT) : PT := tAload 0 <| tGetI 9 7 6 <| tAload 0 <| tGetI 9 7 5 <| tIf2 (fun x y => y ≤ x) (G 87) <| tAload 0 <| tGetR 9 7 0 <| tAload 0 <| tGetI 9 7 6 <| tAld 20 <| tConst 48 <| tIf2 (fun x y => x < y) (G 87) <| tAload 0 <| tGetR 9 7 0 <| tAload 0 <| tGetI 9 7 6 <| tAld 20 <| tConst 57 <| tIf2 (fun x y => y < x) (G 87) <| tAload 0 <| tGetI 9 7 6 <| tIload 1 <| tBin (fun x y => x - y) <| tConst 3 <| tIf2 (fun x y => y ≤ x) (G 74) <| tIload 2 <| tConst 10 <| tBin (fun x y => x * y) <| tAload 0 <| tGetR 9 7 0 <| tAload 0 <| tGetI 9 7 6 <| tAld 20 <| tBin (fun x y => x + y) <| tConst 48 <| tBin (fun x y => x - y) <| tIstore 2 <| G 74
def w_X9_parseNumber_74 (M : CT) (G : Nat → PT) (Rp : RT) : PT := tAload 0 <| tDup <| tGetI 9 7 6 <| tConst 1 <| tBin (fun x y => x + y) <| tPutI 9 7 6 <| tGoto (G 7)
def w_X9_parseNumber_87 (M : CT) (G : Nat → PT) (Rp : RT) : PT := tAload 0 <| tGetI 9 7 6 <| tIload 1 <| tIf2 (fun x y => x ≠ y) (G 107) <| tAload 0 <| tConst 1 <| tAload 0 <| tGetI 9 7 6 <| tCallV M jX9_fail 9 7 2 <| tGoto (G 123)
def w_X9_parseNumber_107 (M : CT) (G : Nat → PT) (Rp : RT) : PT := tAload 0 <| tGetI 9 7 6 <| tIload 1 <| tBin (fun x y => x - y) <| tConst 3 <| tIf2 (fun x y => x ≤ y) (G 123) <| tAload 0 <| tConst 2 <| tIload 1 <| tCallV M jX9_fail 9 7 2 <| G 123
def w_X9_parseNumber_123 (M : CT) (G : Nat → PT) (Rp : RT) : PT := tIload 2 <| tIret Rp
set_option maxRecDepth 20000 in
theorem b_X9_parseNumber_0 {Z : Zt} {d : Nat} {p : Program} {e : Env} {R : Room} {s : State} {m : MethodId} {args : Array Value} {below : List Frame} {meth : Method} {c : Code} {Rp : RT} (C : Cx Z d jX9_parseNumber RX9 p R s m args meth c) : Sd Z jX9_parseNumber p e R s m args below meth c (MQ below (QcS Z Rp) args s 0 0 (fun a => Z.2.2.1 < a)) 0 (w_X9_parseNumber_0 (MS Z d) (Gw Z 3 p e R s m args below meth c (MQ below (QcS Z Rp) args s 0 0 (fun a => Z.2.2.1 < a))) Rp) := by
  unfold w_X9_parseNumber_0
  refine s_aload_n (k := 0) C (by decide +kernel) ?_
  refine s_getI C w_2_174 (by decide +kernel) rfl ?_
  refine s_istore_n (k := 1) C (by decide +kernel) ?_
  refine s_iconst (n := 0) C (by decide +kernel) (by decide) ?_
  refine s_istore_n (k := 2) C (by decide +kernel) ?_
  exact (fun _ _ _ _ _ _ h => h)
set_option maxRecDepth 20000 in
theorem b_X9_parseNumber_7 {Z : Zt} {d : Nat} {p : Program} {e : Env} {R : Room} {s : State} {m : MethodId} {args : Array Value} {below : List Frame} {meth : Method} {c : Code} {Rp : RT} (C : Cx Z d jX9_parseNumber RX9 p R s m args meth c) : Sd Z jX9_parseNumber p e R s m args below meth c (MQ below (QcS Z Rp) args s 0 0 (fun a => Z.2.2.1 < a)) 7 (w_X9_parseNumber_7 (MS Z d) (Gw Z 3 p e R s m args below meth c (MQ below (QcS Z Rp) args s 0 0 (fun a => Z.2.2.1 < a))) Rp) := by
  unfold w_X9_parseNumber_7
  refine s_aload_n (k := 0) C (by decide +kernel) ?_
  refine s_getI C w_2_174 (by decide +kernel) rfl ?_
  refine s_aload_n (k := 0) C (by decide +kernel) ?_
  refine s_getI C w_2_173 (by decide +kernel) rfl ?_
  refine s_icmp_ge (off := 72) (tgt := 87) C (by decide +kernel) (by decide) (fun _ _ _ _ _ _ h => h) ?_
  refine s_aload_n (k := 0) C (by decide +kernel) ?_
  refine s_getR C w_2_165 (by decide +kernel) rfl ?_
  refine s_aload_n (k := 0) C (by decide +kernel) ?_
  refine s_getI C w_2_174 (by decide +kernel) rfl ?_
  refine s_iald C (by decide +kernel) ?_
  refine s_bipush (n := 48) C (by decide +kernel) (by decide) ?_
  refine s_icmp_lt (off := 58) (tgt := 87) C (by decide +kernel) (by decide) (fun _ _ _ _ _ _ h => h) ?_
  refine s_aload_n (k := 0) C (by decide +kernel) ?_
  refine s_getR C w_2_165 (by decide +kernel) rfl ?_
  refine s_aload_n (k := 0) C (by decide +kernel) ?_
  refine s_getI C w_2_174 (by decide +kernel) rfl ?_
  refine s_iald C (by decide +kernel) ?_
  refine s_bipush (n := 57) C (by decide +kernel) (by decide) ?_
  refine s_icmp_gt (off := 44) (tgt := 87) C (by decide +kernel) (by decide) (fun _ _ _ _ _ _ h => h) ?_
  refine s_aload_n (k := 0) C (by decide +kernel) ?_
  refine s_getI C w_2_174 (by decide +kernel) rfl ?_
  refine s_iload_n (k := 1) C (by decide +kernel) ?_
  refine s_isub C (by decide +kernel) ?_
  refine s_iconst (n := 3) C (by decide +kernel) (by decide) ?_
  refine s_icmp_ge (off := 21) (tgt := 74) C (by decide +kernel) (by decide) (fun _ _ _ _ _ _ h => h) ?_
  refine s_iload_n (k := 2) C (by decide +kernel) ?_
  refine s_bipush (n := 10) C (by decide +kernel) (by decide) ?_
  refine s_imul C (by decide +kernel) ?_
  refine s_aload_n (k := 0) C (by decide +kernel) ?_
  refine s_getR C w_2_165 (by decide +kernel) rfl ?_
  refine s_aload_n (k := 0) C (by decide +kernel) ?_
  refine s_getI C w_2_174 (by decide +kernel) rfl ?_
  refine s_iald C (by decide +kernel) ?_
  refine s_iadd C (by decide +kernel) ?_
  refine s_bipush (n := 48) C (by decide +kernel) (by decide) ?_
  refine s_isub C (by decide +kernel) ?_
  refine s_istore_n (k := 2) C (by decide +kernel) ?_
  exact (fun _ _ _ _ _ _ h => h)
set_option maxRecDepth 20000 in
theorem b_X9_parseNumber_74 {Z : Zt} {d : Nat} {p : Program} {e : Env} {R : Room} {s : State} {m : MethodId} {args : Array Value} {below : List Frame} {meth : Method} {c : Code} {Rp : RT} (C : Cx Z d jX9_parseNumber RX9 p R s m args meth c) : Sd Z jX9_parseNumber p e R s m args below meth c (MQ below (QcS Z Rp) args s 0 0 (fun a => Z.2.2.1 < a)) 74 (w_X9_parseNumber_74 (MS Z d) (Gw Z 3 p e R s m args below meth c (MQ below (QcS Z Rp) args s 0 0 (fun a => Z.2.2.1 < a))) Rp) := by
  unfold w_X9_parseNumber_74
  refine s_aload_n (k := 0) C (by decide +kernel) ?_
  refine s_dup C (by decide +kernel) ?_
  refine s_getI C w_2_174 (by decide +kernel) rfl ?_
  refine s_iconst (n := 1) C (by decide +kernel) (by decide) ?_
  refine s_iadd C (by decide +kernel) ?_
  refine s_putI C w_2_174 (by decide +kernel) rfl (Or.inl rfl) ?_
  exact s_goto (off := (-77)) (tgt := 7) C (by decide +kernel) (by decide) (fun _ _ _ _ _ _ h => h)
set_option maxRecDepth 20000 in
theorem b_X9_parseNumber_87 {Z : Zt} {d : Nat} {p : Program} {e : Env} {R : Room} {s : State} {m : MethodId} {args : Array Value} {below : List Frame} {meth : Method} {c : Code} {Rp : RT} (C : Cx Z d jX9_parseNumber RX9 p R s m args meth c) : Sd Z jX9_parseNumber p e R s m args below meth c (MQ below (QcS Z Rp) args s 0 0 (fun a => Z.2.2.1 < a)) 87 (w_X9_parseNumber_87 (MS Z d) (Gw Z 3 p e R s m args below meth c (MQ below (QcS Z Rp) args s 0 0 (fun a => Z.2.2.1 < a))) Rp) := by
  unfold w_X9_parseNumber_87
  refine s_aload_n (k := 0) C (by decide +kernel) ?_
  refine s_getI C w_2_174 (by decide +kernel) rfl ?_
  refine s_iload_n (k := 1) C (by decide +kernel) ?_
  refine s_icmp_ne (off := 15) (tgt := 107) C (by decide +kernel) (by decide) (fun _ _ _ _ _ _ h => h) ?_
  refine s_aload_n (k := 0) C (by decide +kernel) ?_
  refine s_iconst (n := 1) C (by decide +kernel) (by decide) ?_
  refine s_aload_n (k := 0) C (by decide +kernel) ?_
  refine s_getI C w_2_174 (by decide +kernel) rfl ?_
  refine s_callV C rfl rfl (by decide +kernel) rfl w_5_21 w_5_23 w_p2_13 w_1_11 w_5_24 (by decide +kernel) ?_
  exact s_goto (off := 19) (tgt := 123) C (by decide +kernel) (by decide) (fun _ _ _ _ _ _ h => h)
set_option maxRecDepth 20000 in
theorem b_X9_parseNumber_107 {Z : Zt} {d : Nat} {p : Program} {e : Env} {R : Room} {s : State} {m : MethodId} {args : Array Value} {below : List Frame} {meth : Method} {c : Code} {Rp : RT} (C : Cx Z d jX9_parseNumber RX9 p R s m args meth c) : Sd Z jX9_parseNumber p e R s m args below meth c (MQ below (QcS Z Rp) args s 0 0 (fun a => Z.2.2.1 < a)) 107 (w_X9_parseNumber_107 (MS Z d) (Gw Z 3 p e R s m args below meth c (MQ below (QcS Z Rp) args s 0 0 (fun a => Z.2.2.1 < a))) Rp) := by
  unfold w_X9_parseNumber_107
  refine s_aload_n (k := 0) C (by decide +kernel) ?_
  refine s_getI C w_2_174 (by decide +kernel) rfl ?_
  refine s_iload_n (k := 1) C (by decide +kernel) ?_
  refine s_isub C (by decide +kernel) ?_
  refine s_iconst (n := 3) C (by decide +kernel) (by decide) ?_
  refine s_icmp_le (off := 9) (tgt := 123) C (by decide +kernel) (by decide) (fun _ _ _ _ _ _ h => h) ?_
  refine s_aload_n (k := 0) C (by decide +kernel) ?_
  refine s_iconst (n := 2) C (by decide +kernel) (by decide) ?_
  refine s_iload_n (k := 1) C (by decide +kernel) ?_
  refine s_callV C rfl rfl (by decide +kernel) rfl w_5_21 w_5_23 w_p2_13 w_1_11 w_5_24 (by decide +kernel) ?_
  exact (fun _ _ _ _ _ _ h => h)
set_option maxRecDepth 20000 in
theorem b_X9_parseNumber_123 {Z : Zt} {d : Nat} {p : Program} {e : Env} {R : Room} {s : State} {m : MethodId} {args : Array Value} {below : List Frame} {meth : Method} {c : Code} {Rp : RT} (C : Cx Z d jX9_parseNumber RX9 p R s m args meth c) : Sd Z jX9_parseNumber p e R s m args below meth c (MQ below (QcS Z Rp) args s 0 0 (fun a => Z.2.2.1 < a)) 123 (w_X9_parseNumber_123 (MS Z d) (Gw Z 3 p e R s m args below meth c (MQ below (QcS Z Rp) args s 0 0 (fun a => Z.2.2.1 < a))) Rp) := by
  unfold w_X9_parseNumber_123
  refine s_iload_n (k := 2) C (by decide +kernel) ?_
  exact s_iret C rfl (by decide +kernel)
theorem ms_X9_parseNumber {Z : Zt} {d : Nat} {S : Sh} {μ : Mi} {ρ : Mr} {Rp : RT} (a0 : Nat) (h : ∀ G : Nat → PT, (∀ (L st : List Value) (S : Sh) (q : Nat × Nat) (μ : Mi) (ρ : Mr), w_X9_parseNumber_7 (MS Z d) G Rp L st S q μ ρ → G 7 L st S q μ ρ) → (∀ (L st : List Value) (S : Sh) (q : Nat × Nat) (μ : Mi) (ρ : Mr), w_X9_parseNumber_74 (MS Z d) G Rp L st S q μ ρ → G 74 L st S q μ ρ) → (∀ (L st : List Value) (S : Sh) (q : Nat × Nat) (μ : Mi) (ρ : Mr), w_X9_parseNumber_87 (MS Z d) G Rp L st S q μ ρ → G 87 L st S q μ ρ) → (∀ (L st : List Value) (S : Sh) (q : Nat × Nat) (μ : Mi) (ρ : Mr), w_X9_parseNumber_107 (MS Z d) G Rp L st S q μ ρ → G 107 L st S q μ ρ) → (∀ (L st : List Value) (S : Sh) (q : Nat × Nat) (μ : Mi) (ρ : Mr), w_X9_parseNumber_123 (MS Z d) G Rp L st S q μ ρ → G 123 L st S q μ ρ) → w_X9_parseNumber_0 (MS Z d) G Rp [.ref a0, .null, .null] [] S (0, 0) μ ρ) : MS Z (d + 1) jX9_parseNumber [.ref a0] S μ ρ Rp :=
  MS_of [.ref a0, .null, .null] (by decide +kernel) rfl rfl (Nat.le_of_ble_eq_true rfl) rfl (fun p e R s m args below meth c C => b_X9_parseNumber_0 C _ _ _ _ _ _ (h _ (b_X9_parseNumber_7 C) (b_X9_parseNumber_74 C) (b_X9_parseNumber_87 C) (b_X9_parseNumber_107 C) (b_X9_parseNumber_123 C)))
def w_X9_parseTimes_0 (M : CT) (G : Nat → PT) (Rp : RT) : PT := tAload 0 <| tCallV M jX9_skipBlanks 9 7 0 <| tAload 0 <| tGetI 9 7 6 <| tIstore 2 <| tAload 0 <| tCallV M jX9_parseNumber 9 7 0 <| tIstore 3 <| tAload 0 <| tGetI 9 7 3 <| tIf (fun x => x = 0) (G 22) <| tVret Rp
def w_X9_parseTimes_22 (M : CT) (G : Nat → PT) (Rp : RT) : PT := tIload 3 <| tConst 1 <| tIf2 (fun x y => x < y) (G 33) <| tIload 3 <| tConst 50 <| tIf2 (fun x y => x ≤ y) (G 40) <| G 33
def w_X9_parseTimes_33 (M : CT) (G : Nat → PT) (Rp : RT) : PT := tAload 0 <| tConst 2 <| tIload 2 <| tCallV M jX9_fail 9 7 2 <| tVret Rp
def w_X9_parseTimes_40 (M : CT) (G : Nat → PT) (Rp : RT) : PT := tAload 0 <| tCallV M jX9_skipBlanks 9 7 0 <| tAload 0 <| tCallV M jX9_here 9 7 0 <| tConst 123 <| tIf2 (fun x y => x = y) (G 65) <| tAload 0 <| tConst 1 <| tAload 0 <| tGetI 9 7 6 <| tCallV M jX9_fail 9 7 2 <| tGoto (G 100)
def w_X9_parseTimes_65 (M : CT) (G : Nat → PT) (Rp : RT) : PT := tAload 1 <| tGetI 4 10 8 <| tConst 3 <| tIf2 (fun x y => x < y) (G 85) <| tAload 0 <| tConst 3 <| tAload 0 <| tGetI 9 7 6 <| tCallV M jX9_fail 9 7 2 <| tGoto (G 100)
def w_X9_parseTimes_85 (M : CT) (G : Nat → PT) (Rp : RT) : PT := tAload 0 <| tDup <| tGetI 9 7 6 <| tConst 1 <| tBin (fun x y => x + y) <| tPutI 9 7 6 <| tAload 1 <| tIload 3 <| tCallV M jX4_openLoop 4 10 1 <| G 100
def w_X9_parseTimes_100 (M : CT) (G : Nat → PT) (Rp : RT) : PT := tVret Rp
set_option maxRecDepth 20000 in
theorem b_X9_parseTimes_0 {Z : Zt} {d : Nat} {p : Program} {e : Env} {R : Room} {s : State} {m : MethodId} {args : Array Value} {below : List Frame} {meth : Method} {c : Code} {Rp : RT} (C : Cx Z d jX9_parseTimes RX9 p R s m args meth c) : Sd Z jX9_parseTimes p e R s m args below meth c (MQ below (QcS Z Rp) args s 0 0 (fun a => Z.2.2.1 < a)) 0 (w_X9_parseTimes_0 (MS Z d) (Gw Z 4 p e R s m args below meth c (MQ below (QcS Z Rp) args s 0 0 (fun a => Z.2.2.1 < a))) Rp) := by
  unfold w_X9_parseTimes_0
  refine s_aload_n (k := 0) C (by decide +kernel) ?_
  refine s_callV C rfl rfl (by decide +kernel) rfl w_4_184 w_4_186 w_p2_7 w_1_11 w_4_187 (by decide +kernel) ?_
  refine s_aload_n (k := 0) C (by decide +kernel) ?_
  refine s_getI C w_2_174 (by decide +kernel) rfl ?_
  refine s_istore_n (k := 2) C (by decide +kernel) ?_
  refine s_aload_n (k := 0) C (by decide +kernel) ?_
  refine s_callV C rfl rfl (by decide +kernel) rfl w_5_29 w_5_31 w_p2_15 w_1_11 w_5_32 (by decide +kernel) ?_
  refine s_istore_n (k := 3) C (by decide +kernel) ?_
  refine s_aload_n (k := 0) C (by decide +kernel) ?_
  refine s_getI C w_2_169 (by decide +kernel) rfl ?_
  refine s_if_eq (off := 4) (tgt := 22) C (by decide +kernel) (by decide) (fun _ _ _ _ _ _ h => h) ?_
  exact s_vret C rfl (by decide +kernel)
set_option maxRecDepth 20000 in
theorem b_X9_parseTimes_22 {Z : Zt} {d : Nat} {p : Program} {e : Env} {R : Room} {s : State} {m : MethodId} {args : Array Value} {below : List Frame} {meth : Method} {c : Code} {Rp : RT} (C : Cx Z d jX9_parseTimes RX9 p R s m args meth c) : Sd Z jX9_parseTimes p e R s m args below meth c (MQ below (QcS Z Rp) args s 0 0 (fun a => Z.2.2.1 < a)) 22 (w_X9_parseTimes_22 (MS Z d) (Gw Z 4 p e R s m args below meth c (MQ below (QcS Z Rp) args s 0 0 (fun a => Z.2.2.1 < a))) Rp) := by
  unfold w_X9_parseTimes_22
  refine s_iload_n (k := 3) C (by decide +kernel) ?_
  refine s_iconst (n := 1) C (by decide +kernel) (by decide) ?_
  refine s_icmp_lt (off := 9) (tgt := 33) C (by decide +kernel) (by decide) (fun _ _ _ _ _ _ h => h) ?_
  refine s_iload_n (k := 3) C (by decide +kernel) ?_
  refine s_bipush (n := 50) C (by decide +kernel) (by decide) ?_
  refine s_icmp_le (off := 10) (tgt := 40) C (by decide +kernel) (by decide) (fun _ _ _ _ _ _ h => h) ?_
  exact (fun _ _ _ _ _ _ h => h)
set_option maxRecDepth 20000 in
theorem b_X9_parseTimes_33 {Z : Zt} {d : Nat} {p : Program} {e : Env} {R : Room} {s : State} {m : MethodId} {args : Array Value} {below : List Frame} {meth : Method} {c : Code} {Rp : RT} (C : Cx Z d jX9_parseTimes RX9 p R s m args meth c) : Sd Z jX9_parseTimes p e R s m args below meth c (MQ below (QcS Z Rp) args s 0 0 (fun a => Z.2.2.1 < a)) 33 (w_X9_parseTimes_33 (MS Z d) (Gw Z 4 p e R s m args below meth c (MQ below (QcS Z Rp) args s 0 0 (fun a => Z.2.2.1 < a))) Rp) := by
  unfold w_X9_parseTimes_33
  refine s_aload_n (k := 0) C (by decide +kernel) ?_
  refine s_iconst (n := 2) C (by decide +kernel) (by decide) ?_
  refine s_iload_n (k := 2) C (by decide +kernel) ?_
  refine s_callV C rfl rfl (by decide +kernel) rfl w_5_21 w_5_23 w_p2_13 w_1_11 w_5_24 (by decide +kernel) ?_
  exact s_vret C rfl (by decide +kernel)
set_option maxRecDepth 20000 in
theorem b_X9_parseTimes_40 {Z : Zt} {d : Nat} {p : Program} {e : Env} {R : Room} {s : State} {m : MethodId} {args : Array Value} {below : List Frame} {meth : Method} {c : Code} {Rp : RT} (C : Cx Z d jX9_parseTimes RX9 p R s m args meth c) : Sd Z jX9_parseTimes p e R s m args below meth c (MQ below (QcS Z Rp) args s 0 0 (fun a => Z.2.2.1 < a)) 40 (w_X9_parseTimes_40 (MS Z d) (Gw Z 4 p e R s m args below meth c (MQ below (QcS Z Rp) args s 0 0 (fun a => Z.2.2.1 < a))) Rp) := by
  unfold w_X9_parseTimes_40
  refine s_aload_n (k := 0) C (by decide +kernel) ?_
  refine s_callV C rfl rfl (by decide +kernel) rfl w_4_184 w_4_186 w_p2_7 w_1_11 w_4_187 (by decide +kernel) ?_
  refine s_aload_n (k := 0) C (by decide +kernel) ?_
  refine s_callV C rfl rfl (by decide +kernel) rfl w_4_192 w_4_194 w_p2_9 w_1_11 w_4_195 (by decide +kernel) ?_
  refine s_bipush (n := 123) C (by decide +kernel) (by decide) ?_
  refine s_icmp_eq (off := 15) (tgt := 65) C (by decide +kernel) (by decide) (fun _ _ _ _ _ _ h => h) ?_
  refine s_aload_n (k := 0) C (by decide +kernel) ?_
  refine s_iconst (n := 1) C (by decide +kernel) (by decide) ?_
  refine s_aload_n (k := 0) C (by decide +kernel) ?_
  refine s_getI C w_2_174 (by decide +kernel) rfl ?_
  refine s_callV C rfl rfl (by decide +kernel) rfl w_5_21 w_5_23 w_p2_13 w_1_11 w_5_24 (by decide +kernel) ?_
  exact s_goto (off := 38) (tgt := 100) C (by decide +kernel) (by decide) (fun _ _ _ _ _ _ h => h)
set_option maxRecDepth 20000 in
theorem b_X9_parseTimes_65 {Z : Zt} {d : Nat} {p : Program} {e : Env} {R : Room} {s : State} {m : MethodId} {args : Array Value} {below : List Frame} {meth : Method} {c : Code} {Rp : RT} (C : Cx Z d jX9_parseTimes RX9 p R s m args meth c) : Sd Z jX9_parseTimes p e R s m args below meth c (MQ below (QcS Z Rp) args s 0 0 (fun a => Z.2.2.1 < a)) 65 (w_X9_parseTimes_65 (MS Z d) (Gw Z 4 p e R s m args below meth c (MQ below (QcS Z Rp) args s 0 0 (fun a => Z.2.2.1 < a))) Rp) := by
  unfold w_X9_parseTimes_65
  refine s_aload_n (k := 1) C (by decide +kernel) ?_
  refine s_getI C w_2_210 (by decide +kernel) rfl ?_
  refine s_iconst (n := 3) C (by decide +kernel) (by decide) ?_
  refine s_icmp_lt (off := 15) (tgt := 85) C (by decide +kernel) (by decide) (fun _ _ _ _ _ _ h => h) ?_
  refine s_aload_n (k := 0) C (by decide +kernel) ?_
  refine s_iconst (n := 3) C (by decide +kernel) (by decide) ?_
  refine s_aload_n (k := 0) C (by decide +kernel) ?_
  refine s_getI C w_2_174 (by decide +kernel) rfl ?_
  refine s_callV C rfl rfl (by decide +kernel) rfl w_5_21 w_5_23 w_p2_13 w_1_11 w_5_24 (by decide +kernel) ?_
  exact s_goto (off := 18) (tgt := 100) C (by decide +kernel) (by decide) (fun _ _ _ _ _ _ h => h)
set_option maxRecDepth 20000 in
theorem b_X9_parseTimes_85 {Z : Zt} {d : Nat} {p : Program} {e : Env} {R : Room} {s : State} {m : MethodId} {args : Array Value} {below : List Frame} {meth : Method} {c : Code} {Rp : RT} (C : Cx Z d jX9_parseTimes RX9 p R s m args meth c) : Sd Z jX9_parseTimes p e R s m args below meth c (MQ below (QcS Z Rp) args s 0 0 (fun a => Z.2.2.1 < a)) 85 (w_X9_parseTimes_85 (MS Z d) (Gw Z 4 p e R s m args below meth c (MQ below (QcS Z Rp) args s 0 0 (fun a => Z.2.2.1 < a))) Rp) := by
  unfold w_X9_parseTimes_85
  refine s_aload_n (k := 0) C (by decide +kernel) ?_
  refine s_dup C (by decide +kernel) ?_
  refine s_getI C w_2_174 (by decide +kernel) rfl ?_
  refine s_iconst (n := 1) C (by decide +kernel) (by decide) ?_
  refine s_iadd C (by decide +kernel) ?_
  refine s_putI C w_2_174 (by decide +kernel) rfl (Or.inl rfl) ?_
  refine s_aload_n (k := 1) C (by decide +kernel) ?_
  refine s_iload_n (k := 3) C (by decide +kernel) ?_
  refine s_callV C rfl rfl (by decide +kernel) rfl w_5_33 w_5_34 w_5_35 w_1_12 w_5_36 (by decide +kernel) ?_
  exact (fun _ _ _ _ _ _ h => h)
set_option maxRecDepth 20000 in
theorem b_X9_parseTimes_100 {Z : Zt} {d : Nat} {p : Program} {e : Env} {R : Room} {s : State} {m : MethodId} {args : Array Value} {below : List Frame} {meth : Method} {c : Code} {Rp : RT} (C : Cx Z d jX9_parseTimes RX9 p R s m args meth c) : Sd Z jX9_parseTimes p e R s m args below meth c (MQ below (QcS Z Rp) args s 0 0 (fun a => Z.2.2.1 < a)) 100 (w_X9_parseTimes_100 (MS Z d) (Gw Z 4 p e R s m args below meth c (MQ below (QcS Z Rp) args s 0 0 (fun a => Z.2.2.1 < a))) Rp) := by
  unfold w_X9_parseTimes_100
  exact s_vret C rfl (by decide +kernel)
theorem ms_X9_parseTimes {Z : Zt} {d : Nat} {S : Sh} {μ : Mi} {ρ : Mr} {Rp : RT} (a0 : Nat) (a1 : Nat) (h : ∀ G : Nat → PT, (∀ (L st : List Value) (S : Sh) (q : Nat × Nat) (μ : Mi) (ρ : Mr), w_X9_parseTimes_22 (MS Z d) G Rp L st S q μ ρ → G 22 L st S q μ ρ) → (∀ (L st : List Value) (S : Sh) (q : Nat × Nat) (μ : Mi) (ρ : Mr), w_X9_parseTimes_33 (MS Z d) G Rp L st S q μ ρ → G 33 L st S q μ ρ) → (∀ (L st : List Value) (S : Sh) (q : Nat × Nat) (μ : Mi) (ρ : Mr), w_X9_parseTimes_40 (MS Z d) G Rp L st S q μ ρ → G 40 L st S q μ ρ) → (∀ (L st : List Value) (S : Sh) (q : Nat × Nat) (μ : Mi) (ρ : Mr), w_X9_parseTimes_65 (MS Z d) G Rp L st S q μ ρ → G 65 L st S q μ ρ) → (∀ (L st : List Value) (S : Sh) (q : Nat × Nat) (μ : Mi) (ρ : Mr), w_X9_parseTimes_85 (MS Z d) G Rp L st S q μ ρ → G 85 L st S q μ ρ) → (∀ (L st : List Value) (S : Sh) (q : Nat × Nat) (μ : Mi) (ρ : Mr), w_X9_parseTimes_100 (MS Z d) G Rp L st S q μ ρ → G 100 L st S q μ ρ) → w_X9_parseTimes_0 (MS Z d) G Rp [.ref a0, .ref a1, .null, .null] [] S (0, 0) μ ρ) : MS Z (d + 1) jX9_parseTimes [.ref a0, .ref a1] S μ ρ Rp :=
  MS_of [.ref a0, .ref a1, .null, .null] (by decide +kernel) rfl rfl (Nat.le_of_ble_eq_true rfl) rfl (fun p e R s m args below meth c C => b_X9_parseTimes_0 C _ _ _ _ _ _ (h _ (b_X9_parseTimes_22 C) (b_X9_parseTimes_33 C) (b_X9_parseTimes_40 C) (b_X9_parseTimes_65 C) (b_X9_parseTimes_85 C) (b_X9_parseTimes_100 C)))
def w_X1_init_0 (M : CT) (G : Nat → PT) (Rp : RT) : PT := tAload 0 <| tObjI <| tAload 0 <| tConst 61 <| tAnew 2 125 1053 <| tPutR 1 6 0 <| tAload 0 <| tNew 2 10 125 1053 <| tDup <| tCallI M jX2_init 0 125 1053 <| tPutR 1 6 1 <| tConst 0 <| tIstore 1 <| G 26
def w_X1_init_26 (M : CT) (G : Nat → PT) (Rp : RT) : PT := tIload 1 <| tConst 60 <| tIf2 (fun x y => y < x) (G 51) <| tAload 0 <| tGetR 1 6 0 <| tIload 1 <| tNew 2 10 125 1053 <| tDup <| tCallI M jX2_init 0 125 1053 <| tAast 2 <| tIinc 1 1 <| tGoto (G 26)
def w_X1_init_51 (M : CT) (G : Nat → PT) (Rp : RT) : PT := tVret Rp
set_option maxRecDepth 20000 in
theorem b_X1_init_0 {Z : Zt} {d : Nat} {p : Program} {e : Env} {R : Room} {s : State} {m : MethodId} {args : Array Value} {below : List Frame} {meth : Method} {c : Code} {Rp : RT} (C : Cx Z d jX1_init RX1 p R s m args meth c) : Sd Z jX1_init p e R s m args below meth c (MQ below (QcS Z Rp) args s 125 1053 (fun a => Z.2.2.1 < a)) 0 (w_X1_init_0 (MS Z d) (Gw Z 2 p e R s m args below meth c (MQ below (QcS Z Rp) args s 125 1053 (fun a => Z.2.2.1 < a))) Rp) := by
  unfold w_X1_init_0
  refine s_aload_n (k := 0) C (by decide +kernel) ?_
  refine s_objI C w_1_43 w_1_28 w_1_29 (by decide +kernel) ?_
  refine s_aload_n (k := 0) C (by decide +kernel) ?_
  refine s_bipush (n := 61) C (by decide +kernel) (by decide) ?_
  refine s_anew C rfl w_1_44 w_1_45 (by decide +kernel) ?_
  refine s_putR C w_1_118 (by decide +kernel) rfl (Or.inr ⟨rfl, rfl, rfl⟩) ?_
  refine s_aload_n (k := 0) C (by decide +kernel) ?_
  refine s_new C rfl w_1_44 w_1_46 w_1_4 (by decide +kernel) ?_
  refine s_dup C (by decide +kernel) ?_
  refine s_callIN C (by decide +kernel) ⟨rfl, rfl⟩ w_1_47 w_1_48 w_1_4 w_1_49 (by decide +kernel) ?_
  refine s_putR C w_1_122 (by decide +kernel) rfl (Or.inr ⟨rfl, rfl, rfl⟩) ?_
  refine s_iconst (n := 0) C (by decide +kernel) (by decide) ?_
  refine s_istore_n (k := 1) C (by decide +kernel) ?_
  exact (fun _ _ _ _ _ _ h => h)
set_option maxRecDepth 20000 in
theorem b_X1_init_26 {Z : Zt} {d : Nat} {p : Program} {e : Env} {R : Room} {s : State} {m : MethodId} {args : Array Value} {below : List Frame} {meth : Method} {c : Code} {Rp : RT} (C : Cx Z d jX1_init RX1 p R s m args meth c) : Sd Z jX1_init p e R s m args below meth c (MQ below (QcS Z Rp) args s 125 1053 (fun a => Z.2.2.1 < a)) 26 (w_X1_init_26 (MS Z d) (Gw Z 2 p e R s m args below meth c (MQ below (QcS Z Rp) args s 125 1053 (fun a => Z.2.2.1 < a))) Rp) := by
  unfold w_X1_init_26
  refine s_iload_n (k := 1) C (by decide +kernel) ?_
  refine s_bipush (n := 60) C (by decide +kernel) (by decide) ?_
  refine s_icmp_gt (off := 22) (tgt := 51) C (by decide +kernel) (by decide) (fun _ _ _ _ _ _ h => h) ?_
  refine s_aload_n (k := 0) C (by decide +kernel) ?_
  refine s_getR C w_1_118 (by decide +kernel) rfl ?_
  refine s_iload_n (k := 1) C (by decide +kernel) ?_
  refine s_new C rfl w_1_44 w_1_46 w_1_4 (by decide +kernel) ?_
  refine s_dup C (by decide +kernel) ?_
  refine s_callIN C (by decide +kernel) ⟨rfl, rfl⟩ w_1_47 w_1_48 w_1_4 w_1_49 (by decide +kernel) ?_
  refine s_aast C rfl (by decide +kernel) ?_
  refine s_iinc (n := 1) C (by decide +kernel) (by decide) ?_
  exact s_goto (off := (-22)) (tgt := 26) C (by decide +kernel) (by decide) (fun _ _ _ _ _ _ h => h)
set_option maxRecDepth 20000 in
theorem b_X1_init_51 {Z : Zt} {d : Nat} {p : Program} {e : Env} {R : Room} {s : State} {m : MethodId} {args : Array Value} {below : List Frame} {meth : Method} {c : Code} {Rp : RT} (C : Cx Z d jX1_init RX1 p R s m args meth c) : Sd Z jX1_init p e R s m args below meth c (MQ below (QcS Z Rp) args s 125 1053 (fun a => Z.2.2.1 < a)) 51 (w_X1_init_51 (MS Z d) (Gw Z 2 p e R s m args below meth c (MQ below (QcS Z Rp) args s 125 1053 (fun a => Z.2.2.1 < a))) Rp) := by
  unfold w_X1_init_51
  exact s_vret C rfl (by decide +kernel)
theorem ms_X1_init {Z : Zt} {d : Nat} {S : Sh} {μ : Mi} {ρ : Mr} {Rp : RT} (a0 : Nat) (h : ∀ G : Nat → PT, (∀ (L st : List Value) (S : Sh) (q : Nat × Nat) (μ : Mi) (ρ : Mr), w_X1_init_26 (MS Z d) G Rp L st S q μ ρ → G 26 L st S q μ ρ) → (∀ (L st : List Value) (S : Sh) (q : Nat × Nat) (μ : Mi) (ρ : Mr), w_X1_init_51 (MS Z d) G Rp L st S q μ ρ → G 51 L st S q μ ρ) → w_X1_init_0 (MS Z d) G Rp [.ref a0, .null] [] S (0, 0) μ ρ) : MS Z (d + 1) jX1_init [.ref a0] S μ ρ Rp :=
  MS_of [.ref a0, .null] (by decide +kernel) rfl rfl (Nat.le_of_ble_eq_true rfl) rfl (fun p e R s m args below meth c C => b_X1_init_0 C _ _ _ _ _ _ (h _ (b_X1_init_26 C) (b_X1_init_51 C)))
def w_X1_renew_0 (M : CT) (G : Nat → PT) (Rp : RT) : PT := tAload 0 <| tConst 0 <| tPutI 1 6 2 <| tAload 0 <| tConst 0 <| tPutI 1 6 3 <| tAload 0 <| tConst 0 <| tPutI 1 6 4 <| tAload 0 <| tConst 0 <| tPutI 1 6 5 <| tVret Rp
set_option maxRecDepth 20000 in
theorem b_X1_renew_0 {Z : Zt} {d : Nat} {p : Program} {e : Env} {R : Room} {s : State} {m : MethodId} {args : Array Value} {below : List Frame} {meth : Method} {c : Code} {Rp : RT} (C : Cx Z d jX1_renew RX1 p R s m args meth c) : Sd Z jX1_renew p e R s m args below meth c (MQ below (QcS Z Rp) args s 0 0 (fun a => Z.2.2.1 < a)) 0 (w_X1_renew_0 (MS Z d) (Gw Z 1 p e R s m args below meth c (MQ below (QcS Z Rp) args s 0 0 (fun a => Z.2.2.1 < a))) Rp) := by
  unfold w_X1_renew_0
  refine s_aload_n (k := 0) C (by decide +kernel) ?_
  refine s_iconst (n := 0) C (by decide +kernel) (by decide) ?_
  refine s_putI C w_1_123 (by decide +kernel) rfl (Or.inl rfl) ?_
  refine s_aload_n (k := 0) C (by decide +kernel) ?_
  refine s_iconst (n := 0) C (by decide +kernel) (by decide) ?_
  refine s_putI C w_1_128 (by decide +kernel) rfl (Or.inl rfl) ?_
  refine s_aload_n (k := 0) C (by decide +kernel) ?_
  refine s_iconst (n := 0) C (by decide +kernel) (by decide) ?_
  refine s_putI C w_1_132 (by decide +kernel) rfl (Or.inl rfl) ?_
  refine s_aload_n (k := 0) C (by decide +kernel) ?_
  refine s_iconst (n := 0) C (by decide +kernel) (by decide) ?_
  refine s_putI C w_1_135 (by decide +kernel) rfl (Or.inl rfl) ?_
  exact s_vret C rfl (by decide +kernel)
theorem ms_X1_renew {Z : Zt} {d : Nat} {S : Sh} {μ : Mi} {ρ : Mr} {Rp : RT} (a0 : Nat) (h : ∀ G : Nat → PT, w_X1_renew_0 (MS Z d) G Rp [.ref a0] [] S (0, 0) μ ρ) : MS Z (d + 1) jX1_renew [.ref a0] S μ ρ Rp :=
  MS_of [.ref a0] (by decide +kernel) rfl rfl (Nat.le_of_ble_eq_true rfl) rfl (fun p e R s m args below meth c C => b_X1_renew_0 C _ _ _ _ _ _ (h _ ))
def w_X1_copyFrom_0 (M : CT) (G : Nat → PT) (Rp : RT) : PT := tConst 0 <| tIstore 2 <| G 2
def w_X1_copyFrom_2 (M : CT) (G : Nat → PT) (Rp : RT) : PT := tIload 2 <| tAload 1 <| tGetI 1 6 2 <| tIf2 (fun x y => y ≤ x) (G 31) <| tAload 0 <| tGetR 1 6 0 <| tIload 2 <| tAldR 32 <| tAload 1 <| tGetR 1 6 0 <| tIload 2 <| tAldR 32 <| tCallV M jX2_copyFrom 2 10 1 <| tIinc 2 1 <| tGoto (G 2)
def w_X1_copyFrom_31 (M : CT) (G : Nat → PT) (Rp : RT) : PT := tAload 0 <| tAload 1 <| tGetI 1 6 2 <| tPutI 1 6 2 <| tAload 0 <| tAload 1 <| tGetI 1 6 3 <| tPutI 1 6 3 <| tAload 0 <| tAload 1 <| tGetI 1 6 4 <| tPutI 1 6 4 <| tAload 0 <| tAload 1 <| tGetI 1 6 5 <| tPutI 1 6 5 <| tVret Rp
set_option maxRecDepth 20000 in
theorem b_X1_copyFrom_0 {Z : Zt} {d : Nat} {p : Program} {e : Env} {R : Room} {s : State} {m : MethodId} {args : Array Value} {below : List Frame} {meth : Method} {c : Code} {Rp : RT} (C : Cx Z d jX1_copyFrom RX1 p R s m args meth c) : Sd Z jX1_copyFrom p e R s m args below meth c (MQ below (QcS Z Rp) args s 0 0 (fun a => Z.2.2.1 < a)) 0 (w_X1_copyFrom_0 (MS Z d) (Gw Z 3 p e R s m args below meth c (MQ below (QcS Z Rp) args s 0 0 (fun a => Z.2.2.1 < a))) Rp) := by
  unfold w_X1_copyFrom_0
  refine s_iconst (n := 0) C (by decide +kernel) (by decide) ?_
  refine s_istore_n (k := 2) C (by decide +kernel) ?_
  exact (fun _ _ _ _ _ _ h => h)
set_option maxRecDepth 20000 in
theorem b_X1_copyFrom_2 {Z : Zt} {d : Nat} {p : Program} {e : Env} {R : Room} {s : State} {m : MethodId} {args : Array Value} {below : List Frame} {meth : Method} {c : Code} {Rp : RT} (C : Cx Z d jX1_copyFrom RX1 p R s m args meth c) : Sd Z jX1_copyFrom p e R s m args below meth c (MQ below (QcS Z Rp) args s 0 0 (fun a => Z.2.2.1 < a)) 2 (w_X1_copyFrom_2 (MS Z d) (Gw Z 3 p e R s m args below meth c (MQ below (QcS Z Rp) args s 0 0 (fun a => Z.2.2.1 < a))) Rp) := by
  unfold w_X1_copyFrom_2
  refine s_iload_n (k := 2) C (by decide +kernel) ?_
  refine s_aload_n (k := 1) C (by decide +kernel) ?_
  refine s_getI C w_1_123 (by decide +kernel) rfl ?_
  refine s_icmp_ge (off := 24) (tgt := 31) C (by decide +kernel) (by decide) (fun _ _ _ _ _ _ h => h) ?_
  refine s_aload_n (k := 0) C (by decide +kernel) ?_
  refine s_getR C w_1_118 (by decide +kernel) rfl ?_
  refine s_iload_n (k := 2) C (by decide +kernel) ?_
  refine s_aald C rfl (by decide +kernel) ?_
  refine s_aload_n (k := 1) C (by decide +kernel) ?_
  refine s_getR C w_1_118 (by decide +kernel) rfl ?_
  refine s_iload_n (k := 2) C (by decide +kernel) ?_
  refine s_aald C rfl (by decide +kernel) ?_
  refine s_callV C rfl rfl (by decide +kernel) rfl w_3_60 w_3_61 w_3_62 w_1_4 w_3_63 (by decide +kernel) ?_
  refine s_iinc (n := 1) C (by decide +kernel) (by decide) ?_
  exact s_goto (off := (-26)) (tgt := 2) C (by decide +kernel) (by decide) (fun _ _ _ _ _ _ h => h)
set_option maxRecDepth 20000 in
theorem b_X1_copyFrom_31 {Z : Zt} {d : Nat} {p : Program} {e : Env} {R : Room} {s : State} {m : MethodId} {args : Array Value} {below : List Frame} {meth : Method} {c : Code} {Rp : RT} (C : Cx Z d jX1_copyFrom RX1 p R s m args meth c) : Sd Z jX1_copyFrom p e R s m args below meth c (MQ below (QcS Z Rp) args s 0 0 (fun a => Z.2.2.1 < a)) 31 (w_X1_copyFrom_31 (MS Z d) (Gw Z 3 p e R s m args below meth c (MQ below (QcS Z Rp) args s 0 0 (fun a => Z.2.2.1 < a))) Rp) := by
  unfold w_X1_copyFrom_31
  refine s_aload_n (k := 0) C (by decide +kernel) ?_
  refine s_aload_n (k := 1) C (by decide +kernel) ?_
  refine s_getI C w_1_123 (by decide +kernel) rfl ?_
  refine s_putI C w_1_123 (by decide +kernel) rfl (Or.inl rfl) ?_
  refine s_aload_n (k := 0) C (by decide +kernel) ?_
  refine s_aload_n (k := 1) C (by decide +kernel) ?_
  refine s_getI C w_1_128 (by decide +kernel) rfl ?_
  refine s_putI C w_1_128 (by decide +kernel) rfl (Or.inl rfl) ?_
  refine s_aload_n (k := 0) C (by decide +kernel) ?_
  refine s_aload_n (k := 1) C (by decide +kernel) ?_
  refine s_getI C w_1_132 (by decide +kernel) rfl ?_
  refine s_putI C w_1_132 (by decide +kernel) rfl (Or.inl rfl) ?_
  refine s_aload_n (k := 0) C (by decide +kernel) ?_
  refine s_aload_n (k := 1) C (by decide +kernel) ?_
  refine s_getI C w_1_135 (by decide +kernel) rfl ?_
  refine s_putI C w_1_135 (by decide +kernel) rfl (Or.inl rfl) ?_
  exact s_vret C rfl (by decide +kernel)
theorem ms_X1_copyFrom {Z : Zt} {d : Nat} {S : Sh} {μ : Mi} {ρ : Mr} {Rp : RT} (a0 : Nat) (a1 : Nat) (h : ∀ G : Nat → PT, (∀ (L st : List Value) (S : Sh) (q : Nat × Nat) (μ : Mi) (ρ : Mr), w_X1_copyFrom_2 (MS Z d) G Rp L st S q μ ρ → G 2 L st S q μ ρ) → (∀ (L st : List Value) (S : Sh) (q : Nat × Nat) (μ : Mi) (ρ : Mr), w_X1_copyFrom_31 (MS Z d) G Rp L st S q μ ρ → G 31 L st S q μ ρ) → w_X1_copyFrom_0 (MS Z d) G Rp [.ref a0, .ref a1, .null] [] S (0, 0) μ ρ) : MS Z (d + 1) jX1_copyFrom [.ref a0, .ref a1] S μ ρ Rp :=
  MS_of [.ref a0, .ref a1, .null] (by decide +kernel) rfl rfl (Nat.le_of_ble_eq_true rfl) rfl (fun p e R s m args below meth c C => b_X1_copyFrom_0 C _ _ _ _ _ _ (h _ (b_X1_copyFrom_2 C) (b_X1_copyFrom_31 C)))
def w_X1_isCut_0 (M : CT) (G : Nat → PT) (Rp : RT) : PT := tAload 0 <| tGetI 1 6 5 <| tIload 1 <| tConst 5 <| tBin (fun x y => x * y) <| tIload 2 <| tBin (fun x y => x + y) <| tBin (fun x y => x >>> (y &&& 31)) <| tConst 1 <| tBin (fun x y => x &&& y) <| tConst 1 <| tIf2 (fun x y => x ≠ y) (G 20) <| tConst 1 <| tGoto (G 21)
def w_X1_isCut_20 (M : CT) (G : Nat → PT) (Rp : RT) : PT := tConst 0 <| G 21
def w_X1_isCut_21 (M : CT) (G : Nat → PT) (Rp : RT) : PT := tZret Rp
set_option maxRecDepth 20000 in
theorem b_X1_isCut_0 {Z : Zt} {d : Nat} {p : Program} {e : Env} {R : Room} {s : State} {m : MethodId} {args : Array Value} {below : List Frame} {meth : Method} {c : Code} {Rp : RT} (C : Cx Z d jX1_isCut RX1 p R s m args meth c) : Sd Z jX1_isCut p e R s m args below meth c (MQ below (QcS Z Rp) args s 0 0 (fun a => Z.2.2.1 < a)) 0 (w_X1_isCut_0 (MS Z d) (Gw Z 3 p e R s m args below meth c (MQ below (QcS Z Rp) args s 0 0 (fun a => Z.2.2.1 < a))) Rp) := by
  unfold w_X1_isCut_0
  refine s_aload_n (k := 0) C (by decide +kernel) ?_
  refine s_getI C w_1_135 (by decide +kernel) rfl ?_
  refine s_iload_n (k := 1) C (by decide +kernel) ?_
  refine s_iconst (n := 5) C (by decide +kernel) (by decide) ?_
  refine s_imul C (by decide +kernel) ?_
  refine s_iload_n (k := 2) C (by decide +kernel) ?_
  refine s_iadd C (by decide +kernel) ?_
  refine s_ishr C (by decide +kernel) ?_
  refine s_iconst (n := 1) C (by decide +kernel) (by decide) ?_
  refine s_iand C (by decide +kernel) ?_
  refine s_iconst (n := 1) C (by decide +kernel) (by decide) ?_
  refine s_icmp_ne (off := 7) (tgt := 20) C (by decide +kernel) (by decide) (fun _ _ _ _ _ _ h => h) ?_
  refine s_iconst (n := 1) C (by decide +kernel) (by decide) ?_
  exact s_goto (off := 4) (tgt := 21) C (by decide +kernel) (by decide) (fun _ _ _ _ _ _ h => h)
set_option maxRecDepth 20000 in
theorem b_X1_isCut_20 {Z : Zt} {d : Nat} {p : Program} {e : Env} {R : Room} {s : State} {m : MethodId} {args : Array Value} {below : List Frame} {meth : Method} {c : Code} {Rp : RT} (C : Cx Z d jX1_isCut RX1 p R s m args meth c) : Sd Z jX1_isCut p e R s m args below meth c (MQ below (QcS Z Rp) args s 0 0 (fun a => Z.2.2.1 < a)) 20 (w_X1_isCut_20 (MS Z d) (Gw Z 3 p e R s m args below meth c (MQ below (QcS Z Rp) args s 0 0 (fun a => Z.2.2.1 < a))) Rp) := by
  unfold w_X1_isCut_20
  refine s_iconst (n := 0) C (by decide +kernel) (by decide) ?_
  exact (fun _ _ _ _ _ _ h => h)
set_option maxRecDepth 20000 in
theorem b_X1_isCut_21 {Z : Zt} {d : Nat} {p : Program} {e : Env} {R : Room} {s : State} {m : MethodId} {args : Array Value} {below : List Frame} {meth : Method} {c : Code} {Rp : RT} (C : Cx Z d jX1_isCut RX1 p R s m args meth c) : Sd Z jX1_isCut p e R s m args below meth c (MQ below (QcS Z Rp) args s 0 0 (fun a => Z.2.2.1 < a)) 21 (w_X1_isCut_21 (MS Z d) (Gw Z 3 p e R s m args below meth c (MQ below (QcS Z Rp) args s 0 0 (fun a => Z.2.2.1 < a))) Rp) := by
  unfold w_X1_isCut_21
  exact s_zret C rfl (by decide +kernel)
theorem ms_X1_isCut {Z : Zt} {d : Nat} {S : Sh} {μ : Mi} {ρ : Mr} {Rp : RT} (a0 : Nat) (x1 : Int32) (x2 : Int32) (h : ∀ G : Nat → PT, (∀ (L st : List Value) (S : Sh) (q : Nat × Nat) (μ : Mi) (ρ : Mr), w_X1_isCut_20 (MS Z d) G Rp L st S q μ ρ → G 20 L st S q μ ρ) → (∀ (L st : List Value) (S : Sh) (q : Nat × Nat) (μ : Mi) (ρ : Mr), w_X1_isCut_21 (MS Z d) G Rp L st S q μ ρ → G 21 L st S q μ ρ) → w_X1_isCut_0 (MS Z d) G Rp [.ref a0, .int x1, .int x2] [] S (0, 0) μ ρ) : MS Z (d + 1) jX1_isCut [.ref a0, .int x1, .int x2] S μ ρ Rp :=
  MS_of [.ref a0, .int x1, .int x2] (by decide +kernel) rfl rfl (Nat.le_of_ble_eq_true rfl) rfl (fun p e R s m args below meth c C => b_X1_isCut_0 C _ _ _ _ _ _ (h _ (b_X1_isCut_20 C) (b_X1_isCut_21 C)))
def w_X1_turnLink_0 (M : CT) (G : Nat → PT) (Rp : RT) : PT := tAload 0 <| tDup <| tGetI 1 6 5 <| tConst 1 <| tIload 1 <| tConst 5 <| tBin (fun x y => x * y) <| tIload 2 <| tBin (fun x y => x + y) <| tBin (fun x y => x <<< (y &&& 31)) <| tConst 1 <| tIload 2 <| tConst 5 <| tBin (fun x y => x * y) <| tIload 1 <| tBin (fun x y => x + y) <| tBin (fun x y => x <<< (y &&& 31)) <| tBin (fun x y => x ||| y) <| tBin (fun x y => x ^^^ y) <| tPutI 1 6 5 <| tVret Rp
set_option maxRecDepth 20000 in
theorem b_X1_turnLink_0 {Z : Zt} {d : Nat} {p : Program} {e : Env} {R : Room} {s : State} {m : MethodId} {args : Array Value} {below : List Frame} {meth : Method} {c : Code} {Rp : RT} (C : Cx Z d jX1_turnLink RX1 p R s m args meth c) : Sd Z jX1_turnLink p e R s m args below meth c (MQ below (QcS Z Rp) args s 0 0 (fun a => Z.2.2.1 < a)) 0 (w_X1_turnLink_0 (MS Z d) (Gw Z 3 p e R s m args below meth c (MQ below (QcS Z Rp) args s 0 0 (fun a => Z.2.2.1 < a))) Rp) := by
  unfold w_X1_turnLink_0
  refine s_aload_n (k := 0) C (by decide +kernel) ?_
  refine s_dup C (by decide +kernel) ?_
  refine s_getI C w_1_135 (by decide +kernel) rfl ?_
  refine s_iconst (n := 1) C (by decide +kernel) (by decide) ?_
  refine s_iload_n (k := 1) C (by decide +kernel) ?_
  refine s_iconst (n := 5) C (by decide +kernel) (by decide) ?_
  refine s_imul C (by decide +kernel) ?_
  refine s_iload_n (k := 2) C (by decide +kernel) ?_
  refine s_iadd C (by decide +kernel) ?_
  refine s_ishl C (by decide +kernel) ?_
  refine s_iconst (n := 1) C (by decide +kernel) (by decide) ?_
  refine s_iload_n (k := 2) C (by decide +kernel) ?_
  refine s_iconst (n := 5) C (by decide +kernel) (by decide) ?_
  refine s_imul C (by decide +kernel) ?_
  refine s_iload_n (k := 1) C (by decide +kernel) ?_
  refine s_iadd C (by decide +kernel) ?_
  refine s_ishl C (by decide +kernel) ?_
  refine s_ior C (by decide +kernel) ?_
  refine s_ixor C (by decide +kernel) ?_
  refine s_putI C w_1_135 (by decide +kernel) rfl (Or.inl rfl) ?_
  exact s_vret C rfl (by decide +kernel)
theorem ms_X1_turnLink {Z : Zt} {d : Nat} {S : Sh} {μ : Mi} {ρ : Mr} {Rp : RT} (a0 : Nat) (x1 : Int32) (x2 : Int32) (h : ∀ G : Nat → PT, w_X1_turnLink_0 (MS Z d) G Rp [.ref a0, .int x1, .int x2] [] S (0, 0) μ ρ) : MS Z (d + 1) jX1_turnLink [.ref a0, .int x1, .int x2] S μ ρ Rp :=
  MS_of [.ref a0, .int x1, .int x2] (by decide +kernel) rfl rfl (Nat.le_of_ble_eq_true rfl) rfl (fun p e R s m args below meth c C => b_X1_turnLink_0 C _ _ _ _ _ _ (h _ ))
def w_X1_post_0 (M : CT) (G : Nat → PT) (Rp : RT) : PT := tAload 0 <| tGetR 1 6 1 <| tAstore 5 <| tAload 0 <| tGetI 1 6 2 <| tConst 60 <| tIf2 (fun x y => y ≤ x) (G 31) <| tAload 0 <| tGetI 1 6 5 <| tIload 1 <| tConst 5 <| tBin (fun x y => x * y) <| tIload 2 <| tBin (fun x y => x + y) <| tBin (fun x y => x >>> (y &&& 31)) <| tConst 1 <| tBin (fun x y => x &&& y) <| tConst 1 <| tIf2 (fun x y => x ≠ y) (G 44) <| G 31
def w_X1_post_31 (M : CT) (G : Nat → PT) (Rp : RT) : PT := tAload 0 <| tDup <| tGetI 1 6 3 <| tConst 1 <| tBin (fun x y => x + y) <| tPutI 1 6 3 <| tGoto (G 65)
def w_X1_post_44 (M : CT) (G : Nat → PT) (Rp : RT) : PT := tAload 0 <| tGetR 1 6 0 <| tAload 0 <| tGetI 1 6 2 <| tAldR 32 <| tAstore 5 <| tAload 0 <| tDup <| tGetI 1 6 2 <| tConst 1 <| tBin (fun x y => x + y) <| tPutI 1 6 2 <| G 65
def w_X1_post_65 (M : CT) (G : Nat → PT) (Rp : RT) : PT := tAload 5 <| tIload 1 <| tPutI 2 10 0 <| tAload 5 <| tIload 2 <| tPutI 2 10 1 <| tAload 5 <| tIload 3 <| tPutI 2 10 2 <| tAload 5 <| tIload 4 <| tPutI 2 10 3 <| tAload 5 <| tConst 0 <| tPutI 2 10 4 <| tAload 5 <| tConst 0 <| tPutI 2 10 5 <| tAload 5 <| tConst 0 <| tPutI 2 10 6 <| tAload 5 <| tConst 0 <| tPutI 2 10 7 <| tAload 5 <| tConst 0 <| tPutI 2 10 8 <| tAload 5 <| tAret Rp
set_option maxRecDepth 20000 in
theorem b_X1_post_0 {Z : Zt} {d : Nat} {p : Program} {e : Env} {R : Room} {s : State} {m : MethodId} {args : Array Value} {below : List Frame} {meth : Method} {c : Code} {Rp : RT} (C : Cx Z d jX1_post RX1 p R s m args meth c) : Sd Z jX1_post p e R s m args below meth c (MQ below (QcS Z Rp) args s 0 0 (fun a => Z.2.2.1 < a)) 0 (w_X1_post_0 (MS Z d) (Gw Z 6 p e R s m args below meth c (MQ below (QcS Z Rp) args s 0 0 (fun a => Z.2.2.1 < a))) Rp) := by
  unfold w_X1_post_0
  refine s_aload_n (k := 0) C (by decide +kernel) ?_
  refine s_getR C w_1_122 (by decide +kernel) rfl ?_
  refine s_astore (k := 5) C (by decide +kernel) ?_
  refine s_aload_n (k := 0) C (by decide +kernel) ?_
  refine s_getI C w_1_123 (by decide +kernel) rfl ?_
  refine s_bipush (n := 60) C (by decide +kernel) (by decide) ?_
  refine s_icmp_ge (off := 19) (tgt := 31) C (by decide +kernel) (by decide) (fun _ _ _ _ _ _ h => h) ?_
  refine s_aload_n (k := 0) C (by decide +kernel) ?_
  refine s_getI C w_1_135 (by decide +kernel) rfl ?_
  refine s_iload_n (k := 1) C (by decide +kernel) ?_
  refine s_iconst (n := 5) C (by decide +kernel) (by decide) ?_
  refine s_imul C (by decide +kernel) ?_
  refine s_iload_n (k := 2) C (by decide +kernel) ?_
  refine s_iadd C (by decide +kernel) ?_
  refine s_ishr C (by decide +kernel) ?_
  refine s_iconst (n := 1) C (by decide +kernel) (by decide) ?_
  refine s_iand C (by decide +kernel) ?_
  refine s_iconst (n := 1) C (by decide +kernel) (by decide) ?_
  refine s_icmp_ne (off := 16) (tgt := 44) C (by decide +kernel) (by decide) (fun _ _ _ _ _ _ h => h) ?_
  exact (fun _ _ _ _ _ _ h => h)
set_option maxRecDepth 20000 in
theorem b_X1_post_31 {Z : Zt} {d : Nat} {p : Program} {e : Env} {R : Room} {s : State} {m : MethodId} {args : Array Value} {below : List Frame} {meth : Method} {c : Code} {Rp : RT} (C : Cx Z d jX1_post RX1 p R s m args meth c) : Sd Z jX1_post p e R s m args below meth c (MQ below (QcS Z Rp) args s 0 0 (fun a => Z.2.2.1 < a)) 31 (w_X1_post_31 (MS Z d) (Gw Z 6 p e R s m args below meth c (MQ below (QcS Z Rp) args s 0 0 (fun a => Z.2.2.1 < a))) Rp) := by
  unfold w_X1_post_31
  refine s_aload_n (k := 0) C (by decide +kernel) ?_
  refine s_dup C (by decide +kernel) ?_
  refine s_getI C w_1_128 (by decide +kernel) rfl ?_
  refine s_iconst (n := 1) C (by decide +kernel) (by decide) ?_
  refine s_iadd C (by decide +kernel) ?_
  refine s_putI C w_1_128 (by decide +kernel) rfl (Or.inl rfl) ?_
  exact s_goto (off := 24) (tgt := 65) C (by decide +kernel) (by decide) (fun _ _ _ _ _ _ h => h)
set_option maxRecDepth 20000 in
theorem b_X1_post_44 {Z : Zt} {d : Nat} {p : Program} {e : Env} {R : Room} {s : State} {m : MethodId} {args : Array Value} {below : List Frame} {meth : Method} {c : Code} {Rp : RT} (C : Cx Z d jX1_post RX1 p R s m args meth c) : Sd Z jX1_post p e R s m args below meth c (MQ below (QcS Z Rp) args s 0 0 (fun a => Z.2.2.1 < a)) 44 (w_X1_post_44 (MS Z d) (Gw Z 6 p e R s m args below meth c (MQ below (QcS Z Rp) args s 0 0 (fun a => Z.2.2.1 < a))) Rp) := by
  unfold w_X1_post_44
  refine s_aload_n (k := 0) C (by decide +kernel) ?_
  refine s_getR C w_1_118 (by decide +kernel) rfl ?_
  refine s_aload_n (k := 0) C (by decide +kernel) ?_
  refine s_getI C w_1_123 (by decide +kernel) rfl ?_
  refine s_aald C rfl (by decide +kernel) ?_
  refine s_astore (k := 5) C (by decide +kernel) ?_
  refine s_aload_n (k := 0) C (by decide +kernel) ?_
  refine s_dup C (by decide +kernel) ?_
  refine s_getI C w_1_123 (by decide +kernel) rfl ?_
  refine s_iconst (n := 1) C (by decide +kernel) (by decide) ?_
  refine s_iadd C (by decide +kernel) ?_
  refine s_putI C w_1_123 (by decide +kernel) rfl (Or.inl rfl) ?_
  exact (fun _ _ _ _ _ _ h => h)
set_option maxRecDepth 20000 in
theorem b_X1_post_65 {Z : Zt} {d : Nat} {p : Program} {e : Env} {R : Room} {s : State} {m : MethodId} {args : Array Value} {below : List Frame} {meth : Method} {c : Code} {Rp : RT} (C : Cx Z d jX1_post RX1 p R s m args meth c) : Sd Z jX1_post p e R s m args below meth c (MQ below (QcS Z Rp) args s 0 0 (fun a => Z.2.2.1 < a)) 65 (w_X1_post_65 (MS Z d) (Gw Z 6 p e R s m args below meth c (MQ below (QcS Z Rp) args s 0 0 (fun a => Z.2.2.1 < a))) Rp) := by
  unfold w_X1_post_65
  refine s_aload (k := 5) C (by decide +kernel) ?_
  refine s_iload_n (k := 1) C (by decide +kernel) ?_
  refine s_putI C w_1_53 (by decide +kernel) rfl (Or.inl rfl) ?_
  refine s_aload (k := 5) C (by decide +kernel) ?_
  refine s_iload_n (k := 2) C (by decide +kernel) ?_
  refine s_putI C w_1_58 (by decide +kernel) rfl (Or.inl rfl) ?_
  refine s_aload (k := 5) C (by decide +kernel) ?_
  refine s_iload_n (k := 3) C (by decide +kernel) ?_
  refine s_putI C w_1_63 (by decide +kernel) rfl (Or.inl rfl) ?_
  refine s_aload (k := 5) C (by decide +kernel) ?_
  refine s_iload (k := 4) C (by decide +kernel) ?_
  refine s_putI C w_1_68 (by decide +kernel) rfl (Or.inl rfl) ?_
  refine s_aload (k := 5) C (by decide +kernel) ?_
  refine s_iconst (n := 0) C (by decide +kernel) (by decide) ?_
  refine s_putI C w_1_72 (by decide +kernel) rfl (Or.inl rfl) ?_
  refine s_aload (k := 5) C (by decide +kernel) ?_
  refine s_iconst (n := 0) C (by decide +kernel) (by decide) ?_
  refine s_putI C w_1_77 (by decide +kernel) rfl (Or.inl rfl) ?_
  refine s_aload (k := 5) C (by decide +kernel) ?_
  refine s_iconst (n := 0) C (by decide +kernel) (by decide) ?_
  refine s_putI C w_1_82 (by decide +kernel) rfl (Or.inl rfl) ?_
  refine s_aload (k := 5) C (by decide +kernel) ?_
  refine s_iconst (n := 0) C (by decide +kernel) (by decide) ?_
  refine s_putI C w_1_87 (by decide +kernel) rfl (Or.inl rfl) ?_
  refine s_aload (k := 5) C (by decide +kernel) ?_
  refine s_iconst (n := 0) C (by decide +kernel) (by decide) ?_
  refine s_putI C w_1_91 (by decide +kernel) rfl (Or.inl rfl) ?_
  refine s_aload (k := 5) C (by decide +kernel) ?_
  exact s_aret C rfl (by decide +kernel)
theorem ms_X1_post {Z : Zt} {d : Nat} {S : Sh} {μ : Mi} {ρ : Mr} {Rp : RT} (a0 : Nat) (x1 : Int32) (x2 : Int32) (x3 : Int32) (x4 : Int32) (h : ∀ G : Nat → PT, (∀ (L st : List Value) (S : Sh) (q : Nat × Nat) (μ : Mi) (ρ : Mr), w_X1_post_31 (MS Z d) G Rp L st S q μ ρ → G 31 L st S q μ ρ) → (∀ (L st : List Value) (S : Sh) (q : Nat × Nat) (μ : Mi) (ρ : Mr), w_X1_post_44 (MS Z d) G Rp L st S q μ ρ → G 44 L st S q μ ρ) → (∀ (L st : List Value) (S : Sh) (q : Nat × Nat) (μ : Mi) (ρ : Mr), w_X1_post_65 (MS Z d) G Rp L st S q μ ρ → G 65 L st S q μ ρ) → w_X1_post_0 (MS Z d) G Rp [.ref a0, .int x1, .int x2, .int x3, .int x4, .null] [] S (0, 0) μ ρ) : MS Z (d + 1) jX1_post [.ref a0, .int x1, .int x2, .int x3, .int x4] S μ ρ Rp :=
  MS_of [.ref a0, .int x1, .int x2, .int x3, .int x4, .null] (by decide +kernel) rfl rfl (Nat.le_of_ble_eq_true rfl) rfl (fun p e R s m args below meth c C => b_X1_post_0 C _ _ _ _ _ _ (h _ (b_X1_post_31 C) (b_X1_post_44 C) (b_X1_post_65 C)))
def w_X1_takeOut_0 (M : CT) (G : Nat → PT) (Rp : RT) : PT := tAload 0 <| tGetR 1 6 0 <| tIload 1 <| tAldR 32 <| tAstore 2 <| tAload 0 <| tDup <| tGetI 1 6 2 <| tConst 1 <| tBin (fun x y => x - y) <| tPutI 1 6 2 <| tIload 1 <| tIstore 3 <| G 19
def w_X1_takeOut_19 (M : CT) (G : Nat → PT) (Rp : RT) : PT := tIload 3 <| tAload 0 <| tGetI 1 6 2 <| tIf2 (fun x y => y ≤ x) (G 47) <| tAload 0 <| tGetR 1 6 0 <| tIload 3 <| tAload 0 <| tGetR 1 6 0 <| tIload 3 <| tConst 1 <| tBin (fun x y => x + y) <| tAldR 32 <| tAast 2 <| tIinc 3 1 <| tGoto (G 19)
def w_X1_takeOut_47 (M : CT) (G : Nat → PT) (Rp : RT) : PT := tAload 0 <| tGetR 1 6 0 <| tAload 0 <| tGetI 1 6 2 <| tAload 0 <| tGetR 1 6 0 <| tConst 60 <| tAldR 32 <| tAast 2 <| tAload 0 <| tGetR 1 6 0 <| tConst 60 <| tAload 2 <| tAast 2 <| tAload 2 <| tAret Rp
set_option maxRecDepth 20000 in
theorem b_X1_takeOut_0 {Z : Zt} {d : Nat} {p : Program} {e : Env} {R : Room} {s : State} {m : MethodId} {args : Array Value} {below : List Frame} {meth : Method} {c : Code} {Rp : RT} (C : Cx Z d jX1_takeOut RX1 p R s m args meth c) : Sd Z jX1_takeOut p e R s m args below meth c (MQ below (QcS Z Rp) args s 0 0 (fun a => Z.2.2.1 < a)) 0 (w_X1_takeOut_0 (MS Z d) (Gw Z 4 p e R s m args below meth c (MQ below (QcS Z Rp) args s 0 0 (fun a => Z.2.2.1 < a))) Rp) := by
  unfold w_X1_takeOut_0
  refine s_aload_n (k := 0) C (by decide +kernel) ?_
  refine s_getR C w_1_118 (by decide +kernel) rfl ?_
  refine s_iload_n (k := 1) C (by decide +kernel) ?_
  refine s_aald C rfl (by decide +kernel) ?_
  refine s_astore_n (k := 2) C (by decide +kernel) ?_
  refine s_aload_n (k := 0) C (by decide +kernel) ?_
  refine s_dup C (by decide +kernel) ?_
  refine s_getI C w_1_123 (by decide +kernel) rfl ?_
  refine s_iconst (n := 1) C (by decide +kernel) (by decide) ?_
  refine s_isub C (by decide +kernel) ?_
  refine s_putI C w_1_123 (by decide +kernel) rfl (Or.inl rfl) ?_
  refine s_iload_n (k := 1) C (by decide +kernel) ?_
  refine s_istore_n (k := 3) C (by decide +kernel) ?_
  exact (fun _ _ _ _ _ _ h => h)
set_option maxRecDepth 20000 in
theorem b_X1_takeOut_19 {Z : Zt} {d : Nat} {p : Program} {e : Env} {R : Room} {s : State} {m : MethodId} {args : Array Value} {below : List Frame} {meth : Method} {c : Code} {Rp : RT} (C : Cx Z d jX1_takeOut RX1 p R s m args meth c) : Sd Z jX1_takeOut p e R s m args below meth c (MQ below (QcS Z Rp) args s 0 0 (fun a => Z.2.2.1 < a)) 19 (w_X1_takeOut_19 (MS Z d) (Gw Z 4 p e R s m args below meth c (MQ below (QcS Z Rp) args s 0 0 (fun a => Z.2.2.1 < a))) Rp) := by
  unfold w_X1_takeOut_19
  refine s_iload_n (k := 3) C (by decide +kernel) ?_
  refine s_aload_n (k := 0) C (by decide +kernel) ?_
  refine s_getI C w_1_123 (by decide +kernel) rfl ?_
  refine s_icmp_ge (off := 23) (tgt := 47) C (by decide +kernel) (by decide) (fun _ _ _ _ _ _ h => h) ?_
  refine s_aload_n (k := 0) C (by decide +kernel) ?_
  refine s_getR C w_1_118 (by decide +kernel) rfl ?_
  refine s_iload_n (k := 3) C (by decide +kernel) ?_
  refine s_aload_n (k := 0) C (by decide +kernel) ?_
  refine s_getR C w_1_118 (by decide +kernel) rfl ?_
  refine s_iload_n (k := 3) C (by decide +kernel) ?_
  refine s_iconst (n := 1) C (by decide +kernel) (by decide) ?_
  refine s_iadd C (by decide +kernel) ?_
  refine s_aald C rfl (by decide +kernel) ?_
  refine s_aast C rfl (by decide +kernel) ?_
  refine s_iinc (n := 1) C (by decide +kernel) (by decide) ?_
  exact s_goto (off := (-25)) (tgt := 19) C (by decide +kernel) (by decide) (fun _ _ _ _ _ _ h => h)
set_option maxRecDepth 20000 in
theorem b_X1_takeOut_47 {Z : Zt} {d : Nat} {p : Program} {e : Env} {R : Room} {s : State} {m : MethodId} {args : Array Value} {below : List Frame} {meth : Method} {c : Code} {Rp : RT} (C : Cx Z d jX1_takeOut RX1 p R s m args meth c) : Sd Z jX1_takeOut p e R s m args below meth c (MQ below (QcS Z Rp) args s 0 0 (fun a => Z.2.2.1 < a)) 47 (w_X1_takeOut_47 (MS Z d) (Gw Z 4 p e R s m args below meth c (MQ below (QcS Z Rp) args s 0 0 (fun a => Z.2.2.1 < a))) Rp) := by
  unfold w_X1_takeOut_47
  refine s_aload_n (k := 0) C (by decide +kernel) ?_
  refine s_getR C w_1_118 (by decide +kernel) rfl ?_
  refine s_aload_n (k := 0) C (by decide +kernel) ?_
  refine s_getI C w_1_123 (by decide +kernel) rfl ?_
  refine s_aload_n (k := 0) C (by decide +kernel) ?_
  refine s_getR C w_1_118 (by decide +kernel) rfl ?_
  refine s_bipush (n := 60) C (by decide +kernel) (by decide) ?_
  refine s_aald C rfl (by decide +kernel) ?_
  refine s_aast C rfl (by decide +kernel) ?_
  refine s_aload_n (k := 0) C (by decide +kernel) ?_
  refine s_getR C w_1_118 (by decide +kernel) rfl ?_
  refine s_bipush (n := 60) C (by decide +kernel) (by decide) ?_
  refine s_aload_n (k := 2) C (by decide +kernel) ?_
  refine s_aast C rfl (by decide +kernel) ?_
  refine s_aload_n (k := 2) C (by decide +kernel) ?_
  exact s_aret C rfl (by decide +kernel)
theorem ms_X1_takeOut {Z : Zt} {d : Nat} {S : Sh} {μ : Mi} {ρ : Mr} {Rp : RT} (a0 : Nat) (x1 : Int32) (h : ∀ G : Nat → PT, (∀ (L st : List Value) (S : Sh) (q : Nat × Nat) (μ : Mi) (ρ : Mr), w_X1_takeOut_19 (MS Z d) G Rp L st S q μ ρ → G 19 L st S q μ ρ) → (∀ (L st : List Value) (S : Sh) (q : Nat × Nat) (μ : Mi) (ρ : Mr), w_X1_takeOut_47 (MS Z d) G Rp L st S q μ ρ → G 47 L st S q μ ρ) → w_X1_takeOut_0 (MS Z d) G Rp [.ref a0, .int x1, .null, .null] [] S (0, 0) μ ρ) : MS Z (d + 1) jX1_takeOut [.ref a0, .int x1] S μ ρ Rp :=
  MS_of [.ref a0, .int x1, .null, .null] (by decide +kernel) rfl rfl (Nat.le_of_ble_eq_true rfl) rfl (fun p e R s m args below meth c C => b_X1_takeOut_0 C _ _ _ _ _ _ (h _ (b_X1_takeOut_19 C) (b_X1_takeOut_47 C)))
def w_X1_find_0 (M : CT) (G : Nat → PT) (Rp : RT) : PT := tConst 0 <| tIstore 4 <| G 3
def w_X1_find_3 (M : CT) (G : Nat → PT) (Rp : RT) : PT := tIload 4 <| tAload 0 <| tGetI 1 6 2 <| tIf2 (fun x y => y ≤ x) (G 57) <| tAload 0 <| tGetR 1 6 0 <| tIload 4 <| tAldR 32 <| tAstore 5 <| tAload 5 <| tGetI 2 10 0 <| tIload 1 <| tIf2 (fun x y => x ≠ y) (G 51) <| tAload 5 <| tGetI 2 10 1 <| tIload 2 <| tIf2 (fun x y => x ≠ y) (G 51) <| tAload 5 <| tGetI 2 10 2 <| tIload 3 <| tIf2 (fun x y => x ≠ y) (G 51) <| tIload 4 <| tIret Rp
def w_X1_find_51 (M : CT) (G : Nat → PT) (Rp : RT) : PT := tIinc 4 1 <| tGoto (G 3)
def w_X1_find_57 (M : CT) (G : Nat → PT) (Rp : RT) : PT := tConst (-1) <| tIret Rp
set_option maxRecDepth 20000 in
theorem b_X1_find_0 {Z : Zt} {d : Nat} {p : Program} {e : Env} {R : Room} {s : State} {m : MethodId} {args : Array Value} {below : List Frame} {meth : Method} {c : Code} {Rp : RT} (C : Cx Z d jX1_find RX1 p R s m args meth c) : Sd Z jX1_find p e R s m args below meth c (MQ below (QcS Z Rp) args s 0 0 (fun a => Z.2.2.1 < a)) 0 (w_X1_find_0 (MS Z d) (Gw Z 6 p e R s m args below meth c (MQ below (QcS Z Rp) args s 0 0 (fun a => Z.2.2.1 < a))) Rp) := by
  unfold w_X1_find_0
  refine s_iconst (n := 0) C (by decide +kernel) (by decide) ?_
  refine s_istore (k := 4) C (by decide +kernel) ?_
  exact (fun _ _ _ _ _ _ h => h)
set_option maxRecDepth 20000 in
theorem b_X1_find_3 {Z : Zt} {d : Nat} {p : Program} {e : Env} {R : Room} {s : State} {m : MethodId} {args : Array Value} {below : List Frame} {meth : Method} {c : Code} {Rp : RT} (C : Cx Z d jX1_find RX1 p R s m args meth c) : Sd Z jX1_find p e R s m args below meth c (MQ below (QcS Z Rp) args s 0 0 (fun a => Z.2.2.1 < a)) 3 (w_X1_find_3 (MS Z d) (Gw Z 6 p e R s m args below meth c (MQ below (QcS Z Rp) args s 0 0 (fun a => Z.2.2.1 < a))) Rp) := by
  unfold w_X1_find_3
  refine s_iload (k := 4) C (by decide +kernel) ?_
  refine s_aload_n (k := 0) C (by decide +kernel) ?_
  refine s_getI C w_1_123 (by decide +kernel) rfl ?_
  refine s_icmp_ge (off := 48) (tgt := 57) C (by decide +kernel) (by decide) (fun _ _ _ _ _ _ h => h) ?_
  refine s_aload_n (k := 0) C (by decide +kernel) ?_
  refine s_getR C w_1_118 (by decide +kernel) rfl ?_
  refine s_iload (k := 4) C (by decide +kernel) ?_
  refine s_aald C rfl (by decide +kernel) ?_
  refine s_astore (k := 5) C (by decide +kernel) ?_
  refine s_aload (k := 5) C (by decide +kernel) ?_
  refine s_getI C w_1_53 (by decide +kernel) rfl ?_
  refine s_iload_n (k := 1) C (by decide +kernel) ?_
  refine s_icmp_ne (off := 24) (tgt := 51) C (by decide +kernel) (by decide) (fun _ _ _ _ _ _ h => h) ?_
  refine s_aload (k := 5) C (by decide +kernel) ?_
  refine s_getI C w_1_58 (by decide +kernel) rfl ?_
  refine s_iload_n (k := 2) C (by decide +kernel) ?_
  refine s_icmp_ne (off := 15) (tgt := 51) C (by decide +kernel) (by decide) (fun _ _ _ _ _ _ h => h) ?_
  refine s_aload (k := 5) C (by decide +kernel) ?_
  refine s_getI C w_1_63 (by decide +kernel) rfl ?_
  refine s_iload_n (k := 3) C (by decide +kernel) ?_
  refine s_icmp_ne (off := 6) (tgt := 51) C (by decide +kernel) (by decide) (fun _ _ _ _ _ _ h => h) ?_
  refine s_iload (k := 4) C (by decide +kernel) ?_
  exact s_iret C rfl (by decide +kernel)
set_option maxRecDepth 20000 in
theorem b_X1_find_51 {Z : Zt} {d : Nat} {p : Program} {e : Env} {R : Room} {s : State} {m : MethodId} {args : Array Value} {below : List Frame} {meth : Method} {c : Code} {Rp : RT} (C : Cx Z d jX1_find RX1 p R s m args meth c) : Sd Z jX1_find p e R s m args below meth c (MQ below (QcS Z Rp) args s 0 0 (fun a => Z.2.2.1 < a)) 51 (w_X1_find_51 (MS Z d) (Gw Z 6 p e R s m args below meth c (MQ below (QcS Z Rp) args s 0 0 (fun a => Z.2.2.1 < a))) Rp) := by
  unfold w_X1_find_51
  refine s_iinc (n := 1) C (by decide +kernel) (by decide) ?_
  exact s_goto (off := (-51)) (tgt := 3) C (by decide +kernel) (by decide) (fun _ _ _ _ _ _ h => h)
set_option maxRecDepth 20000 in
theorem b_X1_find_57 {Z : Zt} {d : Nat} {p : Program} {e : Env} {R : Room} {s : State} {m : MethodId} {args : Array Value} {below : List Frame} {meth : Method} {c : Code} {Rp : RT} (C : Cx Z d jX1_find RX1 p R s m args meth c) : Sd Z jX1_find p e R s m args below meth c (MQ below (QcS Z Rp) args s 0 0 (fun a => Z.2.2.1 < a)) 57 (w_X1_find_57 (MS Z d) (Gw Z 6 p e R s m args below meth c (MQ below (QcS Z Rp) args s 0 0 (fun a => Z.2.2.1 < a))) Rp) := by
  unfold w_X1_find_57
  refine s_iconst (n := (-1)) C (by decide +kernel) (by decide) ?_
  exact s_iret C rfl (by decide +kernel)
theorem ms_X1_find {Z : Zt} {d : Nat} {S : Sh} {μ : Mi} {ρ : Mr} {Rp : RT} (a0 : Nat) (x1 : Int32) (x2 : Int32) (x3 : Int32) (h : ∀ G : Nat → PT, (∀ (L st : List Value) (S : Sh) (q : Nat × Nat) (μ : Mi) (ρ : Mr), w_X1_find_3 (MS Z d) G Rp L st S q μ ρ → G 3 L st S q μ ρ) → (∀ (L st : List Value) (S : Sh) (q : Nat × Nat) (μ : Mi) (ρ : Mr), w_X1_find_51 (MS Z d) G Rp L st S q μ ρ → G 51 L st S q μ ρ) → (∀ (L st : List Value) (S : Sh) (q : Nat × Nat) (μ : Mi) (ρ : Mr), w_X1_find_57 (MS Z d) G Rp L st S q μ ρ → G 57 L st S q μ ρ) → w_X1_find_0 (MS Z d) G Rp [.ref a0, .int x1, .int x2, .int x3, .null, .null] [] S (0, 0) μ ρ) : MS Z (d + 1) jX1_find [.ref a0, .int x1, .int x2, .int x3] S μ ρ Rp :=
  MS_of [.ref a0, .int x1, .int x2, .int x3, .null, .null] (by decide +kernel) rfl rfl (Nat.le_of_ble_eq_true rfl) rfl (fun p e R s m args below meth c C => b_X1_find_0 C _ _ _ _ _ _ (h _ (b_X1_find_3 C) (b_X1_find_51 C) (b_X1_find_57 C)))
