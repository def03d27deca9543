def w_X12_has_0 (M : CT) (G : Nat → PT) (Rp : RT) : PT := tIload 0 <| tIload 1 <| tBin (fun x y => x >>> (y &&& 31)) <| tConst 1 <| tBin (fun x y => x &&& y) <| tConst 1 <| tIf2 (fun x y => x ≠ y) (G 13) <| tConst 1 <| tGoto (G 14)
def w_X12_has_13 (M : CT) (G : Nat → PT) (Rp : RT) : PT := tConst 0 <| G 14
def w_X12_has_14 (M : CT) (G : Nat → PT) (Rp : RT) : PT := tZret Rp
set_option maxRecDepth 20000 in
theorem b_X12_has_0 {Z : Zt} {d : Nat} {p : Program} {e : Env} {R : Room} {s : State} {m : MethodId} {args : Array Value} {below : List Frame} {meth : Method} {c : Code} {Rp : RT} (C : Cx Z d jX12_has RX12 p R s m args meth c) : Sd Z jX12_has p e R s m args below meth c (MQ below (QcS Z Rp) args s 0 0 (fun a => Z.2.2.1 < a)) 0 (w_X12_has_0 (MS Z d) (Gw Z 2 p e R s m args below meth c (MQ below (QcS Z Rp) args s 0 0 (fun a => Z.2.2.1 < a))) Rp) := by
  unfold w_X12_has_0
  refine s_iload_n (k := 0) C (by decide +kernel) ?_
  refine s_iload_n (k := 1) C (by decide +kernel) ?_
  refine s_ishr C (by decide +kernel) ?_
  refine s_iconst (n := 1) C (by decide +kernel) (by decide) ?_
  refine s_iand C (by decide +kernel) ?_
  refine s_iconst (n := 1) C (by decide +kernel) (by decide) ?_
  refine s_icmp_ne (off := 7) (tgt := 13) C (by decide +kernel) (by decide) (fun _ _ _ _ _ _ h => h) ?_
  refine s_iconst (n := 1) C (by decide +kernel) (by decide) ?_
  exact s_goto (off := 4) (tgt := 14) C (by decide +kernel) (by decide) (fun _ _ _ _ _ _ h => h)
set_option maxRecDepth 20000 in
theorem b_X12_has_13 {Z : Zt} {d : Nat} {p : Program} {e : Env} {R : Room} {s : State} {m : MethodId} {args : Array Value} {below : List Frame} {meth : Method} {c : Code} {Rp : RT} (C : Cx Z d jX12_has RX12 p R s m args meth c) : Sd Z jX12_has p e R s m args below meth c (MQ below (QcS Z Rp) args s 0 0 (fun a => Z.2.2.1 < a)) 13 (w_X12_has_13 (MS Z d) (Gw Z 2 p e R s m args below meth c (MQ below (QcS Z Rp) args s 0 0 (fun a => Z.2.2.1 < a))) Rp) := by
  unfold w_X12_has_13
  refine s_iconst (n := 0) C (by decide +kernel) (by decide) ?_
  exact (fun _ _ _ _ _ _ h => h)
set_option maxRecDepth 20000 in
theorem b_X12_has_14 {Z : Zt} {d : Nat} {p : Program} {e : Env} {R : Room} {s : State} {m : MethodId} {args : Array Value} {below : List Frame} {meth : Method} {c : Code} {Rp : RT} (C : Cx Z d jX12_has RX12 p R s m args meth c) : Sd Z jX12_has p e R s m args below meth c (MQ below (QcS Z Rp) args s 0 0 (fun a => Z.2.2.1 < a)) 14 (w_X12_has_14 (MS Z d) (Gw Z 2 p e R s m args below meth c (MQ below (QcS Z Rp) args s 0 0 (fun a => Z.2.2.1 < a))) Rp) := by
  unfold w_X12_has_14
  exact s_zret C rfl (by decide +kernel)
theorem ms_X12_has {Z : Zt} {d : Nat} {S : Sh} {μ : Mi} {ρ : Mr} {Rp : RT} (x1 : Int32) (x2 : Int32) (h : ∀ G : Nat → PT, (∀ (L st : List Value) (S : Sh) (q : Nat × Nat) (μ : Mi) (ρ : Mr), w_X12_has_13 (MS Z d) G Rp L st S q μ ρ → G 13 L st S q μ ρ) → (∀ (L st : List Value) (S : Sh) (q : Nat × Nat) (μ : Mi) (ρ : Mr), w_X12_has_14 (MS Z d) G Rp L st S q μ ρ → G 14 L st S q μ ρ) → w_X12_has_0 (MS Z d) G Rp [.int x1, .int x2] [] S (0, 0) μ ρ) : MS Z (d + 1) jX12_has [.int x1, .int x2] S μ ρ Rp :=
  MS_of [.int x1, .int x2] (by decide +kernel) rfl rfl (Nat.le_of_ble_eq_true rfl) rfl (fun p e R s m args below meth c C => b_X12_has_0 C _ _ _ _ _ _ (h _ (b_X12_has_13 C) (b_X12_has_14 C)))
def w_X12_bits_0 (M : CT) (G : Nat → PT) (Rp : RT) : PT := tConst 0 <| tIstore 1 <| tConst 0 <| tIstore 2 <| G 4
def w_X12_bits_4 (M : CT) (G : Nat → PT) (Rp : RT) : PT := tIload 2 <| tConst 5 <| tIf2 (fun x y => y ≤ x) (G 23) <| tIload 1 <| tIload 0 <| tIload 2 <| tBin (fun x y => x >>> (y &&& 31)) <| tConst 1 <| tBin (fun x y => x &&& y) <| tBin (fun x y => x + y) <| tIstore 1 <| tIinc 2 1 <| tGoto (G 4)
def w_X12_bits_23 (M : CT) (G : Nat → PT) (Rp : RT) : PT := tIload 1 <| tIret Rp
set_option maxRecDepth 20000 in
theorem b_X12_bits_0 {Z : Zt} {d : Nat} {p : Program} {e : Env} {R : Room} {s : State} {m : MethodId} {args : Array Value} {below : List Frame} {meth : Method} {c : Code} {Rp : RT} (C : Cx Z d jX12_bits RX12 p R s m args meth c) : Sd Z jX12_bits p e R s m args below meth c (MQ below (QcS Z Rp) args s 0 0 (fun a => Z.2.2.1 < a)) 0 (w_X12_bits_0 (MS Z d) (Gw Z 3 p e R s m args below meth c (MQ below (QcS Z Rp) args s 0 0 (fun a => Z.2.2.1 < a))) Rp) := by
  unfold w_X12_bits_0
  refine s_iconst (n := 0) C (by decide +kernel) (by decide) ?_
  refine s_istore_n (k := 1) C (by decide +kernel) ?_
  refine s_iconst (n := 0) C (by decide +kernel) (by decide) ?_
  refine s_istore_n (k := 2) C (by decide +kernel) ?_
  exact (fun _ _ _ _ _ _ h => h)
set_option maxRecDepth 20000 in
theorem b_X12_bits_4 {Z : Zt} {d : Nat} {p : Program} {e : Env} {R : Room} {s : State} {m : MethodId} {args : Array Value} {below : List Frame} {meth : Method} {c : Code} {Rp : RT} (C : Cx Z d jX12_bits RX12 p R s m args meth c) : Sd Z jX12_bits p e R s m args below meth c (MQ below (QcS Z Rp) args s 0 0 (fun a => Z.2.2.1 < a)) 4 (w_X12_bits_4 (MS Z d) (Gw Z 3 p e R s m args below meth c (MQ below (QcS Z Rp) args s 0 0 (fun a => Z.2.2.1 < a))) Rp) := by
  unfold w_X12_bits_4
  refine s_iload_n (k := 2) C (by decide +kernel) ?_
  refine s_iconst (n := 5) C (by decide +kernel) (by decide) ?_
  refine s_icmp_ge (off := 17) (tgt := 23) C (by decide +kernel) (by decide) (fun _ _ _ _ _ _ h => h) ?_
  refine s_iload_n (k := 1) C (by decide +kernel) ?_
  refine s_iload_n (k := 0) C (by decide +kernel) ?_
  refine s_iload_n (k := 2) C (by decide +kernel) ?_
  refine s_ishr C (by decide +kernel) ?_
  refine s_iconst (n := 1) C (by decide +kernel) (by decide) ?_
  refine s_iand C (by decide +kernel) ?_
  refine s_iadd C (by decide +kernel) ?_
  refine s_istore_n (k := 1) C (by decide +kernel) ?_
  refine s_iinc (n := 1) C (by decide +kernel) (by decide) ?_
  exact s_goto (off := (-16)) (tgt := 4) C (by decide +kernel) (by decide) (fun _ _ _ _ _ _ h => h)
set_option maxRecDepth 20000 in
theorem b_X12_bits_23 {Z : Zt} {d : Nat} {p : Program} {e : Env} {R : Room} {s : State} {m : MethodId} {args : Array Value} {below : List Frame} {meth : Method} {c : Code} {Rp : RT} (C : Cx Z d jX12_bits RX12 p R s m args meth c) : Sd Z jX12_bits p e R s m args below meth c (MQ below (QcS Z Rp) args s 0 0 (fun a => Z.2.2.1 < a)) 23 (w_X12_bits_23 (MS Z d) (Gw Z 3 p e R s m args below meth c (MQ below (QcS Z Rp) args s 0 0 (fun a => Z.2.2.1 < a))) Rp) := by
  unfold w_X12_bits_23
  refine s_iload_n (k := 1) C (by decide +kernel) ?_
  exact s_iret C rfl (by decide +kernel)
theorem ms_X12_bits {Z : Zt} {d : Nat} {S : Sh} {μ : Mi} {ρ : Mr} {Rp : RT} (x1 : Int32) (h : ∀ G : Nat → PT, (∀ (L st : List Value) (S : Sh) (q : Nat × Nat) (μ : Mi) (ρ : Mr), w_X12_bits_4 (MS Z d) G Rp L st S q μ ρ → G 4 L st S q μ ρ) → (∀ (L st : List Value) (S : Sh) (q : Nat × Nat) (μ : Mi) (ρ : Mr), w_X12_bits_23 (MS Z d) G Rp L st S q μ ρ → G 23 L st S q μ ρ) → w_X12_bits_0 (MS Z d) G Rp [.int x1, .null, .null] [] S (0, 0) μ ρ) : MS Z (d + 1) jX12_bits [.int x1] S μ ρ Rp :=
  MS_of [.int x1, .null, .null] (by decide +kernel) rfl rfl (Nat.le_of_ble_eq_true rfl) rfl (fun p e R s m args below meth c C => b_X12_bits_0 C _ _ _ _ _ _ (h _ (b_X12_bits_4 C) (b_X12_bits_23 C)))
def w_X12_greater_0 (M : CT) (G : Nat → PT) (Rp : RT) : PT := tIload 0 <| tIload 1 <| tIf2 (fun x y => x ≤ y) (G 9) <| tIload 0 <| tGoto (G 10)
def w_X12_greater_9 (M : CT) (G : Nat → PT) (Rp : RT) : PT := tIload 1 <| G 10
def w_X12_greater_10 (M : CT) (G : Nat → PT) (Rp : RT) : PT := tIret Rp
set_option maxRecDepth 20000 in
theorem b_X12_greater_0 {Z : Zt} {d : Nat} {p : Program} {e : Env} {R : Room} {s : State} {m : MethodId} {args : Array Value} {below : List Frame} {meth : Method} {c : Code} {Rp : RT} (C : Cx Z d jX12_greater RX12 p R s m args meth c) : Sd Z jX12_greater p e R s m args below meth c (MQ below (QcS Z Rp) args s 0 0 (fun a => Z.2.2.1 < a)) 0 (w_X12_greater_0 (MS Z d) (Gw Z 2 p e R s m args below meth c (MQ below (QcS Z Rp) args s 0 0 (fun a => Z.2.2.1 < a))) Rp) := by
  unfold w_X12_greater_0
  refine s_iload_n (k := 0) C (by decide +kernel) ?_
  refine s_iload_n (k := 1) C (by decide +kernel) ?_
  refine s_icmp_le (off := 7) (tgt := 9) C (by decide +kernel) (by decide) (fun _ _ _ _ _ _ h => h) ?_
  refine s_iload_n (k := 0) C (by decide +kernel) ?_
  exact s_goto (off := 4) (tgt := 10) C (by decide +kernel) (by decide) (fun _ _ _ _ _ _ h => h)
set_option maxRecDepth 20000 in
theorem b_X12_greater_9 {Z : Zt} {d : Nat} {p : Program} {e : Env} {R : Room} {s : State} {m : MethodId} {args : Array Value} {below : List Frame} {meth : Method} {c : Code} {Rp : RT} (C : Cx Z d jX12_greater RX12 p R s m args meth c) : Sd Z jX12_greater p e R s m args below meth c (MQ below (QcS Z Rp) args s 0 0 (fun a => Z.2.2.1 < a)) 9 (w_X12_greater_9 (MS Z d) (Gw Z 2 p e R s m args below meth c (MQ below (QcS Z Rp) args s 0 0 (fun a => Z.2.2.1 < a))) Rp) := by
  unfold w_X12_greater_9
  refine s_iload_n (k := 1) C (by decide +kernel) ?_
  exact (fun _ _ _ _ _ _ h => h)
set_option maxRecDepth 20000 in
theorem b_X12_greater_10 {Z : Zt} {d : Nat} {p : Program} {e : Env} {R : Room} {s : State} {m : MethodId} {args : Array Value} {below : List Frame} {meth : Method} {c : Code} {Rp : RT} (C : Cx Z d jX12_greater RX12 p R s m args meth c) : Sd Z jX12_greater p e R s m args below meth c (MQ below (QcS Z Rp) args s 0 0 (fun a => Z.2.2.1 < a)) 10 (w_X12_greater_10 (MS Z d) (Gw Z 2 p e R s m args below meth c (MQ below (QcS Z Rp) args s 0 0 (fun a => Z.2.2.1 < a))) Rp) := by
  unfold w_X12_greater_10
  exact s_iret C rfl (by decide +kernel)
theorem ms_X12_greater {Z : Zt} {d : Nat} {S : Sh} {μ : Mi} {ρ : Mr} {Rp : RT} (x1 : Int32) (x2 : Int32) (h : ∀ G : Nat → PT, (∀ (L st : List Value) (S : Sh) (q : Nat × Nat) (μ : Mi) (ρ : Mr), w_X12_greater_9 (MS Z d) G Rp L st S q μ ρ → G 9 L st S q μ ρ) → (∀ (L st : List Value) (S : Sh) (q : Nat × Nat) (μ : Mi) (ρ : Mr), w_X12_greater_10 (MS Z d) G Rp L st S q μ ρ → G 10 L st S q μ ρ) → w_X12_greater_0 (MS Z d) G Rp [.int x1, .int x2] [] S (0, 0) μ ρ) : MS Z (d + 1) jX12_greater [.int x1, .int x2] S μ ρ Rp :=
  MS_of [.int x1, .int x2] (by decide +kernel) rfl rfl (Nat.le_of_ble_eq_true rfl) rfl (fun p e R s m args below meth c C => b_X12_greater_0 C _ _ _ _ _ _ (h _ (b_X12_greater_9 C) (b_X12_greater_10 C)))
def w_X12_lesser_0 (M : CT) (G : Nat → PT) (Rp : RT) : PT := tIload 0 <| tIload 1 <| tIf2 (fun x y => y ≤ x) (G 9) <| tIload 0 <| tGoto (G 10)
def w_X12_lesser_9 (M : CT) (G : Nat → PT) (Rp : RT) : PT := tIload 1 <| G 10
def w_X12_lesser_10 (M : CT) (G : Nat → PT) (Rp : RT) : PT := tIret Rp
set_option maxRecDepth 20000 in
theorem b_X12_lesser_0 {Z : Zt} {d : Nat} {p : Program} {e : Env} {R : Room} {s : State} {m : MethodId} {args : Array Value} {below : List Frame} {meth : Method} {c : Code} {Rp : RT} (C : Cx Z d jX12_lesser RX12 p R s m args meth c) : Sd Z jX12_lesser p e R s m args below meth c (MQ below (QcS Z Rp) args s 0 0 (fun a => Z.2.2.1 < a)) 0 (w_X12_lesser_0 (MS Z d) (Gw Z 2 p e R s m args below meth c (MQ below (QcS Z Rp) args s 0 0 (fun a => Z.2.2.1 < a))) Rp) := by
  unfold w_X12_lesser_0
  refine s_iload_n (k := 0) C (by decide +kernel) ?_
  refine s_iload_n (k := 1) C (by decide +kernel) ?_
  refine s_icmp_ge (off := 7) (tgt := 9) C (by decide +kernel) (by decide) (fun _ _ _ _ _ _ h => h) ?_
  refine s_iload_n (k := 0) C (by decide +kernel) ?_
  exact s_goto (off := 4) (tgt := 10) C (by decide +kernel) (by decide) (fun _ _ _ _ _ _ h => h)
set_option maxRecDepth 20000 in
theorem b_X12_lesser_9 {Z : Zt} {d : Nat} {p : Program} {e : Env} {R : Room} {s : State} {m : MethodId} {args : Array Value} {below : List Frame} {meth : Method} {c : Code} {Rp : RT} (C : Cx Z d jX12_lesser RX12 p R s m args meth c) : Sd Z jX12_lesser p e R s m args below meth c (MQ below (QcS Z Rp) args s 0 0 (fun a => Z.2.2.1 < a)) 9 (w_X12_lesser_9 (MS Z d) (Gw Z 2 p e R s m args below meth c (MQ below (QcS Z Rp) args s 0 0 (fun a => Z.2.2.1 < a))) Rp) := by
  unfold w_X12_lesser_9
  refine s_iload_n (k := 1) C (by decide +kernel) ?_
  exact (fun _ _ _ _ _ _ h => h)
set_option maxRecDepth 20000 in
theorem b_X12_lesser_10 {Z : Zt} {d : Nat} {p : Program} {e : Env} {R : Room} {s : State} {m : MethodId} {args : Array Value} {below : List Frame} {meth : Method} {c : Code} {Rp : RT} (C : Cx Z d jX12_lesser RX12 p R s m args meth c) : Sd Z jX12_lesser p e R s m args below meth c (MQ below (QcS Z Rp) args s 0 0 (fun a => Z.2.2.1 < a)) 10 (w_X12_lesser_10 (MS Z d) (Gw Z 2 p e R s m args below meth c (MQ below (QcS Z Rp) args s 0 0 (fun a => Z.2.2.1 < a))) Rp) := by
  unfold w_X12_lesser_10
  exact s_iret C rfl (by decide +kernel)
theorem ms_X12_lesser {Z : Zt} {d : Nat} {S : Sh} {μ : Mi} {ρ : Mr} {Rp : RT} (x1 : Int32) (x2 : Int32) (h : ∀ G : Nat → PT, (∀ (L st : List Value) (S : Sh) (q : Nat × Nat) (μ : Mi) (ρ : Mr), w_X12_lesser_9 (MS Z d) G Rp L st S q μ ρ → G 9 L st S q μ ρ) → (∀ (L st : List Value) (S : Sh) (q : Nat × Nat) (μ : Mi) (ρ : Mr), w_X12_lesser_10 (MS Z d) G Rp L st S q μ ρ → G 10 L st S q μ ρ) → w_X12_lesser_0 (MS Z d) G Rp [.int x1, .int x2] [] S (0, 0) μ ρ) : MS Z (d + 1) jX12_lesser [.int x1, .int x2] S μ ρ Rp :=
  MS_of [.int x1, .int x2] (by decide +kernel) rfl rfl (Nat.le_of_ble_eq_true rfl) rfl (fun p e R s m args below meth c C => b_X12_lesser_0 C _ _ _ _ _ _ (h _ (b_X12_lesser_9 C) (b_X12_lesser_10 C)))
def w_X12_init_0 (M : CT) (G : Nat → PT) (Rp : RT) : PT := tAload 0 <| tObjI <| tAload 0 <| tConst 13548 <| tNewa 20 10 77201 <| tPutR 12 27 1 <| tAload 0 <| tConst 36128 <| tNewa 20 10 77201 <| tPutR 12 27 2 <| tAload 0 <| tConst 4516 <| tNewa 20 10 77201 <| tPutR 12 27 3 <| tAload 0 <| tConst 4516 <| tNewa 20 10 77201 <| tPutR 12 27 4 <| tAload 0 <| tConst 18064 <| tNewa 20 10 77201 <| tPutR 12 27 5 <| tAload 0 <| tConst 2 <| tNewa 22 10 77201 <| tPutR 12 27 7 <| tAload 0 <| tConst 21 <| tNewa 20 10 77201 <| tPutR 12 27 12 <| tAload 0 <| tConst 300 <| tNewa 21 10 77201 <| tPutR 12 27 13 <| tAload 0 <| tConst (-1) <| tPutI 12 27 18 <| tAload 0 <| tConst (-1) <| tPutI 12 27 20 <| tAload 0 <| tConst 103 <| tNewa 21 10 77201 <| tDup <| tConst 0 <| tConst 116 <| tBast <| tDup <| tConst 1 <| tConst 105 <| tBast <| tDup <| tConst 2 <| tConst 109 <| tBast <| tDup <| tConst 3 <| tConst 101 <| tBast <| tDup <| tConst 4 <| tConst 111 <| tBast <| tDup <| tConst 5 <| tConst 117 <| tBast <| tDup <| tConst 6 <| tConst 116 <| tBast <| tDup <| tConst 7 <| tConst 0 <| tBast <| tDup <| tConst 8 <| tConst 98 <| tBast <| tDup <| tConst 9 <| tConst 101 <| tBast <| tDup <| tConst 10 <| tConst 97 <| tBast <| tDup <| tConst 11 <| tConst 116 <| tBast <| tDup <| tConst 12 <| tConst 0 <| tBast <| tDup <| tConst 13 <| tConst 115 <| tBast <| tDup <| tConst 14 <| tConst 101 <| tBast <| tDup <| tConst 15 <| tConst 116 <| tBast <| tDup <| tConst 16 <| tConst 0 <| tBast <| tDup <| tConst 17 <| tConst 97 <| tBast <| tDup <| tConst 18 <| tConst 100 <| tBast <| tDup <| tConst 19 <| tConst 100 <| tBast <| tDup <| tConst 20 <| tConst 0 <| tBast <| tDup <| tConst 21 <| tConst 114 <| tBast <| tDup <| tConst 22 <| tConst 101 <| tBast <| tDup <| tConst 23 <| tConst 97 <| tBast <| tDup <| tConst 24 <| tConst 100 <| tBast <| tDup <| tConst 25 <| tConst 0 <| tBast <| tDup <| tConst 26 <| tConst 104 <| tBast <| tDup <| tConst 27 <| tConst 97 <| tBast <| tDup <| tConst 28 <| tConst 110 <| tBast <| tDup <| tConst 29 <| tConst 100 <| tBast <| tDup <| tConst 30 <| tConst 0 <| tBast <| tDup <| tConst 31 <| tConst 99 <| tBast <| tDup <| tConst 32 <| tConst 104 <| tBast <| tDup <| tConst 33 <| tConst 97 <| tBast <| tDup <| tConst 34 <| tConst 110 <| tBast <| tDup <| tConst 35 <| tConst 103 <| tBast <| tDup <| tConst 36 <| tConst 101 <| tBast <| tDup <| tConst 37 <| tConst 0 <| tBast <| tDup <| tConst 38 <| tConst 99 <| tBast <| tDup <| tConst 39 <| tConst 111 <| tBast <| tDup <| tConst 40 <| tConst 109 <| tBast <| tDup <| tConst 41 <| tConst 112 <| tBast <| tDup <| tConst 42 <| tConst 97 <| tBast <| tDup <| tConst 43 <| tConst 99 <| tBast <| tDup <| tConst 44 <| tConst 116 <| tBast <| tDup <| tConst 45 <| tConst 0 <| tBast <| tDup <| tConst 46 <| tConst 115 <| tBast <| tDup <| tConst 47 <| tConst 116 <| tBast <| tDup <| tConst 48 <| tConst 111 <| tBast <| tDup <| tConst 49 <| tConst 112 <| tBast <| tDup <| tConst 50 <| tConst 0 <| tBast <| tDup <| tConst 51 <| tConst 115 <| tBast <| tDup <| tConst 52 <| tConst 116 <| tBast <| tDup <| tConst 53 <| tConst 97 <| tBast <| tDup <| tConst 54 <| tConst 114 <| tBast <| tDup <| tConst 55 <| tConst 116 <| tBast <| tDup <| tConst 56 <| tConst 0 <| tBast <| tDup <| tConst 57 <| tConst 99 <| tBast <| tDup <| tConst 58 <| tConst 117 <| tBast <| tDup <| tConst 59 <| tConst 116 <| tBast <| tDup <| tConst 60 <| tConst 0 <| tBast <| tDup <| tConst 61 <| tConst 106 <| tBast <| tDup <| tConst 62 <| tConst 111 <| tBast <| tDup <| tConst 63 <| tConst 105 <| tBast <| tDup <| tConst 64 <| tConst 110 <| tBast <| tDup <| tConst 65 <| tConst 0 <| tBast <| tDup <| tConst 66 <| tConst 99 <| tBast <| tDup <| tConst 67 <| tConst 111 <| tBast <| tDup <| tConst 68 <| tConst 109 <| tBast <| tDup <| tConst 69 <| tConst 101 <| tBast <| tDup <| tConst 70 <| tConst 0 <| tBast <| tDup <| tConst 71 <| tConst 108 <| tBast <| tDup <| tConst 72 <| tConst 111 <| tBast <| tDup <| tConst 73 <| tConst 115 <| tBast <| tDup <| tConst 74 <| tConst 101 <| tBast <| tDup <| tConst 75 <| tConst 0 <| tBast <| tDup <| tConst 76 <| tConst 116 <| tBast <| tDup <| tConst 77 <| tConst 119 <| tBast <| tDup <| tConst 78 <| tConst 105 <| tBast <| tDup <| tConst 79 <| tConst 99 <| tBast <| tDup <| tConst 80 <| tConst 101 <| tBast <| tDup <| tConst 81 <| tConst 0 <| tBast <| tDup <| tConst 82 <| tConst 115 <| tBast <| tDup <| tConst 83 <| tConst 101 <| tBast <| tDup <| tConst 84 <| tConst 116 <| tBast <| tDup <| tConst 85 <| tConst 116 <| tBast <| tDup <| tConst 86 <| tConst 108 <| tBast <| tDup <| tConst 87 <| tConst 101 <| tBast <| tDup <| tConst 88 <| tConst 0 <| tBast <| tDup <| tConst 89 <| tConst 99 <| tBast <| tDup <| tConst 90 <| tConst 97 <| tBast <| tDup <| tConst 91 <| tConst 114 <| tBast <| tDup <| tConst 92 <| tConst 101 <| tBast <| tDup <| tConst 93 <| tConst 102 <| tBast <| tDup <| tConst 94 <| tConst 117 <| tBast <| tDup <| tConst 95 <| tConst 108 <| tBast <| tDup <| tConst 96 <| tConst 0 <| tBast <| tDup <| tConst 97 <| tConst 116 <| tBast <| tDup <| tConst 98 <| tConst 105 <| tBast <| tDup <| tConst 99 <| tConst 109 <| tBast <| tDup <| tConst 100 <| tConst 101 <| tBast <| tDup <| tConst 101 <| tConst 115 <| tBast <| tDup <| tConst 102 <| tConst 0 <| tBast <| tPutR 12 27 22 <| tAload 0 <| tConst 3 <| tNewa 20 10 77201 <| tPutR 12 27 24 <| tAload 0 <| tConst 31 <| tCallV M jX12_laysAll 12 27 1 <| tVret Rp
set_option maxRecDepth 20000 in
theorem b_X12_init_0 {Z : Zt} {d : Nat} {p : Program} {e : Env} {R : Room} {s : State} {m : MethodId} {args : Array Value} {below : List Frame} {meth : Method} {c : Code} {Rp : RT} (C : Cx Z d jX12_init RX12 p R s m args meth c) : Sd Z jX12_init p e R s m args below meth c (MQ below (QcS Z Rp) args s 10 77201 (fun a => Z.2.2.1 < a)) 0 (w_X12_init_0 (MS Z d) (Gw Z 1 p e R s m args below meth c (MQ below (QcS Z Rp) args s 10 77201 (fun a => Z.2.2.1 < a))) Rp) := by
  unfold w_X12_init_0
  refine s_aload_n (k := 0) C (by decide +kernel) ?_
  refine s_objI C w_6_76 w_1_28 w_1_29 (by decide +kernel) ?_
  refine s_aload_n (k := 0) C (by decide +kernel) ?_
  refine s_sipush (n := 13548) C (by decide +kernel) (by decide) ?_
  refine s_newa (aty := .int) C rfl w_1_117 (fun _ _ h => h) (by decide +kernel) ?_
  refine s_putR C w_6_88 (by decide +kernel) rfl (Or.inr ⟨rfl, rfl, rfl⟩) ?_
  refine s_aload_n (k := 0) C (by decide +kernel) ?_
  refine s_ldc C w_6_77 (by decide +kernel) ?_
  refine s_newa (aty := .int) C rfl w_1_117 (fun _ _ h => h) (by decide +kernel) ?_
  refine s_putR C w_6_89 (by decide +kernel) rfl (Or.inr ⟨rfl, rfl, rfl⟩) ?_
  refine s_aload_n (k := 0) C (by decide +kernel) ?_
  refine s_sipush (n := 4516) C (by decide +kernel) (by decide) ?_
  refine s_newa (aty := .int) C rfl w_1_117 (fun _ _ h => h) (by decide +kernel) ?_
  refine s_putR C w_6_90 (by decide +kernel) rfl (Or.inr ⟨rfl, rfl, rfl⟩) ?_
  refine s_aload_n (k := 0) C (by decide +kernel) ?_
  refine s_sipush (n := 4516) C (by decide +kernel) (by decide) ?_
  refine s_newa (aty := .int) C rfl w_1_117 (fun _ _ h => h) (by decide +kernel) ?_
  refine s_putR C w_6_91 (by decide +kernel) rfl (Or.inr ⟨rfl, rfl, rfl⟩) ?_
  refine s_aload_n (k := 0) C (by decide +kernel) ?_
  refine s_sipush (n := 18064) C (by decide +kernel) (by decide) ?_
  refine s_newa (aty := .int) C rfl w_1_117 (fun _ _ h => h) (by decide +kernel) ?_
  refine s_putR C w_6_92 (by decide +kernel) rfl (Or.inr ⟨rfl, rfl, rfl⟩) ?_
  refine s_aload_n (k := 0) C (by decide +kernel) ?_
  refine s_iconst (n := 2) C (by decide +kernel) (by decide) ?_
  refine s_newa (aty := .boolean) C rfl w_6_169 (fun _ _ h => h) (by decide +kernel) ?_
  refine s_putR C w_6_94 (by decide +kernel) rfl (Or.inr ⟨rfl, rfl, rfl⟩) ?_
  refine s_aload_n (k := 0) C (by decide +kernel) ?_
  refine s_bipush (n := 21) C (by decide +kernel) (by decide) ?_
  refine s_newa (aty := .int) C rfl w_1_117 (fun _ _ h => h) (by decide +kernel) ?_
  refine s_putR C w_6_99 (by decide +kernel) rfl (Or.inr ⟨rfl, rfl, rfl⟩) ?_
  refine s_aload_n (k := 0) C (by decide +kernel) ?_
  refine s_sipush (n := 300) C (by decide +kernel) (by decide) ?_
  refine s_newa (aty := .byte) C rfl w_5_78 (fun _ _ h => h) (by decide +kernel) ?_
  refine s_putR C w_6_100 (by decide +kernel) rfl (Or.inr ⟨rfl, rfl, rfl⟩) ?_
  refine s_aload_n (k := 0) C (by decide +kernel) ?_
  refine s_iconst (n := (-1)) C (by decide +kernel) (by decide) ?_
  refine s_putI C w_6_105 (by decide +kernel) rfl (Or.inl rfl) ?_
  refine s_aload_n (k := 0) C (by decide +kernel) ?_
  refine s_iconst (n := (-1)) C (by decide +kernel) (by decide) ?_
  refine s_putI C w_6_107 (by decide +kernel) rfl (Or.inl rfl) ?_
  refine s_aload_n (k := 0) C (by decide +kernel) ?_
  refine s_bipush (n := 103) C (by decide +kernel) (by decide) ?_
  refine s_newa (aty := .byte) C rfl w_5_78 (fun _ _ h => h) (by decide +kernel) ?_
  refine s_dup C (by decide +kernel) ?_
  refine s_iconst (n := 0) C (by decide +kernel) (by decide) ?_
  refine s_bipush (n := 116) C (by decide +kernel) (by decide) ?_
  refine s_bast C (by decide +kernel) ?_
  refine s_dup C (by decide +kernel) ?_
  refine s_iconst (n := 1) C (by decide +kernel) (by decide) ?_
  refine s_bipush (n := 105) C (by decide +kernel) (by decide) ?_
  refine s_bast C (by decide +kernel) ?_
  refine s_dup C (by decide +kernel) ?_
  refine s_iconst (n := 2) C (by decide +kernel) (by decide) ?_
  refine s_bipush (n := 109) C (by decide +kernel) (by decide) ?_
  refine s_bast C (by decide +kernel) ?_
  refine s_dup C (by decide +kernel) ?_
  refine s_iconst (n := 3) C (by decide +kernel) (by decide) ?_
  refine s_bipush (n := 101) C (by decide +kernel) (by decide) ?_
  refine s_bast C (by decide +kernel) ?_
  refine s_dup C (by decide +kernel) ?_
  refine s_iconst (n := 4) C (by decide +kernel) (by decide) ?_
  refine s_bipush (n := 111) C (by decide +kernel) (by decide) ?_
  refine s_bast C (by decide +kernel) ?_
  refine s_dup C (by decide +kernel) ?_
  refine s_iconst (n := 5) C (by decide +kernel) (by decide) ?_
  refine s_bipush (n := 117) C (by decide +kernel) (by decide) ?_
  refine s_bast C (by decide +kernel) ?_
  refine s_dup C (by decide +kernel) ?_
  refine s_bipush (n := 6) C (by decide +kernel) (by decide) ?_
  refine s_bipush (n := 116) C (by decide +kernel) (by decide) ?_
  refine s_bast C (by decide +kernel) ?_
  refine s_dup C (by decide +kernel) ?_
  refine s_bipush (n := 7) C (by decide +kernel) (by decide) ?_
  refine s_iconst (n := 0) C (by decide +kernel) (by decide) ?_
  refine s_bast C (by decide +kernel) ?_
  refine s_dup C (by decide +kernel) ?_
  refine s_bipush (n := 8) C (by decide +kernel) (by decide) ?_
  refine s_bipush (n := 98) C (by decide +kernel) (by decide) ?_
  refine s_bast C (by decide +kernel) ?_
  refine s_dup C (by decide +kernel) ?_
  refine s_bipush (n := 9) C (by decide +kernel) (by decide) ?_
  refine s_bipush (n := 101) C (by decide +kernel) (by decide) ?_
  refine s_bast C (by decide +kernel) ?_
  refine s_dup C (by decide +kernel) ?_
  refine s_bipush (n := 10) C (by decide +kernel) (by decide) ?_
  refine s_bipush (n := 97) C (by decide +kernel) (by decide) ?_
  refine s_bast C (by decide +kernel) ?_
  refine s_dup C (by decide +kernel) ?_
  refine s_bipush (n := 11) C (by decide +kernel) (by decide) ?_
  refine s_bipush (n := 116) C (by decide +kernel) (by decide) ?_
  refine s_bast C (by decide +kernel) ?_
  refine s_dup C (by decide +kernel) ?_
  refine s_bipush (n := 12) C (by decide +kernel) (by decide) ?_
  refine s_iconst (n := 0) C (by decide +kernel) (by decide) ?_
  refine s_bast C (by decide +kernel) ?_
  refine s_dup C (by decide +kernel) ?_
  refine s_bipush (n := 13) C (by decide +kernel) (by decide) ?_
  refine s_bipush (n := 115) C (by decide +kernel) (by decide) ?_
  refine s_bast C (by decide +kernel) ?_
  refine s_dup C (by decide +kernel) ?_
  refine s_bipush (n := 14) C (by decide +kernel) (by decide) ?_
  refine s_bipush (n := 101) C (by decide +kernel) (by decide) ?_
  refine s_bast C (by decide +kernel) ?_
  refine s_dup C (by decide +kernel) ?_
  refine s_bipush (n := 15) C (by decide +kernel) (by decide) ?_
  refine s_bipush (n := 116) C (by decide +kernel) (by decide) ?_
  refine s_bast C (by decide +kernel) ?_
  refine s_dup C (by decide +kernel) ?_
  refine s_bipush (n := 16) C (by decide +kernel) (by decide) ?_
  refine s_iconst (n := 0) C (by decide +kernel) (by decide) ?_
  refine s_bast C (by decide +kernel) ?_
  refine s_dup C (by decide +kernel) ?_
  refine s_bipush (n := 17) C (by decide +kernel) (by decide) ?_
  refine s_bipush (n := 97) C (by decide +kernel) (by decide) ?_
  refine s_bast C (by decide +kernel) ?_
  refine s_dup C (by decide +kernel) ?_
  refine s_bipush (n := 18) C (by decide +kernel) (by decide) ?_
  refine s_bipush (n := 100) C (by decide +kernel) (by decide) ?_
  refine s_bast C (by decide +kernel) ?_
  refine s_dup C (by decide +kernel) ?_
  refine s_bipush (n := 19) C (by decide +kernel) (by decide) ?_
  refine s_bipush (n := 100) C (by decide +kernel) (by decide) ?_
  refine s_bast C (by decide +kernel) ?_
  refine s_dup C (by decide +kernel) ?_
  refine s_bipush (n := 20) C (by decide +kernel) (by decide) ?_
  refine s_iconst (n := 0) C (by decide +kernel) (by decide) ?_
  refine s_bast C (by decide +kernel) ?_
  refine s_dup C (by decide +kernel) ?_
  refine s_bipush (n := 21) C (by decide +kernel) (by decide) ?_
  refine s_bipush (n := 114) C (by decide +kernel) (by decide) ?_
  refine s_bast C (by decide +kernel) ?_
  refine s_dup C (by decide +kernel) ?_
  refine s_bipush (n := 22) C (by decide +kernel) (by decide) ?_
  refine s_bipush (n := 101) C (by decide +kernel) (by decide) ?_
  refine s_bast C (by decide +kernel) ?_
  refine s_dup C (by decide +kernel) ?_
  refine s_bipush (n := 23) C (by decide +kernel) (by decide) ?_
  refine s_bipush (n := 97) C (by decide +kernel) (by decide) ?_
  refine s_bast C (by decide +kernel) ?_
  refine s_dup C (by decide +kernel) ?_
  refine s_bipush (n := 24) C (by decide +kernel) (by decide) ?_
  refine s_bipush (n := 100) C (by decide +kernel) (by decide) ?_
  refine s_bast C (by decide +kernel) ?_
  refine s_dup C (by decide +kernel) ?_
  refine s_bipush (n := 25) C (by decide +kernel) (by decide) ?_
  refine s_iconst (n := 0) C (by decide +kernel) (by decide) ?_
  refine s_bast C (by decide +kernel) ?_
  refine s_dup C (by decide +kernel) ?_
  refine s_bipush (n := 26) C (by decide +kernel) (by decide) ?_
  refine s_bipush (n := 104) C (by decide +kernel) (by decide) ?_
  refine s_bast C (by decide +kernel) ?_
  refine s_dup C (by decide +kernel) ?_
  refine s_bipush (n := 27) C (by decide +kernel) (by decide) ?_
  refine s_bipush (n := 97) C (by decide +kernel) (by decide) ?_
  refine s_bast C (by decide +kernel) ?_
  refine s_dup C (by decide +kernel) ?_
  refine s_bipush (n := 28) C (by decide +kernel) (by decide) ?_
  refine s_bipush (n := 110) C (by decide +kernel) (by decide) ?_
  refine s_bast C (by decide +kernel) ?_
  refine s_dup C (by decide +kernel) ?_
  refine s_bipush (n := 29) C (by decide +kernel) (by decide) ?_
  refine s_bipush (n := 100) C (by decide +kernel) (by decide) ?_
  refine s_bast C (by decide +kernel) ?_
  refine s_dup C (by decide +kernel) ?_
  refine s_bipush (n := 30) C (by decide +kernel) (by decide) ?_
  refine s_iconst (n := 0) C (by decide +kernel) (by decide) ?_
  refine s_bast C (by decide +kernel) ?_
  refine s_dup C (by decide +kernel) ?_
  refine s_bipush (n := 31) C (by decide +kernel) (by decide) ?_
  refine s_bipush (n := 99) C (by decide +kernel) (by decide) ?_
  refine s_bast C (by decide +kernel) ?_
  refine s_dup C (by decide +kernel) ?_
  refine s_bipush (n := 32) C (by decide +kernel) (by decide) ?_
  refine s_bipush (n := 104) C (by decide +kernel) (by decide) ?_
  refine s_bast C (by decide +kernel) ?_
  refine s_dup C (by decide +kernel) ?_
  refine s_bipush (n := 33) C (by decide +kernel) (by decide) ?_
  refine s_bipush (n := 97) C (by decide +kernel) (by decide) ?_
  refine s_bast C (by decide +kernel) ?_
  refine s_dup C (by decide +kernel) ?_
  refine s_bipush (n := 34) C (by decide +kernel) (by decide) ?_
  refine s_bipush (n := 110) C (by decide +kernel) (by decide) ?_
  refine s_bast C (by decide +kernel) ?_
  refine s_dup C (by decide +kernel) ?_
  refine s_bipush (n := 35) C (by decide +kernel) (by decide) ?_
  refine s_bipush (n := 103) C (by decide +kernel) (by decide) ?_
  refine s_bast C (by decide +kernel) ?_
  refine s_dup C (by decide +kernel) ?_
  refine s_bipush (n := 36) C (by decide +kernel) (by decide) ?_
  refine s_bipush (n := 101) C (by decide +kernel) (by decide) ?_
  refine s_bast C (by decide +kernel) ?_
  refine s_dup C (by decide +kernel) ?_
  refine s_bipush (n := 37) C (by decide +kernel) (by decide) ?_
  refine s_iconst (n := 0) C (by decide +kernel) (by decide) ?_
  refine s_bast C (by decide +kernel) ?_
  refine s_dup C (by decide +kernel) ?_
  refine s_bipush (n := 38) C (by decide +kernel) (by decide) ?_
  refine s_bipush (n := 99) C (by decide +kernel) (by decide) ?_
  refine s_bast C (by decide +kernel) ?_
  refine s_dup C (by decide +kernel) ?_
  refine s_bipush (n := 39) C (by decide +kernel) (by decide) ?_
  refine s_bipush (n := 111) C (by decide +kernel) (by decide) ?_
  refine s_bast C (by decide +kernel) ?_
  refine s_dup C (by decide +kernel) ?_
  refine s_bipush (n := 40) C (by decide +kernel) (by decide) ?_
  refine s_bipush (n := 109) C (by decide +kernel) (by decide) ?_
  refine s_bast C (by decide +kernel) ?_
  refine s_dup C (by decide +kernel) ?_
  refine s_bipush (n := 41) C (by decide +kernel) (by decide) ?_
  refine s_bipush (n := 112) C (by decide +kernel) (by decide) ?_
  refine s_bast C (by decide +kernel) ?_
  refine s_dup C (by decide +kernel) ?_
  refine s_bipush (n := 42) C (by decide +kernel) (by decide) ?_
  refine s_bipush (n := 97) C (by decide +kernel) (by decide) ?_
  refine s_bast C (by decide +kernel) ?_
  refine s_dup C (by decide +kernel) ?_
  refine s_bipush (n := 43) C (by decide +kernel) (by decide) ?_
  refine s_bipush (n := 99) C (by decide +kernel) (by decide) ?_
  refine s_bast C (by decide +kernel) ?_
  refine s_dup C (by decide +kernel) ?_
  refine s_bipush (n := 44) C (by decide +kernel) (by decide) ?_
  refine s_bipush (n := 116) C (by decide +kernel) (by decide) ?_
  refine s_bast C (by decide +kernel) ?_
  refine s_dup C (by decide +kernel) ?_
  refine s_bipush (n := 45) C (by decide +kernel) (by decide) ?_
  refine s_iconst (n := 0) C (by decide +kernel) (by decide) ?_
  refine s_bast C (by decide +kernel) ?_
  refine s_dup C (by decide +kernel) ?_
  refine s_bipush (n := 46) C (by decide +kernel) (by decide) ?_
  refine s_bipush (n := 115) C (by decide +kernel) (by decide) ?_
  refine s_bast C (by decide +kernel) ?_
  refine s_dup C (by decide +kernel) ?_
  refine s_bipush (n := 47) C (by decide +kernel) (by decide) ?_
  refine s_bipush (n := 116) C (by decide +kernel) (by decide) ?_
  refine s_bast C (by decide +kernel) ?_
  refine s_dup C (by decide +kernel) ?_
  refine s_bipush (n := 48) C (by decide +kernel) (by decide) ?_
  refine s_bipush (n := 111) C (by decide +kernel) (by decide) ?_
  refine s_bast C (by decide +kernel) ?_
  refine s_dup C (by decide +kernel) ?_
  refine s_bipush (n := 49) C (by decide +kernel) (by decide) ?_
  refine s_bipush (n := 112) C (by decide +kernel) (by decide) ?_
  refine s_bast C (by decide +kernel) ?_
  refine s_dup C (by decide +kernel) ?_
  refine s_bipush (n := 50) C (by decide +kernel) (by decide) ?_
  refine s_iconst (n := 0) C (by decide +kernel) (by decide) ?_
  refine s_bast C (by decide +kernel) ?_
  refine s_dup C (by decide +kernel) ?_
  refine s_bipush (n := 51) C (by decide +kernel) (by decide) ?_
  refine s_bipush (n := 115) C (by decide +kernel) (by decide) ?_
  refine s_bast C (by decide +kernel) ?_
  refine s_dup C (by decide +kernel) ?_
  refine s_bipush (n := 52) C (by decide +kernel) (by decide) ?_
  refine s_bipush (n := 116) C (by decide +kernel) (by decide) ?_
  refine s_bast C (by decide +kernel) ?_
  refine s_dup C (by decide +kernel) ?_
  refine s_bipush (n := 53) C (by decide +kernel) (by decide) ?_
  refine s_bipush (n := 97) C (by decide +kernel) (by decide) ?_
  refine s_bast C (by decide +kernel) ?_
  refine s_dup C (by decide +kernel) ?_
  refine s_bipush (n := 54) C (by decide +kernel) (by decide) ?_
  refine s_bipush (n := 114) C (by decide +kernel) (by decide) ?_
  refine s_bast C (by decide +kernel) ?_
  refine s_dup C (by decide +kernel) ?_
  refine s_bipush (n := 55) C (by decide +kernel) (by decide) ?_
  refine s_bipush (n := 116) C (by decide +kernel) (by decide) ?_
  refine s_bast C (by decide +kernel) ?_
  refine s_dup C (by decide +kernel) ?_
  refine s_bipush (n := 56) C (by decide +kernel) (by decide) ?_
  refine s_iconst (n := 0) C (by decide +kernel) (by decide) ?_
  refine s_bast C (by decide +kernel) ?_
  refine s_dup C (by decide +kernel) ?_
  refine s_bipush (n := 57) C (by decide +kernel) (by decide) ?_
  refine s_bipush (n := 99) C (by decide +kernel) (by decide) ?_
  refine s_bast C (by decide +kernel) ?_
  refine s_dup C (by decide +kernel) ?_
  refine s_bipush (n := 58) C (by decide +kernel) (by decide) ?_
  refine s_bipush (n := 117) C (by decide +kernel) (by decide) ?_
  refine s_bast C (by decide +kernel) ?_
  refine s_dup C (by decide +kernel) ?_
  refine s_bipush (n := 59) C (by decide +kernel) (by decide) ?_
  refine s_bipush (n := 116) C (by decide +kernel) (by decide) ?_
  refine s_bast C (by decide +kernel) ?_
  refine s_dup C (by decide +kernel) ?_
  refine s_bipush (n := 60) C (by decide +kernel) (by decide) ?_
  refine s_iconst (n := 0) C (by decide +kernel) (by decide) ?_
  refine s_bast C (by decide +kernel) ?_
  refine s_dup C (by decide +kernel) ?_
  refine s_bipush (n := 61) C (by decide +kernel) (by decide) ?_
  refine s_bipush (n := 106) C (by decide +kernel) (by decide) ?_
  refine s_bast C (by decide +kernel) ?_
  refine s_dup C (by decide +kernel) ?_
  refine s_bipush (n := 62) C (by decide +kernel) (by decide) ?_
  refine s_bipush (n := 111) C (by decide +kernel) (by decide) ?_
  refine s_bast C (by decide +kernel) ?_
  refine s_dup C (by decide +kernel) ?_
  refine s_bipush (n := 63) C (by decide +kernel) (by decide) ?_
  refine s_bipush (n := 105) C (by decide +kernel) (by decide) ?_
  refine s_bast C (by decide +kernel) ?_
  refine s_dup C (by decide +kernel) ?_
  refine s_bipush (n := 64) C (by decide +kernel) (by decide) ?_
  refine s_bipush (n := 110) C (by decide +kernel) (by decide) ?_
  refine s_bast C (by decide +kernel) ?_
  refine s_dup C (by decide +kernel) ?_
  refine s_bipush (n := 65) C (by decide +kernel) (by decide) ?_
  refine s_iconst (n := 0) C (by decide +kernel) (by decide) ?_
  refine s_bast C (by decide +kernel) ?_
  refine s_dup C (by decide +kernel) ?_
  refine s_bipush (n := 66) C (by decide +kernel) (by decide) ?_
  refine s_bipush (n := 99) C (by decide +kernel) (by decide) ?_
  refine s_bast C (by decide +kernel) ?_
  refine s_dup C (by decide +kernel) ?_
  refine s_bipush (n := 67) C (by decide +kernel) (by decide) ?_
  refine s_bipush (n := 111) C (by decide +kernel) (by decide) ?_
  refine s_bast C (by decide +kernel) ?_
  refine s_dup C (by decide +kernel) ?_
  refine s_bipush (n := 68) C (by decide +kernel) (by decide) ?_
  refine s_bipush (n := 109) C (by decide +kernel) (by decide) ?_
  refine s_bast C (by decide +kernel) ?_
  refine s_dup C (by decide +kernel) ?_
  refine s_bipush (n := 69) C (by decide +kernel) (by decide) ?_
  refine s_bipush (n := 101) C (by decide +kernel) (by decide) ?_
  refine s_bast C (by decide +kernel) ?_
  refine s_dup C (by decide +kernel) ?_
  refine s_bipush (n := 70) C (by decide +kernel) (by decide) ?_
  refine s_iconst (n := 0) C (by decide +kernel) (by decide) ?_
  refine s_bast C (by decide +kernel) ?_
  refine s_dup C (by decide +kernel) ?_
  refine s_bipush (n := 71) C (by decide +kernel) (by decide) ?_
  refine s_bipush (n := 108) C (by decide +kernel) (by decide) ?_
  refine s_bast C (by decide +kernel) ?_
  refine s_dup C (by decide +kernel) ?_
  refine s_bipush (n := 72) C (by decide +kernel) (by decide) ?_
  refine s_bipush (n := 111) C (by decide +kernel) (by decide) ?_
  refine s_bast C (by decide +kernel) ?_
  refine s_dup C (by decide +kernel) ?_
  refine s_bipush (n := 73) C (by decide +kernel) (by decide) ?_
  refine s_bipush (n := 115) C (by decide +kernel) (by decide) ?_
  refine s_bast C (by decide +kernel) ?_
  refine s_dup C (by decide +kernel) ?_
  refine s_bipush (n := 74) C (by decide +kernel) (by decide) ?_
  refine s_bipush (n := 101) C (by decide +kernel) (by decide) ?_
  refine s_bast C (by decide +kernel) ?_
  refine s_dup C (by decide +kernel) ?_
  refine s_bipush (n := 75) C (by decide +kernel) (by decide) ?_
  refine s_iconst (n := 0) C (by decide +kernel) (by decide) ?_
  refine s_bast C (by decide +kernel) ?_
  refine s_dup C (by decide +kernel) ?_
  refine s_bipush (n := 76) C (by decide +kernel) (by decide) ?_
  refine s_bipush (n := 116) C (by decide +kernel) (by decide) ?_
  refine s_bast C (by decide +kernel) ?_
  refine s_dup C (by decide +kernel) ?_
  refine s_bipush (n := 77) C (by decide +kernel) (by decide) ?_
  refine s_bipush (n := 119) C (by decide +kernel) (by decide) ?_
  refine s_bast C (by decide +kernel) ?_
  refine s_dup C (by decide +kernel) ?_
  refine s_bipush (n := 78) C (by decide +kernel) (by decide) ?_
  refine s_bipush (n := 105) C (by decide +kernel) (by decide) ?_
  refine s_bast C (by decide +kernel) ?_
  refine s_dup C (by decide +kernel) ?_
  refine s_bipush (n := 79) C (by decide +kernel) (by decide) ?_
  refine s_bipush (n := 99) C (by decide +kernel) (by decide) ?_
  refine s_bast C (by decide +kernel) ?_
  refine s_dup C (by decide +kernel) ?_
  refine s_bipush (n := 80) C (by decide +kernel) (by decide) ?_
  refine s_bipush (n := 101) C (by decide +kernel) (by decide) ?_
  refine s_bast C (by decide +kernel) ?_
  refine s_dup C (by decide +kernel) ?_
  refine s_bipush (n := 81) C (by decide +kernel) (by decide) ?_
  refine s_iconst (n := 0) C (by decide +kernel) (by decide) ?_
  refine s_bast C (by decide +kernel) ?_
  refine s_dup C (by decide +kernel) ?_
  refine s_bipush (n := 82) C (by decide +kernel) (by decide) ?_
  refine s_bipush (n := 115) C (by decide +kernel) (by decide) ?_
  refine s_bast C (by decide +kernel) ?_
  refine s_dup C (by decide +kernel) ?_
  refine s_bipush (n := 83) C (by decide +kernel) (by decide) ?_
  refine s_bipush (n := 101) C (by decide +kernel) (by decide) ?_
  refine s_bast C (by decide +kernel) ?_
  refine s_dup C (by decide +kernel) ?_
  refine s_bipush (n := 84) C (by decide +kernel) (by decide) ?_
  refine s_bipush (n := 116) C (by decide +kernel) (by decide) ?_
  refine s_bast C (by decide +kernel) ?_
  refine s_dup C (by decide +kernel) ?_
  refine s_bipush (n := 85) C (by decide +kernel) (by decide) ?_
  refine s_bipush (n := 116) C (by decide +kernel) (by decide) ?_
  refine s_bast C (by decide +kernel) ?_
  refine s_dup C (by decide +kernel) ?_
  refine s_bipush (n := 86) C (by decide +kernel) (by decide) ?_
  refine s_bipush (n := 108) C (by decide +kernel) (by decide) ?_
  refine s_bast C (by decide +kernel) ?_
  refine s_dup C (by decide +kernel) ?_
  refine s_bipush (n := 87) C (by decide +kernel) (by decide) ?_
  refine s_bipush (n := 101) C (by decide +kernel) (by decide) ?_
  refine s_bast C (by decide +kernel) ?_
  refine s_dup C (by decide +kernel) ?_
  refine s_bipush (n := 88) C (by decide +kernel) (by decide) ?_
  refine s_iconst (n := 0) C (by decide +kernel) (by decide) ?_
  refine s_bast C (by decide +kernel) ?_
  refine s_dup C (by decide +kernel) ?_
  refine s_bipush (n := 89) C (by decide +kernel) (by decide) ?_
  refine s_bipush (n := 99) C (by decide +kernel) (by decide) ?_
  refine s_bast C (by decide +kernel) ?_
  refine s_dup C (by decide +kernel) ?_
  refine s_bipush (n := 90) C (by decide +kernel) (by decide) ?_
  refine s_bipush (n := 97) C (by decide +kernel) (by decide) ?_
  refine s_bast C (by decide +kernel) ?_
  refine s_dup C (by decide +kernel) ?_
  refine s_bipush (n := 91) C (by decide +kernel) (by decide) ?_
  refine s_bipush (n := 114) C (by decide +kernel) (by decide) ?_
  refine s_bast C (by decide +kernel) ?_
  refine s_dup C (by decide +kernel) ?_
  refine s_bipush (n := 92) C (by decide +kernel) (by decide) ?_
  refine s_bipush (n := 101) C (by decide +kernel) (by decide) ?_
  refine s_bast C (by decide +kernel) ?_
  refine s_dup C (by decide +kernel) ?_
  refine s_bipush (n := 93) C (by decide +kernel) (by decide) ?_
  refine s_bipush (n := 102) C (by decide +kernel) (by decide) ?_
  refine s_bast C (by decide +kernel) ?_
  refine s_dup C (by decide +kernel) ?_
  refine s_bipush (n := 94) C (by decide +kernel) (by decide) ?_
  refine s_bipush (n := 117) C (by decide +kernel) (by decide) ?_
  refine s_bast C (by decide +kernel) ?_
  refine s_dup C (by decide +kernel) ?_
  refine s_bipush (n := 95) C (by decide +kernel) (by decide) ?_
  refine s_bipush (n := 108) C (by decide +kernel) (by decide) ?_
  refine s_bast C (by decide +kernel) ?_
  refine s_dup C (by decide +kernel) ?_
  refine s_bipush (n := 96) C (by decide +kernel) (by decide) ?_
  refine s_iconst (n := 0) C (by decide +kernel) (by decide) ?_
  refine s_bast C (by decide +kernel) ?_
  refine s_dup C (by decide +kernel) ?_
  refine s_bipush (n := 97) C (by decide +kernel) (by decide) ?_
  refine s_bipush (n := 116) C (by decide +kernel) (by decide) ?_
  refine s_bast C (by decide +kernel) ?_
  refine s_dup C (by decide +kernel) ?_
  refine s_bipush (n := 98) C (by decide +kernel) (by decide) ?_
  refine s_bipush (n := 105) C (by decide +kernel) (by decide) ?_
  refine s_bast C (by decide +kernel) ?_
  refine s_dup C (by decide +kernel) ?_
  refine s_bipush (n := 99) C (by decide +kernel) (by decide) ?_
  refine s_bipush (n := 109) C (by decide +kernel) (by decide) ?_
  refine s_bast C (by decide +kernel) ?_
  refine s_dup C (by decide +kernel) ?_
  refine s_bipush (n := 100) C (by decide +kernel) (by decide) ?_
  refine s_bipush (n := 101) C (by decide +kernel) (by decide) ?_
  refine s_bast C (by decide +kernel) ?_
  refine s_dup C (by decide +kernel) ?_
  refine s_bipush (n := 101) C (by decide +kernel) (by decide) ?_
  refine s_bipush (n := 115) C (by decide +kernel) (by decide) ?_
  refine s_bast C (by decide +kernel) ?_
  refine s_dup C (by decide +kernel) ?_
  refine s_bipush (n := 102) C (by decide +kernel) (by decide) ?_
  refine s_iconst (n := 0) C (by decide +kernel) (by decide) ?_
  refine s_bast C (by decide +kernel) ?_
  refine s_putR C w_6_109 (by decide +kernel) rfl (Or.inr ⟨rfl, rfl, rfl⟩) ?_
  refine s_aload_n (k := 0) C (by decide +kernel) ?_
  refine s_iconst (n := 3) C (by decide +kernel) (by decide) ?_
  refine s_newa (aty := .int) C rfl w_1_117 (fun _ _ h => h) (by decide +kernel) ?_
  refine s_putR C w_6_111 (by decide +kernel) rfl (Or.inr ⟨rfl, rfl, rfl⟩) ?_
  refine s_aload_n (k := 0) C (by decide +kernel) ?_
  refine s_bipush (n := 31) C (by decide +kernel) (by decide) ?_
  refine s_callV C rfl rfl (by decide +kernel) rfl w_6_78 w_6_80 w_p3_3 w_1_13 w_6_81 (by decide +kernel) ?_
  exact s_vret C rfl (by decide +kernel)
theorem ms_X12_init {Z : Zt} {d : Nat} {S : Sh} {μ : Mi} {ρ : Mr} {Rp : RT} (a0 : Nat) (h : ∀ G : Nat → PT, w_X12_init_0 (MS Z d) G Rp [.ref a0] [] S (0, 0) μ ρ) : MS Z (d + 1) jX12_init [.ref a0] S μ ρ Rp :=
  MS_of [.ref a0] (by decide +kernel) rfl rfl (Nat.le_of_ble_eq_true rfl) rfl (fun p e R s m args below meth c C => b_X12_init_0 C _ _ _ _ _ _ (h _ ))
def w_X12_copies_0 (M : CT) (G : Nat → PT) (Rp : RT) : PT := tConst 0 <| tIstore 5 <| G 3
def w_X12_copies_3 (M : CT) (G : Nat → PT) (Rp : RT) : PT := tIload 5 <| tIload 4 <| tIf2 (fun x y => y ≤ x) (G 28) <| tAload 2 <| tIload 3 <| tIload 5 <| tBin (fun x y => x + y) <| tAload 0 <| tIload 1 <| tIload 5 <| tBin (fun x y => x + y) <| tAld 20 <| tIast <| tIinc 5 1 <| tGoto (G 3)
def w_X12_copies_28 (M : CT) (G : Nat → PT) (Rp : RT) : PT := tVret Rp
set_option maxRecDepth 20000 in
theorem b_X12_copies_0 {Z : Zt} {d : Nat} {p : Program} {e : Env} {R : Room} {s : State} {m : MethodId} {args : Array Value} {below : List Frame} {meth : Method} {c : Code} {Rp : RT} (C : Cx Z d jX12_copies RX12 p R s m args meth c) : Sd Z jX12_copies p e R s m args below meth c (MQ below (QcS Z Rp) args s 0 0 (fun a => Z.2.2.1 < a)) 0 (w_X12_copies_0 (MS Z d) (Gw Z 6 p e R s m args below meth c (MQ below (QcS Z Rp) args s 0 0 (fun a => Z.2.2.1 < a))) Rp) := by
  unfold w_X12_copies_0
  refine s_iconst (n := 0) C (by decide +kernel) (by decide) ?_
  refine s_istore (k := 5) C (by decide +kernel) ?_
  exact (fun _ _ _ _ _ _ h => h)
set_option maxRecDepth 20000 in
theorem b_X12_copies_3 {Z : Zt} {d : Nat} {p : Program} {e : Env} {R : Room} {s : State} {m : MethodId} {args : Array Value} {below : List Frame} {meth : Method} {c : Code} {Rp : RT} (C : Cx Z d jX12_copies RX12 p R s m args meth c) : Sd Z jX12_copies p e R s m args below meth c (MQ below (QcS Z Rp) args s 0 0 (fun a => Z.2.2.1 < a)) 3 (w_X12_copies_3 (MS Z d) (Gw Z 6 p e R s m args below meth c (MQ below (QcS Z Rp) args s 0 0 (fun a => Z.2.2.1 < a))) Rp) := by
  unfold w_X12_copies_3
  refine s_iload (k := 5) C (by decide +kernel) ?_
  refine s_iload (k := 4) C (by decide +kernel) ?_
  refine s_icmp_ge (off := 21) (tgt := 28) C (by decide +kernel) (by decide) (fun _ _ _ _ _ _ h => h) ?_
  refine s_aload_n (k := 2) C (by decide +kernel) ?_
  refine s_iload_n (k := 3) C (by decide +kernel) ?_
  refine s_iload (k := 5) C (by decide +kernel) ?_
  refine s_iadd C (by decide +kernel) ?_
  refine s_aload_n (k := 0) C (by decide +kernel) ?_
  refine s_iload_n (k := 1) C (by decide +kernel) ?_
  refine s_iload (k := 5) C (by decide +kernel) ?_
  refine s_iadd C (by decide +kernel) ?_
  refine s_iald C (by decide +kernel) ?_
  refine s_iast C (by decide +kernel) ?_
  refine s_iinc (n := 1) C (by decide +kernel) (by decide) ?_
  exact s_goto (off := (-22)) (tgt := 3) C (by decide +kernel) (by decide) (fun _ _ _ _ _ _ h => h)
set_option maxRecDepth 20000 in
theorem b_X12_copies_28 {Z : Zt} {d : Nat} {p : Program} {e : Env} {R : Room} {s : State} {m : MethodId} {args : Array Value} {below : List Frame} {meth : Method} {c : Code} {Rp : RT} (C : Cx Z d jX12_copies RX12 p R s m args meth c) : Sd Z jX12_copies p e R s m args below meth c (MQ below (QcS Z Rp) args s 0 0 (fun a => Z.2.2.1 < a)) 28 (w_X12_copies_28 (MS Z d) (Gw Z 6 p e R s m args below meth c (MQ below (QcS Z Rp) args s 0 0 (fun a => Z.2.2.1 < a))) Rp) := by
  unfold w_X12_copies_28
  exact s_vret C rfl (by decide +kernel)
theorem ms_X12_copies {Z : Zt} {d : Nat} {S : Sh} {μ : Mi} {ρ : Mr} {Rp : RT} (a1 : Nat) (x2 : Int32) (a3 : Nat) (x4 : Int32) (x5 : Int32) (h : ∀ G : Nat → PT, (∀ (L st : List Value) (S : Sh) (q : Nat × Nat) (μ : Mi) (ρ : Mr), w_X12_copies_3 (MS Z d) G Rp L st S q μ ρ → G 3 L st S q μ ρ) → (∀ (L st : List Value) (S : Sh) (q : Nat × Nat) (μ : Mi) (ρ : Mr), w_X12_copies_28 (MS Z d) G Rp L st S q μ ρ → G 28 L st S q μ ρ) → w_X12_copies_0 (MS Z d) G Rp [.ref a1, .int x2, .ref a3, .int x4, .int x5, .null] [] S (0, 0) μ ρ) : MS Z (d + 1) jX12_copies [.ref a1, .int x2, .ref a3, .int x4, .int x5] S μ ρ Rp :=
  MS_of [.ref a1, .int x2, .ref a3, .int x4, .int x5, .null] (by decide +kernel) rfl rfl (Nat.le_of_ble_eq_true rfl) rfl (fun p e R s m args below meth c C => b_X12_copies_0 C _ _ _ _ _ _ (h _ (b_X12_copies_3 C) (b_X12_copies_28 C)))
def w_X12_laysAll_0 (M : CT) (G : Nat → PT) (Rp : RT) : PT := tConst 0 <| tIstore 2 <| G 2
def w_X12_laysAll_2 (M : CT) (G : Nat → PT) (Rp : RT) : PT := tIload 2 <| tConst 4516 <| tIf2 (fun x y => y ≤ x) (G 22) <| tAload 0 <| tGetR 12 27 1 <| tIload 2 <| tConst 0 <| tIast <| tIinc 2 1 <| tGoto (G 2)
def w_X12_laysAll_22 (M : CT) (G : Nat → PT) (Rp : RT) : PT := tConst 0 <| tIstore 2 <| G 24
def w_X12_laysAll_24 (M : CT) (G : Nat → PT) (Rp : RT) : PT := tIload 2 <| tConst 5 <| tIf2 (fun x y => y ≤ x) (G 49) <| tAload 0 <| tIload 2 <| tConst 0 <| tConst 1 <| tCallV M jX12_lays 12 27 3 <| tAload 0 <| tIload 2 <| tConst 2 <| tConst (-1) <| tCallV M jX12_lays 12 27 3 <| tIinc 2 1 <| tGoto (G 24)
def w_X12_laysAll_49 (M : CT) (G : Nat → PT) (Rp : RT) : PT := tAload 0 <| tGetR 12 27 1 <| tConst 4513 <| tConst 33554431 <| tIast <| tAload 0 <| tGetR 12 27 1 <| tConst 4514 <| tIload 1 <| tIast <| tVret Rp
set_option maxRecDepth 20000 in
theorem b_X12_laysAll_0 {Z : Zt} {d : Nat} {p : Program} {e : Env} {R : Room} {s : State} {m : MethodId} {args : Array Value} {below : List Frame} {meth : Method} {c : Code} {Rp : RT} (C : Cx Z d jX12_laysAll RX12 p R s m args meth c) : Sd Z jX12_laysAll p e R s m args below meth c (MQ below (QcS Z Rp) args s 0 0 (fun a => Z.2.2.1 < a)) 0 (w_X12_laysAll_0 (MS Z d) (Gw Z 3 p e R s m args below meth c (MQ below (QcS Z Rp) args s 0 0 (fun a => Z.2.2.1 < a))) Rp) := by
  unfold w_X12_laysAll_0
  refine s_iconst (n := 0) C (by decide +kernel) (by decide) ?_
  refine s_istore_n (k := 2) C (by decide +kernel) ?_
  exact (fun _ _ _ _ _ _ h => h)
set_option maxRecDepth 20000 in
theorem b_X12_laysAll_2 {Z : Zt} {d : Nat} {p : Program} {e : Env} {R : Room} {s : State} {m : MethodId} {args : Array Value} {below : List Frame} {meth : Method} {c : Code} {Rp : RT} (C : Cx Z d jX12_laysAll RX12 p R s m args meth c) : Sd Z jX12_laysAll p e R s m args below meth c (MQ below (QcS Z Rp) args s 0 0 (fun a => Z.2.2.1 < a)) 2 (w_X12_laysAll_2 (MS Z d) (Gw Z 3 p e R s m args below meth c (MQ below (QcS Z Rp) args s 0 0 (fun a => Z.2.2.1 < a))) Rp) := by
  unfold w_X12_laysAll_2
  refine s_iload_n (k := 2) C (by decide +kernel) ?_
  refine s_sipush (n := 4516) C (by decide +kernel) (by decide) ?_
  refine s_icmp_ge (off := 16) (tgt := 22) C (by decide +kernel) (by decide) (fun _ _ _ _ _ _ h => h) ?_
  refine s_aload_n (k := 0) C (by decide +kernel) ?_
  refine s_getR C w_6_88 (by decide +kernel) rfl ?_
  refine s_iload_n (k := 2) C (by decide +kernel) ?_
  refine s_iconst (n := 0) C (by decide +kernel) (by decide) ?_
  refine s_iast C (by decide +kernel) ?_
  refine s_iinc (n := 1) C (by decide +kernel) (by decide) ?_
  exact s_goto (off := (-17)) (tgt := 2) C (by decide +kernel) (by decide) (fun _ _ _ _ _ _ h => h)
set_option maxRecDepth 20000 in
theorem b_X12_laysAll_22 {Z : Zt} {d : Nat} {p : Program} {e : Env} {R : Room} {s : State} {m : MethodId} {args : Array Value} {below : List Frame} {meth : Method} {c : Code} {Rp : RT} (C : Cx Z d jX12_laysAll RX12 p R s m args meth c) : Sd Z jX12_laysAll p e R s m args below meth c (MQ below (QcS Z Rp) args s 0 0 (fun a => Z.2.2.1 < a)) 22 (w_X12_laysAll_22 (MS Z d) (Gw Z 3 p e R s m args below meth c (MQ below (QcS Z Rp) args s 0 0 (fun a => Z.2.2.1 < a))) Rp) := by
  unfold w_X12_laysAll_22
  refine s_iconst (n := 0) C (by decide +kernel) (by decide) ?_
  refine s_istore_n (k := 2) C (by decide +kernel) ?_
  exact (fun _ _ _ _ _ _ h => h)
set_option maxRecDepth 20000 in
theorem b_X12_laysAll_24 {Z : Zt} {d : Nat} {p : Program} {e : Env} {R : Room} {s : State} {m : MethodId} {args : Array Value} {below : List Frame} {meth : Method} {c : Code} {Rp : RT} (C : Cx Z d jX12_laysAll RX12 p R s m args meth c) : Sd Z jX12_laysAll p e R s m args below meth c (MQ below (QcS Z Rp) args s 0 0 (fun a => Z.2.2.1 < a)) 24 (w_X12_laysAll_24 (MS Z d) (Gw Z 3 p e R s m args below meth c (MQ below (QcS Z Rp) args s 0 0 (fun a => Z.2.2.1 < a))) Rp) := by
  unfold w_X12_laysAll_24
  refine s_iload_n (k := 2) C (by decide +kernel) ?_
  refine s_iconst (n := 5) C (by decide +kernel) (by decide) ?_
  refine s_icmp_ge (off := 23) (tgt := 49) C (by decide +kernel) (by decide) (fun _ _ _ _ _ _ h => h) ?_
  refine s_aload_n (k := 0) C (by decide +kernel) ?_
  refine s_iload_n (k := 2) C (by decide +kernel) ?_
  refine s_iconst (n := 0) C (by decide +kernel) (by decide) ?_
  refine s_iconst (n := 1) C (by decide +kernel) (by decide) ?_
  refine s_callV C rfl rfl (by decide +kernel) rfl w_6_82 w_6_84 w_p3_4 w_1_13 w_6_85 (by decide +kernel) ?_
  refine s_aload_n (k := 0) C (by decide +kernel) ?_
  refine s_iload_n (k := 2) C (by decide +kernel) ?_
  refine s_iconst (n := 2) C (by decide +kernel) (by decide) ?_
  refine s_iconst (n := (-1)) C (by decide +kernel) (by decide) ?_
  refine s_callV C rfl rfl (by decide +kernel) rfl w_6_82 w_6_84 w_p3_4 w_1_13 w_6_85 (by decide +kernel) ?_
  refine s_iinc (n := 1) C (by decide +kernel) (by decide) ?_
  exact s_goto (off := (-22)) (tgt := 24) C (by decide +kernel) (by decide) (fun _ _ _ _ _ _ h => h)
set_option maxRecDepth 20000 in
theorem b_X12_laysAll_49 {Z : Zt} {d : Nat} {p : Program} {e : Env} {R : Room} {s : State} {m : MethodId} {args : Array Value} {below : List Frame} {meth : Method} {c : Code} {Rp : RT} (C : Cx Z d jX12_laysAll RX12 p R s m args meth c) : Sd Z jX12_laysAll p e R s m args below meth c (MQ below (QcS Z Rp) args s 0 0 (fun a => Z.2.2.1 < a)) 49 (w_X12_laysAll_49 (MS Z d) (Gw Z 3 p e R s m args below meth c (MQ below (QcS Z Rp) args s 0 0 (fun a => Z.2.2.1 < a))) Rp) := by
  unfold w_X12_laysAll_49
  refine s_aload_n (k := 0) C (by decide +kernel) ?_
  refine s_getR C w_6_88 (by decide +kernel) rfl ?_
  refine s_sipush (n := 4513) C (by decide +kernel) (by decide) ?_
  refine s_ldc C w_6_86 (by decide +kernel) ?_
  refine s_iast C (by decide +kernel) ?_
  refine s_aload_n (k := 0) C (by decide +kernel) ?_
  refine s_getR C w_6_88 (by decide +kernel) rfl ?_
  refine s_sipush (n := 4514) C (by decide +kernel) (by decide) ?_
  refine s_iload_n (k := 1) C (by decide +kernel) ?_
  refine s_iast C (by decide +kernel) ?_
  exact s_vret C rfl (by decide +kernel)
theorem ms_X12_laysAll {Z : Zt} {d : Nat} {S : Sh} {μ : Mi} {ρ : Mr} {Rp : RT} (a0 : Nat) (x1 : Int32) (h : ∀ G : Nat → PT, (∀ (L st : List Value) (S : Sh) (q : Nat × Nat) (μ : Mi) (ρ : Mr), w_X12_laysAll_2 (MS Z d) G Rp L st S q μ ρ → G 2 L st S q μ ρ) → (∀ (L st : List Value) (S : Sh) (q : Nat × Nat) (μ : Mi) (ρ : Mr), w_X12_laysAll_22 (MS Z d) G Rp L st S q μ ρ → G 22 L st S q μ ρ) → (∀ (L st : List Value) (S : Sh) (q : Nat × Nat) (μ : Mi) (ρ : Mr), w_X12_laysAll_24 (MS Z d) G Rp L st S q μ ρ → G 24 L st S q μ ρ) → (∀ (L st : List Value) (S : Sh) (q : Nat × Nat) (μ : Mi) (ρ : Mr), w_X12_laysAll_49 (MS Z d) G Rp L st S q μ ρ → G 49 L st S q μ ρ) → w_X12_laysAll_0 (MS Z d) G Rp [.ref a0, .int x1, .null] [] S (0, 0) μ ρ) : MS Z (d + 1) jX12_laysAll [.ref a0, .int x1] S μ ρ Rp :=
  MS_of [.ref a0, .int x1, .null] (by decide +kernel) rfl rfl (Nat.le_of_ble_eq_true rfl) rfl (fun p e R s m args below meth c C => b_X12_laysAll_0 C _ _ _ _ _ _ (h _ (b_X12_laysAll_2 C) (b_X12_laysAll_22 C) (b_X12_laysAll_24 C) (b_X12_laysAll_49 C)))
def w_X12_begins_0 (M : CT) (G : Nat → PT) (Rp : RT) : PT := tAload 0 <| tGetR 12 27 1 <| tConst 0 <| tAload 0 <| tGetR 12 27 4 <| tConst 0 <| tConst 4516 <| tCallS M jX12_copies 5 <| tVret Rp
set_option maxRecDepth 20000 in
theorem b_X12_begins_0 {Z : Zt} {d : Nat} {p : Program} {e : Env} {R : Room} {s : State} {m : MethodId} {args : Array Value} {below : List Frame} {meth : Method} {c : Code} {Rp : RT} (C : Cx Z d jX12_begins RX12 p R s m args meth c) : Sd Z jX12_begins p e R s m args below meth c (MQ below (QcS Z Rp) args s 0 0 (fun a => Z.2.2.1 < a)) 0 (w_X12_begins_0 (MS Z d) (Gw Z 1 p e R s m args below meth c (MQ below (QcS Z Rp) args s 0 0 (fun a => Z.2.2.1 < a))) Rp) := by
  unfold w_X12_begins_0
  refine s_aload_n (k := 0) C (by decide +kernel) ?_
  refine s_getR C w_6_88 (by decide +kernel) rfl ?_
  refine s_iconst (n := 0) C (by decide +kernel) (by decide) ?_
  refine s_aload_n (k := 0) C (by decide +kernel) ?_
  refine s_getR C w_6_91 (by decide +kernel) rfl ?_
  refine s_iconst (n := 0) C (by decide +kernel) (by decide) ?_
  refine s_sipush (n := 4516) C (by decide +kernel) (by decide) ?_
  refine s_callS C (by decide +kernel) rfl w_6_182 w_6_183 w_1_13 w_6_184 (by decide +kernel) ?_
  exact s_vret C rfl (by decide +kernel)
theorem ms_X12_begins {Z : Zt} {d : Nat} {S : Sh} {μ : Mi} {ρ : Mr} {Rp : RT} (a0 : Nat) (h : ∀ G : Nat → PT, w_X12_begins_0 (MS Z d) G Rp [.ref a0] [] S (0, 0) μ ρ) : MS Z (d + 1) jX12_begins [.ref a0] S μ ρ Rp :=
  MS_of [.ref a0] (by decide +kernel) rfl rfl (Nat.le_of_ble_eq_true rfl) rfl (fun p e R s m args below meth c C => b_X12_begins_0 C _ _ _ _ _ _ (h _ ))
def w_X12_ends_0 (M : CT) (G : Nat → PT) (Rp : RT) : PT := tIload 1 <| tIf (fun x => 0 ≤ x) (G 6) <| tIload 1 <| tIret Rp
def w_X12_ends_6 (M : CT) (G : Nat → PT) (Rp : RT) : PT := tAload 0 <| tGetI 12 27 6 <| tConst 8 <| tIf2 (fun x y => x ≠ y) (G 43) <| tAload 0 <| tGetR 12 27 2 <| tConst 4516 <| tAload 0 <| tGetR 12 27 2 <| tConst 0 <| tConst 31612 <| tCallS M jX12_copies 5 <| tAload 0 <| tDup <| tGetI 12 27 6 <| tConst 1 <| tBin (fun x y => x - y) <| tPutI 12 27 6 <| G 43
def w_X12_ends_43 (M : CT) (G : Nat → PT) (Rp : RT) : PT := tAload 0 <| tGetR 12 27 4 <| tConst 0 <| tAload 0 <| tGetR 12 27 2 <| tConst 4516 <| tAload 0 <| tGetI 12 27 6 <| tBin (fun x y => x * y) <| tConst 4516 <| tCallS M jX12_copies 5 <| tAload 0 <| tDup <| tGetI 12 27 6 <| tConst 1 <| tBin (fun x y => x + y) <| tPutI 12 27 6 <| tIload 1 <| tIret Rp
set_option maxRecDepth 20000 in
theorem b_X12_ends_0 {Z : Zt} {d : Nat} {p : Program} {e : Env} {R : Room} {s : State} {m : MethodId} {args : Array Value} {below : List Frame} {meth : Method} {c : Code} {Rp : RT} (C : Cx Z d jX12_ends RX12 p R s m args meth c) : Sd Z jX12_ends p e R s m args below meth c (MQ below (QcS Z Rp) args s 0 0 (fun a => Z.2.2.1 < a)) 0 (w_X12_ends_0 (MS Z d) (Gw Z 2 p e R s m args below meth c (MQ below (QcS Z Rp) args s 0 0 (fun a => Z.2.2.1 < a))) Rp) := by
  unfold w_X12_ends_0
  refine s_iload_n (k := 1) C (by decide +kernel) ?_
  refine s_if_ge (off := 5) (tgt := 6) C (by decide +kernel) (by decide) (fun _ _ _ _ _ _ h => h) ?_
  refine s_iload_n (k := 1) C (by decide +kernel) ?_
  exact s_iret C rfl (by decide +kernel)
set_option maxRecDepth 20000 in
theorem b_X12_ends_6 {Z : Zt} {d : Nat} {p : Program} {e : Env} {R : Room} {s : State} {m : MethodId} {args : Array Value} {below : List Frame} {meth : Method} {c : Code} {Rp : RT} (C : Cx Z d jX12_ends RX12 p R s m args meth c) : Sd Z jX12_ends p e R s m args below meth c (MQ below (QcS Z Rp) args s 0 0 (fun a => Z.2.2.1 < a)) 6 (w_X12_ends_6 (MS Z d) (Gw Z 2 p e R s m args below meth c (MQ below (QcS Z Rp) args s 0 0 (fun a => Z.2.2.1 < a))) Rp) := by
  unfold w_X12_ends_6
  refine s_aload_n (k := 0) C (by decide +kernel) ?_
  refine s_getI C w_6_93 (by decide +kernel) rfl ?_
  refine s_bipush (n := 8) C (by decide +kernel) (by decide) ?_
  refine s_icmp_ne (off := 31) (tgt := 43) C (by decide +kernel) (by decide) (fun _ _ _ _ _ _ h => h) ?_
  refine s_aload_n (k := 0) C (by decide +kernel) ?_
  refine s_getR C w_6_89 (by decide +kernel) rfl ?_
  refine s_sipush (n := 4516) C (by decide +kernel) (by decide) ?_
  refine s_aload_n (k := 0) C (by decide +kernel) ?_
  refine s_getR C w_6_89 (by decide +kernel) rfl ?_
  refine s_iconst (n := 0) C (by decide +kernel) (by decide) ?_
  refine s_sipush (n := 31612) C (by decide +kernel) (by decide) ?_
  refine s_callS C (by decide +kernel) rfl w_6_182 w_6_183 w_1_13 w_6_184 (by decide +kernel) ?_
  refine s_aload_n (k := 0) C (by decide +kernel) ?_
  refine s_dup C (by decide +kernel) ?_
  refine s_getI C w_6_93 (by decide +kernel) rfl ?_
  refine s_iconst (n := 1) C (by decide +kernel) (by decide) ?_
  refine s_isub C (by decide +kernel) ?_
  refine s_putI C w_6_93 (by decide +kernel) rfl (Or.inl rfl) ?_
  exact (fun _ _ _ _ _ _ h => h)
set_option maxRecDepth 20000 in
theorem b_X12_ends_43 {Z : Zt} {d : Nat} {p : Program} {e : Env} {R : Room} {s : State} {m : MethodId} {args : Array Value} {below : List Frame} {meth : Method} {c : Code} {Rp : RT} (C : Cx Z d jX12_ends RX12 p R s m args meth c) : Sd Z jX12_ends p e R s m args below meth c (MQ below (QcS Z Rp) args s 0 0 (fun a => Z.2.2.1 < a)) 43 (w_X12_ends_43 (MS Z d) (Gw Z 2 p e R s m args below meth c (MQ below (QcS Z Rp) args s 0 0 (fun a => Z.2.2.1 < a))) Rp) := by
  unfold w_X12_ends_43
  refine s_aload_n (k := 0) C (by decide +kernel) ?_
  refine s_getR C w_6_91 (by decide +kernel) rfl ?_
  refine s_iconst (n := 0) C (by decide +kernel) (by decide) ?_
  refine s_aload_n (k := 0) C (by decide +kernel) ?_
  refine s_getR C w_6_89 (by decide +kernel) rfl ?_
  refine s_sipush (n := 4516) C (by decide +kernel) (by decide) ?_
  refine s_aload_n (k := 0) C (by decide +kernel) ?_
  refine s_getI C w_6_93 (by decide +kernel) rfl ?_
  refine s_imul C (by decide +kernel) ?_
  refine s_sipush (n := 4516) C (by decide +kernel) (by decide) ?_
  refine s_callS C (by decide +kernel) rfl w_6_182 w_6_183 w_1_13 w_6_184 (by decide +kernel) ?_
  refine s_aload_n (k := 0) C (by decide +kernel) ?_
  refine s_dup C (by decide +kernel) ?_
  refine s_getI C w_6_93 (by decide +kernel) rfl ?_
  refine s_iconst (n := 1) C (by decide +kernel) (by decide) ?_
  refine s_iadd C (by decide +kernel) ?_
  refine s_putI C w_6_93 (by decide +kernel) rfl (Or.inl rfl) ?_
  refine s_iload_n (k := 1) C (by decide +kernel) ?_
  exact s_iret C rfl (by decide +kernel)
theorem ms_X12_ends {Z : Zt} {d : Nat} {S : Sh} {μ : Mi} {ρ : Mr} {Rp : RT} (a0 : Nat) (x1 : Int32) (h : ∀ G : Nat → PT, (∀ (L st : List Value) (S : Sh) (q : Nat × Nat) (μ : Mi) (ρ : Mr), w_X12_ends_6 (MS Z d) G Rp L st S q μ ρ → G 6 L st S q μ ρ) → (∀ (L st : List Value) (S : Sh) (q : Nat × Nat) (μ : Mi) (ρ : Mr), w_X12_ends_43 (MS Z d) G Rp L st S q μ ρ → G 43 L st S q μ ρ) → w_X12_ends_0 (MS Z d) G Rp [.ref a0, .int x1] [] S (0, 0) μ ρ) : MS Z (d + 1) jX12_ends [.ref a0, .int x1] S μ ρ Rp :=
  MS_of [.ref a0, .int x1] (by decide +kernel) rfl rfl (Nat.le_of_ble_eq_true rfl) rfl (fun p e R s m args below meth c C => b_X12_ends_0 C _ _ _ _ _ _ (h _ (b_X12_ends_6 C) (b_X12_ends_43 C)))
def w_X12_of_0 (M : CT) (G : Nat → PT) (Rp : RT) : PT := tAload 0 <| tGetR 12 27 1 <| tConst 514 <| tIload 1 <| tBin (fun x y => x * y) <| tIload 2 <| tBin (fun x y => x + y) <| tAld 20 <| tIret Rp
set_option maxRecDepth 20000 in
theorem b_X12_of_0 {Z : Zt} {d : Nat} {p : Program} {e : Env} {R : Room} {s : State} {m : MethodId} {args : Array Value} {below : List Frame} {meth : Method} {c : Code} {Rp : RT} (C : Cx Z d jX12_of RX12 p R s m args meth c) : Sd Z jX12_of p e R s m args below meth c (MQ below (QcS Z Rp) args s 0 0 (fun a => Z.2.2.1 < a)) 0 (w_X12_of_0 (MS Z d) (Gw Z 3 p e R s m args below meth c (MQ below (QcS Z Rp) args s 0 0 (fun a => Z.2.2.1 < a))) Rp) := by
  unfold w_X12_of_0
  refine s_aload_n (k := 0) C (by decide +kernel) ?_
  refine s_getR C w_6_88 (by decide +kernel) rfl ?_
  refine s_sipush (n := 514) C (by decide +kernel) (by decide) ?_
  refine s_iload_n (k := 1) C (by decide +kernel) ?_
  refine s_imul C (by decide +kernel) ?_
  refine s_iload_n (k := 2) C (by decide +kernel) ?_
  refine s_iadd C (by decide +kernel) ?_
  refine s_iald C (by decide +kernel) ?_
  exact s_iret C rfl (by decide +kernel)
theorem ms_X12_of {Z : Zt} {d : Nat} {S : Sh} {μ : Mi} {ρ : Mr} {Rp : RT} (a0 : Nat) (x1 : Int32) (x2 : Int32) (h : ∀ G : Nat → PT, w_X12_of_0 (MS Z d) G Rp [.ref a0, .int x1, .int x2] [] S (0, 0) μ ρ) : MS Z (d + 1) jX12_of [.ref a0, .int x1, .int x2] S μ ρ Rp :=
  MS_of [.ref a0, .int x1, .int x2] (by decide +kernel) rfl rfl (Nat.le_of_ble_eq_true rfl) rfl (fun p e R s m args below meth c C => b_X12_of_0 C _ _ _ _ _ _ (h _ ))
def w_X12_lays_0 (M : CT) (G : Nat → PT) (Rp : RT) : PT := tAload 0 <| tGetR 12 27 1 <| tConst 514 <| tIload 1 <| tBin (fun x y => x * y) <| tIload 2 <| tBin (fun x y => x + y) <| tIload 3 <| tIast <| tVret Rp
set_option maxRecDepth 20000 in
theorem b_X12_lays_0 {Z : Zt} {d : Nat} {p : Program} {e : Env} {R : Room} {s : State} {m : MethodId} {args : Array Value} {below : List Frame} {meth : Method} {c : Code} {Rp : RT} (C : Cx Z d jX12_lays RX12 p R s m args meth c) : Sd Z jX12_lays p e R s m args below meth c (MQ below (QcS Z Rp) args s 0 0 (fun a => Z.2.2.1 < a)) 0 (w_X12_lays_0 (MS Z d) (Gw Z 4 p e R s m args below meth c (MQ below (QcS Z Rp) args s 0 0 (fun a => Z.2.2.1 < a))) Rp) := by
  unfold w_X12_lays_0
  refine s_aload_n (k := 0) C (by decide +kernel) ?_
  refine s_getR C w_6_88 (by decide +kernel) rfl ?_
  refine s_sipush (n := 514) C (by decide +kernel) (by decide) ?_
  refine s_iload_n (k := 1) C (by decide +kernel) ?_
  refine s_imul C (by decide +kernel) ?_
  refine s_iload_n (k := 2) C (by decide +kernel) ?_
  refine s_iadd C (by decide +kernel) ?_
  refine s_iload_n (k := 3) C (by decide +kernel) ?_
  refine s_iast C (by decide +kernel) ?_
  exact s_vret C rfl (by decide +kernel)
theorem ms_X12_lays {Z : Zt} {d : Nat} {S : Sh} {μ : Mi} {ρ : Mr} {Rp : RT} (a0 : Nat) (x1 : Int32) (x2 : Int32) (x3 : Int32) (h : ∀ G : Nat → PT, w_X12_lays_0 (MS Z d) G Rp [.ref a0, .int x1, .int x2, .int x3] [] S (0, 0) μ ρ) : MS Z (d + 1) jX12_lays [.ref a0, .int x1, .int x2, .int x3] S μ ρ Rp :=
  MS_of [.ref a0, .int x1, .int x2, .int x3] (by decide +kernel) rfl rfl (Nat.le_of_ble_eq_true rfl) rfl (fun p e R s m args below meth c C => b_X12_lays_0 C _ _ _ _ _ _ (h _ ))
def w_X12_ofEntry_0 (M : CT) (G : Nat → PT) (Rp : RT) : PT := tAload 0 <| tIload 1 <| tConst 34 <| tConst 4 <| tIload 2 <| tConst 1 <| tBin (fun x y => x - y) <| tBin (fun x y => x * y) <| tBin (fun x y => x + y) <| tIload 3 <| tBin (fun x y => x + y) <| tCallV M jX12_of 12 27 2 <| tIret Rp
set_option maxRecDepth 20000 in
theorem b_X12_ofEntry_0 {Z : Zt} {d : Nat} {p : Program} {e : Env} {R : Room} {s : State} {m : MethodId} {args : Array Value} {below : List Frame} {meth : Method} {c : Code} {Rp : RT} (C : Cx Z d jX12_ofEntry RX12 p R s m args meth c) : Sd Z jX12_ofEntry p e R s m args below meth c (MQ below (QcS Z Rp) args s 0 0 (fun a => Z.2.2.1 < a)) 0 (w_X12_ofEntry_0 (MS Z d) (Gw Z 4 p e R s m args below meth c (MQ below (QcS Z Rp) args s 0 0 (fun a => Z.2.2.1 < a))) Rp) := by
  unfold w_X12_ofEntry_0
  refine s_aload_n (k := 0) C (by decide +kernel) ?_
  refine s_iload_n (k := 1) C (by decide +kernel) ?_
  refine s_bipush (n := 34) C (by decide +kernel) (by decide) ?_
  refine s_iconst (n := 4) C (by decide +kernel) (by decide) ?_
  refine s_iload_n (k := 2) C (by decide +kernel) ?_
  refine s_iconst (n := 1) C (by decide +kernel) (by decide) ?_
  refine s_isub C (by decide +kernel) ?_
  refine s_imul C (by decide +kernel) ?_
  refine s_iadd C (by decide +kernel) ?_
  refine s_iload_n (k := 3) C (by decide +kernel) ?_
  refine s_iadd C (by decide +kernel) ?_
  refine s_callV C rfl rfl (by decide +kernel) rfl w_6_220 w_6_222 w_p3_11 w_1_13 w_6_223 (by decide +kernel) ?_
  exact s_iret C rfl (by decide +kernel)
theorem ms_X12_ofEntry {Z : Zt} {d : Nat} {S : Sh} {μ : Mi} {ρ : Mr} {Rp : RT} (a0 : Nat) (x1 : Int32) (x2 : Int32) (x3 : Int32) (h : ∀ G : Nat → PT, w_X12_ofEntry_0 (MS Z d) G Rp [.ref a0, .int x1, .int x2, .int x3] [] S (0, 0) μ ρ) : MS Z (d + 1) jX12_ofEntry [.ref a0, .int x1, .int x2, .int x3] S μ ρ Rp :=
  MS_of [.ref a0, .int x1, .int x2, .int x3] (by decide +kernel) rfl rfl (Nat.le_of_ble_eq_true rfl) rfl (fun p e R s m args below meth c C => b_X12_ofEntry_0 C _ _ _ _ _ _ (h _ ))
def w_X12_isStore_0 (M : CT) (G : Nat → PT) (Rp : RT) : PT := tIload 0 <| tI2l <| tLconst 0 <| tLconst 4 <| tCallS M jX12_within 3 <| tZret Rp
set_option maxRecDepth 20000 in
theorem b_X12_isStore_0 {Z : Zt} {d : Nat} {p : Program} {e : Env} {R : Room} {s : State} {m : MethodId} {args : Array Value} {below : List Frame} {meth : Method} {c : Code} {Rp : RT} (C : Cx Z d jX12_isStore RX12 p R s m args meth c) : Sd Z jX12_isStore p e R s m args below meth c (MQ below (QcS Z Rp) args s 0 0 (fun a => Z.2.2.1 < a)) 0 (w_X12_isStore_0 (MS Z d) (Gw Z 1 p e R s m args below meth c (MQ below (QcS Z Rp) args s 0 0 (fun a => Z.2.2.1 < a))) Rp) := by
  unfold w_X12_isStore_0
  refine s_iload_n (k := 0) C (by decide +kernel) ?_
  refine s_i2l C (by decide +kernel) ?_
  refine s_lconst (n := 0) C (by decide +kernel) (by decide) ?_
  refine s_ldc2 C w_6_211 (by decide +kernel) ?_
  refine s_callS C (by decide +kernel) rfl w_6_175 w_6_176 w_1_13 w_6_177 (by decide +kernel) ?_
  exact s_zret C rfl (by decide +kernel)
theorem ms_X12_isStore {Z : Zt} {d : Nat} {S : Sh} {μ : Mi} {ρ : Mr} {Rp : RT} (x1 : Int32) (h : ∀ G : Nat → PT, w_X12_isStore_0 (MS Z d) G Rp [.int x1] [] S (0, 0) μ ρ) : MS Z (d + 1) jX12_isStore [.int x1] S μ ρ Rp :=
  MS_of [.int x1] (by decide +kernel) rfl rfl (Nat.le_of_ble_eq_true rfl) rfl (fun p e R s m args below meth c C => b_X12_isStore_0 C _ _ _ _ _ _ (h _ ))
def w_X12_isUp_0 (M : CT) (G : Nat → PT) (Rp : RT) : PT := tAload 0 <| tIload 1 <| tConst 0 <| tCallV M jX12_of 12 27 2 <| tConst 1 <| tIf2 (fun x y => x ≠ y) (G 14) <| tConst 1 <| tGoto (G 15)
def w_X12_isUp_14 (M : CT) (G : Nat → PT) (Rp : RT) : PT := tConst 0 <| G 15
def w_X12_isUp_15 (M : CT) (G : Nat → PT) (Rp : RT) : PT := tZret Rp
set_option maxRecDepth 20000 in
theorem b_X12_isUp_0 {Z : Zt} {d : Nat} {p : Program} {e : Env} {R : Room} {s : State} {m : MethodId} {args : Array Value} {below : List Frame} {meth : Method} {c : Code} {Rp : RT} (C : Cx Z d jX12_isUp RX12 p R s m args meth c) : Sd Z jX12_isUp p e R s m args below meth c (MQ below (QcS Z Rp) args s 0 0 (fun a => Z.2.2.1 < a)) 0 (w_X12_isUp_0 (MS Z d) (Gw Z 2 p e R s m args below meth c (MQ below (QcS Z Rp) args s 0 0 (fun a => Z.2.2.1 < a))) Rp) := by
  unfold w_X12_isUp_0
  refine s_aload_n (k := 0) C (by decide +kernel) ?_
  refine s_iload_n (k := 1) C (by decide +kernel) ?_
  refine s_iconst (n := 0) C (by decide +kernel) (by decide) ?_
  refine s_callV C rfl rfl (by decide +kernel) rfl w_6_220 w_6_222 w_p3_11 w_1_13 w_6_223 (by decide +kernel) ?_
  refine s_iconst (n := 1) C (by decide +kernel) (by decide) ?_
  refine s_icmp_ne (off := 7) (tgt := 14) C (by decide +kernel) (by decide) (fun _ _ _ _ _ _ h => h) ?_
  refine s_iconst (n := 1) C (by decide +kernel) (by decide) ?_
  exact s_goto (off := 4) (tgt := 15) C (by decide +kernel) (by decide) (fun _ _ _ _ _ _ h => h)
set_option maxRecDepth 20000 in
theorem b_X12_isUp_14 {Z : Zt} {d : Nat} {p : Program} {e : Env} {R : Room} {s : State} {m : MethodId} {args : Array Value} {below : List Frame} {meth : Method} {c : Code} {Rp : RT} (C : Cx Z d jX12_isUp RX12 p R s m args meth c) : Sd Z jX12_isUp p e R s m args below meth c (MQ below (QcS Z Rp) args s 0 0 (fun a => Z.2.2.1 < a)) 14 (w_X12_isUp_14 (MS Z d) (Gw Z 2 p e R s m args below meth c (MQ below (QcS Z Rp) args s 0 0 (fun a => Z.2.2.1 < a))) Rp) := by
  unfold w_X12_isUp_14
  refine s_iconst (n := 0) C (by decide +kernel) (by decide) ?_
  exact (fun _ _ _ _ _ _ h => h)
set_option maxRecDepth 20000 in
theorem b_X12_isUp_15 {Z : Zt} {d : Nat} {p : Program} {e : Env} {R : Room} {s : State} {m : MethodId} {args : Array Value} {below : List Frame} {meth : Method} {c : Code} {Rp : RT} (C : Cx Z d jX12_isUp RX12 p R s m args meth c) : Sd Z jX12_isUp p e R s m args below meth c (MQ below (QcS Z Rp) args s 0 0 (fun a => Z.2.2.1 < a)) 15 (w_X12_isUp_15 (MS Z d) (Gw Z 2 p e R s m args below meth c (MQ below (QcS Z Rp) args s 0 0 (fun a => Z.2.2.1 < a))) Rp) := by
  unfold w_X12_isUp_15
  exact s_zret C rfl (by decide +kernel)
theorem ms_X12_isUp {Z : Zt} {d : Nat} {S : Sh} {μ : Mi} {ρ : Mr} {Rp : RT} (a0 : Nat) (x1 : Int32) (h : ∀ G : Nat → PT, (∀ (L st : List Value) (S : Sh) (q : Nat × Nat) (μ : Mi) (ρ : Mr), w_X12_isUp_14 (MS Z d) G Rp L st S q μ ρ → G 14 L st S q μ ρ) → (∀ (L st : List Value) (S : Sh) (q : Nat × Nat) (μ : Mi) (ρ : Mr), w_X12_isUp_15 (MS Z d) G Rp L st S q μ ρ → G 15 L st S q μ ρ) → w_X12_isUp_0 (MS Z d) G Rp [.ref a0, .int x1] [] S (0, 0) μ ρ) : MS Z (d + 1) jX12_isUp [.ref a0, .int x1] S μ ρ Rp :=
  MS_of [.ref a0, .int x1] (by decide +kernel) rfl rfl (Nat.le_of_ble_eq_true rfl) rfl (fun p e R s m args below meth c C => b_X12_isUp_0 C _ _ _ _ _ _ (h _ (b_X12_isUp_14 C) (b_X12_isUp_15 C)))
def w_X12_plays_0 (M : CT) (G : Nat → PT) (Rp : RT) : PT := tAload 0 <| tIload 1 <| tConst 3 <| tCallV M jX12_of 12 27 2 <| tIload 2 <| tIf2 (fun x y => x ≠ y) (G 11) <| tVret Rp
def w_X12_plays_11 (M : CT) (G : Nat → PT) (Rp : RT) : PT := tAload 0 <| tIload 1 <| tConst 3 <| tIload 2 <| tCallV M jX12_lays 12 27 3 <| tAload 0 <| tIload 1 <| tConst 8 <| tConst 0 <| tCallV M jX12_lays 12 27 3 <| tAload 0 <| tIload 1 <| tConst 11 <| tCallV M jX12_of 12 27 2 <| tConst 1 <| tIf2 (fun x y => x ≠ y) (G 42) <| tAload 0 <| tIload 1 <| tCallV M jX12_readsNothing 12 27 1 <| G 42
def w_X12_plays_42 (M : CT) (G : Nat → PT) (Rp : RT) : PT := tVret Rp
set_option maxRecDepth 20000 in
theorem b_X12_plays_0 {Z : Zt} {d : Nat} {p : Program} {e : Env} {R : Room} {s : State} {m : MethodId} {args : Array Value} {below : List Frame} {meth : Method} {c : Code} {Rp : RT} (C : Cx Z d jX12_plays RX12 p R s m args meth c) : Sd Z jX12_plays p e R s m args below meth c (MQ below (QcS Z Rp) args s 0 0 (fun a => Z.2.2.1 < a)) 0 (w_X12_plays_0 (MS Z d) (Gw Z 3 p e R s m args below meth c (MQ below (QcS Z Rp) args s 0 0 (fun a => Z.2.2.1 < a))) Rp) := by
  unfold w_X12_plays_0
  refine s_aload_n (k := 0) C (by decide +kernel) ?_
  refine s_iload_n (k := 1) C (by decide +kernel) ?_
  refine s_iconst (n := 3) C (by decide +kernel) (by decide) ?_
  refine s_callV C rfl rfl (by decide +kernel) rfl w_6_220 w_6_222 w_p3_11 w_1_13 w_6_223 (by decide +kernel) ?_
  refine s_iload_n (k := 2) C (by decide +kernel) ?_
  refine s_icmp_ne (off := 4) (tgt := 11) C (by decide +kernel) (by decide) (fun _ _ _ _ _ _ h => h) ?_
  exact s_vret C rfl (by decide +kernel)
set_option maxRecDepth 20000 in
theorem b_X12_plays_11 {Z : Zt} {d : Nat} {p : Program} {e : Env} {R : Room} {s : State} {m : MethodId} {args : Array Value} {below : List Frame} {meth : Method} {c : Code} {Rp : RT} (C : Cx Z d jX12_plays RX12 p R s m args meth c) : Sd Z jX12_plays p e R s m args below meth c (MQ below (QcS Z Rp) args s 0 0 (fun a => Z.2.2.1 < a)) 11 (w_X12_plays_11 (MS Z d) (Gw Z 3 p e R s m args below meth c (MQ below (QcS Z Rp) args s 0 0 (fun a => Z.2.2.1 < a))) Rp) := by
  unfold w_X12_plays_11
  refine s_aload_n (k := 0) C (by decide +kernel) ?_
  refine s_iload_n (k := 1) C (by decide +kernel) ?_
  refine s_iconst (n := 3) C (by decide +kernel) (by decide) ?_
  refine s_iload_n (k := 2) C (by decide +kernel) ?_
  refine s_callV C rfl rfl (by decide +kernel) rfl w_6_82 w_6_84 w_p3_4 w_1_13 w_6_85 (by decide +kernel) ?_
  refine s_aload_n (k := 0) C (by decide +kernel) ?_
  refine s_iload_n (k := 1) C (by decide +kernel) ?_
  refine s_bipush (n := 8) C (by decide +kernel) (by decide) ?_
  refine s_iconst (n := 0) C (by decide +kernel) (by decide) ?_
  refine s_callV C rfl rfl (by decide +kernel) rfl w_6_82 w_6_84 w_p3_4 w_1_13 w_6_85 (by decide +kernel) ?_
  refine s_aload_n (k := 0) C (by decide +kernel) ?_
  refine s_iload_n (k := 1) C (by decide +kernel) ?_
  refine s_bipush (n := 11) C (by decide +kernel) (by decide) ?_
  refine s_callV C rfl rfl (by decide +kernel) rfl w_6_220 w_6_222 w_p3_11 w_1_13 w_6_223 (by decide +kernel) ?_
  refine s_iconst (n := 1) C (by decide +kernel) (by decide) ?_
  refine s_icmp_ne (off := 8) (tgt := 42) C (by decide +kernel) (by decide) (fun _ _ _ _ _ _ h => h) ?_
  refine s_aload_n (k := 0) C (by decide +kernel) ?_
  refine s_iload_n (k := 1) C (by decide +kernel) ?_
  refine s_callV C rfl rfl (by decide +kernel) rfl w_7_15 w_7_17 w_p4_3 w_1_13 w_7_18 (by decide +kernel) ?_
  exact (fun _ _ _ _ _ _ h => h)
set_option maxRecDepth 20000 in
theorem b_X12_plays_42 {Z : Zt} {d : Nat} {p : Program} {e : Env} {R : Room} {s : State} {m : MethodId} {args : Array Value} {below : List Frame} {meth : Method} {c : Code} {Rp : RT} (C : Cx Z d jX12_plays RX12 p R s m args meth c) : Sd Z jX12_plays p e R s m args below meth c (MQ below (QcS Z Rp) args s 0 0 (fun a => Z.2.2.1 < a)) 42 (w_X12_plays_42 (MS Z d) (Gw Z 3 p e R s m args below meth c (MQ below (QcS Z Rp) args s 0 0 (fun a => Z.2.2.1 < a))) Rp) := by
  unfold w_X12_plays_42
  exact s_vret C rfl (by decide +kernel)
theorem ms_X12_plays {Z : Zt} {d : Nat} {S : Sh} {μ : Mi} {ρ : Mr} {Rp : RT} (a0 : Nat) (x1 : Int32) (x2 : Int32) (h : ∀ G : Nat → PT, (∀ (L st : List Value) (S : Sh) (q : Nat × Nat) (μ : Mi) (ρ : Mr), w_X12_plays_11 (MS Z d) G Rp L st S q μ ρ → G 11 L st S q μ ρ) → (∀ (L st : List Value) (S : Sh) (q : Nat × Nat) (μ : Mi) (ρ : Mr), w_X12_plays_42 (MS Z d) G Rp L st S q μ ρ → G 42 L st S q μ ρ) → w_X12_plays_0 (MS Z d) G Rp [.ref a0, .int x1, .int x2] [] S (0, 0) μ ρ) : MS Z (d + 1) jX12_plays [.ref a0, .int x1, .int x2] S μ ρ Rp :=
  MS_of [.ref a0, .int x1, .int x2] (by decide +kernel) rfl rfl (Nat.le_of_ble_eq_true rfl) rfl (fun p e R s m args below meth c C => b_X12_plays_0 C _ _ _ _ _ _ (h _ (b_X12_plays_11 C) (b_X12_plays_42 C)))
def w_X12_readsNothing_0 (M : CT) (G : Nat → PT) (Rp : RT) : PT := tAload 0 <| tIload 1 <| tConst 11 <| tConst 0 <| tCallV M jX12_lays 12 27 3 <| tAload 0 <| tIload 1 <| tConst 12 <| tConst 0 <| tCallV M jX12_lays 12 27 3 <| tAload 0 <| tIload 1 <| tConst 13 <| tConst 0 <| tCallV M jX12_lays 12 27 3 <| tAload 0 <| tIload 1 <| tConst 15 <| tConst 0 <| tCallV M jX12_lays 12 27 3 <| tVret Rp
set_option maxRecDepth 20000 in
theorem b_X12_readsNothing_0 {Z : Zt} {d : Nat} {p : Program} {e : Env} {R : Room} {s : State} {m : MethodId} {args : Array Value} {below : List Frame} {meth : Method} {c : Code} {Rp : RT} (C : Cx Z d jX12_readsNothing RX12 p R s m args meth c) : Sd Z jX12_readsNothing p e R s m args below meth c (MQ below (QcS Z Rp) args s 0 0 (fun a => Z.2.2.1 < a)) 0 (w_X12_readsNothing_0 (MS Z d) (Gw Z 2 p e R s m args below meth c (MQ below (QcS Z Rp) args s 0 0 (fun a => Z.2.2.1 < a))) Rp) := by
  unfold w_X12_readsNothing_0
  refine s_aload_n (k := 0) C (by decide +kernel) ?_
  refine s_iload_n (k := 1) C (by decide +kernel) ?_
  refine s_bipush (n := 11) C (by decide +kernel) (by decide) ?_
  refine s_iconst (n := 0) C (by decide +kernel) (by decide) ?_
  refine s_callV C rfl rfl (by decide +kernel) rfl w_6_82 w_6_84 w_p3_4 w_1_13 w_6_85 (by decide +kernel) ?_
  refine s_aload_n (k := 0) C (by decide +kernel) ?_
  refine s_iload_n (k := 1) C (by decide +kernel) ?_
  refine s_bipush (n := 12) C (by decide +kernel) (by decide) ?_
  refine s_iconst (n := 0) C (by decide +kernel) (by decide) ?_
  refine s_callV C rfl rfl (by decide +kernel) rfl w_6_82 w_6_84 w_p3_4 w_1_13 w_6_85 (by decide +kernel) ?_
  refine s_aload_n (k := 0) C (by decide +kernel) ?_
  refine s_iload_n (k := 1) C (by decide +kernel) ?_
  refine s_bipush (n := 13) C (by decide +kernel) (by decide) ?_
  refine s_iconst (n := 0) C (by decide +kernel) (by decide) ?_
  refine s_callV C rfl rfl (by decide +kernel) rfl w_6_82 w_6_84 w_p3_4 w_1_13 w_6_85 (by decide +kernel) ?_
  refine s_aload_n (k := 0) C (by decide +kernel) ?_
  refine s_iload_n (k := 1) C (by decide +kernel) ?_
  refine s_bipush (n := 15) C (by decide +kernel) (by decide) ?_
  refine s_iconst (n := 0) C (by decide +kernel) (by decide) ?_
  refine s_callV C rfl rfl (by decide +kernel) rfl w_6_82 w_6_84 w_p3_4 w_1_13 w_6_85 (by decide +kernel) ?_
  exact s_vret C rfl (by decide +kernel)
theorem ms_X12_readsNothing {Z : Zt} {d : Nat} {S : Sh} {μ : Mi} {ρ : Mr} {Rp : RT} (a0 : Nat) (x1 : Int32) (h : ∀ G : Nat → PT, w_X12_readsNothing_0 (MS Z d) G Rp [.ref a0, .int x1] [] S (0, 0) μ ρ) : MS Z (d + 1) jX12_readsNothing [.ref a0, .int x1] S μ ρ Rp :=
  MS_of [.ref a0, .int x1] (by decide +kernel) rfl rfl (Nat.le_of_ble_eq_true rfl) rfl (fun p e R s m args below meth c C => b_X12_readsNothing_0 C _ _ _ _ _ _ (h _ ))
def w_X12_isLeader_0 (M : CT) (G : Nat → PT) (Rp : RT) : PT := tAload 0 <| tIload 1 <| tConst 3 <| tCallV M jX12_of 12 27 2 <| tConst 2 <| tIf2 (fun x y => x ≠ y) (G 14) <| tConst 1 <| tGoto (G 15)
def w_X12_isLeader_14 (M : CT) (G : Nat → PT) (Rp : RT) : PT := tConst 0 <| G 15
def w_X12_isLeader_15 (M : CT) (G : Nat → PT) (Rp : RT) : PT := tZret Rp
set_option maxRecDepth 20000 in
theorem b_X12_isLeader_0 {Z : Zt} {d : Nat} {p : Program} {e : Env} {R : Room} {s : State} {m : MethodId} {args : Array Value} {below : List Frame} {meth : Method} {c : Code} {Rp : RT} (C : Cx Z d jX12_isLeader RX12 p R s m args meth c) : Sd Z jX12_isLeader p e R s m args below meth c (MQ below (QcS Z Rp) args s 0 0 (fun a => Z.2.2.1 < a)) 0 (w_X12_isLeader_0 (MS Z d) (Gw Z 2 p e R s m args below meth c (MQ below (QcS Z Rp) args s 0 0 (fun a => Z.2.2.1 < a))) Rp) := by
  unfold w_X12_isLeader_0
  refine s_aload_n (k := 0) C (by decide +kernel) ?_
  refine s_iload_n (k := 1) C (by decide +kernel) ?_
  refine s_iconst (n := 3) C (by decide +kernel) (by decide) ?_
  refine s_callV C rfl rfl (by decide +kernel) rfl w_6_220 w_6_222 w_p3_11 w_1_13 w_6_223 (by decide +kernel) ?_
  refine s_iconst (n := 2) C (by decide +kernel) (by decide) ?_
  refine s_icmp_ne (off := 7) (tgt := 14) C (by decide +kernel) (by decide) (fun _ _ _ _ _ _ h => h) ?_
  refine s_iconst (n := 1) C (by decide +kernel) (by decide) ?_
  exact s_goto (off := 4) (tgt := 15) C (by decide +kernel) (by decide) (fun _ _ _ _ _ _ h => h)
set_option maxRecDepth 20000 in
theorem b_X12_isLeader_14 {Z : Zt} {d : Nat} {p : Program} {e : Env} {R : Room} {s : State} {m : MethodId} {args : Array Value} {below : List Frame} {meth : Method} {c : Code} {Rp : RT} (C : Cx Z d jX12_isLeader RX12 p R s m args meth c) : Sd Z jX12_isLeader p e R s m args below meth c (MQ below (QcS Z Rp) args s 0 0 (fun a => Z.2.2.1 < a)) 14 (w_X12_isLeader_14 (MS Z d) (Gw Z 2 p e R s m args below meth c (MQ below (QcS Z Rp) args s 0 0 (fun a => Z.2.2.1 < a))) Rp) := by
  unfold w_X12_isLeader_14
  refine s_iconst (n := 0) C (by decide +kernel) (by decide) ?_
  exact (fun _ _ _ _ _ _ h => h)
set_option maxRecDepth 20000 in
theorem b_X12_isLeader_15 {Z : Zt} {d : Nat} {p : Program} {e : Env} {R : Room} {s : State} {m : MethodId} {args : Array Value} {below : List Frame} {meth : Method} {c : Code} {Rp : RT} (C : Cx Z d jX12_isLeader RX12 p R s m args meth c) : Sd Z jX12_isLeader p e R s m args below meth c (MQ below (QcS Z Rp) args s 0 0 (fun a => Z.2.2.1 < a)) 15 (w_X12_isLeader_15 (MS Z d) (Gw Z 2 p e R s m args below meth c (MQ below (QcS Z Rp) args s 0 0 (fun a => Z.2.2.1 < a))) Rp) := by
  unfold w_X12_isLeader_15
  exact s_zret C rfl (by decide +kernel)
theorem ms_X12_isLeader {Z : Zt} {d : Nat} {S : Sh} {μ : Mi} {ρ : Mr} {Rp : RT} (a0 : Nat) (x1 : Int32) (h : ∀ G : Nat → PT, (∀ (L st : List Value) (S : Sh) (q : Nat × Nat) (μ : Mi) (ρ : Mr), w_X12_isLeader_14 (MS Z d) G Rp L st S q μ ρ → G 14 L st S q μ ρ) → (∀ (L st : List Value) (S : Sh) (q : Nat × Nat) (μ : Mi) (ρ : Mr), w_X12_isLeader_15 (MS Z d) G Rp L st S q μ ρ → G 15 L st S q μ ρ) → w_X12_isLeader_0 (MS Z d) G Rp [.ref a0, .int x1] [] S (0, 0) μ ρ) : MS Z (d + 1) jX12_isLeader [.ref a0, .int x1] S μ ρ Rp :=
  MS_of [.ref a0, .int x1] (by decide +kernel) rfl rfl (Nat.le_of_ble_eq_true rfl) rfl (fun p e R s m args below meth c C => b_X12_isLeader_0 C _ _ _ _ _ _ (h _ (b_X12_isLeader_14 C) (b_X12_isLeader_15 C)))
def w_X12_isLinked_0 (M : CT) (G : Nat → PT) (Rp : RT) : PT := tAload 0 <| tGetR 12 27 1 <| tConst 4513 <| tAld 20 <| tConst 5 <| tIload 1 <| tBin (fun x y => x * y) <| tIload 2 <| tBin (fun x y => x + y) <| tCallS M jX12_has 2 <| tZret Rp
set_option maxRecDepth 20000 in
theorem b_X12_isLinked_0 {Z : Zt} {d : Nat} {p : Program} {e : Env} {R : Room} {s : State} {m : MethodId} {args : Array Value} {below : List Frame} {meth : Method} {c : Code} {Rp : RT} (C : Cx Z d jX12_isLinked RX12 p R s m args meth c) : Sd Z jX12_isLinked p e R s m args below meth c (MQ below (QcS Z Rp) args s 0 0 (fun a => Z.2.2.1 < a)) 0 (w_X12_isLinked_0 (MS Z d) (Gw Z 3 p e R s m args below meth c (MQ below (QcS Z Rp) args s 0 0 (fun a => Z.2.2.1 < a))) Rp) := by
  unfold w_X12_isLinked_0
  refine s_aload_n (k := 0) C (by decide +kernel) ?_
  refine s_getR C w_6_88 (by decide +kernel) rfl ?_
  refine s_sipush (n := 4513) C (by decide +kernel) (by decide) ?_
  refine s_iald C (by decide +kernel) ?_
  refine s_iconst (n := 5) C (by decide +kernel) (by decide) ?_
  refine s_iload_n (k := 1) C (by decide +kernel) ?_
  refine s_imul C (by decide +kernel) ?_
  refine s_iload_n (k := 2) C (by decide +kernel) ?_
  refine s_iadd C (by decide +kernel) ?_
  refine s_callS C (by decide +kernel) rfl w_7_0 w_7_1 w_1_13 w_7_2 (by decide +kernel) ?_
  exact s_zret C rfl (by decide +kernel)
theorem ms_X12_isLinked {Z : Zt} {d : Nat} {S : Sh} {μ : Mi} {ρ : Mr} {Rp : RT} (a0 : Nat) (x1 : Int32) (x2 : Int32) (h : ∀ G : Nat → PT, w_X12_isLinked_0 (MS Z d) G Rp [.ref a0, .int x1, .int x2] [] S (0, 0) μ ρ) : MS Z (d + 1) jX12_isLinked [.ref a0, .int x1, .int x2] S μ ρ Rp :=
  MS_of [.ref a0, .int x1, .int x2] (by decide +kernel) rfl rfl (Nat.le_of_ble_eq_true rfl) rfl (fun p e R s m args below meth c C => b_X12_isLinked_0 C _ _ _ _ _ _ (h _ ))
def w_X12_termAt_0 (M : CT) (G : Nat → PT) (Rp : RT) : PT := tIload 2 <| tAload 0 <| tIload 1 <| tConst 5 <| tCallV M jX12_of 12 27 2 <| tIf2 (fun x y => x ≠ y) (G 18) <| tAload 0 <| tIload 1 <| tConst 6 <| tCallV M jX12_of 12 27 2 <| tIret Rp
def w_X12_termAt_18 (M : CT) (G : Nat → PT) (Rp : RT) : PT := tIload 2 <| tI2l <| tAload 0 <| tIload 1 <| tConst 5 <| tCallV M jX12_of 12 27 2 <| tConst 1 <| tBin (fun x y => x + y) <| tI2l <| tAload 0 <| tIload 1 <| tConst 4 <| tCallV M jX12_of 12 27 2 <| tI2l <| tCallS M jX12_within 3 <| tIf (fun x => x = 0) (G 52) <| tAload 0 <| tIload 1 <| tIload 2 <| tConst 0 <| tCallV M jX12_ofEntry 12 27 3 <| tGoto (G 53)
def w_X12_termAt_52 (M : CT) (G : Nat → PT) (Rp : RT) : PT := tConst (-1) <| G 53
def w_X12_termAt_53 (M : CT) (G : Nat → PT) (Rp : RT) : PT := tIret Rp
set_option maxRecDepth 20000 in
theorem b_X12_termAt_0 {Z : Zt} {d : Nat} {p : Program} {e : Env} {R : Room} {s : State} {m : MethodId} {args : Array Value} {below : List Frame} {meth : Method} {c : Code} {Rp : RT} (C : Cx Z d jX12_termAt RX12 p R s m args meth c) : Sd Z jX12_termAt p e R s m args below meth c (MQ below (QcS Z Rp) args s 0 0 (fun a => Z.2.2.1 < a)) 0 (w_X12_termAt_0 (MS Z d) (Gw Z 3 p e R s m args below meth c (MQ below (QcS Z Rp) args s 0 0 (fun a => Z.2.2.1 < a))) Rp) := by
  unfold w_X12_termAt_0
  refine s_iload_n (k := 2) C (by decide +kernel) ?_
  refine s_aload_n (k := 0) C (by decide +kernel) ?_
  refine s_iload_n (k := 1) C (by decide +kernel) ?_
  refine s_iconst (n := 5) C (by decide +kernel) (by decide) ?_
  refine s_callV C rfl rfl (by decide +kernel) rfl w_6_220 w_6_222 w_p3_11 w_1_13 w_6_223 (by decide +kernel) ?_
  refine s_icmp_ne (off := 11) (tgt := 18) C (by decide +kernel) (by decide) (fun _ _ _ _ _ _ h => h) ?_
  refine s_aload_n (k := 0) C (by decide +kernel) ?_
  refine s_iload_n (k := 1) C (by decide +kernel) ?_
  refine s_bipush (n := 6) C (by decide +kernel) (by decide) ?_
  refine s_callV C rfl rfl (by decide +kernel) rfl w_6_220 w_6_222 w_p3_11 w_1_13 w_6_223 (by decide +kernel) ?_
  exact s_iret C rfl (by decide +kernel)
set_option maxRecDepth 20000 in
theorem b_X12_termAt_18 {Z : Zt} {d : Nat} {p : Program} {e : Env} {R : Room} {s : State} {m : MethodId} {args : Array Value} {below : List Frame} {meth : Method} {c : Code} {Rp : RT} (C : Cx Z d jX12_termAt RX12 p R s m args meth c) : Sd Z jX12_termAt p e R s m args below meth c (MQ below (QcS Z Rp) args s 0 0 (fun a => Z.2.2.1 < a)) 18 (w_X12_termAt_18 (MS Z d) (Gw Z 3 p e R s m args below meth c (MQ below (QcS Z Rp) args s 0 0 (fun a => Z.2.2.1 < a))) Rp) := by
  unfold w_X12_termAt_18
  refine s_iload_n (k := 2) C (by decide +kernel) ?_
  refine s_i2l C (by decide +kernel) ?_
  refine s_aload_n (k := 0) C (by decide +kernel) ?_
  refine s_iload_n (k := 1) C (by decide +kernel) ?_
  refine s_iconst (n := 5) C (by decide +kernel) (by decide) ?_
  refine s_callV C rfl rfl (by decide +kernel) rfl w_6_220 w_6_222 w_p3_11 w_1_13 w_6_223 (by decide +kernel) ?_
  refine s_iconst (n := 1) C (by decide +kernel) (by decide) ?_
  refine s_iadd C (by decide +kernel) ?_
  refine s_i2l C (by decide +kernel) ?_
  refine s_aload_n (k := 0) C (by decide +kernel) ?_
  refine s_iload_n (k := 1) C (by decide +kernel) ?_
  refine s_iconst (n := 4) C (by decide +kernel) (by decide) ?_
  refine s_callV C rfl rfl (by decide +kernel) rfl w_6_220 w_6_222 w_p3_11 w_1_13 w_6_223 (by decide +kernel) ?_
  refine s_i2l C (by decide +kernel) ?_
  refine s_callS C (by decide +kernel) rfl w_6_175 w_6_176 w_1_13 w_6_177 (by decide +kernel) ?_
  refine s_if_eq (off := 13) (tgt := 52) C (by decide +kernel) (by decide) (fun _ _ _ _ _ _ h => h) ?_
  refine s_aload_n (k := 0) C (by decide +kernel) ?_
  refine s_iload_n (k := 1) C (by decide +kernel) ?_
  refine s_iload_n (k := 2) C (by decide +kernel) ?_
  refine s_iconst (n := 0) C (by decide +kernel) (by decide) ?_
  refine s_callV C rfl rfl (by decide +kernel) rfl w_6_228 w_6_230 w_p3_13 w_1_13 w_6_231 (by decide +kernel) ?_
  exact s_goto (off := 4) (tgt := 53) C (by decide +kernel) (by decide) (fun _ _ _ _ _ _ h => h)
set_option maxRecDepth 20000 in
theorem b_X12_termAt_52 {Z : Zt} {d : Nat} {p : Program} {e : Env} {R : Room} {s : State} {m : MethodId} {args : Array Value} {below : List Frame} {meth : Method} {c : Code} {Rp : RT} (C : Cx Z d jX12_termAt RX12 p R s m args meth c) : Sd Z jX12_termAt p e R s m args below meth c (MQ below (QcS Z Rp) args s 0 0 (fun a => Z.2.2.1 < a)) 52 (w_X12_termAt_52 (MS Z d) (Gw Z 3 p e R s m args below meth c (MQ below (QcS Z Rp) args s 0 0 (fun a => Z.2.2.1 < a))) Rp) := by
  unfold w_X12_termAt_52
  refine s_iconst (n := (-1)) C (by decide +kernel) (by decide) ?_
  exact (fun _ _ _ _ _ _ h => h)
set_option maxRecDepth 20000 in
theorem b_X12_termAt_53 {Z : Zt} {d : Nat} {p : Program} {e : Env} {R : Room} {s : State} {m : MethodId} {args : Array Value} {below : List Frame} {meth : Method} {c : Code} {Rp : RT} (C : Cx Z d jX12_termAt RX12 p R s m args meth c) : Sd Z jX12_termAt p e R s m args below meth c (MQ below (QcS Z Rp) args s 0 0 (fun a => Z.2.2.1 < a)) 53 (w_X12_termAt_53 (MS Z d) (Gw Z 3 p e R s m args below meth c (MQ below (QcS Z Rp) args s 0 0 (fun a => Z.2.2.1 < a))) Rp) := by
  unfold w_X12_termAt_53
  exact s_iret C rfl (by decide +kernel)
theorem ms_X12_termAt {Z : Zt} {d : Nat} {S : Sh} {μ : Mi} {ρ : Mr} {Rp : RT} (a0 : Nat) (x1 : Int32) (x2 : Int32) (h : ∀ G : Nat → PT, (∀ (L st : List Value) (S : Sh) (q : Nat × Nat) (μ : Mi) (ρ : Mr), w_X12_termAt_18 (MS Z d) G Rp L st S q μ ρ → G 18 L st S q μ ρ) → (∀ (L st : List Value) (S : Sh) (q : Nat × Nat) (μ : Mi) (ρ : Mr), w_X12_termAt_52 (MS Z d) G Rp L st S q μ ρ → G 52 L st S q μ ρ) → (∀ (L st : List Value) (S : Sh) (q : Nat × Nat) (μ : Mi) (ρ : Mr), w_X12_termAt_53 (MS Z d) G Rp L st S q μ ρ → G 53 L st S q μ ρ) → w_X12_termAt_0 (MS Z d) G Rp [.ref a0, .int x1, .int x2] [] S (0, 0) μ ρ) : MS Z (d + 1) jX12_termAt [.ref a0, .int x1, .int x2] S μ ρ Rp :=
  MS_of [.ref a0, .int x1, .int x2] (by decide +kernel) rfl rfl (Nat.le_of_ble_eq_true rfl) rfl (fun p e R s m args below meth c C => b_X12_termAt_0 C _ _ _ _ _ _ (h _ (b_X12_termAt_18 C) (b_X12_termAt_52 C) (b_X12_termAt_53 C)))
def w_X12_laysMembersUpTo_0 (M : CT) (G : Nat → PT) (Rp : RT) : PT := tIload 2 <| tIstore 3 <| G 2
def w_X12_laysMembersUpTo_2 (M : CT) (G : Nat → PT) (Rp : RT) : PT := tIload 3 <| tAload 0 <| tIload 1 <| tConst 5 <| tCallV M jX12_of 12 27 2 <| tIf2 (fun x y => x ≤ y) (G 88) <| tAload 0 <| tAload 0 <| tIload 1 <| tIload 3 <| tConst 1 <| tCallV M jX12_ofEntry 12 27 3 <| tPutI 12 27 10 <| tAload 0 <| tGetI 12 27 10 <| tConst 3 <| tIf2 (fun x y => x = y) (G 42) <| tAload 0 <| tGetI 12 27 10 <| tConst 4 <| tIf2 (fun x y => x = y) (G 42) <| tGoto (G 82)
def w_X12_laysMembersUpTo_42 (M : CT) (G : Nat → PT) (Rp : RT) : PT := tAload 0 <| tIload 3 <| tPutI 12 27 11 <| tAload 0 <| tAload 0 <| tIload 1 <| tIload 3 <| tConst 2 <| tCallV M jX12_ofEntry 12 27 3 <| tPutI 12 27 8 <| tAload 0 <| tAload 0 <| tGetI 12 27 10 <| tConst 3 <| tIf2 (fun x y => x ≠ y) (G 77) <| tAload 0 <| tIload 1 <| tIload 3 <| tConst 3 <| tCallV M jX12_ofEntry 12 27 3 <| tGoto (G 78)
def w_X12_laysMembersUpTo_77 (M : CT) (G : Nat → PT) (Rp : RT) : PT := tConst 0 <| G 78
def w_X12_laysMembersUpTo_78 (M : CT) (G : Nat → PT) (Rp : RT) : PT := tPutI 12 27 9 <| tVret Rp
def w_X12_laysMembersUpTo_82 (M : CT) (G : Nat → PT) (Rp : RT) : PT := tIinc 3 (-1) <| tGoto (G 2)
def w_X12_laysMembersUpTo_88 (M : CT) (G : Nat → PT) (Rp : RT) : PT := tAload 0 <| tConst 0 <| tPutI 12 27 10 <| tAload 0 <| tConst 0 <| tPutI 12 27 11 <| tAload 0 <| tAload 0 <| tIload 1 <| tConst 9 <| tCallV M jX12_of 12 27 2 <| tIf (fun x => x ≠ 0) (G 120) <| tAload 0 <| tGetR 12 27 1 <| tConst 4514 <| tAld 20 <| tGoto (G 127)
def w_X12_laysMembersUpTo_120 (M : CT) (G : Nat → PT) (Rp : RT) : PT := tAload 0 <| tIload 1 <| tConst 9 <| tCallV M jX12_of 12 27 2 <| G 127
def w_X12_laysMembersUpTo_127 (M : CT) (G : Nat → PT) (Rp : RT) : PT := tPutI 12 27 8 <| tAload 0 <| tAload 0 <| tIload 1 <| tConst 10 <| tCallV M jX12_of 12 27 2 <| tPutI 12 27 9 <| tVret Rp
set_option maxRecDepth 20000 in
theorem b_X12_laysMembersUpTo_0 {Z : Zt} {d : Nat} {p : Program} {e : Env} {R : Room} {s : State} {m : MethodId} {args : Array Value} {below : List Frame} {meth : Method} {c : Code} {Rp : RT} (C : Cx Z d jX12_laysMembersUpTo RX12 p R s m args meth c) : Sd Z jX12_laysMembersUpTo p e R s m args below meth c (MQ below (QcS Z Rp) args s 0 0 (fun a => Z.2.2.1 < a)) 0 (w_X12_laysMembersUpTo_0 (MS Z d) (Gw Z 4 p e R s m args below meth c (MQ below (QcS Z Rp) args s 0 0 (fun a => Z.2.2.1 < a))) Rp) := by
  unfold w_X12_laysMembersUpTo_0
  refine s_iload_n (k := 2) C (by decide +kernel) ?_
  refine s_istore_n (k := 3) C (by decide +kernel) ?_
  exact (fun _ _ _ _ _ _ h => h)
set_option maxRecDepth 20000 in
theorem b_X12_laysMembersUpTo_2 {Z : Zt} {d : Nat} {p : Program} {e : Env} {R : Room} {s : State} {m : MethodId} {args : Array Value} {below : List Frame} {meth : Method} {c : Code} {Rp : RT} (C : Cx Z d jX12_laysMembersUpTo RX12 p R s m args meth c) : Sd Z jX12_laysMembersUpTo p e R s m args below meth c (MQ below (QcS Z Rp) args s 0 0 (fun a => Z.2.2.1 < a)) 2 (w_X12_laysMembersUpTo_2 (MS Z d) (Gw Z 4 p e R s m args below meth c (MQ below (QcS Z Rp) args s 0 0 (fun a => Z.2.2.1 < a))) Rp) := by
  unfold w_X12_laysMembersUpTo_2
  refine s_iload_n (k := 3) C (by decide +kernel) ?_
  refine s_aload_n (k := 0) C (by decide +kernel) ?_
  refine s_iload_n (k := 1) C (by decide +kernel) ?_
  refine s_iconst (n := 5) C (by decide +kernel) (by decide) ?_
  refine s_callV C rfl rfl (by decide +kernel) rfl w_6_220 w_6_222 w_p3_11 w_1_13 w_6_223 (by decide +kernel) ?_
  refine s_icmp_le (off := 79) (tgt := 88) C (by decide +kernel) (by decide) (fun _ _ _ _ _ _ h => h) ?_
  refine s_aload_n (k := 0) C (by decide +kernel) ?_
  refine s_aload_n (k := 0) C (by decide +kernel) ?_
  refine s_iload_n (k := 1) C (by decide +kernel) ?_
  refine s_iload_n (k := 3) C (by decide +kernel) ?_
  refine s_iconst (n := 1) C (by decide +kernel) (by decide) ?_
  refine s_callV C rfl rfl (by decide +kernel) rfl w_6_228 w_6_230 w_p3_13 w_1_13 w_6_231 (by decide +kernel) ?_
  refine s_putI C w_6_97 (by decide +kernel) rfl (Or.inl rfl) ?_
  refine s_aload_n (k := 0) C (by decide +kernel) ?_
  refine s_getI C w_6_97 (by decide +kernel) rfl ?_
  refine s_iconst (n := 3) C (by decide +kernel) (by decide) ?_
  refine s_icmp_eq (off := 14) (tgt := 42) C (by decide +kernel) (by decide) (fun _ _ _ _ _ _ h => h) ?_
  refine s_aload_n (k := 0) C (by decide +kernel) ?_
  refine s_getI C w_6_97 (by decide +kernel) rfl ?_
  refine s_iconst (n := 4) C (by decide +kernel) (by decide) ?_
  refine s_icmp_eq (off := 6) (tgt := 42) C (by decide +kernel) (by decide) (fun _ _ _ _ _ _ h => h) ?_
  exact s_goto (off := 43) (tgt := 82) C (by decide +kernel) (by decide) (fun _ _ _ _ _ _ h => h)
set_option maxRecDepth 20000 in
theorem b_X12_laysMembersUpTo_42 {Z : Zt} {d : Nat} {p : Program} {e : Env} {R : Room} {s : State} {m : MethodId} {args : Array Value} {below : List Frame} {meth : Method} {c : Code} {Rp : RT} (C : Cx Z d jX12_laysMembersUpTo RX12 p R s m args meth c) : Sd Z jX12_laysMembersUpTo p e R s m args below meth c (MQ below (QcS Z Rp) args s 0 0 (fun a => Z.2.2.1 < a)) 42 (w_X12_laysMembersUpTo_42 (MS Z d) (Gw Z 4 p e R s m args below meth c (MQ below (QcS Z Rp) args s 0 0 (fun a => Z.2.2.1 < a))) Rp) := by
  unfold w_X12_laysMembersUpTo_42
  refine s_aload_n (k := 0) C (by decide +kernel) ?_
  refine s_iload_n (k := 3) C (by decide +kernel) ?_
  refine s_putI C w_6_98 (by decide +kernel) rfl (Or.inl rfl) ?_
  refine s_aload_n (k := 0) C (by decide +kernel) ?_
  refine s_aload_n (k := 0) C (by decide +kernel) ?_
  refine s_iload_n (k := 1) C (by decide +kernel) ?_
  refine s_iload_n (k := 3) C (by decide +kernel) ?_
  refine s_iconst (n := 2) C (by decide +kernel) (by decide) ?_
  refine s_callV C rfl rfl (by decide +kernel) rfl w_6_228 w_6_230 w_p3_13 w_1_13 w_6_231 (by decide +kernel) ?_
  refine s_putI C w_6_95 (by decide +kernel) rfl (Or.inl rfl) ?_
  refine s_aload_n (k := 0) C (by decide +kernel) ?_
  refine s_aload_n (k := 0) C (by decide +kernel) ?_
  refine s_getI C w_6_97 (by decide +kernel) rfl ?_
  refine s_iconst (n := 3) C (by decide +kernel) (by decide) ?_
  refine s_icmp_ne (off := 13) (tgt := 77) C (by decide +kernel) (by decide) (fun _ _ _ _ _ _ h => h) ?_
  refine s_aload_n (k := 0) C (by decide +kernel) ?_
  refine s_iload_n (k := 1) C (by decide +kernel) ?_
  refine s_iload_n (k := 3) C (by decide +kernel) ?_
  refine s_iconst (n := 3) C (by decide +kernel) (by decide) ?_
  refine s_callV C rfl rfl (by decide +kernel) rfl w_6_228 w_6_230 w_p3_13 w_1_13 w_6_231 (by decide +kernel) ?_
  exact s_goto (off := 4) (tgt := 78) C (by decide +kernel) (by decide) (fun _ _ _ _ _ _ h => h)
set_option maxRecDepth 20000 in
theorem b_X12_laysMembersUpTo_77 {Z : Zt} {d : Nat} {p : Program} {e : Env} {R : Room} {s : State} {m : MethodId} {args : Array Value} {below : List Frame} {meth : Method} {c : Code} {Rp : RT} (C : Cx Z d jX12_laysMembersUpTo RX12 p R s m args meth c) : Sd Z jX12_laysMembersUpTo p e R s m args below meth c (MQ below (QcS Z Rp) args s 0 0 (fun a => Z.2.2.1 < a)) 77 (w_X12_laysMembersUpTo_77 (MS Z d) (Gw Z 4 p e R s m args below meth c (MQ below (QcS Z Rp) args s 0 0 (fun a => Z.2.2.1 < a))) Rp) := by
  unfold w_X12_laysMembersUpTo_77
  refine s_iconst (n := 0) C (by decide +kernel) (by decide) ?_
  exact (fun _ _ _ _ _ _ h => h)
set_option maxRecDepth 20000 in
theorem b_X12_laysMembersUpTo_78 {Z : Zt} {d : Nat} {p : Program} {e : Env} {R : Room} {s : State} {m : MethodId} {args : Array Value} {below : List Frame} {meth : Method} {c : Code} {Rp : RT} (C : Cx Z d jX12_laysMembersUpTo RX12 p R s m args meth c) : Sd Z jX12_laysMembersUpTo p e R s m args below meth c (MQ below (QcS Z Rp) args s 0 0 (fun a => Z.2.2.1 < a)) 78 (w_X12_laysMembersUpTo_78 (MS Z d) (Gw Z 4 p e R s m args below meth c (MQ below (QcS Z Rp) args s 0 0 (fun a => Z.2.2.1 < a))) Rp) := by
  unfold w_X12_laysMembersUpTo_78
  refine s_putI C w_6_96 (by decide +kernel) rfl (Or.inl rfl) ?_
  exact s_vret C rfl (by decide +kernel)
set_option maxRecDepth 20000 in
theorem b_X12_laysMembersUpTo_82 {Z : Zt} {d : Nat} {p : Program} {e : Env} {R : Room} {s : State} {m : MethodId} {args : Array Value} {below : List Frame} {meth : Method} {c : Code} {Rp : RT} (C : Cx Z d jX12_laysMembersUpTo RX12 p R s m args meth c) : Sd Z jX12_laysMembersUpTo p e R s m args below meth c (MQ below (QcS Z Rp) args s 0 0 (fun a => Z.2.2.1 < a)) 82 (w_X12_laysMembersUpTo_82 (MS Z d) (Gw Z 4 p e R s m args below meth c (MQ below (QcS Z Rp) args s 0 0 (fun a => Z.2.2.1 < a))) Rp) := by
  unfold w_X12_laysMembersUpTo_82
  refine s_iinc (n := (-1)) C (by decide +kernel) (by decide) ?_
  exact s_goto (off := (-83)) (tgt := 2) C (by decide +kernel) (by decide) (fun _ _ _ _ _ _ h => h)
set_option maxRecDepth 20000 in
theorem b_X12_laysMembersUpTo_88 {Z : Zt} {d : Nat} {p : Program} {e : Env} {R : Room} {s : State} {m : MethodId} {args : Array Value} {below : List Frame} {meth : Method} {c : Code} {Rp : RT} (C : Cx Z d jX12_laysMembersUpTo RX12 p R s m args meth c) : Sd Z jX12_laysMembersUpTo p e R s m args below meth c (MQ below (QcS Z Rp) args s 0 0 (fun a => Z.2.2.1 < a)) 88 (w_X12_laysMembersUpTo_88 (MS Z d) (Gw Z 4 p e R s m args below meth c (MQ below (QcS Z Rp) args s 0 0 (fun a => Z.2.2.1 < a))) Rp) := by
  unfold w_X12_laysMembersUpTo_88
  refine s_aload_n (k := 0) C (by decide +kernel) ?_
  refine s_iconst (n := 0) C (by decide +kernel) (by decide) ?_
  refine s_putI C w_6_97 (by decide +kernel) rfl (Or.inl rfl) ?_
  refine s_aload_n (k := 0) C (by decide +kernel) ?_
  refine s_iconst (n := 0) C (by decide +kernel) (by decide) ?_
  refine s_putI C w_6_98 (by decide +kernel) rfl (Or.inl rfl) ?_
  refine s_aload_n (k := 0) C (by decide +kernel) ?_
  refine s_aload_n (k := 0) C (by decide +kernel) ?_
  refine s_iload_n (k := 1) C (by decide +kernel) ?_
  refine s_bipush (n := 9) C (by decide +kernel) (by decide) ?_
  refine s_callV C rfl rfl (by decide +kernel) rfl w_6_220 w_6_222 w_p3_11 w_1_13 w_6_223 (by decide +kernel) ?_
  refine s_if_ne (off := 14) (tgt := 120) C (by decide +kernel) (by decide) (fun _ _ _ _ _ _ h => h) ?_
  refine s_aload_n (k := 0) C (by decide +kernel) ?_
  refine s_getR C w_6_88 (by decide +kernel) rfl ?_
  refine s_sipush (n := 4514) C (by decide +kernel) (by decide) ?_
  refine s_iald C (by decide +kernel) ?_
  exact s_goto (off := 10) (tgt := 127) C (by decide +kernel) (by decide) (fun _ _ _ _ _ _ h => h)
set_option maxRecDepth 20000 in
theorem b_X12_laysMembersUpTo_120 {Z : Zt} {d : Nat} {p : Program} {e : Env} {R : Room} {s : State} {m : MethodId} {args : Array Value} {below : List Frame} {meth : Method} {c : Code} {Rp : RT} (C : Cx Z d jX12_laysMembersUpTo RX12 p R s m args meth c) : Sd Z jX12_laysMembersUpTo p e R s m args below meth c (MQ below (QcS Z Rp) args s 0 0 (fun a => Z.2.2.1 < a)) 120 (w_X12_laysMembersUpTo_120 (MS Z d) (Gw Z 4 p e R s m args below meth c (MQ below (QcS Z Rp) args s 0 0 (fun a => Z.2.2.1 < a))) Rp) := by
  unfold w_X12_laysMembersUpTo_120
  refine s_aload_n (k := 0) C (by decide +kernel) ?_
  refine s_iload_n (k := 1) C (by decide +kernel) ?_
  refine s_bipush (n := 9) C (by decide +kernel) (by decide) ?_
  refine s_callV C rfl rfl (by decide +kernel) rfl w_6_220 w_6_222 w_p3_11 w_1_13 w_6_223 (by decide +kernel) ?_
  exact (fun _ _ _ _ _ _ h => h)
set_option maxRecDepth 20000 in
theorem b_X12_laysMembersUpTo_127 {Z : Zt} {d : Nat} {p : Program} {e : Env} {R : Room} {s : State} {m : MethodId} {args : Array Value} {below : List Frame} {meth : Method} {c : Code} {Rp : RT} (C : Cx Z d jX12_laysMembersUpTo RX12 p R s m args meth c) : Sd Z jX12_laysMembersUpTo p e R s m args below meth c (MQ below (QcS Z Rp) args s 0 0 (fun a => Z.2.2.1 < a)) 127 (w_X12_laysMembersUpTo_127 (MS Z d) (Gw Z 4 p e R s m args below meth c (MQ below (QcS Z Rp) args s 0 0 (fun a => Z.2.2.1 < a))) Rp) := by
  unfold w_X12_laysMembersUpTo_127
  refine s_putI C w_6_95 (by decide +kernel) rfl (Or.inl rfl) ?_
  refine s_aload_n (k := 0) C (by decide +kernel) ?_
  refine s_aload_n (k := 0) C (by decide +kernel) ?_
  refine s_iload_n (k := 1) C (by decide +kernel) ?_
  refine s_bipush (n := 10) C (by decide +kernel) (by decide) ?_
  refine s_callV C rfl rfl (by decide +kernel) rfl w_6_220 w_6_222 w_p3_11 w_1_13 w_6_223 (by decide +kernel) ?_
  refine s_putI C w_6_96 (by decide +kernel) rfl (Or.inl rfl) ?_
  exact s_vret C rfl (by decide +kernel)
theorem ms_X12_laysMembersUpTo {Z : Zt} {d : Nat} {S : Sh} {μ : Mi} {ρ : Mr} {Rp : RT} (a0 : Nat) (x1 : Int32) (x2 : Int32) (h : ∀ G : Nat → PT, (∀ (L st : List Value) (S : Sh) (q : Nat × Nat) (μ : Mi) (ρ : Mr), w_X12_laysMembersUpTo_2 (MS Z d) G Rp L st S q μ ρ → G 2 L st S q μ ρ) → (∀ (L st : List Value) (S : Sh) (q : Nat × Nat) (μ : Mi) (ρ : Mr), w_X12_laysMembersUpTo_42 (MS Z d) G Rp L st S q μ ρ → G 42 L st S q μ ρ) → (∀ (L st : List Value) (S : Sh) (q : Nat × Nat) (μ : Mi) (ρ : Mr), w_X12_laysMembersUpTo_77 (MS Z d) G Rp L st S q μ ρ → G 77 L st S q μ ρ) → (∀ (L st : List Value) (S : Sh) (q : Nat × Nat) (μ : Mi) (ρ : Mr), w_X12_laysMembersUpTo_78 (MS Z d) G Rp L st S q μ ρ → G 78 L st S q μ ρ) → (∀ (L st : List Value) (S : Sh) (q : Nat × Nat) (μ : Mi) (ρ : Mr), w_X12_laysMembersUpTo_82 (MS Z d) G Rp L st S q μ ρ → G 82 L st S q μ ρ) → (∀ (L st : List Value) (S : Sh) (q : Nat × Nat) (μ : Mi) (ρ : Mr), w_X12_laysMembersUpTo_88 (MS Z d) G Rp L st S q μ ρ → G 88 L st S q μ ρ) → (∀ (L st : List Value) (S : Sh) (q : Nat × Nat) (μ : Mi) (ρ : Mr), w_X12_laysMembersUpTo_120 (MS Z d) G Rp L st S q μ ρ → G 120 L st S q μ ρ) → (∀ (L st : List Value) (S : Sh) (q : Nat × Nat) (μ : Mi) (ρ : Mr), w_X12_laysMembersUpTo_127 (MS Z d) G Rp L st S q μ ρ → G 127 L st S q μ ρ) → w_X12_laysMembersUpTo_0 (MS Z d) G Rp [.ref a0, .int x1, .int x2, .null] [] S (0, 0) μ ρ) : MS Z (d + 1) jX12_laysMembersUpTo [.ref a0, .int x1, .int x2] S μ ρ Rp :=
  MS_of [.ref a0, .int x1, .int x2, .null] (by decide +kernel) rfl rfl (Nat.le_of_ble_eq_true rfl) rfl (fun p e R s m args below meth c C => b_X12_laysMembersUpTo_0 C _ _ _ _ _ _ (h _ (b_X12_laysMembersUpTo_2 C) (b_X12_laysMembersUpTo_42 C) (b_X12_laysMembersUpTo_77 C) (b_X12_laysMembersUpTo_78 C) (b_X12_laysMembersUpTo_82 C) (b_X12_laysMembersUpTo_88 C) (b_X12_laysMembersUpTo_120 C) (b_X12_laysMembersUpTo_127 C)))
def w_X12_laysMembers_0 (M : CT) (G : Nat → PT) (Rp : RT) : PT := tAload 0 <| tIload 1 <| tAload 0 <| tIload 1 <| tConst 4 <| tCallV M jX12_of 12 27 2 <| tCallV M jX12_laysMembersUpTo 12 27 2 <| tVret Rp
set_option maxRecDepth 20000 in
theorem b_X12_laysMembers_0 {Z : Zt} {d : Nat} {p : Program} {e : Env} {R : Room} {s : State} {m : MethodId} {args : Array Value} {below : List Frame} {meth : Method} {c : Code} {Rp : RT} (C : Cx Z d jX12_laysMembers RX12 p R s m args meth c) : Sd Z jX12_laysMembers p e R s m args below meth c (MQ below (QcS Z Rp) args s 0 0 (fun a => Z.2.2.1 < a)) 0 (w_X12_laysMembers_0 (MS Z d) (Gw Z 2 p e R s m args below meth c (MQ below (QcS Z Rp) args s 0 0 (fun a => Z.2.2.1 < a))) Rp) := by
  unfold w_X12_laysMembers_0
  refine s_aload_n (k := 0) C (by decide +kernel) ?_
  refine s_iload_n (k := 1) C (by decide +kernel) ?_
  refine s_aload_n (k := 0) C (by decide +kernel) ?_
  refine s_iload_n (k := 1) C (by decide +kernel) ?_
  refine s_iconst (n := 4) C (by decide +kernel) (by decide) ?_
  refine s_callV C rfl rfl (by decide +kernel) rfl w_6_220 w_6_222 w_p3_11 w_1_13 w_6_223 (by decide +kernel) ?_
  refine s_callV C rfl rfl (by decide +kernel) rfl w_6_224 w_6_226 w_p3_12 w_1_13 w_6_227 (by decide +kernel) ?_
  exact s_vret C rfl (by decide +kernel)
theorem ms_X12_laysMembers {Z : Zt} {d : Nat} {S : Sh} {μ : Mi} {ρ : Mr} {Rp : RT} (a0 : Nat) (x1 : Int32) (h : ∀ G : Nat → PT, w_X12_laysMembers_0 (MS Z d) G Rp [.ref a0, .int x1] [] S (0, 0) μ ρ) : MS Z (d + 1) jX12_laysMembers [.ref a0, .int x1] S μ ρ Rp :=
  MS_of [.ref a0, .int x1] (by decide +kernel) rfl rfl (Nat.le_of_ble_eq_true rfl) rfl (fun p e R s m args below meth c C => b_X12_laysMembers_0 C _ _ _ _ _ _ (h _ ))
def w_X12_isMajority_0 (M : CT) (G : Nat → PT) (Rp : RT) : PT := tConst 2 <| tIload 1 <| tAload 0 <| tGetI 12 27 8 <| tBin (fun x y => x &&& y) <| tCallS M jX12_bits 1 <| tBin (fun x y => x * y) <| tAload 0 <| tGetI 12 27 8 <| tCallS M jX12_bits 1 <| tIf2 (fun x y => y < x) (G 23) <| tConst 0 <| tZret Rp
def w_X12_isMajority_23 (M : CT) (G : Nat → PT) (Rp : RT) : PT := tAload 0 <| tGetI 12 27 9 <| tIf (fun x => x = 0) (G 51) <| tConst 2 <| tIload 1 <| tAload 0 <| tGetI 12 27 9 <| tBin (fun x y => x &&& y) <| tCallS M jX12_bits 1 <| tBin (fun x y => x * y) <| tAload 0 <| tGetI 12 27 9 <| tCallS M jX12_bits 1 <| tIf2 (fun x y => x ≤ y) (G 55) <| G 51
def w_X12_isMajority_51 (M : CT) (G : Nat → PT) (Rp : RT) : PT := tConst 1 <| tGoto (G 56)
def w_X12_isMajority_55 (M : CT) (G : Nat → PT) (Rp : RT) : PT := tConst 0 <| G 56
def w_X12_isMajority_56 (M : CT) (G : Nat → PT) (Rp : RT) : PT := tZret Rp
set_option maxRecDepth 20000 in
theorem b_X12_isMajority_0 {Z : Zt} {d : Nat} {p : Program} {e : Env} {R : Room} {s : State} {m : MethodId} {args : Array Value} {below : List Frame} {meth : Method} {c : Code} {Rp : RT} (C : Cx Z d jX12_isMajority RX12 p R s m args meth c) : Sd Z jX12_isMajority p e R s m args below meth c (MQ below (QcS Z Rp) args s 0 0 (fun a => Z.2.2.1 < a)) 0 (w_X12_isMajority_0 (MS Z d) (Gw Z 2 p e R s m args below meth c (MQ below (QcS Z Rp) args s 0 0 (fun a => Z.2.2.1 < a))) Rp) := by
  unfold w_X12_isMajority_0
  refine s_iconst (n := 2) C (by decide +kernel) (by decide) ?_
  refine s_iload_n (k := 1) C (by decide +kernel) ?_
  refine s_aload_n (k := 0) C (by decide +kernel) ?_
  refine s_getI C w_6_95 (by decide +kernel) rfl ?_
  refine s_iand C (by decide +kernel) ?_
  refine s_callS C (by decide +kernel) rfl w_6_185 w_6_186 w_1_13 w_6_187 (by decide +kernel) ?_
  refine s_imul C (by decide +kernel) ?_
  refine s_aload_n (k := 0) C (by decide +kernel) ?_
  refine s_getI C w_6_95 (by decide +kernel) rfl ?_
  refine s_callS C (by decide +kernel) rfl w_6_185 w_6_186 w_1_13 w_6_187 (by decide +kernel) ?_
  refine s_icmp_gt (off := 5) (tgt := 23) C (by decide +kernel) (by decide) (fun _ _ _ _ _ _ h => h) ?_
  refine s_iconst (n := 0) C (by decide +kernel) (by decide) ?_
  exact s_zret C rfl (by decide +kernel)
set_option maxRecDepth 20000 in
theorem b_X12_isMajority_23 {Z : Zt} {d : Nat} {p : Program} {e : Env} {R : Room} {s : State} {m : MethodId} {args : Array Value} {below : List Frame} {meth : Method} {c : Code} {Rp : RT} (C : Cx Z d jX12_isMajority RX12 p R s m args meth c) : Sd Z jX12_isMajority p e R s m args below meth c (MQ below (QcS Z Rp) args s 0 0 (fun a => Z.2.2.1 < a)) 23 (w_X12_isMajority_23 (MS Z d) (Gw Z 2 p e R s m args below meth c (MQ below (QcS Z Rp) args s 0 0 (fun a => Z.2.2.1 < a))) Rp) := by
  unfold w_X12_isMajority_23
  refine s_aload_n (k := 0) C (by decide +kernel) ?_
  refine s_getI C w_6_96 (by decide +kernel) rfl ?_
  refine s_if_eq (off := 24) (tgt := 51) C (by decide +kernel) (by decide) (fun _ _ _ _ _ _ h => h) ?_
  refine s_iconst (n := 2) C (by decide +kernel) (by decide) ?_
  refine s_iload_n (k := 1) C (by decide +kernel) ?_
  refine s_aload_n (k := 0) C (by decide +kernel) ?_
  refine s_getI C w_6_96 (by decide +kernel) rfl ?_
  refine s_iand C (by decide +kernel) ?_
  refine s_callS C (by decide +kernel) rfl w_6_185 w_6_186 w_1_13 w_6_187 (by decide +kernel) ?_
  refine s_imul C (by decide +kernel) ?_
  refine s_aload_n (k := 0) C (by decide +kernel) ?_
  refine s_getI C w_6_96 (by decide +kernel) rfl ?_
  refine s_callS C (by decide +kernel) rfl w_6_185 w_6_186 w_1_13 w_6_187 (by decide +kernel) ?_
  refine s_icmp_le (off := 7) (tgt := 55) C (by decide +kernel) (by decide) (fun _ _ _ _ _ _ h => h) ?_
  exact (fun _ _ _ _ _ _ h => h)
set_option maxRecDepth 20000 in
theorem b_X12_isMajority_51 {Z : Zt} {d : Nat} {p : Program} {e : Env} {R : Room} {s : State} {m : MethodId} {args : Array Value} {below : List Frame} {meth : Method} {c : Code} {Rp : RT} (C : Cx Z d jX12_isMajority RX12 p R s m args meth c) : Sd Z jX12_isMajority p e R s m args below meth c (MQ below (QcS Z Rp) args s 0 0 (fun a => Z.2.2.1 < a)) 51 (w_X12_isMajority_51 (MS Z d) (Gw Z 2 p e R s m args below meth c (MQ below (QcS Z Rp) args s 0 0 (fun a => Z.2.2.1 < a))) Rp) := by
  unfold w_X12_isMajority_51
  refine s_iconst (n := 1) C (by decide +kernel) (by decide) ?_
  exact s_goto (off := 4) (tgt := 56) C (by decide +kernel) (by decide) (fun _ _ _ _ _ _ h => h)
set_option maxRecDepth 20000 in
theorem b_X12_isMajority_55 {Z : Zt} {d : Nat} {p : Program} {e : Env} {R : Room} {s : State} {m : MethodId} {args : Array Value} {below : List Frame} {meth : Method} {c : Code} {Rp : RT} (C : Cx Z d jX12_isMajority RX12 p R s m args meth c) : Sd Z jX12_isMajority p e R s m args below meth c (MQ below (QcS Z Rp) args s 0 0 (fun a => Z.2.2.1 < a)) 55 (w_X12_isMajority_55 (MS Z d) (Gw Z 2 p e R s m args below meth c (MQ below (QcS Z Rp) args s 0 0 (fun a => Z.2.2.1 < a))) Rp) := by
  unfold w_X12_isMajority_55
  refine s_iconst (n := 0) C (by decide +kernel) (by decide) ?_
  exact (fun _ _ _ _ _ _ h => h)
set_option maxRecDepth 20000 in
theorem b_X12_isMajority_56 {Z : Zt} {d : Nat} {p : Program} {e : Env} {R : Room} {s : State} {m : MethodId} {args : Array Value} {below : List Frame} {meth : Method} {c : Code} {Rp : RT} (C : Cx Z d jX12_isMajority RX12 p R s m args meth c) : Sd Z jX12_isMajority p e R s m args below meth c (MQ below (QcS Z Rp) args s 0 0 (fun a => Z.2.2.1 < a)) 56 (w_X12_isMajority_56 (MS Z d) (Gw Z 2 p e R s m args below meth c (MQ below (QcS Z Rp) args s 0 0 (fun a => Z.2.2.1 < a))) Rp) := by
  unfold w_X12_isMajority_56
  exact s_zret C rfl (by decide +kernel)
theorem ms_X12_isMajority {Z : Zt} {d : Nat} {S : Sh} {μ : Mi} {ρ : Mr} {Rp : RT} (a0 : Nat) (x1 : Int32) (h : ∀ G : Nat → PT, (∀ (L st : List Value) (S : Sh) (q : Nat × Nat) (μ : Mi) (ρ : Mr), w_X12_isMajority_23 (MS Z d) G Rp L st S q μ ρ → G 23 L st S q μ ρ) → (∀ (L st : List Value) (S : Sh) (q : Nat × Nat) (μ : Mi) (ρ : Mr), w_X12_isMajority_51 (MS Z d) G Rp L st S q μ ρ → G 51 L st S q μ ρ) → (∀ (L st : List Value) (S : Sh) (q : Nat × Nat) (μ : Mi) (ρ : Mr), w_X12_isMajority_55 (MS Z d) G Rp L st S q μ ρ → G 55 L st S q μ ρ) → (∀ (L st : List Value) (S : Sh) (q : Nat × Nat) (μ : Mi) (ρ : Mr), w_X12_isMajority_56 (MS Z d) G Rp L st S q μ ρ → G 56 L st S q μ ρ) → w_X12_isMajority_0 (MS Z d) G Rp [.ref a0, .int x1] [] S (0, 0) μ ρ) : MS Z (d + 1) jX12_isMajority [.ref a0, .int x1] S μ ρ Rp :=
  MS_of [.ref a0, .int x1] (by decide +kernel) rfl rfl (Nat.le_of_ble_eq_true rfl) rfl (fun p e R s m args below meth c C => b_X12_isMajority_0 C _ _ _ _ _ _ (h _ (b_X12_isMajority_23 C) (b_X12_isMajority_51 C) (b_X12_isMajority_55 C) (b_X12_isMajority_56 C)))
def w_X12_sends_0 (M : CT) (G : Nat → PT) (Rp : RT) : PT := tIload 1 <| tIload 2 <| tIf2 (fun x y => x ≠ y) (G 7) <| tConst (-1) <| tIret Rp
def w_X12_sends_7 (M : CT) (G : Nat → PT) (Rp : RT) : PT := tAload 0 <| tGetR 12 27 1 <| tConst 4510 <| tAld 20 <| tConst 60 <| tIf2 (fun x y => x = y) (G 29) <| tAload 0 <| tIload 1 <| tIload 2 <| tCallV M jX12_isLinked 12 27 2 <| tIf (fun x => x ≠ 0) (G 43) <| G 29
def w_X12_sends_29 (M : CT) (G : Nat → PT) (Rp : RT) : PT := tAload 0 <| tGetR 12 27 1 <| tConst 4511 <| tDup2 <| tAld 20 <| tConst 1 <| tBin (fun x y => x + y) <| tIast <| tConst (-1) <| tIret Rp
def w_X12_sends_43 (M : CT) (G : Nat → PT) (Rp : RT) : PT := tConst 2570 <| tConst 21 <| tAload 0 <| tGetR 12 27 1 <| tConst 4510 <| tAld 20 <| tBin (fun x y => x * y) <| tBin (fun x y => x + y) <| tIstore 6 <| tAload 0 <| tGetR 12 27 1 <| tConst 4510 <| tDup2 <| tAld 20 <| tConst 1 <| tBin (fun x y => x + y) <| tIast <| tConst 0 <| tIstore 7 <| G 75
def w_X12_sends_75 (M : CT) (G : Nat → PT) (Rp : RT) : PT := tIload 7 <| tConst 21 <| tIf2 (fun x y => y ≤ x) (G 99) <| tAload 0 <| tGetR 12 27 1 <| tIload 6 <| tIload 7 <| tBin (fun x y => x + y) <| tConst 0 <| tIast <| tIinc 7 1 <| tGoto (G 75)
def w_X12_sends_99 (M : CT) (G : Nat → PT) (Rp : RT) : PT := tAload 0 <| tGetR 12 27 1 <| tIload 6 <| tConst 8 <| tBin (fun x y => x + y) <| tIload 3 <| tConst 2 <| tIf2 (fun x y => x = y) (G 118) <| tIload 3 <| tConst 4 <| tIf2 (fun x y => x ≠ y) (G 128) <| G 118
def w_X12_sends_118 (M : CT) (G : Nat → PT) (Rp : RT) : PT := tAload 0 <| tIload 1 <| tConst 14 <| tCallV M jX12_of 12 27 2 <| tGoto (G 149)
def w_X12_sends_128 (M : CT) (G : Nat → PT) (Rp : RT) : PT := tIload 3 <| tConst 3 <| tIf2 (fun x y => x = y) (G 138) <| tIload 3 <| tConst 5 <| tIf2 (fun x y => x ≠ y) (G 148) <| G 138
def w_X12_sends_138 (M : CT) (G : Nat → PT) (Rp : RT) : PT := tAload 0 <| tGetR 12 27 12 <| tConst 8 <| tAld 20 <| tGoto (G 149)
def w_X12_sends_148 (M : CT) (G : Nat → PT) (Rp : RT) : PT := tConst 0 <| G 149
def w_X12_sends_149 (M : CT) (G : Nat → PT) (Rp : RT) : PT := tIast <| tAload 0 <| tGetR 12 27 1 <| tIload 6 <| tConst 0 <| tBin (fun x y => x + y) <| tIload 1 <| tIast <| tAload 0 <| tGetR 12 27 1 <| tIload 6 <| tConst 1 <| tBin (fun x y => x + y) <| tIload 2 <| tIast <| tAload 0 <| tGetR 12 27 1 <| tIload 6 <| tConst 2 <| tBin (fun x y => x + y) <| tAload 0 <| tIload 1 <| tConst 1 <| tCallV M jX12_of 12 27 2 <| tIast <| tAload 0 <| tGetR 12 27 1 <| tIload 6 <| tConst 3 <| tBin (fun x y => x + y) <| tIload 3 <| tIast <| tAload 0 <| tGetR 12 27 1 <| tIload 6 <| tConst 4 <| tBin (fun x y => x + y) <| tIload 4 <| tIast <| tAload 0 <| tGetR 12 27 1 <| tIload 6 <| tConst 5 <| tBin (fun x y => x + y) <| tIload 5 <| tIast <| tIload 6 <| tIret Rp
set_option maxRecDepth 20000 in
theorem b_X12_sends_0 {Z : Zt} {d : Nat} {p : Program} {e : Env} {R : Room} {s : State} {m : MethodId} {args : Array Value} {below : List Frame} {meth : Method} {c : Code} {Rp : RT} (C : Cx Z d jX12_sends RX12 p R s m args meth c) : Sd Z jX12_sends p e R s m args below meth c (MQ below (QcS Z Rp) args s 0 0 (fun a => Z.2.2.1 < a)) 0 (w_X12_sends_0 (MS Z d) (Gw Z 8 p e R s m args below meth c (MQ below (QcS Z Rp) args s 0 0 (fun a => Z.2.2.1 < a))) Rp) := by
  unfold w_X12_sends_0
  refine s_iload_n (k := 1) C (by decide +kernel) ?_
  refine s_iload_n (k := 2) C (by decide +kernel) ?_
  refine s_icmp_ne (off := 5) (tgt := 7) C (by decide +kernel) (by decide) (fun _ _ _ _ _ _ h => h) ?_
  refine s_iconst (n := (-1)) C (by decide +kernel) (by decide) ?_
  exact s_iret C rfl (by decide +kernel)
set_option maxRecDepth 20000 in
theorem b_X12_sends_7 {Z : Zt} {d : Nat} {p : Program} {e : Env} {R : Room} {s : State} {m : MethodId} {args : Array Value} {below : List Frame} {meth : Method} {c : Code} {Rp : RT} (C : Cx Z d jX12_sends RX12 p R s m args meth c) : Sd Z jX12_sends p e R s m args below meth c (MQ below (QcS Z Rp) args s 0 0 (fun a => Z.2.2.1 < a)) 7 (w_X12_sends_7 (MS Z d) (Gw Z 8 p e R s m args below meth c (MQ below (QcS Z Rp) args s 0 0 (fun a => Z.2.2.1 < a))) Rp) := by
  unfold w_X12_sends_7
  refine s_aload_n (k := 0) C (by decide +kernel) ?_
  refine s_getR C w_6_88 (by decide +kernel) rfl ?_
  refine s_sipush (n := 4510) C (by decide +kernel) (by decide) ?_
  refine s_iald C (by decide +kernel) ?_
  refine s_bipush (n := 60) C (by decide +kernel) (by decide) ?_
  refine s_icmp_eq (off := 12) (tgt := 29) C (by decide +kernel) (by decide) (fun _ _ _ _ _ _ h => h) ?_
  refine s_aload_n (k := 0) C (by decide +kernel) ?_
  refine s_iload_n (k := 1) C (by decide +kernel) ?_
  refine s_iload_n (k := 2) C (by decide +kernel) ?_
  refine s_callV C rfl rfl (by decide +kernel) rfl w_7_31 w_7_33 w_p4_7 w_1_13 w_7_34 (by decide +kernel) ?_
  refine s_if_ne (off := 17) (tgt := 43) C (by decide +kernel) (by decide) (fun _ _ _ _ _ _ h => h) ?_
  exact (fun _ _ _ _ _ _ h => h)
set_option maxRecDepth 20000 in
theorem b_X12_sends_29 {Z : Zt} {d : Nat} {p : Program} {e : Env} {R : Room} {s : State} {m : MethodId} {args : Array Value} {below : List Frame} {meth : Method} {c : Code} {Rp : RT} (C : Cx Z d jX12_sends RX12 p R s m args meth c) : Sd Z jX12_sends p e R s m args below meth c (MQ below (QcS Z Rp) args s 0 0 (fun a => Z.2.2.1 < a)) 29 (w_X12_sends_29 (MS Z d) (Gw Z 8 p e R s m args below meth c (MQ below (QcS Z Rp) args s 0 0 (fun a => Z.2.2.1 < a))) Rp) := by
  unfold w_X12_sends_29
  refine s_aload_n (k := 0) C (by decide +kernel) ?_
  refine s_getR C w_6_88 (by decide +kernel) rfl ?_
  refine s_sipush (n := 4511) C (by decide +kernel) (by decide) ?_
  refine s_dup2 C (by decide +kernel) ?_
  refine s_iald C (by decide +kernel) ?_
  refine s_iconst (n := 1) C (by decide +kernel) (by decide) ?_
  refine s_iadd C (by decide +kernel) ?_
  refine s_iast C (by decide +kernel) ?_
  refine s_iconst (n := (-1)) C (by decide +kernel) (by decide) ?_
  exact s_iret C rfl (by decide +kernel)
set_option maxRecDepth 20000 in
theorem b_X12_sends_43 {Z : Zt} {d : Nat} {p : Program} {e : Env} {R : Room} {s : State} {m : MethodId} {args : Array Value} {below : List Frame} {meth : Method} {c : Code} {Rp : RT} (C : Cx Z d jX12_sends RX12 p R s m args meth c) : Sd Z jX12_sends p e R s m args below meth c (MQ below (QcS Z Rp) args s 0 0 (fun a => Z.2.2.1 < a)) 43 (w_X12_sends_43 (MS Z d) (Gw Z 8 p e R s m args below meth c (MQ below (QcS Z Rp) args s 0 0 (fun a => Z.2.2.1 < a))) Rp) := by
  unfold w_X12_sends_43
  refine s_sipush (n := 2570) C (by decide +kernel) (by decide) ?_
  refine s_bipush (n := 21) C (by decide +kernel) (by decide) ?_
  refine s_aload_n (k := 0) C (by decide +kernel) ?_
  refine s_getR C w_6_88 (by decide +kernel) rfl ?_
  refine s_sipush (n := 4510) C (by decide +kernel) (by decide) ?_
  refine s_iald C (by decide +kernel) ?_
  refine s_imul C (by decide +kernel) ?_
  refine s_iadd C (by decide +kernel) ?_
  refine s_istore (k := 6) C (by decide +kernel) ?_
  refine s_aload_n (k := 0) C (by decide +kernel) ?_
  refine s_getR C w_6_88 (by decide +kernel) rfl ?_
  refine s_sipush (n := 4510) C (by decide +kernel) (by decide) ?_
  refine s_dup2 C (by decide +kernel) ?_
  refine s_iald C (by decide +kernel) ?_
  refine s_iconst (n := 1) C (by decide +kernel) (by decide) ?_
  refine s_iadd C (by decide +kernel) ?_
  refine s_iast C (by decide +kernel) ?_
  refine s_iconst (n := 0) C (by decide +kernel) (by decide) ?_
  refine s_istore (k := 7) C (by decide +kernel) ?_
  exact (fun _ _ _ _ _ _ h => h)
set_option maxRecDepth 20000 in
theorem b_X12_sends_75 {Z : Zt} {d : Nat} {p : Program} {e : Env} {R : Room} {s : State} {m : MethodId} {args : Array Value} {below : List Frame} {meth : Method} {c : Code} {Rp : RT} (C : Cx Z d jX12_sends RX12 p R s m args meth c) : Sd Z jX12_sends p e R s m args below meth c (MQ below (QcS Z Rp) args s 0 0 (fun a => Z.2.2.1 < a)) 75 (w_X12_sends_75 (MS Z d) (Gw Z 8 p e R s m args below meth c (MQ below (QcS Z Rp) args s 0 0 (fun a => Z.2.2.1 < a))) Rp) := by
  unfold w_X12_sends_75
  refine s_iload (k := 7) C (by decide +kernel) ?_
  refine s_bipush (n := 21) C (by decide +kernel) (by decide) ?_
  refine s_icmp_ge (off := 20) (tgt := 99) C (by decide +kernel) (by decide) (fun _ _ _ _ _ _ h => h) ?_
  refine s_aload_n (k := 0) C (by decide +kernel) ?_
  refine s_getR C w_6_88 (by decide +kernel) rfl ?_
  refine s_iload (k := 6) C (by decide +kernel) ?_
  refine s_iload (k := 7) C (by decide +kernel) ?_
  refine s_iadd C (by decide +kernel) ?_
  refine s_iconst (n := 0) C (by decide +kernel) (by decide) ?_
  refine s_iast C (by decide +kernel) ?_
  refine s_iinc (n := 1) C (by decide +kernel) (by decide) ?_
  exact s_goto (off := (-21)) (tgt := 75) C (by decide +kernel) (by decide) (fun _ _ _ _ _ _ h => h)
set_option maxRecDepth 20000 in
theorem b_X12_sends_99 {Z : Zt} {d : Nat} {p : Program} {e : Env} {R : Room} {s : State} {m : MethodId} {args : Array Value} {below : List Frame} {meth : Method} {c : Code} {Rp : RT} (C : Cx Z d jX12_sends RX12 p R s m args meth c) : Sd Z jX12_sends p e R s m args below meth c (MQ below (QcS Z Rp) args s 0 0 (fun a => Z.2.2.1 < a)) 99 (w_X12_sends_99 (MS Z d) (Gw Z 8 p e R s m args below meth c (MQ below (QcS Z Rp) args s 0 0 (fun a => Z.2.2.1 < a))) Rp) := by
  unfold w_X12_sends_99
  refine s_aload_n (k := 0) C (by decide +kernel) ?_
  refine s_getR C w_6_88 (by decide +kernel) rfl ?_
  refine s_iload (k := 6) C (by decide +kernel) ?_
  refine s_bipush (n := 8) C (by decide +kernel) (by decide) ?_
  refine s_iadd C (by decide +kernel) ?_
  refine s_iload_n (k := 3) C (by decide +kernel) ?_
  refine s_iconst (n := 2) C (by decide +kernel) (by decide) ?_
  refine s_icmp_eq (off := 8) (tgt := 118) C (by decide +kernel) (by decide) (fun _ _ _ _ _ _ h => h) ?_
  refine s_iload_n (k := 3) C (by decide +kernel) ?_
  refine s_iconst (n := 4) C (by decide +kernel) (by decide) ?_
  refine s_icmp_ne (off := 13) (tgt := 128) C (by decide +kernel) (by decide) (fun _ _ _ _ _ _ h => h) ?_
  exact (fun _ _ _ _ _ _ h => h)
set_option maxRecDepth 20000 in
theorem b_X12_sends_118 {Z : Zt} {d : Nat} {p : Program} {e : Env} {R : Room} {s : State} {m : MethodId} {args : Array Value} {below : List Frame} {meth : Method} {c : Code} {Rp : RT} (C : Cx Z d jX12_sends RX12 p R s m args meth c) : Sd Z jX12_sends p e R s m args below meth c (MQ below (QcS Z Rp) args s 0 0 (fun a => Z.2.2.1 < a)) 118 (w_X12_sends_118 (MS Z d) (Gw Z 8 p e R s m args below meth c (MQ below (QcS Z Rp) args s 0 0 (fun a => Z.2.2.1 < a))) Rp) := by
  unfold w_X12_sends_118
  refine s_aload_n (k := 0) C (by decide +kernel) ?_
  refine s_iload_n (k := 1) C (by decide +kernel) ?_
  refine s_bipush (n := 14) C (by decide +kernel) (by decide) ?_
  refine s_callV C rfl rfl (by decide +kernel) rfl w_6_220 w_6_222 w_p3_11 w_1_13 w_6_223 (by decide +kernel) ?_
  exact s_goto (off := 24) (tgt := 149) C (by decide +kernel) (by decide) (fun _ _ _ _ _ _ h => h)
set_option maxRecDepth 20000 in
theorem b_X12_sends_128 {Z : Zt} {d : Nat} {p : Program} {e : Env} {R : Room} {s : State} {m : MethodId} {args : Array Value} {below : List Frame} {meth : Method} {c : Code} {Rp : RT} (C : Cx Z d jX12_sends RX12 p R s m args meth c) : Sd Z jX12_sends p e R s m args below meth c (MQ below (QcS Z Rp) args s 0 0 (fun a => Z.2.2.1 < a)) 128 (w_X12_sends_128 (MS Z d) (Gw Z 8 p e R s m args below meth c (MQ below (QcS Z Rp) args s 0 0 (fun a => Z.2.2.1 < a))) Rp) := by
  unfold w_X12_sends_128
  refine s_iload_n (k := 3) C (by decide +kernel) ?_
  refine s_iconst (n := 3) C (by decide +kernel) (by decide) ?_
  refine s_icmp_eq (off := 8) (tgt := 138) C (by decide +kernel) (by decide) (fun _ _ _ _ _ _ h => h) ?_
  refine s_iload_n (k := 3) C (by decide +kernel) ?_
  refine s_iconst (n := 5) C (by decide +kernel) (by decide) ?_
  refine s_icmp_ne (off := 13) (tgt := 148) C (by decide +kernel) (by decide) (fun _ _ _ _ _ _ h => h) ?_
  exact (fun _ _ _ _ _ _ h => h)
set_option maxRecDepth 20000 in
theorem b_X12_sends_138 {Z : Zt} {d : Nat} {p : Program} {e : Env} {R : Room} {s : State} {m : MethodId} {args : Array Value} {below : List Frame} {meth : Method} {c : Code} {Rp : RT} (C : Cx Z d jX12_sends RX12 p R s m args meth c) : Sd Z jX12_sends p e R s m args below meth c (MQ below (QcS Z Rp) args s 0 0 (fun a => Z.2.2.1 < a)) 138 (w_X12_sends_138 (MS Z d) (Gw Z 8 p e R s m args below meth c (MQ below (QcS Z Rp) args s 0 0 (fun a => Z.2.2.1 < a))) Rp) := by
  unfold w_X12_sends_138
  refine s_aload_n (k := 0) C (by decide +kernel) ?_
  refine s_getR C w_6_99 (by decide +kernel) rfl ?_
  refine s_bipush (n := 8) C (by decide +kernel) (by decide) ?_
  refine s_iald C (by decide +kernel) ?_
  exact s_goto (off := 4) (tgt := 149) C (by decide +kernel) (by decide) (fun _ _ _ _ _ _ h => h)
set_option maxRecDepth 20000 in
theorem b_X12_sends_148 {Z : Zt} {d : Nat} {p : Program} {e : Env} {R : Room} {s : State} {m : MethodId} {args : Array Value} {below : List Frame} {meth : Method} {c : Code} {Rp : RT} (C : Cx Z d jX12_sends RX12 p R s m args meth c) : Sd Z jX12_sends p e R s m args below meth c (MQ below (QcS Z Rp) args s 0 0 (fun a => Z.2.2.1 < a)) 148 (w_X12_sends_148 (MS Z d) (Gw Z 8 p e R s m args below meth c (MQ below (QcS Z Rp) args s 0 0 (fun a => Z.2.2.1 < a))) Rp) := by
  unfold w_X12_sends_148
  refine s_iconst (n := 0) C (by decide +kernel) (by decide) ?_
  exact (fun _ _ _ _ _ _ h => h)
set_option maxRecDepth 20000 in
theorem b_X12_sends_149 {Z : Zt} {d : Nat} {p : Program} {e : Env} {R : Room} {s : State} {m : MethodId} {args : Array Value} {below : List Frame} {meth : Method} {c : Code} {Rp : RT} (C : Cx Z d jX12_sends RX12 p R s m args meth c) : Sd Z jX12_sends p e R s m args below meth c (MQ below (QcS Z Rp) args s 0 0 (fun a => Z.2.2.1 < a)) 149 (w_X12_sends_149 (MS Z d) (Gw Z 8 p e R s m args below meth c (MQ below (QcS Z Rp) args s 0 0 (fun a => Z.2.2.1 < a))) Rp) := by
  unfold w_X12_sends_149
  refine s_iast C (by decide +kernel) ?_
  refine s_aload_n (k := 0) C (by decide +kernel) ?_
  refine s_getR C w_6_88 (by decide +kernel) rfl ?_
  refine s_iload (k := 6) C (by decide +kernel) ?_
  refine s_iconst (n := 0) C (by decide +kernel) (by decide) ?_
  refine s_iadd C (by decide +kernel) ?_
  refine s_iload_n (k := 1) C (by decide +kernel) ?_
  refine s_iast C (by decide +kernel) ?_
  refine s_aload_n (k := 0) C (by decide +kernel) ?_
  refine s_getR C w_6_88 (by decide +kernel) rfl ?_
  refine s_iload (k := 6) C (by decide +kernel) ?_
  refine s_iconst (n := 1) C (by decide +kernel) (by decide) ?_
  refine s_iadd C (by decide +kernel) ?_
  refine s_iload_n (k := 2) C (by decide +kernel) ?_
  refine s_iast C (by decide +kernel) ?_
  refine s_aload_n (k := 0) C (by decide +kernel) ?_
  refine s_getR C w_6_88 (by decide +kernel) rfl ?_
  refine s_iload (k := 6) C (by decide +kernel) ?_
  refine s_iconst (n := 2) C (by decide +kernel) (by decide) ?_
  refine s_iadd C (by decide +kernel) ?_
  refine s_aload_n (k := 0) C (by decide +kernel) ?_
  refine s_iload_n (k := 1) C (by decide +kernel) ?_
  refine s_iconst (n := 1) C (by decide +kernel) (by decide) ?_
  refine s_callV C rfl rfl (by decide +kernel) rfl w_6_220 w_6_222 w_p3_11 w_1_13 w_6_223 (by decide +kernel) ?_
  refine s_iast C (by decide +kernel) ?_
  refine s_aload_n (k := 0) C (by decide +kernel) ?_
  refine s_getR C w_6_88 (by decide +kernel) rfl ?_
  refine s_iload (k := 6) C (by decide +kernel) ?_
  refine s_iconst (n := 3) C (by decide +kernel) (by decide) ?_
  refine s_iadd C (by decide +kernel) ?_
  refine s_iload_n (k := 3) C (by decide +kernel) ?_
  refine s_iast C (by decide +kernel) ?_
  refine s_aload_n (k := 0) C (by decide +kernel) ?_
  refine s_getR C w_6_88 (by decide +kernel) rfl ?_
  refine s_iload (k := 6) C (by decide +kernel) ?_
  refine s_iconst (n := 4) C (by decide +kernel) (by decide) ?_
  refine s_iadd C (by decide +kernel) ?_
  refine s_iload (k := 4) C (by decide +kernel) ?_
  refine s_iast C (by decide +kernel) ?_
  refine s_aload_n (k := 0) C (by decide +kernel) ?_
  refine s_getR C w_6_88 (by decide +kernel) rfl ?_
  refine s_iload (k := 6) C (by decide +kernel) ?_
  refine s_iconst (n := 5) C (by decide +kernel) (by decide) ?_
  refine s_iadd C (by decide +kernel) ?_
  refine s_iload (k := 5) C (by decide +kernel) ?_
  refine s_iast C (by decide +kernel) ?_
  refine s_iload (k := 6) C (by decide +kernel) ?_
  exact s_iret C rfl (by decide +kernel)
theorem ms_X12_sends {Z : Zt} {d : Nat} {S : Sh} {μ : Mi} {ρ : Mr} {Rp : RT} (a0 : Nat) (x1 : Int32) (x2 : Int32) (x3 : Int32) (x4 : Int32) (x5 : Int32) (h : ∀ G : Nat → PT, (∀ (L st : List Value) (S : Sh) (q : Nat × Nat) (μ : Mi) (ρ : Mr), w_X12_sends_7 (MS Z d) G Rp L st S q μ ρ → G 7 L st S q μ ρ) → (∀ (L st : List Value) (S : Sh) (q : Nat × Nat) (μ : Mi) (ρ : Mr), w_X12_sends_29 (MS Z d) G Rp L st S q μ ρ → G 29 L st S q μ ρ) → (∀ (L st : List Value) (S : Sh) (q : Nat × Nat) (μ : Mi) (ρ : Mr), w_X12_sends_43 (MS Z d) G Rp L st S q μ ρ → G 43 L st S q μ ρ) → (∀ (L st : List Value) (S : Sh) (q : Nat × Nat) (μ : Mi) (ρ : Mr), w_X12_sends_75 (MS Z d) G Rp L st S q μ ρ → G 75 L st S q μ ρ) → (∀ (L st : List Value) (S : Sh) (q : Nat × Nat) (μ : Mi) (ρ : Mr), w_X12_sends_99 (MS Z d) G Rp L st S q μ ρ → G 99 L st S q μ ρ) → (∀ (L st : List Value) (S : Sh) (q : Nat × Nat) (μ : Mi) (ρ : Mr), w_X12_sends_118 (MS Z d) G Rp L st S q μ ρ → G 118 L st S q μ ρ) → (∀ (L st : List Value) (S : Sh) (q : Nat × Nat) (μ : Mi) (ρ : Mr), w_X12_sends_128 (MS Z d) G Rp L st S q μ ρ → G 128 L st S q μ ρ) → (∀ (L st : List Value) (S : Sh) (q : Nat × Nat) (μ : Mi) (ρ : Mr), w_X12_sends_138 (MS Z d) G Rp L st S q μ ρ → G 138 L st S q μ ρ) → (∀ (L st : List Value) (S : Sh) (q : Nat × Nat) (μ : Mi) (ρ : Mr), w_X12_sends_148 (MS Z d) G Rp L st S q μ ρ → G 148 L st S q μ ρ) → (∀ (L st : List Value) (S : Sh) (q : Nat × Nat) (μ : Mi) (ρ : Mr), w_X12_sends_149 (MS Z d) G Rp L st S q μ ρ → G 149 L st S q μ ρ) → w_X12_sends_0 (MS Z d) G Rp [.ref a0, .int x1, .int x2, .int x3, .int x4, .int x5, .null, .null] [] S (0, 0) μ ρ) : MS Z (d + 1) jX12_sends [.ref a0, .int x1, .int x2, .int x3, .int x4, .int x5] S μ ρ Rp :=
  MS_of [.ref a0, .int x1, .int x2, .int x3, .int x4, .int x5, .null, .null] (by decide +kernel) rfl rfl (Nat.le_of_ble_eq_true rfl) rfl (fun p e R s m args below meth c C => b_X12_sends_0 C _ _ _ _ _ _ (h _ (b_X12_sends_7 C) (b_X12_sends_29 C) (b_X12_sends_43 C) (b_X12_sends_75 C) (b_X12_sends_99 C) (b_X12_sends_118 C) (b_X12_sends_128 C) (b_X12_sends_138 C) (b_X12_sends_148 C) (b_X12_sends_149 C)))
def w_X12_feeds_0 (M : CT) (G : Nat → PT) (Rp : RT) : PT := tAload 0 <| tIload 1 <| tConst 24 <| tIload 2 <| tBin (fun x y => x + y) <| tCallV M jX12_of 12 27 2 <| tIstore 3 <| tIload 3 <| tAload 0 <| tIload 1 <| tConst 5 <| tCallV M jX12_of 12 27 2 <| tIf2 (fun x y => y < x) (G 128) <| tAload 0 <| tIload 1 <| tIload 2 <| tConst 4 <| tAload 0 <| tIload 1 <| tConst 5 <| tCallV M jX12_of 12 27 2 <| tAload 0 <| tIload 1 <| tConst 6 <| tCallV M jX12_of 12 27 2 <| tCallV M jX12_sends 12 27 5 <| tIstore 4 <| tIload 4 <| tConst (-1) <| tIf2 (fun x y => x ≠ y) (G 49) <| tVret Rp
def w_X12_feeds_49 (M : CT) (G : Nat → PT) (Rp : RT) : PT := tConst 0 <| tIstore 5 <| G 52
def w_X12_feeds_52 (M : CT) (G : Nat → PT) (Rp : RT) : PT := tIload 5 <| tConst 4 <| tIf2 (fun x y => y ≤ x) (G 87) <| tAload 0 <| tGetR 12 27 1 <| tIload 4 <| tConst 9 <| tBin (fun x y => x + y) <| tIload 5 <| tBin (fun x y => x + y) <| tAload 0 <| tIload 1 <| tConst 20 <| tIload 5 <| tBin (fun x y => x + y) <| tCallV M jX12_of 12 27 2 <| tIast <| tIinc 5 1 <| tGoto (G 52)
def w_X12_feeds_87 (M : CT) (G : Nat → PT) (Rp : RT) : PT := tAload 0 <| tGetR 12 27 1 <| tIload 4 <| tConst 9 <| tBin (fun x y => x + y) <| tConst 4 <| tBin (fun x y => x + y) <| tAload 0 <| tIload 1 <| tConst 9 <| tCallV M jX12_of 12 27 2 <| tIast <| tAload 0 <| tGetR 12 27 1 <| tIload 4 <| tConst 9 <| tBin (fun x y => x + y) <| tConst 4 <| tBin (fun x y => x + y) <| tConst 1 <| tBin (fun x y => x + y) <| tAload 0 <| tIload 1 <| tConst 10 <| tCallV M jX12_of 12 27 2 <| tIast <| tVret Rp
def w_X12_feeds_128 (M : CT) (G : Nat → PT) (Rp : RT) : PT := tAload 0 <| tIload 1 <| tIload 2 <| tConst 2 <| tIload 3 <| tConst 1 <| tBin (fun x y => x - y) <| tAload 0 <| tIload 1 <| tIload 3 <| tConst 1 <| tBin (fun x y => x - y) <| tCallV M jX12_termAt 12 27 2 <| tCallV M jX12_sends 12 27 5 <| tIstore 4 <| tIload 4 <| tConst (-1) <| tIf2 (fun x y => x ≠ y) (G 155) <| tVret Rp
def w_X12_feeds_155 (M : CT) (G : Nat → PT) (Rp : RT) : PT := tConst 3 <| tAload 0 <| tIload 1 <| tConst 4 <| tCallV M jX12_of 12 27 2 <| tIload 3 <| tBin (fun x y => x - y) <| tConst 1 <| tBin (fun x y => x + y) <| tCallS M jX12_lesser 2 <| tIstore 5 <| tAload 0 <| tGetR 12 27 1 <| tIload 4 <| tConst 6 <| tBin (fun x y => x + y) <| tConst 0 <| tIload 5 <| tCallS M jX12_greater 2 <| tIast <| tAload 0 <| tGetR 12 27 1 <| tIload 4 <| tConst 7 <| tBin (fun x y => x + y) <| tAload 0 <| tIload 1 <| tConst 7 <| tCallV M jX12_of 12 27 2 <| tIast <| tConst 0 <| tIstore 6 <| G 207
def w_X12_feeds_207 (M : CT) (G : Nat → PT) (Rp : RT) : PT := tIload 6 <| tConst 4 <| tIload 5 <| tBin (fun x y => x * y) <| tIf2 (fun x y => y ≤ x) (G 251) <| tAload 0 <| tGetR 12 27 1 <| tIload 4 <| tConst 9 <| tBin (fun x y => x + y) <| tIload 6 <| tBin (fun x y => x + y) <| tAload 0 <| tIload 1 <| tConst 34 <| tConst 4 <| tIload 3 <| tConst 1 <| tBin (fun x y => x - y) <| tBin (fun x y => x * y) <| tBin (fun x y => x + y) <| tIload 6 <| tBin (fun x y => x + y) <| tCallV M jX12_of 12 27 2 <| tIast <| tIinc 6 1 <| tGoto (G 207)
def w_X12_feeds_251 (M : CT) (G : Nat → PT) (Rp : RT) : PT := tVret Rp
set_option maxRecDepth 20000 in
theorem b_X12_feeds_0 {Z : Zt} {d : Nat} {p : Program} {e : Env} {R : Room} {s : State} {m : MethodId} {args : Array Value} {below : List Frame} {meth : Method} {c : Code} {Rp : RT} (C : Cx Z d jX12_feeds RX12 p R s m args meth c) : Sd Z jX12_feeds p e R s m args below meth c (MQ below (QcS Z Rp) args s 0 0 (fun a => Z.2.2.1 < a)) 0 (w_X12_feeds_0 (MS Z d) (Gw Z 7 p e R s m args below meth c (MQ below (QcS Z Rp) args s 0 0 (fun a => Z.2.2.1 < a))) Rp) := by
  unfold w_X12_feeds_0
  refine s_aload_n (k := 0) C (by decide +kernel) ?_
  refine s_iload_n (k := 1) C (by decide +kernel) ?_
  refine s_bipush (n := 24) C (by decide +kernel) (by decide) ?_
  refine s_iload_n (k := 2) C (by decide +kernel) ?_
  refine s_iadd C (by decide +kernel) ?_
  refine s_callV C rfl rfl (by decide +kernel) rfl w_6_220 w_6_222 w_p3_11 w_1_13 w_6_223 (by decide +kernel) ?_
  refine s_istore_n (k := 3) C (by decide +kernel) ?_
  refine s_iload_n (k := 3) C (by decide +kernel) ?_
  refine s_aload_n (k := 0) C (by decide +kernel) ?_
  refine s_iload_n (k := 1) C (by decide +kernel) ?_
  refine s_iconst (n := 5) C (by decide +kernel) (by decide) ?_
  refine s_callV C rfl rfl (by decide +kernel) rfl w_6_220 w_6_222 w_p3_11 w_1_13 w_6_223 (by decide +kernel) ?_
  refine s_icmp_gt (off := 111) (tgt := 128) C (by decide +kernel) (by decide) (fun _ _ _ _ _ _ h => h) ?_
  refine s_aload_n (k := 0) C (by decide +kernel) ?_
  refine s_iload_n (k := 1) C (by decide +kernel) ?_
  refine s_iload_n (k := 2) C (by decide +kernel) ?_
  refine s_iconst (n := 4) C (by decide +kernel) (by decide) ?_
  refine s_aload_n (k := 0) C (by decide +kernel) ?_
  refine s_iload_n (k := 1) C (by decide +kernel) ?_
  refine s_iconst (n := 5) C (by decide +kernel) (by decide) ?_
  refine s_callV C rfl rfl (by decide +kernel) rfl w_6_220 w_6_222 w_p3_11 w_1_13 w_6_223 (by decide +kernel) ?_
  refine s_aload_n (k := 0) C (by decide +kernel) ?_
  refine s_iload_n (k := 1) C (by decide +kernel) ?_
  refine s_bipush (n := 6) C (by decide +kernel) (by decide) ?_
  refine s_callV C rfl rfl (by decide +kernel) rfl w_6_220 w_6_222 w_p3_11 w_1_13 w_6_223 (by decide +kernel) ?_
  refine s_callV C rfl rfl (by decide +kernel) rfl w_7_27 w_7_29 w_p4_6 w_1_13 w_7_30 (by decide +kernel) ?_
  refine s_istore (k := 4) C (by decide +kernel) ?_
  refine s_iload (k := 4) C (by decide +kernel) ?_
  refine s_iconst (n := (-1)) C (by decide +kernel) (by decide) ?_
  refine s_icmp_ne (off := 4) (tgt := 49) C (by decide +kernel) (by decide) (fun _ _ _ _ _ _ h => h) ?_
  exact s_vret C rfl (by decide +kernel)
set_option maxRecDepth 20000 in
theorem b_X12_feeds_49 {Z : Zt} {d : Nat} {p : Program} {e : Env} {R : Room} {s : State} {m : MethodId} {args : Array Value} {below : List Frame} {meth : Method} {c : Code} {Rp : RT} (C : Cx Z d jX12_feeds RX12 p R s m args meth c) : Sd Z jX12_feeds p e R s m args below meth c (MQ below (QcS Z Rp) args s 0 0 (fun a => Z.2.2.1 < a)) 49 (w_X12_feeds_49 (MS Z d) (Gw Z 7 p e R s m args below meth c (MQ below (QcS Z Rp) args s 0 0 (fun a => Z.2.2.1 < a))) Rp) := by
  unfold w_X12_feeds_49
  refine s_iconst (n := 0) C (by decide +kernel) (by decide) ?_
  refine s_istore (k := 5) C (by decide +kernel) ?_
  exact (fun _ _ _ _ _ _ h => h)
set_option maxRecDepth 20000 in
theorem b_X12_feeds_52 {Z : Zt} {d : Nat} {p : Program} {e : Env} {R : Room} {s : State} {m : MethodId} {args : Array Value} {below : List Frame} {meth : Method} {c : Code} {Rp : RT} (C : Cx Z d jX12_feeds RX12 p R s m args meth c) : Sd Z jX12_feeds p e R s m args below meth c (MQ below (QcS Z Rp) args s 0 0 (fun a => Z.2.2.1 < a)) 52 (w_X12_feeds_52 (MS Z d) (Gw Z 7 p e R s m args below meth c (MQ below (QcS Z Rp) args s 0 0 (fun a => Z.2.2.1 < a))) Rp) := by
  unfold w_X12_feeds_52
  refine s_iload (k := 5) C (by decide +kernel) ?_
  refine s_iconst (n := 4) C (by decide +kernel) (by decide) ?_
  refine s_icmp_ge (off := 32) (tgt := 87) C (by decide +kernel) (by decide) (fun _ _ _ _ _ _ h => h) ?_
  refine s_aload_n (k := 0) C (by decide +kernel) ?_
  refine s_getR C w_6_88 (by decide +kernel) rfl ?_
  refine s_iload (k := 4) C (by decide +kernel) ?_
  refine s_bipush (n := 9) C (by decide +kernel) (by decide) ?_
  refine s_iadd C (by decide +kernel) ?_
  refine s_iload (k := 5) C (by decide +kernel) ?_
  refine s_iadd C (by decide +kernel) ?_
  refine s_aload_n (k := 0) C (by decide +kernel) ?_
  refine s_iload_n (k := 1) C (by decide +kernel) ?_
  refine s_bipush (n := 20) C (by decide +kernel) (by decide) ?_
  refine s_iload (k := 5) C (by decide +kernel) ?_
  refine s_iadd C (by decide +kernel) ?_
  refine s_callV C rfl rfl (by decide +kernel) rfl w_6_220 w_6_222 w_p3_11 w_1_13 w_6_223 (by decide +kernel) ?_
  refine s_iast C (by decide +kernel) ?_
  refine s_iinc (n := 1) C (by decide +kernel) (by decide) ?_
  exact s_goto (off := (-32)) (tgt := 52) C (by decide +kernel) (by decide) (fun _ _ _ _ _ _ h => h)
set_option maxRecDepth 20000 in
theorem b_X12_feeds_87 {Z : Zt} {d : Nat} {p : Program} {e : Env} {R : Room} {s : State} {m : MethodId} {args : Array Value} {below : List Frame} {meth : Method} {c : Code} {Rp : RT} (C : Cx Z d jX12_feeds RX12 p R s m args meth c) : Sd Z jX12_feeds p e R s m args below meth c (MQ below (QcS Z Rp) args s 0 0 (fun a => Z.2.2.1 < a)) 87 (w_X12_feeds_87 (MS Z d) (Gw Z 7 p e R s m args below meth c (MQ below (QcS Z Rp) args s 0 0 (fun a => Z.2.2.1 < a))) Rp) := by
  unfold w_X12_feeds_87
  refine s_aload_n (k := 0) C (by decide +kernel) ?_
  refine s_getR C w_6_88 (by decide +kernel) rfl ?_
  refine s_iload (k := 4) C (by decide +kernel) ?_
  refine s_bipush (n := 9) C (by decide +kernel) (by decide) ?_
  refine s_iadd C (by decide +kernel) ?_
  refine s_iconst (n := 4) C (by decide +kernel) (by decide) ?_
  refine s_iadd C (by decide +kernel) ?_
  refine s_aload_n (k := 0) C (by decide +kernel) ?_
  refine s_iload_n (k := 1) C (by decide +kernel) ?_
  refine s_bipush (n := 9) C (by decide +kernel) (by decide) ?_
  refine s_callV C rfl rfl (by decide +kernel) rfl w_6_220 w_6_222 w_p3_11 w_1_13 w_6_223 (by decide +kernel) ?_
  refine s_iast C (by decide +kernel) ?_
  refine s_aload_n (k := 0) C (by decide +kernel) ?_
  refine s_getR C w_6_88 (by decide +kernel) rfl ?_
  refine s_iload (k := 4) C (by decide +kernel) ?_
  refine s_bipush (n := 9) C (by decide +kernel) (by decide) ?_
  refine s_iadd C (by decide +kernel) ?_
  refine s_iconst (n := 4) C (by decide +kernel) (by decide) ?_
  refine s_iadd C (by decide +kernel) ?_
  refine s_iconst (n := 1) C (by decide +kernel) (by decide) ?_
  refine s_iadd C (by decide +kernel) ?_
  refine s_aload_n (k := 0) C (by decide +kernel) ?_
  refine s_iload_n (k := 1) C (by decide +kernel) ?_
  refine s_bipush (n := 10) C (by decide +kernel) (by decide) ?_
  refine s_callV C rfl rfl (by decide +kernel) rfl w_6_220 w_6_222 w_p3_11 w_1_13 w_6_223 (by decide +kernel) ?_
  refine s_iast C (by decide +kernel) ?_
  exact s_vret C rfl (by decide +kernel)
set_option maxRecDepth 20000 in
theorem b_X12_feeds_128 {Z : Zt} {d : Nat} {p : Program} {e : Env} {R : Room} {s : State} {m : MethodId} {args : Array Value} {below : List Frame} {meth : Method} {c : Code} {Rp : RT} (C : Cx Z d jX12_feeds RX12 p R s m args meth c) : Sd Z jX12_feeds p e R s m args below meth c (MQ below (QcS Z Rp) args s 0 0 (fun a => Z.2.2.1 < a)) 128 (w_X12_feeds_128 (MS Z d) (Gw Z 7 p e R s m args below meth c (MQ below (QcS Z Rp) args s 0 0 (fun a => Z.2.2.1 < a))) Rp) := by
  unfold w_X12_feeds_128
  refine s_aload_n (k := 0) C (by decide +kernel) ?_
  refine s_iload_n (k := 1) C (by decide +kernel) ?_
  refine s_iload_n (k := 2) C (by decide +kernel) ?_
  refine s_iconst (n := 2) C (by decide +kernel) (by decide) ?_
  refine s_iload_n (k := 3) C (by decide +kernel) ?_
  refine s_iconst (n := 1) C (by decide +kernel) (by decide) ?_
  refine s_isub C (by decide +kernel) ?_
  refine s_aload_n (k := 0) C (by decide +kernel) ?_
  refine s_iload_n (k := 1) C (by decide +kernel) ?_
  refine s_iload_n (k := 3) C (by decide +kernel) ?_
  refine s_iconst (n := 1) C (by decide +kernel) (by decide) ?_
  refine s_isub C (by decide +kernel) ?_
  refine s_callV C rfl rfl (by decide +kernel) rfl w_7_23 w_7_25 w_p4_5 w_1_13 w_7_26 (by decide +kernel) ?_
  refine s_callV C rfl rfl (by decide +kernel) rfl w_7_27 w_7_29 w_p4_6 w_1_13 w_7_30 (by decide +kernel) ?_
  refine s_istore (k := 4) C (by decide +kernel) ?_
  refine s_iload (k := 4) C (by decide +kernel) ?_
  refine s_iconst (n := (-1)) C (by decide +kernel) (by decide) ?_
  refine s_icmp_ne (off := 4) (tgt := 155) C (by decide +kernel) (by decide) (fun _ _ _ _ _ _ h => h) ?_
  exact s_vret C rfl (by decide +kernel)
set_option maxRecDepth 20000 in
theorem b_X12_feeds_155 {Z : Zt} {d : Nat} {p : Program} {e : Env} {R : Room} {s : State} {m : MethodId} {args : Array Value} {below : List Frame} {meth : Method} {c : Code} {Rp : RT} (C : Cx Z d jX12_feeds RX12 p R s m args meth c) : Sd Z jX12_feeds p e R s m args below meth c (MQ below (QcS Z Rp) args s 0 0 (fun a => Z.2.2.1 < a)) 155 (w_X12_feeds_155 (MS Z d) (Gw Z 7 p e R s m args below meth c (MQ below (QcS Z Rp) args s 0 0 (fun a => Z.2.2.1 < a))) Rp) := by
  unfold w_X12_feeds_155
  refine s_iconst (n := 3) C (by decide +kernel) (by decide) ?_
  refine s_aload_n (k := 0) C (by decide +kernel) ?_
  refine s_iload_n (k := 1) C (by decide +kernel) ?_
  refine s_iconst (n := 4) C (by decide +kernel) (by decide) ?_
  refine s_callV C rfl rfl (by decide +kernel) rfl w_6_220 w_6_222 w_p3_11 w_1_13 w_6_223 (by decide +kernel) ?_
  refine s_iload_n (k := 3) C (by decide +kernel) ?_
  refine s_isub C (by decide +kernel) ?_
  refine s_iconst (n := 1) C (by decide +kernel) (by decide) ?_
  refine s_iadd C (by decide +kernel) ?_
  refine s_callS C (by decide +kernel) rfl w_7_55 w_7_56 w_1_13 w_7_57 (by decide +kernel) ?_
  refine s_istore (k := 5) C (by decide +kernel) ?_
  refine s_aload_n (k := 0) C (by decide +kernel) ?_
  refine s_getR C w_6_88 (by decide +kernel) rfl ?_
  refine s_iload (k := 4) C (by decide +kernel) ?_
  refine s_bipush (n := 6) C (by decide +kernel) (by decide) ?_
  refine s_iadd C (by decide +kernel) ?_
  refine s_iconst (n := 0) C (by decide +kernel) (by decide) ?_
  refine s_iload (k := 5) C (by decide +kernel) ?_
  refine s_callS C (by decide +kernel) rfl w_7_58 w_7_59 w_1_13 w_7_60 (by decide +kernel) ?_
  refine s_iast C (by decide +kernel) ?_
  refine s_aload_n (k := 0) C (by decide +kernel) ?_
  refine s_getR C w_6_88 (by decide +kernel) rfl ?_
  refine s_iload (k := 4) C (by decide +kernel) ?_
  refine s_bipush (n := 7) C (by decide +kernel) (by decide) ?_
  refine s_iadd C (by decide +kernel) ?_
  refine s_aload_n (k := 0) C (by decide +kernel) ?_
  refine s_iload_n (k := 1) C (by decide +kernel) ?_
  refine s_bipush (n := 7) C (by decide +kernel) (by decide) ?_
  refine s_callV C rfl rfl (by decide +kernel) rfl w_6_220 w_6_222 w_p3_11 w_1_13 w_6_223 (by decide +kernel) ?_
  refine s_iast C (by decide +kernel) ?_
  refine s_iconst (n := 0) C (by decide +kernel) (by decide) ?_
  refine s_istore (k := 6) C (by decide +kernel) ?_
  exact (fun _ _ _ _ _ _ h => h)
set_option maxRecDepth 20000 in
theorem b_X12_feeds_207 {Z : Zt} {d : Nat} {p : Program} {e : Env} {R : Room} {s : State} {m : MethodId} {args : Array Value} {below : List Frame} {meth : Method} {c : Code} {Rp : RT} (C : Cx Z d jX12_feeds RX12 p R s m args meth c) : Sd Z jX12_feeds p e R s m args below meth c (MQ below (QcS Z Rp) args s 0 0 (fun a => Z.2.2.1 < a)) 207 (w_X12_feeds_207 (MS Z d) (Gw Z 7 p e R s m args below meth c (MQ below (QcS Z Rp) args s 0 0 (fun a => Z.2.2.1 < a))) Rp) := by
  unfold w_X12_feeds_207
  refine s_iload (k := 6) C (by decide +kernel) ?_
  refine s_iconst (n := 4) C (by decide +kernel) (by decide) ?_
  refine s_iload (k := 5) C (by decide +kernel) ?_
  refine s_imul C (by decide +kernel) ?_
  refine s_icmp_ge (off := 38) (tgt := 251) C (by decide +kernel) (by decide) (fun _ _ _ _ _ _ h => h) ?_
  refine s_aload_n (k := 0) C (by decide +kernel) ?_
  refine s_getR C w_6_88 (by decide +kernel) rfl ?_
  refine s_iload (k := 4) C (by decide +kernel) ?_
  refine s_bipush (n := 9) C (by decide +kernel) (by decide) ?_
  refine s_iadd C (by decide +kernel) ?_
  refine s_iload (k := 6) C (by decide +kernel) ?_
  refine s_iadd C (by decide +kernel) ?_
  refine s_aload_n (k := 0) C (by decide +kernel) ?_
  refine s_iload_n (k := 1) C (by decide +kernel) ?_
  refine s_bipush (n := 34) C (by decide +kernel) (by decide) ?_
  refine s_iconst (n := 4) C (by decide +kernel) (by decide) ?_
  refine s_iload_n (k := 3) C (by decide +kernel) ?_
  refine s_iconst (n := 1) C (by decide +kernel) (by decide) ?_
  refine s_isub C (by decide +kernel) ?_
  refine s_imul C (by decide +kernel) ?_
  refine s_iadd C (by decide +kernel) ?_
  refine s_iload (k := 6) C (by decide +kernel) ?_
  refine s_iadd C (by decide +kernel) ?_
  refine s_callV C rfl rfl (by decide +kernel) rfl w_6_220 w_6_222 w_p3_11 w_1_13 w_6_223 (by decide +kernel) ?_
  refine s_iast C (by decide +kernel) ?_
  refine s_iinc (n := 1) C (by decide +kernel) (by decide) ?_
  exact s_goto (off := (-41)) (tgt := 207) C (by decide +kernel) (by decide) (fun _ _ _ _ _ _ h => h)
set_option maxRecDepth 20000 in
theorem b_X12_feeds_251 {Z : Zt} {d : Nat} {p : Program} {e : Env} {R : Room} {s : State} {m : MethodId} {args : Array Value} {below : List Frame} {meth : Method} {c : Code} {Rp : RT} (C : Cx Z d jX12_feeds RX12 p R s m args meth c) : Sd Z jX12_feeds p e R s m args below meth c (MQ below (QcS Z Rp) args s 0 0 (fun a => Z.2.2.1 < a)) 251 (w_X12_feeds_251 (MS Z d) (Gw Z 7 p e R s m args below meth c (MQ below (QcS Z Rp) args s 0 0 (fun a => Z.2.2.1 < a))) Rp) := by
  unfold w_X12_feeds_251
  exact s_vret C rfl (by decide +kernel)
theorem ms_X12_feeds {Z : Zt} {d : Nat} {S : Sh} {μ : Mi} {ρ : Mr} {Rp : RT} (a0 : Nat) (x1 : Int32) (x2 : Int32) (h : ∀ G : Nat → PT, (∀ (L st : List Value) (S : Sh) (q : Nat × Nat) (μ : Mi) (ρ : Mr), w_X12_feeds_49 (MS Z d) G Rp L st S q μ ρ → G 49 L st S q μ ρ) → (∀ (L st : List Value) (S : Sh) (q : Nat × Nat) (μ : Mi) (ρ : Mr), w_X12_feeds_52 (MS Z d) G Rp L st S q μ ρ → G 52 L st S q μ ρ) → (∀ (L st : List Value) (S : Sh) (q : Nat × Nat) (μ : Mi) (ρ : Mr), w_X12_feeds_87 (MS Z d) G Rp L st S q μ ρ → G 87 L st S q μ ρ) → (∀ (L st : List Value) (S : Sh) (q : Nat × Nat) (μ : Mi) (ρ : Mr), w_X12_feeds_128 (MS Z d) G Rp L st S q μ ρ → G 128 L st S q μ ρ) → (∀ (L st : List Value) (S : Sh) (q : Nat × Nat) (μ : Mi) (ρ : Mr), w_X12_feeds_155 (MS Z d) G Rp L st S q μ ρ → G 155 L st S q μ ρ) → (∀ (L st : List Value) (S : Sh) (q : Nat × Nat) (μ : Mi) (ρ : Mr), w_X12_feeds_207 (MS Z d) G Rp L st S q μ ρ → G 207 L st S q μ ρ) → (∀ (L st : List Value) (S : Sh) (q : Nat × Nat) (μ : Mi) (ρ : Mr), w_X12_feeds_251 (MS Z d) G Rp L st S q μ ρ → G 251 L st S q μ ρ) → w_X12_feeds_0 (MS Z d) G Rp [.ref a0, .int x1, .int x2, .null, .null, .null, .null] [] S (0, 0) μ ρ) : MS Z (d + 1) jX12_feeds [.ref a0, .int x1, .int x2] S μ ρ Rp :=
  MS_of [.ref a0, .int x1, .int x2, .null, .null, .null, .null] (by decide +kernel) rfl rfl (Nat.le_of_ble_eq_true rfl) rfl (fun p e R s m args below meth c C => b_X12_feeds_0 C _ _ _ _ _ _ (h _ (b_X12_feeds_49 C) (b_X12_feeds_52 C) (b_X12_feeds_87 C) (b_X12_feeds_128 C) (b_X12_feeds_155 C) (b_X12_feeds_207 C) (b_X12_feeds_251 C)))
def w_X12_feedsAll_0 (M : CT) (G : Nat → PT) (Rp : RT) : PT := tAload 0 <| tIload 1 <| tCallV M jX12_laysMembers 12 27 1 <| tAload 0 <| tGetI 12 27 8 <| tAload 0 <| tGetI 12 27 9 <| tBin (fun x y => x ||| y) <| tIstore 2 <| tConst 0 <| tIstore 3 <| G 17
def w_X12_feedsAll_17 (M : CT) (G : Nat → PT) (Rp : RT) : PT := tIload 3 <| tConst 5 <| tIf2 (fun x y => y ≤ x) (G 47) <| tIload 2 <| tIload 3 <| tCallS M jX12_has 2 <| tIf (fun x => x = 0) (G 41) <| tIload 3 <| tIload 1 <| tIf2 (fun x y => x = y) (G 41) <| tAload 0 <| tIload 1 <| tIload 3 <| tCallV M jX12_feeds 12 27 2 <| G 41
def w_X12_feedsAll_41 (M : CT) (G : Nat → PT) (Rp : RT) : PT := tIinc 3 1 <| tGoto (G 17)
def w_X12_feedsAll_47 (M : CT) (G : Nat → PT) (Rp : RT) : PT := tVret Rp
set_option maxRecDepth 20000 in
theorem b_X12_feedsAll_0 {Z : Zt} {d : Nat} {p : Program} {e : Env} {R : Room} {s : State} {m : MethodId} {args : Array Value} {below : List Frame} {meth : Method} {c : Code} {Rp : RT} (C : Cx Z d jX12_feedsAll RX12 p R s m args meth c) : Sd Z jX12_feedsAll p e R s m args below meth c (MQ below (QcS Z Rp) args s 0 0 (fun a => Z.2.2.1 < a)) 0 (w_X12_feedsAll_0 (MS Z d) (Gw Z 4 p e R s m args below meth c (MQ below (QcS Z Rp) args s 0 0 (fun a => Z.2.2.1 < a))) Rp) := by
  unfold w_X12_feedsAll_0
  refine s_aload_n (k := 0) C (by decide +kernel) ?_
  refine s_iload_n (k := 1) C (by decide +kernel) ?_
  refine s_callV C rfl rfl (by decide +kernel) rfl w_6_216 w_6_218 w_p3_10 w_1_13 w_6_219 (by decide +kernel) ?_
  refine s_aload_n (k := 0) C (by decide +kernel) ?_
  refine s_getI C w_6_95 (by decide +kernel) rfl ?_
  refine s_aload_n (k := 0) C (by decide +kernel) ?_
  refine s_getI C w_6_96 (by decide +kernel) rfl ?_
  refine s_ior C (by decide +kernel) ?_
  refine s_istore_n (k := 2) C (by decide +kernel) ?_
  refine s_iconst (n := 0) C (by decide +kernel) (by decide) ?_
  refine s_istore_n (k := 3) C (by decide +kernel) ?_
  exact (fun _ _ _ _ _ _ h => h)
set_option maxRecDepth 20000 in
theorem b_X12_feedsAll_17 {Z : Zt} {d : Nat} {p : Program} {e : Env} {R : Room} {s : State} {m : MethodId} {args : Array Value} {below : List Frame} {meth : Method} {c : Code} {Rp : RT} (C : Cx Z d jX12_feedsAll RX12 p R s m args meth c) : Sd Z jX12_feedsAll p e R s m args below meth c (MQ below (QcS Z Rp) args s 0 0 (fun a => Z.2.2.1 < a)) 17 (w_X12_feedsAll_17 (MS Z d) (Gw Z 4 p e R s m args below meth c (MQ below (QcS Z Rp) args s 0 0 (fun a => Z.2.2.1 < a))) Rp) := by
  unfold w_X12_feedsAll_17
  refine s_iload_n (k := 3) C (by decide +kernel) ?_
  refine s_iconst (n := 5) C (by decide +kernel) (by decide) ?_
  refine s_icmp_ge (off := 28) (tgt := 47) C (by decide +kernel) (by decide) (fun _ _ _ _ _ _ h => h) ?_
  refine s_iload_n (k := 2) C (by decide +kernel) ?_
  refine s_iload_n (k := 3) C (by decide +kernel) ?_
  refine s_callS C (by decide +kernel) rfl w_7_0 w_7_1 w_1_13 w_7_2 (by decide +kernel) ?_
  refine s_if_eq (off := 14) (tgt := 41) C (by decide +kernel) (by decide) (fun _ _ _ _ _ _ h => h) ?_
  refine s_iload_n (k := 3) C (by decide +kernel) ?_
  refine s_iload_n (k := 1) C (by decide +kernel) ?_
  refine s_icmp_eq (off := 9) (tgt := 41) C (by decide +kernel) (by decide) (fun _ _ _ _ _ _ h => h) ?_
  refine s_aload_n (k := 0) C (by decide +kernel) ?_
  refine s_iload_n (k := 1) C (by decide +kernel) ?_
  refine s_iload_n (k := 3) C (by decide +kernel) ?_
  refine s_callV C rfl rfl (by decide +kernel) rfl w_7_51 w_7_53 w_p4_12 w_1_13 w_7_54 (by decide +kernel) ?_
  exact (fun _ _ _ _ _ _ h => h)
set_option maxRecDepth 20000 in
theorem b_X12_feedsAll_41 {Z : Zt} {d : Nat} {p : Program} {e : Env} {R : Room} {s : State} {m : MethodId} {args : Array Value} {below : List Frame} {meth : Method} {c : Code} {Rp : RT} (C : Cx Z d jX12_feedsAll RX12 p R s m args meth c) : Sd Z jX12_feedsAll p e R s m args below meth c (MQ below (QcS Z Rp) args s 0 0 (fun a => Z.2.2.1 < a)) 41 (w_X12_feedsAll_41 (MS Z d) (Gw Z 4 p e R s m args below meth c (MQ below (QcS Z Rp) args s 0 0 (fun a => Z.2.2.1 < a))) Rp) := by
  unfold w_X12_feedsAll_41
  refine s_iinc (n := 1) C (by decide +kernel) (by decide) ?_
  exact s_goto (off := (-27)) (tgt := 17) C (by decide +kernel) (by decide) (fun _ _ _ _ _ _ h => h)
set_option maxRecDepth 20000 in
theorem b_X12_feedsAll_47 {Z : Zt} {d : Nat} {p : Program} {e : Env} {R : Room} {s : State} {m : MethodId} {args : Array Value} {below : List Frame} {meth : Method} {c : Code} {Rp : RT} (C : Cx Z d jX12_feedsAll RX12 p R s m args meth c) : Sd Z jX12_feedsAll p e R s m args below meth c (MQ below (QcS Z Rp) args s 0 0 (fun a => Z.2.2.1 < a)) 47 (w_X12_feedsAll_47 (MS Z d) (Gw Z 4 p e R s m args below meth c (MQ below (QcS Z Rp) args s 0 0 (fun a => Z.2.2.1 < a))) Rp) := by
  unfold w_X12_feedsAll_47
  exact s_vret C rfl (by decide +kernel)
theorem ms_X12_feedsAll {Z : Zt} {d : Nat} {S : Sh} {μ : Mi} {ρ : Mr} {Rp : RT} (a0 : Nat) (x1 : Int32) (h : ∀ G : Nat → PT, (∀ (L st : List Value) (S : Sh) (q : Nat × Nat) (μ : Mi) (ρ : Mr), w_X12_feedsAll_17 (MS Z d) G Rp L st S q μ ρ → G 17 L st S q μ ρ) → (∀ (L st : List Value) (S : Sh) (q : Nat × Nat) (μ : Mi) (ρ : Mr), w_X12_feedsAll_41 (MS Z d) G Rp L st S q μ ρ → G 41 L st S q μ ρ) → (∀ (L st : List Value) (S : Sh) (q : Nat × Nat) (μ : Mi) (ρ : Mr), w_X12_feedsAll_47 (MS Z d) G Rp L st S q μ ρ → G 47 L st S q μ ρ) → w_X12_feedsAll_0 (MS Z d) G Rp [.ref a0, .int x1, .null, .null] [] S (0, 0) μ ρ) : MS Z (d + 1) jX12_feedsAll [.ref a0, .int x1] S μ ρ Rp :=
  MS_of [.ref a0, .int x1, .null, .null] (by decide +kernel) rfl rfl (Nat.le_of_ble_eq_true rfl) rfl (fun p e R s m args below meth c C => b_X12_feedsAll_0 C _ _ _ _ _ _ (h _ (b_X12_feedsAll_17 C) (b_X12_feedsAll_41 C) (b_X12_feedsAll_47 C)))
def w_X12_comesToLog_0 (M : CT) (G : Nat → PT) (Rp : RT) : PT := tConst 34 <| tConst 4 <| tAload 0 <| tIload 1 <| tConst 4 <| tCallV M jX12_of 12 27 2 <| tBin (fun x y => x * y) <| tBin (fun x y => x + y) <| tIstore 6 <| tAload 0 <| tIload 1 <| tIload 6 <| tIload 2 <| tCallV M jX12_lays 12 27 3 <| tAload 0 <| tIload 1 <| tIload 6 <| tConst 1 <| tBin (fun x y => x + y) <| tIload 3 <| tCallV M jX12_lays 12 27 3 <| tAload 0 <| tIload 1 <| tIload 6 <| tConst 2 <| tBin (fun x y => x + y) <| tIload 4 <| tCallV M jX12_lays 12 27 3 <| tAload 0 <| tIload 1 <| tIload 6 <| tConst 3 <| tBin (fun x y => x + y) <| tIload 5 <| tCallV M jX12_lays 12 27 3 <| tAload 0 <| tIload 1 <| tConst 4 <| tAload 0 <| tIload 1 <| tConst 4 <| tCallV M jX12_of 12 27 2 <| tConst 1 <| tBin (fun x y => x + y) <| tCallV M jX12_lays 12 27 3 <| tVret Rp
set_option maxRecDepth 20000 in
theorem b_X12_comesToLog_0 {Z : Zt} {d : Nat} {p : Program} {e : Env} {R : Room} {s : State} {m : MethodId} {args : Array Value} {below : List Frame} {meth : Method} {c : Code} {Rp : RT} (C : Cx Z d jX12_comesToLog RX12 p R s m args meth c) : Sd Z jX12_comesToLog p e R s m args below meth c (MQ below (QcS Z Rp) args s 0 0 (fun a => Z.2.2.1 < a)) 0 (w_X12_comesToLog_0 (MS Z d) (Gw Z 7 p e R s m args below meth c (MQ below (QcS Z Rp) args s 0 0 (fun a => Z.2.2.1 < a))) Rp) := by
  unfold w_X12_comesToLog_0
  refine s_bipush (n := 34) C (by decide +kernel) (by decide) ?_
  refine s_iconst (n := 4) C (by decide +kernel) (by decide) ?_
  refine s_aload_n (k := 0) C (by decide +kernel) ?_
  refine s_iload_n (k := 1) C (by decide +kernel) ?_
  refine s_iconst (n := 4) C (by decide +kernel) (by decide) ?_
  refine s_callV C rfl rfl (by decide +kernel) rfl w_6_220 w_6_222 w_p3_11 w_1_13 w_6_223 (by decide +kernel) ?_
  refine s_imul C (by decide +kernel) ?_
  refine s_iadd C (by decide +kernel) ?_
  refine s_istore (k := 6) C (by decide +kernel) ?_
  refine s_aload_n (k := 0) C (by decide +kernel) ?_
  refine s_iload_n (k := 1) C (by decide +kernel) ?_
  refine s_iload (k := 6) C (by decide +kernel) ?_
  refine s_iload_n (k := 2) C (by decide +kernel) ?_
  refine s_callV C rfl rfl (by decide +kernel) rfl w_6_82 w_6_84 w_p3_4 w_1_13 w_6_85 (by decide +kernel) ?_
  refine s_aload_n (k := 0) C (by decide +kernel) ?_
  refine s_iload_n (k := 1) C (by decide +kernel) ?_
  refine s_iload (k := 6) C (by decide +kernel) ?_
  refine s_iconst (n := 1) C (by decide +kernel) (by decide) ?_
  refine s_iadd C (by decide +kernel) ?_
  refine s_iload_n (k := 3) C (by decide +kernel) ?_
  refine s_callV C rfl rfl (by decide +kernel) rfl w_6_82 w_6_84 w_p3_4 w_1_13 w_6_85 (by decide +kernel) ?_
  refine s_aload_n (k := 0) C (by decide +kernel) ?_
  refine s_iload_n (k := 1) C (by decide +kernel) ?_
  refine s_iload (k := 6) C (by decide +kernel) ?_
  refine s_iconst (n := 2) C (by decide +kernel) (by decide) ?_
  refine s_iadd C (by decide +kernel) ?_
  refine s_iload (k := 4) C (by decide +kernel) ?_
  refine s_callV C rfl rfl (by decide +kernel) rfl w_6_82 w_6_84 w_p3_4 w_1_13 w_6_85 (by decide +kernel) ?_
  refine s_aload_n (k := 0) C (by decide +kernel) ?_
  refine s_iload_n (k := 1) C (by decide +kernel) ?_
  refine s_iload (k := 6) C (by decide +kernel) ?_
  refine s_iconst (n := 3) C (by decide +kernel) (by decide) ?_
  refine s_iadd C (by decide +kernel) ?_
  refine s_iload (k := 5) C (by decide +kernel) ?_
  refine s_callV C rfl rfl (by decide +kernel) rfl w_6_82 w_6_84 w_p3_4 w_1_13 w_6_85 (by decide +kernel) ?_
  refine s_aload_n (k := 0) C (by decide +kernel) ?_
  refine s_iload_n (k := 1) C (by decide +kernel) ?_
  refine s_iconst (n := 4) C (by decide +kernel) (by decide) ?_
  refine s_aload_n (k := 0) C (by decide +kernel) ?_
  refine s_iload_n (k := 1) C (by decide +kernel) ?_
  refine s_iconst (n := 4) C (by decide +kernel) (by decide) ?_
  refine s_callV C rfl rfl (by decide +kernel) rfl w_6_220 w_6_222 w_p3_11 w_1_13 w_6_223 (by decide +kernel) ?_
  refine s_iconst (n := 1) C (by decide +kernel) (by decide) ?_
  refine s_iadd C (by decide +kernel) ?_
  refine s_callV C rfl rfl (by decide +kernel) rfl w_6_82 w_6_84 w_p3_4 w_1_13 w_6_85 (by decide +kernel) ?_
  exact s_vret C rfl (by decide +kernel)
theorem ms_X12_comesToLog {Z : Zt} {d : Nat} {S : Sh} {μ : Mi} {ρ : Mr} {Rp : RT} (a0 : Nat) (x1 : Int32) (x2 : Int32) (x3 : Int32) (x4 : Int32) (x5 : Int32) (h : ∀ G : Nat → PT, w_X12_comesToLog_0 (MS Z d) G Rp [.ref a0, .int x1, .int x2, .int x3, .int x4, .int x5, .null] [] S (0, 0) μ ρ) : MS Z (d + 1) jX12_comesToLog [.ref a0, .int x1, .int x2, .int x3, .int x4, .int x5] S μ ρ Rp :=
  MS_of [.ref a0, .int x1, .int x2, .int x3, .int x4, .int x5, .null] (by decide +kernel) rfl rfl (Nat.le_of_ble_eq_true rfl) rfl (fun p e R s m args below meth c C => b_X12_comesToLog_0 C _ _ _ _ _ _ (h _ ))
def w_X12_does_0 (M : CT) (G : Nat → PT) (Rp : RT) : PT := tAload 0 <| tIload 1 <| tConst 7 <| tCallV M jX12_of 12 27 2 <| tConst 1 <| tBin (fun x y => x + y) <| tIstore 3 <| G 10
def w_X12_does_10 (M : CT) (G : Nat → PT) (Rp : RT) : PT := tIload 3 <| tIload 2 <| tIf2 (fun x y => y < x) (G 139) <| tAload 0 <| tIload 1 <| tIload 3 <| tConst 1 <| tCallV M jX12_ofEntry 12 27 3 <| tIstore 4 <| tConst 16 <| tAload 0 <| tIload 1 <| tIload 3 <| tConst 2 <| tCallV M jX12_ofEntry 12 27 3 <| tBin (fun x y => x + y) <| tIstore 5 <| tIload 4 <| tConst 1 <| tIf2 (fun x y => x ≠ y) (G 56) <| tAload 0 <| tIload 1 <| tIload 5 <| tAload 0 <| tIload 1 <| tIload 3 <| tConst 3 <| tCallV M jX12_ofEntry 12 27 3 <| tCallV M jX12_lays 12 27 3 <| G 56
def w_X12_does_56 (M : CT) (G : Nat → PT) (Rp : RT) : PT := tIload 4 <| tConst 2 <| tIf2 (fun x y => x ≠ y) (G 84) <| tAload 0 <| tIload 1 <| tIload 5 <| tAload 0 <| tIload 1 <| tIload 5 <| tCallV M jX12_of 12 27 2 <| tAload 0 <| tIload 1 <| tIload 3 <| tConst 3 <| tCallV M jX12_ofEntry 12 27 3 <| tBin (fun x y => x + y) <| tCallV M jX12_lays 12 27 3 <| G 84
def w_X12_does_84 (M : CT) (G : Nat → PT) (Rp : RT) : PT := tConst 3830 <| tConst 4 <| tIload 3 <| tConst 1 <| tBin (fun x y => x - y) <| tBin (fun x y => x * y) <| tBin (fun x y => x + y) <| tIstore 6 <| tAload 0 <| tGetR 12 27 1 <| tIload 6 <| tAld 20 <| tIf (fun x => x ≠ 0) (G 133) <| tAload 0 <| tGetR 12 27 1 <| tConst 514 <| tIload 1 <| tBin (fun x y => x * y) <| tConst 34 <| tBin (fun x y => x + y) <| tConst 4 <| tIload 3 <| tConst 1 <| tBin (fun x y => x - y) <| tBin (fun x y => x * y) <| tBin (fun x y => x + y) <| tAload 0 <| tGetR 12 27 1 <| tIload 6 <| tConst 4 <| tCallS M jX12_copies 5 <| G 133
def w_X12_does_133 (M : CT) (G : Nat → PT) (Rp : RT) : PT := tIinc 3 1 <| tGoto (G 10)
def w_X12_does_139 (M : CT) (G : Nat → PT) (Rp : RT) : PT := tAload 0 <| tIload 1 <| tConst 7 <| tIload 2 <| tAload 0 <| tIload 1 <| tConst 7 <| tCallV M jX12_of 12 27 2 <| tCallS M jX12_greater 2 <| tCallV M jX12_lays 12 27 3 <| tVret Rp
set_option maxRecDepth 20000 in
theorem b_X12_does_0 {Z : Zt} {d : Nat} {p : Program} {e : Env} {R : Room} {s : State} {m : MethodId} {args : Array Value} {below : List Frame} {meth : Method} {c : Code} {Rp : RT} (C : Cx Z d jX12_does RX12 p R s m args meth c) : Sd Z jX12_does p e R s m args below meth c (MQ below (QcS Z Rp) args s 0 0 (fun a => Z.2.2.1 < a)) 0 (w_X12_does_0 (MS Z d) (Gw Z 7 p e R s m args below meth c (MQ below (QcS Z Rp) args s 0 0 (fun a => Z.2.2.1 < a))) Rp) := by
  unfold w_X12_does_0
  refine s_aload_n (k := 0) C (by decide +kernel) ?_
  refine s_iload_n (k := 1) C (by decide +kernel) ?_
  refine s_bipush (n := 7) C (by decide +kernel) (by decide) ?_
  refine s_callV C rfl rfl (by decide +kernel) rfl w_6_220 w_6_222 w_p3_11 w_1_13 w_6_223 (by decide +kernel) ?_
  refine s_iconst (n := 1) C (by decide +kernel) (by decide) ?_
  refine s_iadd C (by decide +kernel) ?_
  refine s_istore_n (k := 3) C (by decide +kernel) ?_
  exact (fun _ _ _ _ _ _ h => h)
set_option maxRecDepth 20000 in
theorem b_X12_does_10 {Z : Zt} {d : Nat} {p : Program} {e : Env} {R : Room} {s : State} {m : MethodId} {args : Array Value} {below : List Frame} {meth : Method} {c : Code} {Rp : RT} (C : Cx Z d jX12_does RX12 p R s m args meth c) : Sd Z jX12_does p e R s m args below meth c (MQ below (QcS Z Rp) args s 0 0 (fun a => Z.2.2.1 < a)) 10 (w_X12_does_10 (MS Z d) (Gw Z 7 p e R s m args below meth c (MQ below (QcS Z Rp) args s 0 0 (fun a => Z.2.2.1 < a))) Rp) := by
  unfold w_X12_does_10
  refine s_iload_n (k := 3) C (by decide +kernel) ?_
  refine s_iload_n (k := 2) C (by decide +kernel) ?_
  refine s_icmp_gt (off := 127) (tgt := 139) C (by decide +kernel) (by decide) (fun _ _ _ _ _ _ h => h) ?_
  refine s_aload_n (k := 0) C (by decide +kernel) ?_
  refine s_iload_n (k := 1) C (by decide +kernel) ?_
  refine s_iload_n (k := 3) C (by decide +kernel) ?_
  refine s_iconst (n := 1) C (by decide +kernel) (by decide) ?_
  refine s_callV C rfl rfl (by decide +kernel) rfl w_6_228 w_6_230 w_p3_13 w_1_13 w_6_231 (by decide +kernel) ?_
  refine s_istore (k := 4) C (by decide +kernel) ?_
  refine s_bipush (n := 16) C (by decide +kernel) (by decide) ?_
  refine s_aload_n (k := 0) C (by decide +kernel) ?_
  refine s_iload_n (k := 1) C (by decide +kernel) ?_
  refine s_iload_n (k := 3) C (by decide +kernel) ?_
  refine s_iconst (n := 2) C (by decide +kernel) (by decide) ?_
  refine s_callV C rfl rfl (by decide +kernel) rfl w_6_228 w_6_230 w_p3_13 w_1_13 w_6_231 (by decide +kernel) ?_
  refine s_iadd C (by decide +kernel) ?_
  refine s_istore (k := 5) C (by decide +kernel) ?_
  refine s_iload (k := 4) C (by decide +kernel) ?_
  refine s_iconst (n := 1) C (by decide +kernel) (by decide) ?_
  refine s_icmp_ne (off := 17) (tgt := 56) C (by decide +kernel) (by decide) (fun _ _ _ _ _ _ h => h) ?_
  refine s_aload_n (k := 0) C (by decide +kernel) ?_
  refine s_iload_n (k := 1) C (by decide +kernel) ?_
  refine s_iload (k := 5) C (by decide +kernel) ?_
  refine s_aload_n (k := 0) C (by decide +kernel) ?_
  refine s_iload_n (k := 1) C (by decide +kernel) ?_
  refine s_iload_n (k := 3) C (by decide +kernel) ?_
  refine s_iconst (n := 3) C (by decide +kernel) (by decide) ?_
  refine s_callV C rfl rfl (by decide +kernel) rfl w_6_228 w_6_230 w_p3_13 w_1_13 w_6_231 (by decide +kernel) ?_
  refine s_callV C rfl rfl (by decide +kernel) rfl w_6_82 w_6_84 w_p3_4 w_1_13 w_6_85 (by decide +kernel) ?_
  exact (fun _ _ _ _ _ _ h => h)
set_option maxRecDepth 20000 in
theorem b_X12_does_56 {Z : Zt} {d : Nat} {p : Program} {e : Env} {R : Room} {s : State} {m : MethodId} {args : Array Value} {below : List Frame} {meth : Method} {c : Code} {Rp : RT} (C : Cx Z d jX12_does RX12 p R s m args meth c) : Sd Z jX12_does p e R s m args below meth c (MQ below (QcS Z Rp) args s 0 0 (fun a => Z.2.2.1 < a)) 56 (w_X12_does_56 (MS Z d) (Gw Z 7 p e R s m args below meth c (MQ below (QcS Z Rp) args s 0 0 (fun a => Z.2.2.1 < a))) Rp) := by
  unfold w_X12_does_56
  refine s_iload (k := 4) C (by decide +kernel) ?_
  refine s_iconst (n := 2) C (by decide +kernel) (by decide) ?_
  refine s_icmp_ne (off := 25) (tgt := 84) C (by decide +kernel) (by decide) (fun _ _ _ _ _ _ h => h) ?_
  refine s_aload_n (k := 0) C (by decide +kernel) ?_
  refine s_iload_n (k := 1) C (by decide +kernel) ?_
  refine s_iload (k := 5) C (by decide +kernel) ?_
  refine s_aload_n (k := 0) C (by decide +kernel) ?_
  refine s_iload_n (k := 1) C (by decide +kernel) ?_
  refine s_iload (k := 5) C (by decide +kernel) ?_
  refine s_callV C rfl rfl (by decide +kernel) rfl w_6_220 w_6_222 w_p3_11 w_1_13 w_6_223 (by decide +kernel) ?_
  refine s_aload_n (k := 0) C (by decide +kernel) ?_
  refine s_iload_n (k := 1) C (by decide +kernel) ?_
  refine s_iload_n (k := 3) C (by decide +kernel) ?_
  refine s_iconst (n := 3) C (by decide +kernel) (by decide) ?_
  refine s_callV C rfl rfl (by decide +kernel) rfl w_6_228 w_6_230 w_p3_13 w_1_13 w_6_231 (by decide +kernel) ?_
  refine s_iadd C (by decide +kernel) ?_
  refine s_callV C rfl rfl (by decide +kernel) rfl w_6_82 w_6_84 w_p3_4 w_1_13 w_6_85 (by decide +kernel) ?_
  exact (fun _ _ _ _ _ _ h => h)
set_option maxRecDepth 20000 in
theorem b_X12_does_84 {Z : Zt} {d : Nat} {p : Program} {e : Env} {R : Room} {s : State} {m : MethodId} {args : Array Value} {below : List Frame} {meth : Method} {c : Code} {Rp : RT} (C : Cx Z d jX12_does RX12 p R s m args meth c) : Sd Z jX12_does p e R s m args below meth c (MQ below (QcS Z Rp) args s 0 0 (fun a => Z.2.2.1 < a)) 84 (w_X12_does_84 (MS Z d) (Gw Z 7 p e R s m args below meth c (MQ below (QcS Z Rp) args s 0 0 (fun a => Z.2.2.1 < a))) Rp) := by
  unfold w_X12_does_84
  refine s_sipush (n := 3830) C (by decide +kernel) (by decide) ?_
  refine s_iconst (n := 4) C (by decide +kernel) (by decide) ?_
  refine s_iload_n (k := 3) C (by decide +kernel) ?_
  refine s_iconst (n := 1) C (by decide +kernel) (by decide) ?_
  refine s_isub C (by decide +kernel) ?_
  refine s_imul C (by decide +kernel) ?_
  refine s_iadd C (by decide +kernel) ?_
  refine s_istore (k := 6) C (by decide +kernel) ?_
  refine s_aload_n (k := 0) C (by decide +kernel) ?_
  refine s_getR C w_6_88 (by decide +kernel) rfl ?_
  refine s_iload (k := 6) C (by decide +kernel) ?_
  refine s_iald C (by decide +kernel) ?_
  refine s_if_ne (off := 31) (tgt := 133) C (by decide +kernel) (by decide) (fun _ _ _ _ _ _ h => h) ?_
  refine s_aload_n (k := 0) C (by decide +kernel) ?_
  refine s_getR C w_6_88 (by decide +kernel) rfl ?_
  refine s_sipush (n := 514) C (by decide +kernel) (by decide) ?_
  refine s_iload_n (k := 1) C (by decide +kernel) ?_
  refine s_imul C (by decide +kernel) ?_
  refine s_bipush (n := 34) C (by decide +kernel) (by decide) ?_
  refine s_iadd C (by decide +kernel) ?_
  refine s_iconst (n := 4) C (by decide +kernel) (by decide) ?_
  refine s_iload_n (k := 3) C (by decide +kernel) ?_
  refine s_iconst (n := 1) C (by decide +kernel) (by decide) ?_
  refine s_isub C (by decide +kernel) ?_
  refine s_imul C (by decide +kernel) ?_
  refine s_iadd C (by decide +kernel) ?_
  refine s_aload_n (k := 0) C (by decide +kernel) ?_
  refine s_getR C w_6_88 (by decide +kernel) rfl ?_
  refine s_iload (k := 6) C (by decide +kernel) ?_
  refine s_iconst (n := 4) C (by decide +kernel) (by decide) ?_
  refine s_callS C (by decide +kernel) rfl w_6_182 w_6_183 w_1_13 w_6_184 (by decide +kernel) ?_
  exact (fun _ _ _ _ _ _ h => h)
set_option maxRecDepth 20000 in
theorem b_X12_does_133 {Z : Zt} {d : Nat} {p : Program} {e : Env} {R : Room} {s : State} {m : MethodId} {args : Array Value} {below : List Frame} {meth : Method} {c : Code} {Rp : RT} (C : Cx Z d jX12_does RX12 p R s m args meth c) : Sd Z jX12_does p e R s m args below meth c (MQ below (QcS Z Rp) args s 0 0 (fun a => Z.2.2.1 < a)) 133 (w_X12_does_133 (MS Z d) (Gw Z 7 p e R s m args below meth c (MQ below (QcS Z Rp) args s 0 0 (fun a => Z.2.2.1 < a))) Rp) := by
  unfold w_X12_does_133
  refine s_iinc (n := 1) C (by decide +kernel) (by decide) ?_
  exact s_goto (off := (-126)) (tgt := 10) C (by decide +kernel) (by decide) (fun _ _ _ _ _ _ h => h)
set_option maxRecDepth 20000 in
theorem b_X12_does_139 {Z : Zt} {d : Nat} {p : Program} {e : Env} {R : Room} {s : State} {m : MethodId} {args : Array Value} {below : List Frame} {meth : Method} {c : Code} {Rp : RT} (C : Cx Z d jX12_does RX12 p R s m args meth c) : Sd Z jX12_does p e R s m args below meth c (MQ below (QcS Z Rp) args s 0 0 (fun a => Z.2.2.1 < a)) 139 (w_X12_does_139 (MS Z d) (Gw Z 7 p e R s m args below meth c (MQ below (QcS Z Rp) args s 0 0 (fun a => Z.2.2.1 < a))) Rp) := by
  unfold w_X12_does_139
  refine s_aload_n (k := 0) C (by decide +kernel) ?_
  refine s_iload_n (k := 1) C (by decide +kernel) ?_
  refine s_bipush (n := 7) C (by decide +kernel) (by decide) ?_
  refine s_iload_n (k := 2) C (by decide +kernel) ?_
  refine s_aload_n (k := 0) C (by decide +kernel) ?_
  refine s_iload_n (k := 1) C (by decide +kernel) ?_
  refine s_bipush (n := 7) C (by decide +kernel) (by decide) ?_
  refine s_callV C rfl rfl (by decide +kernel) rfl w_6_220 w_6_222 w_p3_11 w_1_13 w_6_223 (by decide +kernel) ?_
  refine s_callS C (by decide +kernel) rfl w_7_58 w_7_59 w_1_13 w_7_60 (by decide +kernel) ?_
  refine s_callV C rfl rfl (by decide +kernel) rfl w_6_82 w_6_84 w_p3_4 w_1_13 w_6_85 (by decide +kernel) ?_
  exact s_vret C rfl (by decide +kernel)
theorem ms_X12_does {Z : Zt} {d : Nat} {S : Sh} {μ : Mi} {ρ : Mr} {Rp : RT} (a0 : Nat) (x1 : Int32) (x2 : Int32) (h : ∀ G : Nat → PT, (∀ (L st : List Value) (S : Sh) (q : Nat × Nat) (μ : Mi) (ρ : Mr), w_X12_does_10 (MS Z d) G Rp L st S q μ ρ → G 10 L st S q μ ρ) → (∀ (L st : List Value) (S : Sh) (q : Nat × Nat) (μ : Mi) (ρ : Mr), w_X12_does_56 (MS Z d) G Rp L st S q μ ρ → G 56 L st S q μ ρ) → (∀ (L st : List Value) (S : Sh) (q : Nat × Nat) (μ : Mi) (ρ : Mr), w_X12_does_84 (MS Z d) G Rp L st S q μ ρ → G 84 L st S q μ ρ) → (∀ (L st : List Value) (S : Sh) (q : Nat × Nat) (μ : Mi) (ρ : Mr), w_X12_does_133 (MS Z d) G Rp L st S q μ ρ → G 133 L st S q μ ρ) → (∀ (L st : List Value) (S : Sh) (q : Nat × Nat) (μ : Mi) (ρ : Mr), w_X12_does_139 (MS Z d) G Rp L st S q μ ρ → G 139 L st S q μ ρ) → w_X12_does_0 (MS Z d) G Rp [.ref a0, .int x1, .int x2, .null, .null, .null, .null] [] S (0, 0) μ ρ) : MS Z (d + 1) jX12_does [.ref a0, .int x1, .int x2] S μ ρ Rp :=
  MS_of [.ref a0, .int x1, .int x2, .null, .null, .null, .null] (by decide +kernel) rfl rfl (Nat.le_of_ble_eq_true rfl) rfl (fun p e R s m args below meth c C => b_X12_does_0 C _ _ _ _ _ _ (h _ (b_X12_does_10 C) (b_X12_does_56 C) (b_X12_does_84 C) (b_X12_does_133 C) (b_X12_does_139 C)))
def w_X12_having_0 (M : CT) (G : Nat → PT) (Rp : RT) : PT := tConst 1 <| tIload 1 <| tBin (fun x y => x <<< (y &&& 31)) <| tIstore 3 <| tConst 0 <| tIstore 4 <| G 7
def w_X12_having_7 (M : CT) (G : Nat → PT) (Rp : RT) : PT := tIload 4 <| tConst 5 <| tIf2 (fun x y => y ≤ x) (G 50) <| tIload 3 <| tIload 4 <| tIload 1 <| tIf2 (fun x y => x = y) (G 41) <| tAload 0 <| tIload 1 <| tConst 29 <| tIload 4 <| tBin (fun x y => x + y) <| tCallV M jX12_of 12 27 2 <| tIload 2 <| tIf2 (fun x y => x < y) (G 41) <| tConst 1 <| tIload 4 <| tBin (fun x y => x <<< (y &&& 31)) <| tGoto (G 42)
def w_X12_having_41 (M : CT) (G : Nat → PT) (Rp : RT) : PT := tConst 0 <| G 42
def w_X12_having_42 (M : CT) (G : Nat → PT) (Rp : RT) : PT := tBin (fun x y => x ||| y) <| tIstore 3 <| tIinc 4 1 <| tGoto (G 7)
def w_X12_having_50 (M : CT) (G : Nat → PT) (Rp : RT) : PT := tIload 3 <| tIret Rp
set_option maxRecDepth 20000 in
theorem b_X12_having_0 {Z : Zt} {d : Nat} {p : Program} {e : Env} {R : Room} {s : State} {m : MethodId} {args : Array Value} {below : List Frame} {meth : Method} {c : Code} {Rp : RT} (C : Cx Z d jX12_having RX12 p R s m args meth c) : Sd Z jX12_having p e R s m args below meth c (MQ below (QcS Z Rp) args s 0 0 (fun a => Z.2.2.1 < a)) 0 (w_X12_having_0 (MS Z d) (Gw Z 5 p e R s m args below meth c (MQ below (QcS Z Rp) args s 0 0 (fun a => Z.2.2.1 < a))) Rp) := by
  unfold w_X12_having_0
  refine s_iconst (n := 1) C (by decide +kernel) (by decide) ?_
  refine s_iload_n (k := 1) C (by decide +kernel) ?_
  refine s_ishl C (by decide +kernel) ?_
  refine s_istore_n (k := 3) C (by decide +kernel) ?_
  refine s_iconst (n := 0) C (by decide +kernel) (by decide) ?_
  refine s_istore (k := 4) C (by decide +kernel) ?_
  exact (fun _ _ _ _ _ _ h => h)
set_option maxRecDepth 20000 in
theorem b_X12_having_7 {Z : Zt} {d : Nat} {p : Program} {e : Env} {R : Room} {s : State} {m : MethodId} {args : Array Value} {below : List Frame} {meth : Method} {c : Code} {Rp : RT} (C : Cx Z d jX12_having RX12 p R s m args meth c) : Sd Z jX12_having p e R s m args below meth c (MQ below (QcS Z Rp) args s 0 0 (fun a => Z.2.2.1 < a)) 7 (w_X12_having_7 (MS Z d) (Gw Z 5 p e R s m args below meth c (MQ below (QcS Z Rp) args s 0 0 (fun a => Z.2.2.1 < a))) Rp) := by
  unfold w_X12_having_7
  refine s_iload (k := 4) C (by decide +kernel) ?_
  refine s_iconst (n := 5) C (by decide +kernel) (by decide) ?_
  refine s_icmp_ge (off := 40) (tgt := 50) C (by decide +kernel) (by decide) (fun _ _ _ _ _ _ h => h) ?_
  refine s_iload_n (k := 3) C (by decide +kernel) ?_
  refine s_iload (k := 4) C (by decide +kernel) ?_
  refine s_iload_n (k := 1) C (by decide +kernel) ?_
  refine s_icmp_eq (off := 24) (tgt := 41) C (by decide +kernel) (by decide) (fun _ _ _ _ _ _ h => h) ?_
  refine s_aload_n (k := 0) C (by decide +kernel) ?_
  refine s_iload_n (k := 1) C (by decide +kernel) ?_
  refine s_bipush (n := 29) C (by decide +kernel) (by decide) ?_
  refine s_iload (k := 4) C (by decide +kernel) ?_
  refine s_iadd C (by decide +kernel) ?_
  refine s_callV C rfl rfl (by decide +kernel) rfl w_6_220 w_6_222 w_p3_11 w_1_13 w_6_223 (by decide +kernel) ?_
  refine s_iload_n (k := 2) C (by decide +kernel) ?_
  refine s_icmp_lt (off := 10) (tgt := 41) C (by decide +kernel) (by decide) (fun _ _ _ _ _ _ h => h) ?_
  refine s_iconst (n := 1) C (by decide +kernel) (by decide) ?_
  refine s_iload (k := 4) C (by decide +kernel) ?_
  refine s_ishl C (by decide +kernel) ?_
  exact s_goto (off := 4) (tgt := 42) C (by decide +kernel) (by decide) (fun _ _ _ _ _ _ h => h)
set_option maxRecDepth 20000 in
theorem b_X12_having_41 {Z : Zt} {d : Nat} {p : Program} {e : Env} {R : Room} {s : State} {m : MethodId} {args : Array Value} {below : List Frame} {meth : Method} {c : Code} {Rp : RT} (C : Cx Z d jX12_having RX12 p R s m args meth c) : Sd Z jX12_having p e R s m args below meth c (MQ below (QcS Z Rp) args s 0 0 (fun a => Z.2.2.1 < a)) 41 (w_X12_having_41 (MS Z d) (Gw Z 5 p e R s m args below meth c (MQ below (QcS Z Rp) args s 0 0 (fun a => Z.2.2.1 < a))) Rp) := by
  unfold w_X12_having_41
  refine s_iconst (n := 0) C (by decide +kernel) (by decide) ?_
  exact (fun _ _ _ _ _ _ h => h)
set_option maxRecDepth 20000 in
theorem b_X12_having_42 {Z : Zt} {d : Nat} {p : Program} {e : Env} {R : Room} {s : State} {m : MethodId} {args : Array Value} {below : List Frame} {meth : Method} {c : Code} {Rp : RT} (C : Cx Z d jX12_having RX12 p R s m args meth c) : Sd Z jX12_having p e R s m args below meth c (MQ below (QcS Z Rp) args s 0 0 (fun a => Z.2.2.1 < a)) 42 (w_X12_having_42 (MS Z d) (Gw Z 5 p e R s m args below meth c (MQ below (QcS Z Rp) args s 0 0 (fun a => Z.2.2.1 < a))) Rp) := by
  unfold w_X12_having_42
  refine s_ior C (by decide +kernel) ?_
  refine s_istore_n (k := 3) C (by decide +kernel) ?_
  refine s_iinc (n := 1) C (by decide +kernel) (by decide) ?_
  exact s_goto (off := (-40)) (tgt := 7) C (by decide +kernel) (by decide) (fun _ _ _ _ _ _ h => h)
set_option maxRecDepth 20000 in
theorem b_X12_having_50 {Z : Zt} {d : Nat} {p : Program} {e : Env} {R : Room} {s : State} {m : MethodId} {args : Array Value} {below : List Frame} {meth : Method} {c : Code} {Rp : RT} (C : Cx Z d jX12_having RX12 p R s m args meth c) : Sd Z jX12_having p e R s m args below meth c (MQ below (QcS Z Rp) args s 0 0 (fun a => Z.2.2.1 < a)) 50 (w_X12_having_50 (MS Z d) (Gw Z 5 p e R s m args below meth c (MQ below (QcS Z Rp) args s 0 0 (fun a => Z.2.2.1 < a))) Rp) := by
  unfold w_X12_having_50
  refine s_iload_n (k := 3) C (by decide +kernel) ?_
  exact s_iret C rfl (by decide +kernel)
theorem ms_X12_having {Z : Zt} {d : Nat} {S : Sh} {μ : Mi} {ρ : Mr} {Rp : RT} (a0 : Nat) (x1 : Int32) (x2 : Int32) (h : ∀ G : Nat → PT, (∀ (L st : List Value) (S : Sh) (q : Nat × Nat) (μ : Mi) (ρ : Mr), w_X12_having_7 (MS Z d) G Rp L st S q μ ρ → G 7 L st S q μ ρ) → (∀ (L st : List Value) (S : Sh) (q : Nat × Nat) (μ : Mi) (ρ : Mr), w_X12_having_41 (MS Z d) G Rp L st S q μ ρ → G 41 L st S q μ ρ) → (∀ (L st : List Value) (S : Sh) (q : Nat × Nat) (μ : Mi) (ρ : Mr), w_X12_having_42 (MS Z d) G Rp L st S q μ ρ → G 42 L st S q μ ρ) → (∀ (L st : List Value) (S : Sh) (q : Nat × Nat) (μ : Mi) (ρ : Mr), w_X12_having_50 (MS Z d) G Rp L st S q μ ρ → G 50 L st S q μ ρ) → w_X12_having_0 (MS Z d) G Rp [.ref a0, .int x1, .int x2, .null, .null] [] S (0, 0) μ ρ) : MS Z (d + 1) jX12_having [.ref a0, .int x1, .int x2] S μ ρ Rp :=
  MS_of [.ref a0, .int x1, .int x2, .null, .null] (by decide +kernel) rfl rfl (Nat.le_of_ble_eq_true rfl) rfl (fun p e R s m args below meth c C => b_X12_having_0 C _ _ _ _ _ _ (h _ (b_X12_having_7 C) (b_X12_having_41 C) (b_X12_having_42 C) (b_X12_having_50 C)))
def w_X12_agrees_0 (M : CT) (G : Nat → PT) (Rp : RT) : PT := tAload 0 <| tIload 1 <| tCallV M jX12_laysMembers 12 27 1 <| tAload 0 <| tIload 1 <| tConst 4 <| tCallV M jX12_of 12 27 2 <| tIstore 2 <| G 12
def w_X12_agrees_12 (M : CT) (G : Nat → PT) (Rp : RT) : PT := tIload 2 <| tAload 0 <| tIload 1 <| tConst 7 <| tCallV M jX12_of 12 27 2 <| tIf2 (fun x y => x ≤ y) (G 58) <| tAload 0 <| tIload 1 <| tIload 2 <| tConst 0 <| tCallV M jX12_ofEntry 12 27 3 <| tAload 0 <| tIload 1 <| tConst 1 <| tCallV M jX12_of 12 27 2 <| tIf2 (fun x y => x ≠ y) (G 52) <| tAload 0 <| tAload 0 <| tIload 1 <| tIload 2 <| tCallV M jX12_having 12 27 2 <| tCallV M jX12_isMajority 12 27 1 <| tIf (fun x => x ≠ 0) (G 58) <| G 52
def w_X12_agrees_52 (M : CT) (G : Nat → PT) (Rp : RT) : PT := tIinc 2 (-1) <| tGoto (G 12)
def w_X12_agrees_58 (M : CT) (G : Nat → PT) (Rp : RT) : PT := tAload 0 <| tIload 1 <| tIload 2 <| tCallV M jX12_does 12 27 2 <| tAload 0 <| tGetI 12 27 9 <| tIf (fun x => x = 0) (G 123) <| tAload 0 <| tGetI 12 27 11 <| tAload 0 <| tIload 1 <| tConst 7 <| tCallV M jX12_of 12 27 2 <| tIf2 (fun x y => y < x) (G 123) <| tAload 0 <| tIload 1 <| tConst 4 <| tCallV M jX12_of 12 27 2 <| tConst 120 <| tIf2 (fun x y => y ≤ x) (G 123) <| tAload 0 <| tIload 1 <| tAload 0 <| tIload 1 <| tConst 1 <| tCallV M jX12_of 12 27 2 <| tConst 4 <| tAload 0 <| tGetI 12 27 9 <| tConst 0 <| tCallV M jX12_comesToLog 12 27 5 <| tAload 0 <| tIload 1 <| tCallV M jX12_feedsAll 12 27 1 <| tAload 0 <| tIload 1 <| tCallV M jX12_agrees 12 27 1 <| G 123
def w_X12_agrees_123 (M : CT) (G : Nat → PT) (Rp : RT) : PT := tAload 0 <| tIload 1 <| tCallV M jX12_laysMembers 12 27 1 <| tAload 0 <| tGetI 12 27 9 <| tIf (fun x => x ≠ 0) (G 166) <| tAload 0 <| tGetI 12 27 11 <| tAload 0 <| tIload 1 <| tConst 7 <| tCallV M jX12_of 12 27 2 <| tIf2 (fun x y => y < x) (G 166) <| tAload 0 <| tGetI 12 27 8 <| tIload 1 <| tCallS M jX12_has 2 <| tIf (fun x => x ≠ 0) (G 166) <| tAload 0 <| tIload 1 <| tConst 0 <| tCallV M jX12_plays 12 27 2 <| G 166
def w_X12_agrees_166 (M : CT) (G : Nat → PT) (Rp : RT) : PT := tVret Rp
set_option maxRecDepth 20000 in
theorem b_X12_agrees_0 {Z : Zt} {d : Nat} {p : Program} {e : Env} {R : Room} {s : State} {m : MethodId} {args : Array Value} {below : List Frame} {meth : Method} {c : Code} {Rp : RT} (C : Cx Z d jX12_agrees RX12 p R s m args meth c) : Sd Z jX12_agrees p e R s m args below meth c (MQ below (QcS Z Rp) args s 0 0 (fun a => Z.2.2.1 < a)) 0 (w_X12_agrees_0 (MS Z d) (Gw Z 3 p e R s m args below meth c (MQ below (QcS Z Rp) args s 0 0 (fun a => Z.2.2.1 < a))) Rp) := by
  unfold w_X12_agrees_0
  refine s_aload_n (k := 0) C (by decide +kernel) ?_
  refine s_iload_n (k := 1) C (by decide +kernel) ?_
  refine s_callV C rfl rfl (by decide +kernel) rfl w_6_216 w_6_218 w_p3_10 w_1_13 w_6_219 (by decide +kernel) ?_
  refine s_aload_n (k := 0) C (by decide +kernel) ?_
  refine s_iload_n (k := 1) C (by decide +kernel) ?_
  refine s_iconst (n := 4) C (by decide +kernel) (by decide) ?_
  refine s_callV C rfl rfl (by decide +kernel) rfl w_6_220 w_6_222 w_p3_11 w_1_13 w_6_223 (by decide +kernel) ?_
  refine s_istore_n (k := 2) C (by decide +kernel) ?_
  exact (fun _ _ _ _ _ _ h => h)
set_option maxRecDepth 20000 in
theorem b_X12_agrees_12 {Z : Zt} {d : Nat} {p : Program} {e : Env} {R : Room} {s : State} {m : MethodId} {args : Array Value} {below : List Frame} {meth : Method} {c : Code} {Rp : RT} (C : Cx Z d jX12_agrees RX12 p R s m args meth c) : Sd Z jX12_agrees p e R s m args below meth c (MQ below (QcS Z Rp) args s 0 0 (fun a => Z.2.2.1 < a)) 12 (w_X12_agrees_12 (MS Z d) (Gw Z 3 p e R s m args below meth c (MQ below (QcS Z Rp) args s 0 0 (fun a => Z.2.2.1 < a))) Rp) := by
  unfold w_X12_agrees_12
  refine s_iload_n (k := 2) C (by decide +kernel) ?_
  refine s_aload_n (k := 0) C (by decide +kernel) ?_
  refine s_iload_n (k := 1) C (by decide +kernel) ?_
  refine s_bipush (n := 7) C (by decide +kernel) (by decide) ?_
  refine s_callV C rfl rfl (by decide +kernel) rfl w_6_220 w_6_222 w_p3_11 w_1_13 w_6_223 (by decide +kernel) ?_
  refine s_icmp_le (off := 38) (tgt := 58) C (by decide +kernel) (by decide) (fun _ _ _ _ _ _ h => h) ?_
  refine s_aload_n (k := 0) C (by decide +kernel) ?_
  refine s_iload_n (k := 1) C (by decide +kernel) ?_
  refine s_iload_n (k := 2) C (by decide +kernel) ?_
  refine s_iconst (n := 0) C (by decide +kernel) (by decide) ?_
  refine s_callV C rfl rfl (by decide +kernel) rfl w_6_228 w_6_230 w_p3_13 w_1_13 w_6_231 (by decide +kernel) ?_
  refine s_aload_n (k := 0) C (by decide +kernel) ?_
  refine s_iload_n (k := 1) C (by decide +kernel) ?_
  refine s_iconst (n := 1) C (by decide +kernel) (by decide) ?_
  refine s_callV C rfl rfl (by decide +kernel) rfl w_6_220 w_6_222 w_p3_11 w_1_13 w_6_223 (by decide +kernel) ?_
  refine s_icmp_ne (off := 16) (tgt := 52) C (by decide +kernel) (by decide) (fun _ _ _ _ _ _ h => h) ?_
  refine s_aload_n (k := 0) C (by decide +kernel) ?_
  refine s_aload_n (k := 0) C (by decide +kernel) ?_
  refine s_iload_n (k := 1) C (by decide +kernel) ?_
  refine s_iload_n (k := 2) C (by decide +kernel) ?_
  refine s_callV C rfl rfl (by decide +kernel) rfl w_7_65 w_7_67 w_p4_14 w_1_13 w_7_68 (by decide +kernel) ?_
  refine s_callV C rfl rfl (by decide +kernel) rfl w_7_35 w_7_37 w_p4_8 w_1_13 w_7_38 (by decide +kernel) ?_
  refine s_if_ne (off := 9) (tgt := 58) C (by decide +kernel) (by decide) (fun _ _ _ _ _ _ h => h) ?_
  exact (fun _ _ _ _ _ _ h => h)
set_option maxRecDepth 20000 in
theorem b_X12_agrees_52 {Z : Zt} {d : Nat} {p : Program} {e : Env} {R : Room} {s : State} {m : MethodId} {args : Array Value} {below : List Frame} {meth : Method} {c : Code} {Rp : RT} (C : Cx Z d jX12_agrees RX12 p R s m args meth c) : Sd Z jX12_agrees p e R s m args below meth c (MQ below (QcS Z Rp) args s 0 0 (fun a => Z.2.2.1 < a)) 52 (w_X12_agrees_52 (MS Z d) (Gw Z 3 p e R s m args below meth c (MQ below (QcS Z Rp) args s 0 0 (fun a => Z.2.2.1 < a))) Rp) := by
  unfold w_X12_agrees_52
  refine s_iinc (n := (-1)) C (by decide +kernel) (by decide) ?_
  exact s_goto (off := (-43)) (tgt := 12) C (by decide +kernel) (by decide) (fun _ _ _ _ _ _ h => h)
set_option maxRecDepth 20000 in
theorem b_X12_agrees_58 {Z : Zt} {d : Nat} {p : Program} {e : Env} {R : Room} {s : State} {m : MethodId} {args : Array Value} {below : List Frame} {meth : Method} {c : Code} {Rp : RT} (C : Cx Z d jX12_agrees RX12 p R s m args meth c) : Sd Z jX12_agrees p e R s m args below meth c (MQ below (QcS Z Rp) args s 0 0 (fun a => Z.2.2.1 < a)) 58 (w_X12_agrees_58 (MS Z d) (Gw Z 3 p e R s m args below meth c (MQ below (QcS Z Rp) args s 0 0 (fun a => Z.2.2.1 < a))) Rp) := by
  unfold w_X12_agrees_58
  refine s_aload_n (k := 0) C (by decide +kernel) ?_
  refine s_iload_n (k := 1) C (by decide +kernel) ?_
  refine s_iload_n (k := 2) C (by decide +kernel) ?_
  refine s_callV C rfl rfl (by decide +kernel) rfl w_7_69 w_7_71 w_p4_15 w_1_13 w_7_72 (by decide +kernel) ?_
  refine s_aload_n (k := 0) C (by decide +kernel) ?_
  refine s_getI C w_6_96 (by decide +kernel) rfl ?_
  refine s_if_eq (off := 55) (tgt := 123) C (by decide +kernel) (by decide) (fun _ _ _ _ _ _ h => h) ?_
  refine s_aload_n (k := 0) C (by decide +kernel) ?_
  refine s_getI C w_6_98 (by decide +kernel) rfl ?_
  refine s_aload_n (k := 0) C (by decide +kernel) ?_
  refine s_iload_n (k := 1) C (by decide +kernel) ?_
  refine s_bipush (n := 7) C (by decide +kernel) (by decide) ?_
  refine s_callV C rfl rfl (by decide +kernel) rfl w_6_220 w_6_222 w_p3_11 w_1_13 w_6_223 (by decide +kernel) ?_
  refine s_icmp_gt (off := 41) (tgt := 123) C (by decide +kernel) (by decide) (fun _ _ _ _ _ _ h => h) ?_
  refine s_aload_n (k := 0) C (by decide +kernel) ?_
  refine s_iload_n (k := 1) C (by decide +kernel) ?_
  refine s_iconst (n := 4) C (by decide +kernel) (by decide) ?_
  refine s_callV C rfl rfl (by decide +kernel) rfl w_6_220 w_6_222 w_p3_11 w_1_13 w_6_223 (by decide +kernel) ?_
  refine s_bipush (n := 120) C (by decide +kernel) (by decide) ?_
  refine s_icmp_ge (off := 30) (tgt := 123) C (by decide +kernel) (by decide) (fun _ _ _ _ _ _ h => h) ?_
  refine s_aload_n (k := 0) C (by decide +kernel) ?_
  refine s_iload_n (k := 1) C (by decide +kernel) ?_
  refine s_aload_n (k := 0) C (by decide +kernel) ?_
  refine s_iload_n (k := 1) C (by decide +kernel) ?_
  refine s_iconst (n := 1) C (by decide +kernel) (by decide) ?_
  refine s_callV C rfl rfl (by decide +kernel) rfl w_6_220 w_6_222 w_p3_11 w_1_13 w_6_223 (by decide +kernel) ?_
  refine s_iconst (n := 4) C (by decide +kernel) (by decide) ?_
  refine s_aload_n (k := 0) C (by decide +kernel) ?_
  refine s_getI C w_6_96 (by decide +kernel) rfl ?_
  refine s_iconst (n := 0) C (by decide +kernel) (by decide) ?_
  refine s_callV C rfl rfl (by decide +kernel) rfl w_7_43 w_7_45 w_p4_10 w_1_13 w_7_46 (by decide +kernel) ?_
  refine s_aload_n (k := 0) C (by decide +kernel) ?_
  refine s_iload_n (k := 1) C (by decide +kernel) ?_
  refine s_callV C rfl rfl (by decide +kernel) rfl w_7_47 w_7_49 w_p4_11 w_1_13 w_7_50 (by decide +kernel) ?_
  refine s_aload_n (k := 0) C (by decide +kernel) ?_
  refine s_iload_n (k := 1) C (by decide +kernel) ?_
  refine s_callV C rfl rfl (by decide +kernel) rfl w_7_61 w_7_63 w_p4_13 w_1_13 w_7_64 (by decide +kernel) ?_
  exact (fun _ _ _ _ _ _ h => h)
set_option maxRecDepth 20000 in
theorem b_X12_agrees_123 {Z : Zt} {d : Nat} {p : Program} {e : Env} {R : Room} {s : State} {m : MethodId} {args : Array Value} {below : List Frame} {meth : Method} {c : Code} {Rp : RT} (C : Cx Z d jX12_agrees RX12 p R s m args meth c) : Sd Z jX12_agrees p e R s m args below meth c (MQ below (QcS Z Rp) args s 0 0 (fun a => Z.2.2.1 < a)) 123 (w_X12_agrees_123 (MS Z d) (Gw Z 3 p e R s m args below meth c (MQ below (QcS Z Rp) args s 0 0 (fun a => Z.2.2.1 < a))) Rp) := by
  unfold w_X12_agrees_123
  refine s_aload_n (k := 0) C (by decide +kernel) ?_
  refine s_iload_n (k := 1) C (by decide +kernel) ?_
  refine s_callV C rfl rfl (by decide +kernel) rfl w_6_216 w_6_218 w_p3_10 w_1_13 w_6_219 (by decide +kernel) ?_
  refine s_aload_n (k := 0) C (by decide +kernel) ?_
  refine s_getI C w_6_96 (by decide +kernel) rfl ?_
  refine s_if_ne (off := 34) (tgt := 166) C (by decide +kernel) (by decide) (fun _ _ _ _ _ _ h => h) ?_
  refine s_aload_n (k := 0) C (by decide +kernel) ?_
  refine s_getI C w_6_98 (by decide +kernel) rfl ?_
  refine s_aload_n (k := 0) C (by decide +kernel) ?_
  refine s_iload_n (k := 1) C (by decide +kernel) ?_
  refine s_bipush (n := 7) C (by decide +kernel) (by decide) ?_
  refine s_callV C rfl rfl (by decide +kernel) rfl w_6_220 w_6_222 w_p3_11 w_1_13 w_6_223 (by decide +kernel) ?_
  refine s_icmp_gt (off := 20) (tgt := 166) C (by decide +kernel) (by decide) (fun _ _ _ _ _ _ h => h) ?_
  refine s_aload_n (k := 0) C (by decide +kernel) ?_
  refine s_getI C w_6_95 (by decide +kernel) rfl ?_
  refine s_iload_n (k := 1) C (by decide +kernel) ?_
  refine s_callS C (by decide +kernel) rfl w_7_0 w_7_1 w_1_13 w_7_2 (by decide +kernel) ?_
  refine s_if_ne (off := 9) (tgt := 166) C (by decide +kernel) (by decide) (fun _ _ _ _ _ _ h => h) ?_
  refine s_aload_n (k := 0) C (by decide +kernel) ?_
  refine s_iload_n (k := 1) C (by decide +kernel) ?_
  refine s_iconst (n := 0) C (by decide +kernel) (by decide) ?_
  refine s_callV C rfl rfl (by decide +kernel) rfl w_7_11 w_7_13 w_p4_2 w_1_13 w_7_14 (by decide +kernel) ?_
  exact (fun _ _ _ _ _ _ h => h)
set_option maxRecDepth 20000 in
theorem b_X12_agrees_166 {Z : Zt} {d : Nat} {p : Program} {e : Env} {R : Room} {s : State} {m : MethodId} {args : Array Value} {below : List Frame} {meth : Method} {c : Code} {Rp : RT} (C : Cx Z d jX12_agrees RX12 p R s m args meth c) : Sd Z jX12_agrees p e R s m args below meth c (MQ below (QcS Z Rp) args s 0 0 (fun a => Z.2.2.1 < a)) 166 (w_X12_agrees_166 (MS Z d) (Gw Z 3 p e R s m args below meth c (MQ below (QcS Z Rp) args s 0 0 (fun a => Z.2.2.1 < a))) Rp) := by
  unfold w_X12_agrees_166
  exact s_vret C rfl (by decide +kernel)
theorem ms_X12_agrees {Z : Zt} {d : Nat} {S : Sh} {μ : Mi} {ρ : Mr} {Rp : RT} (a0 : Nat) (x1 : Int32) (h : ∀ G : Nat → PT, (∀ (L st : List Value) (S : Sh) (q : Nat × Nat) (μ : Mi) (ρ : Mr), w_X12_agrees_12 (MS Z d) G Rp L st S q μ ρ → G 12 L st S q μ ρ) → (∀ (L st : List Value) (S : Sh) (q : Nat × Nat) (μ : Mi) (ρ : Mr), w_X12_agrees_52 (MS Z d) G Rp L st S q μ ρ → G 52 L st S q μ ρ) → (∀ (L st : List Value) (S : Sh) (q : Nat × Nat) (μ : Mi) (ρ : Mr), w_X12_agrees_58 (MS Z d) G Rp L st S q μ ρ → G 58 L st S q μ ρ) → (∀ (L st : List Value) (S : Sh) (q : Nat × Nat) (μ : Mi) (ρ : Mr), w_X12_agrees_123 (MS Z d) G Rp L st S q μ ρ → G 123 L st S q μ ρ) → (∀ (L st : List Value) (S : Sh) (q : Nat × Nat) (μ : Mi) (ρ : Mr), w_X12_agrees_166 (MS Z d) G Rp L st S q μ ρ → G 166 L st S q μ ρ) → w_X12_agrees_0 (MS Z d) G Rp [.ref a0, .int x1, .null] [] S (0, 0) μ ρ) : MS Z (d + 1) jX12_agrees [.ref a0, .int x1] S μ ρ Rp :=
  MS_of [.ref a0, .int x1, .null] (by decide +kernel) rfl rfl (Nat.le_of_ble_eq_true rfl) rfl (fun p e R s m args below meth c C => b_X12_agrees_0 C _ _ _ _ _ _ (h _ (b_X12_agrees_12 C) (b_X12_agrees_52 C) (b_X12_agrees_58 C) (b_X12_agrees_123 C) (b_X12_agrees_166 C)))
def w_X12_leads_0 (M : CT) (G : Nat → PT) (Rp : RT) : PT := tAload 0 <| tIload 1 <| tConst 2 <| tCallV M jX12_plays 12 27 2 <| tAload 0 <| tIload 1 <| tCallV M jX12_readsNothing 12 27 1 <| tAload 0 <| tGetR 12 27 1 <| tConst 4310 <| tAload 0 <| tIload 1 <| tConst 1 <| tCallV M jX12_of 12 27 2 <| tBin (fun x y => x + y) <| tConst 1 <| tBin (fun x y => x - y) <| tDup2 <| tAld 20 <| tConst 1 <| tIload 1 <| tBin (fun x y => x <<< (y &&& 31)) <| tBin (fun x y => x ||| y) <| tIast <| tConst 0 <| tIstore 2 <| G 36
def w_X12_leads_36 (M : CT) (G : Nat → PT) (Rp : RT) : PT := tIload 2 <| tConst 5 <| tIf2 (fun x y => y ≤ x) (G 74) <| tAload 0 <| tIload 1 <| tConst 24 <| tIload 2 <| tBin (fun x y => x + y) <| tAload 0 <| tIload 1 <| tConst 4 <| tCallV M jX12_of 12 27 2 <| tConst 1 <| tBin (fun x y => x + y) <| tCallV M jX12_lays 12 27 3 <| tAload 0 <| tIload 1 <| tConst 29 <| tIload 2 <| tBin (fun x y => x + y) <| tConst 0 <| tCallV M jX12_lays 12 27 3 <| tIinc 2 1 <| tGoto (G 36)
def w_X12_leads_74 (M : CT) (G : Nat → PT) (Rp : RT) : PT := tAload 0 <| tIload 1 <| tConst 4 <| tCallV M jX12_of 12 27 2 <| tConst 120 <| tIf2 (fun x y => y ≤ x) (G 99) <| tAload 0 <| tIload 1 <| tAload 0 <| tIload 1 <| tConst 1 <| tCallV M jX12_of 12 27 2 <| tConst 0 <| tConst 0 <| tConst 0 <| tCallV M jX12_comesToLog 12 27 5 <| G 99
def w_X12_leads_99 (M : CT) (G : Nat → PT) (Rp : RT) : PT := tAload 0 <| tIload 1 <| tCallV M jX12_feedsAll 12 27 1 <| tAload 0 <| tIload 1 <| tCallV M jX12_agrees 12 27 1 <| tVret Rp
set_option maxRecDepth 20000 in
theorem b_X12_leads_0 {Z : Zt} {d : Nat} {p : Program} {e : Env} {R : Room} {s : State} {m : MethodId} {args : Array Value} {below : List Frame} {meth : Method} {c : Code} {Rp : RT} (C : Cx Z d jX12_leads RX12 p R s m args meth c) : Sd Z jX12_leads p e R s m args below meth c (MQ below (QcS Z Rp) args s 0 0 (fun a => Z.2.2.1 < a)) 0 (w_X12_leads_0 (MS Z d) (Gw Z 3 p e R s m args below meth c (MQ below (QcS Z Rp) args s 0 0 (fun a => Z.2.2.1 < a))) Rp) := by
  unfold w_X12_leads_0
  refine s_aload_n (k := 0) C (by decide +kernel) ?_
  refine s_iload_n (k := 1) C (by decide +kernel) ?_
  refine s_iconst (n := 2) C (by decide +kernel) (by decide) ?_
  refine s_callV C rfl rfl (by decide +kernel) rfl w_7_11 w_7_13 w_p4_2 w_1_13 w_7_14 (by decide +kernel) ?_
  refine s_aload_n (k := 0) C (by decide +kernel) ?_
  refine s_iload_n (k := 1) C (by decide +kernel) ?_
  refine s_callV C rfl rfl (by decide +kernel) rfl w_7_15 w_7_17 w_p4_3 w_1_13 w_7_18 (by decide +kernel) ?_
  refine s_aload_n (k := 0) C (by decide +kernel) ?_
  refine s_getR C w_6_88 (by decide +kernel) rfl ?_
  refine s_sipush (n := 4310) C (by decide +kernel) (by decide) ?_
  refine s_aload_n (k := 0) C (by decide +kernel) ?_
  refine s_iload_n (k := 1) C (by decide +kernel) ?_
  refine s_iconst (n := 1) C (by decide +kernel) (by decide) ?_
  refine s_callV C rfl rfl (by decide +kernel) rfl w_6_220 w_6_222 w_p3_11 w_1_13 w_6_223 (by decide +kernel) ?_
  refine s_iadd C (by decide +kernel) ?_
  refine s_iconst (n := 1) C (by decide +kernel) (by decide) ?_
  refine s_isub C (by decide +kernel) ?_
  refine s_dup2 C (by decide +kernel) ?_
  refine s_iald C (by decide +kernel) ?_
  refine s_iconst (n := 1) C (by decide +kernel) (by decide) ?_
  refine s_iload_n (k := 1) C (by decide +kernel) ?_
  refine s_ishl C (by decide +kernel) ?_
  refine s_ior C (by decide +kernel) ?_
  refine s_iast C (by decide +kernel) ?_
  refine s_iconst (n := 0) C (by decide +kernel) (by decide) ?_
  refine s_istore_n (k := 2) C (by decide +kernel) ?_
  exact (fun _ _ _ _ _ _ h => h)
set_option maxRecDepth 20000 in
theorem b_X12_leads_36 {Z : Zt} {d : Nat} {p : Program} {e : Env} {R : Room} {s : State} {m : MethodId} {args : Array Value} {below : List Frame} {meth : Method} {c : Code} {Rp : RT} (C : Cx Z d jX12_leads RX12 p R s m args meth c) : Sd Z jX12_leads p e R s m args below meth c (MQ below (QcS Z Rp) args s 0 0 (fun a => Z.2.2.1 < a)) 36 (w_X12_leads_36 (MS Z d) (Gw Z 3 p e R s m args below meth c (MQ below (QcS Z Rp) args s 0 0 (fun a => Z.2.2.1 < a))) Rp) := by
  unfold w_X12_leads_36
  refine s_iload_n (k := 2) C (by decide +kernel) ?_
  refine s_iconst (n := 5) C (by decide +kernel) (by decide) ?_
  refine s_icmp_ge (off := 36) (tgt := 74) C (by decide +kernel) (by decide) (fun _ _ _ _ _ _ h => h) ?_
  refine s_aload_n (k := 0) C (by decide +kernel) ?_
  refine s_iload_n (k := 1) C (by decide +kernel) ?_
  refine s_bipush (n := 24) C (by decide +kernel) (by decide) ?_
  refine s_iload_n (k := 2) C (by decide +kernel) ?_
  refine s_iadd C (by decide +kernel) ?_
  refine s_aload_n (k := 0) C (by decide +kernel) ?_
  refine s_iload_n (k := 1) C (by decide +kernel) ?_
  refine s_iconst (n := 4) C (by decide +kernel) (by decide) ?_
  refine s_callV C rfl rfl (by decide +kernel) rfl w_6_220 w_6_222 w_p3_11 w_1_13 w_6_223 (by decide +kernel) ?_
  refine s_iconst (n := 1) C (by decide +kernel) (by decide) ?_
  refine s_iadd C (by decide +kernel) ?_
  refine s_callV C rfl rfl (by decide +kernel) rfl w_6_82 w_6_84 w_p3_4 w_1_13 w_6_85 (by decide +kernel) ?_
  refine s_aload_n (k := 0) C (by decide +kernel) ?_
  refine s_iload_n (k := 1) C (by decide +kernel) ?_
  refine s_bipush (n := 29) C (by decide +kernel) (by decide) ?_
  refine s_iload_n (k := 2) C (by decide +kernel) ?_
  refine s_iadd C (by decide +kernel) ?_
  refine s_iconst (n := 0) C (by decide +kernel) (by decide) ?_
  refine s_callV C rfl rfl (by decide +kernel) rfl w_6_82 w_6_84 w_p3_4 w_1_13 w_6_85 (by decide +kernel) ?_
  refine s_iinc (n := 1) C (by decide +kernel) (by decide) ?_
  exact s_goto (off := (-35)) (tgt := 36) C (by decide +kernel) (by decide) (fun _ _ _ _ _ _ h => h)
set_option maxRecDepth 20000 in
theorem b_X12_leads_74 {Z : Zt} {d : Nat} {p : Program} {e : Env} {R : Room} {s : State} {m : MethodId} {args : Array Value} {below : List Frame} {meth : Method} {c : Code} {Rp : RT} (C : Cx Z d jX12_leads RX12 p R s m args meth c) : Sd Z jX12_leads p e R s m args below meth c (MQ below (QcS Z Rp) args s 0 0 (fun a => Z.2.2.1 < a)) 74 (w_X12_leads_74 (MS Z d) (Gw Z 3 p e R s m args below meth c (MQ below (QcS Z Rp) args s 0 0 (fun a => Z.2.2.1 < a))) Rp) := by
  unfold w_X12_leads_74
  refine s_aload_n (k := 0) C (by decide +kernel) ?_
  refine s_iload_n (k := 1) C (by decide +kernel) ?_
  refine s_iconst (n := 4) C (by decide +kernel) (by decide) ?_
  refine s_callV C rfl rfl (by decide +kernel) rfl w_6_220 w_6_222 w_p3_11 w_1_13 w_6_223 (by decide +kernel) ?_
  refine s_bipush (n := 120) C (by decide +kernel) (by decide) ?_
  refine s_icmp_ge (off := 17) (tgt := 99) C (by decide +kernel) (by decide) (fun _ _ _ _ _ _ h => h) ?_
  refine s_aload_n (k := 0) C (by decide +kernel) ?_
  refine s_iload_n (k := 1) C (by decide +kernel) ?_
  refine s_aload_n (k := 0) C (by decide +kernel) ?_
  refine s_iload_n (k := 1) C (by decide +kernel) ?_
  refine s_iconst (n := 1) C (by decide +kernel) (by decide) ?_
  refine s_callV C rfl rfl (by decide +kernel) rfl w_6_220 w_6_222 w_p3_11 w_1_13 w_6_223 (by decide +kernel) ?_
  refine s_iconst (n := 0) C (by decide +kernel) (by decide) ?_
  refine s_iconst (n := 0) C (by decide +kernel) (by decide) ?_
  refine s_iconst (n := 0) C (by decide +kernel) (by decide) ?_
  refine s_callV C rfl rfl (by decide +kernel) rfl w_7_43 w_7_45 w_p4_10 w_1_13 w_7_46 (by decide +kernel) ?_
  exact (fun _ _ _ _ _ _ h => h)
set_option maxRecDepth 20000 in
theorem b_X12_leads_99 {Z : Zt} {d : Nat} {p : Program} {e : Env} {R : Room} {s : State} {m : MethodId} {args : Array Value} {below : List Frame} {meth : Method} {c : Code} {Rp : RT} (C : Cx Z d jX12_leads RX12 p R s m args meth c) : Sd Z jX12_leads p e R s m args below meth c (MQ below (QcS Z Rp) args s 0 0 (fun a => Z.2.2.1 < a)) 99 (w_X12_leads_99 (MS Z d) (Gw Z 3 p e R s m args below meth c (MQ below (QcS Z Rp) args s 0 0 (fun a => Z.2.2.1 < a))) Rp) := by
  unfold w_X12_leads_99
  refine s_aload_n (k := 0) C (by decide +kernel) ?_
  refine s_iload_n (k := 1) C (by decide +kernel) ?_
  refine s_callV C rfl rfl (by decide +kernel) rfl w_7_47 w_7_49 w_p4_11 w_1_13 w_7_50 (by decide +kernel) ?_
  refine s_aload_n (k := 0) C (by decide +kernel) ?_
  refine s_iload_n (k := 1) C (by decide +kernel) ?_
  refine s_callV C rfl rfl (by decide +kernel) rfl w_7_61 w_7_63 w_p4_13 w_1_13 w_7_64 (by decide +kernel) ?_
  exact s_vret C rfl (by decide +kernel)
theorem ms_X12_leads {Z : Zt} {d : Nat} {S : Sh} {μ : Mi} {ρ : Mr} {Rp : RT} (a0 : Nat) (x1 : Int32) (h : ∀ G : Nat → PT, (∀ (L st : List Value) (S : Sh) (q : Nat × Nat) (μ : Mi) (ρ : Mr), w_X12_leads_36 (MS Z d) G Rp L st S q μ ρ → G 36 L st S q μ ρ) → (∀ (L st : List Value) (S : Sh) (q : Nat × Nat) (μ : Mi) (ρ : Mr), w_X12_leads_74 (MS Z d) G Rp L st S q μ ρ → G 74 L st S q μ ρ) → (∀ (L st : List Value) (S : Sh) (q : Nat × Nat) (μ : Mi) (ρ : Mr), w_X12_leads_99 (MS Z d) G Rp L st S q μ ρ → G 99 L st S q μ ρ) → w_X12_leads_0 (MS Z d) G Rp [.ref a0, .int x1, .null] [] S (0, 0) μ ρ) : MS Z (d + 1) jX12_leads [.ref a0, .int x1] S μ ρ Rp :=
  MS_of [.ref a0, .int x1, .null] (by decide +kernel) rfl rfl (Nat.le_of_ble_eq_true rfl) rfl (fun p e R s m args below meth c C => b_X12_leads_0 C _ _ _ _ _ _ (h _ (b_X12_leads_36 C) (b_X12_leads_74 C) (b_X12_leads_99 C)))
def w_X12_whyNot_0 (M : CT) (G : Nat → PT) (Rp : RT) : PT := tAload 0 <| tIload 1 <| tCallV M jX12_laysMembers 12 27 1 <| tAload 0 <| tIload 1 <| tCallV M jX12_isUp 12 27 1 <| tIf (fun x => x = 0) (G 49) <| tAload 0 <| tIload 1 <| tCallV M jX12_isLeader 12 27 1 <| tIf (fun x => x ≠ 0) (G 49) <| tAload 0 <| tGetI 12 27 8 <| tAload 0 <| tGetI 12 27 9 <| tBin (fun x y => x ||| y) <| tIload 1 <| tCallS M jX12_has 2 <| tIf (fun x => x = 0) (G 49) <| tAload 0 <| tIload 1 <| tConst 1 <| tCallV M jX12_of 12 27 2 <| tConst 200 <| tIf2 (fun x y => x ≠ y) (G 54) <| G 49
def w_X12_whyNot_49 (M : CT) (G : Nat → PT) (Rp : RT) : PT := tConst (-5) <| tGoto (G 55)
def w_X12_whyNot_54 (M : CT) (G : Nat → PT) (Rp : RT) : PT := tConst 0 <| G 55
def w_X12_whyNot_55 (M : CT) (G : Nat → PT) (Rp : RT) : PT := tIret Rp
set_option maxRecDepth 20000 in
theorem b_X12_whyNot_0 {Z : Zt} {d : Nat} {p : Program} {e : Env} {R : Room} {s : State} {m : MethodId} {args : Array Value} {below : List Frame} {meth : Method} {c : Code} {Rp : RT} (C : Cx Z d jX12_whyNot RX12 p R s m args meth c) : Sd Z jX12_whyNot p e R s m args below meth c (MQ below (QcS Z Rp) args s 0 0 (fun a => Z.2.2.1 < a)) 0 (w_X12_whyNot_0 (MS Z d) (Gw Z 2 p e R s m args below meth c (MQ below (QcS Z Rp) args s 0 0 (fun a => Z.2.2.1 < a))) Rp) := by
  unfold w_X12_whyNot_0
  refine s_aload_n (k := 0) C (by decide +kernel) ?_
  refine s_iload_n (k := 1) C (by decide +kernel) ?_
  refine s_callV C rfl rfl (by decide +kernel) rfl w_6_216 w_6_218 w_p3_10 w_1_13 w_6_219 (by decide +kernel) ?_
  refine s_aload_n (k := 0) C (by decide +kernel) ?_
  refine s_iload_n (k := 1) C (by decide +kernel) ?_
  refine s_callV C rfl rfl (by decide +kernel) rfl w_6_232 w_6_234 w_p3_14 w_1_13 w_6_235 (by decide +kernel) ?_
  refine s_if_eq (off := 39) (tgt := 49) C (by decide +kernel) (by decide) (fun _ _ _ _ _ _ h => h) ?_
  refine s_aload_n (k := 0) C (by decide +kernel) ?_
  refine s_iload_n (k := 1) C (by decide +kernel) ?_
  refine s_callV C rfl rfl (by decide +kernel) rfl w_6_236 w_6_238 w_p3_15 w_1_13 w_6_239 (by decide +kernel) ?_
  refine s_if_ne (off := 31) (tgt := 49) C (by decide +kernel) (by decide) (fun _ _ _ _ _ _ h => h) ?_
  refine s_aload_n (k := 0) C (by decide +kernel) ?_
  refine s_getI C w_6_95 (by decide +kernel) rfl ?_
  refine s_aload_n (k := 0) C (by decide +kernel) ?_
  refine s_getI C w_6_96 (by decide +kernel) rfl ?_
  refine s_ior C (by decide +kernel) ?_
  refine s_iload_n (k := 1) C (by decide +kernel) ?_
  refine s_callS C (by decide +kernel) rfl w_7_0 w_7_1 w_1_13 w_7_2 (by decide +kernel) ?_
  refine s_if_eq (off := 15) (tgt := 49) C (by decide +kernel) (by decide) (fun _ _ _ _ _ _ h => h) ?_
  refine s_aload_n (k := 0) C (by decide +kernel) ?_
  refine s_iload_n (k := 1) C (by decide +kernel) ?_
  refine s_iconst (n := 1) C (by decide +kernel) (by decide) ?_
  refine s_callV C rfl rfl (by decide +kernel) rfl w_6_220 w_6_222 w_p3_11 w_1_13 w_6_223 (by decide +kernel) ?_
  refine s_sipush (n := 200) C (by decide +kernel) (by decide) ?_
  refine s_icmp_ne (off := 8) (tgt := 54) C (by decide +kernel) (by decide) (fun _ _ _ _ _ _ h => h) ?_
  exact (fun _ _ _ _ _ _ h => h)
set_option maxRecDepth 20000 in
theorem b_X12_whyNot_49 {Z : Zt} {d : Nat} {p : Program} {e : Env} {R : Room} {s : State} {m : MethodId} {args : Array Value} {below : List Frame} {meth : Method} {c : Code} {Rp : RT} (C : Cx Z d jX12_whyNot RX12 p R s m args meth c) : Sd Z jX12_whyNot p e R s m args below meth c (MQ below (QcS Z Rp) args s 0 0 (fun a => Z.2.2.1 < a)) 49 (w_X12_whyNot_49 (MS Z d) (Gw Z 2 p e R s m args below meth c (MQ below (QcS Z Rp) args s 0 0 (fun a => Z.2.2.1 < a))) Rp) := by
  unfold w_X12_whyNot_49
  refine s_bipush (n := (-5)) C (by decide +kernel) (by decide) ?_
  exact s_goto (off := 4) (tgt := 55) C (by decide +kernel) (by decide) (fun _ _ _ _ _ _ h => h)
set_option maxRecDepth 20000 in
theorem b_X12_whyNot_54 {Z : Zt} {d : Nat} {p : Program} {e : Env} {R : Room} {s : State} {m : MethodId} {args : Array Value} {below : List Frame} {meth : Method} {c : Code} {Rp : RT} (C : Cx Z d jX12_whyNot RX12 p R s m args meth c) : Sd Z jX12_whyNot p e R s m args below meth c (MQ below (QcS Z Rp) args s 0 0 (fun a => Z.2.2.1 < a)) 54 (w_X12_whyNot_54 (MS Z d) (Gw Z 2 p e R s m args below meth c (MQ below (QcS Z Rp) args s 0 0 (fun a => Z.2.2.1 < a))) Rp) := by
  unfold w_X12_whyNot_54
  refine s_iconst (n := 0) C (by decide +kernel) (by decide) ?_
  exact (fun _ _ _ _ _ _ h => h)
set_option maxRecDepth 20000 in
theorem b_X12_whyNot_55 {Z : Zt} {d : Nat} {p : Program} {e : Env} {R : Room} {s : State} {m : MethodId} {args : Array Value} {below : List Frame} {meth : Method} {c : Code} {Rp : RT} (C : Cx Z d jX12_whyNot RX12 p R s m args meth c) : Sd Z jX12_whyNot p e R s m args below meth c (MQ below (QcS Z Rp) args s 0 0 (fun a => Z.2.2.1 < a)) 55 (w_X12_whyNot_55 (MS Z d) (Gw Z 2 p e R s m args below meth c (MQ below (QcS Z Rp) args s 0 0 (fun a => Z.2.2.1 < a))) Rp) := by
  unfold w_X12_whyNot_55
  exact s_iret C rfl (by decide +kernel)
theorem ms_X12_whyNot {Z : Zt} {d : Nat} {S : Sh} {μ : Mi} {ρ : Mr} {Rp : RT} (a0 : Nat) (x1 : Int32) (h : ∀ G : Nat → PT, (∀ (L st : List Value) (S : Sh) (q : Nat × Nat) (μ : Mi) (ρ : Mr), w_X12_whyNot_49 (MS Z d) G Rp L st S q μ ρ → G 49 L st S q μ ρ) → (∀ (L st : List Value) (S : Sh) (q : Nat × Nat) (μ : Mi) (ρ : Mr), w_X12_whyNot_54 (MS Z d) G Rp L st S q μ ρ → G 54 L st S q μ ρ) → (∀ (L st : List Value) (S : Sh) (q : Nat × Nat) (μ : Mi) (ρ : Mr), w_X12_whyNot_55 (MS Z d) G Rp L st S q μ ρ → G 55 L st S q μ ρ) → w_X12_whyNot_0 (MS Z d) G Rp [.ref a0, .int x1] [] S (0, 0) μ ρ) : MS Z (d + 1) jX12_whyNot [.ref a0, .int x1] S μ ρ Rp :=
  MS_of [.ref a0, .int x1] (by decide +kernel) rfl rfl (Nat.le_of_ble_eq_true rfl) rfl (fun p e R s m args below meth c C => b_X12_whyNot_0 C _ _ _ _ _ _ (h _ (b_X12_whyNot_49 C) (b_X12_whyNot_54 C) (b_X12_whyNot_55 C)))
def w_X12_asksAll_0 (M : CT) (G : Nat → PT) (Rp : RT) : PT := tAload 0 <| tIload 1 <| tCallV M jX12_laysMembers 12 27 1 <| tAload 0 <| tIload 1 <| tConst 4 <| tCallV M jX12_of 12 27 2 <| tIstore 3 <| tConst 0 <| tIstore 4 <| G 15
def w_X12_asksAll_15 (M : CT) (G : Nat → PT) (Rp : RT) : PT := tIload 4 <| tConst 5 <| tIf2 (fun x y => y ≤ x) (G 89) <| tAload 0 <| tGetI 12 27 8 <| tAload 0 <| tGetI 12 27 9 <| tBin (fun x y => x ||| y) <| tIload 4 <| tCallS M jX12_has 2 <| tIf (fun x => x ≠ 0) (G 41) <| tGoto (G 83)
def w_X12_asksAll_41 (M : CT) (G : Nat → PT) (Rp : RT) : PT := tAload 0 <| tIload 1 <| tIload 4 <| tIload 2 <| tIload 3 <| tAload 0 <| tIload 1 <| tIload 3 <| tCallV M jX12_termAt 12 27 2 <| tCallV M jX12_sends 12 27 5 <| tIstore 5 <| tIload 5 <| tConst (-1) <| tIf2 (fun x y => x = y) (G 83) <| tIload 2 <| tConst 7 <| tIf2 (fun x y => x ≠ y) (G 83) <| tAload 0 <| tGetR 12 27 1 <| tIload 5 <| tConst 2 <| tBin (fun x y => x + y) <| tDup2 <| tAld 20 <| tConst 1 <| tBin (fun x y => x + y) <| tIast <| G 83
def w_X12_asksAll_83 (M : CT) (G : Nat → PT) (Rp : RT) : PT := tIinc 4 1 <| tGoto (G 15)
def w_X12_asksAll_89 (M : CT) (G : Nat → PT) (Rp : RT) : PT := tVret Rp
set_option maxRecDepth 20000 in
theorem b_X12_asksAll_0 {Z : Zt} {d : Nat} {p : Program} {e : Env} {R : Room} {s : State} {m : MethodId} {args : Array Value} {below : List Frame} {meth : Method} {c : Code} {Rp : RT} (C : Cx Z d jX12_asksAll RX12 p R s m args meth c) : Sd Z jX12_asksAll p e R s m args below meth c (MQ below (QcS Z Rp) args s 0 0 (fun a => Z.2.2.1 < a)) 0 (w_X12_asksAll_0 (MS Z d) (Gw Z 6 p e R s m args below meth c (MQ below (QcS Z Rp) args s 0 0 (fun a => Z.2.2.1 < a))) Rp) := by
  unfold w_X12_asksAll_0
  refine s_aload_n (k := 0) C (by decide +kernel) ?_
  refine s_iload_n (k := 1) C (by decide +kernel) ?_
  refine s_callV C rfl rfl (by decide +kernel) rfl w_6_216 w_6_218 w_p3_10 w_1_13 w_6_219 (by decide +kernel) ?_
  refine s_aload_n (k := 0) C (by decide +kernel) ?_
  refine s_iload_n (k := 1) C (by decide +kernel) ?_
  refine s_iconst (n := 4) C (by decide +kernel) (by decide) ?_
  refine s_callV C rfl rfl (by decide +kernel) rfl w_6_220 w_6_222 w_p3_11 w_1_13 w_6_223 (by decide +kernel) ?_
  refine s_istore_n (k := 3) C (by decide +kernel) ?_
  refine s_iconst (n := 0) C (by decide +kernel) (by decide) ?_
  refine s_istore (k := 4) C (by decide +kernel) ?_
  exact (fun _ _ _ _ _ _ h => h)
set_option maxRecDepth 20000 in
theorem b_X12_asksAll_15 {Z : Zt} {d : Nat} {p : Program} {e : Env} {R : Room} {s : State} {m : MethodId} {args : Array Value} {below : List Frame} {meth : Method} {c : Code} {Rp : RT} (C : Cx Z d jX12_asksAll RX12 p R s m args meth c) : Sd Z jX12_asksAll p e R s m args below meth c (MQ below (QcS Z Rp) args s 0 0 (fun a => Z.2.2.1 < a)) 15 (w_X12_asksAll_15 (MS Z d) (Gw Z 6 p e R s m args below meth c (MQ below (QcS Z Rp) args s 0 0 (fun a => Z.2.2.1 < a))) Rp) := by
  unfold w_X12_asksAll_15
  refine s_iload (k := 4) C (by decide +kernel) ?_
  refine s_iconst (n := 5) C (by decide +kernel) (by decide) ?_
  refine s_icmp_ge (off := 71) (tgt := 89) C (by decide +kernel) (by decide) (fun _ _ _ _ _ _ h => h) ?_
  refine s_aload_n (k := 0) C (by decide +kernel) ?_
  refine s_getI C w_6_95 (by decide +kernel) rfl ?_
  refine s_aload_n (k := 0) C (by decide +kernel) ?_
  refine s_getI C w_6_96 (by decide +kernel) rfl ?_
  refine s_ior C (by decide +kernel) ?_
  refine s_iload (k := 4) C (by decide +kernel) ?_
  refine s_callS C (by decide +kernel) rfl w_7_0 w_7_1 w_1_13 w_7_2 (by decide +kernel) ?_
  refine s_if_ne (off := 6) (tgt := 41) C (by decide +kernel) (by decide) (fun _ _ _ _ _ _ h => h) ?_
  exact s_goto (off := 45) (tgt := 83) C (by decide +kernel) (by decide) (fun _ _ _ _ _ _ h => h)
set_option maxRecDepth 20000 in
theorem b_X12_asksAll_41 {Z : Zt} {d : Nat} {p : Program} {e : Env} {R : Room} {s : State} {m : MethodId} {args : Array Value} {below : List Frame} {meth : Method} {c : Code} {Rp : RT} (C : Cx Z d jX12_asksAll RX12 p R s m args meth c) : Sd Z jX12_asksAll p e R s m args below meth c (MQ below (QcS Z Rp) args s 0 0 (fun a => Z.2.2.1 < a)) 41 (w_X12_asksAll_41 (MS Z d) (Gw Z 6 p e R s m args below meth c (MQ below (QcS Z Rp) args s 0 0 (fun a => Z.2.2.1 < a))) Rp) := by
  unfold w_X12_asksAll_41
  refine s_aload_n (k := 0) C (by decide +kernel) ?_
  refine s_iload_n (k := 1) C (by decide +kernel) ?_
  refine s_iload (k := 4) C (by decide +kernel) ?_
  refine s_iload_n (k := 2) C (by decide +kernel) ?_
  refine s_iload_n (k := 3) C (by decide +kernel) ?_
  refine s_aload_n (k := 0) C (by decide +kernel) ?_
  refine s_iload_n (k := 1) C (by decide +kernel) ?_
  refine s_iload_n (k := 3) C (by decide +kernel) ?_
  refine s_callV C rfl rfl (by decide +kernel) rfl w_7_23 w_7_25 w_p4_5 w_1_13 w_7_26 (by decide +kernel) ?_
  refine s_callV C rfl rfl (by decide +kernel) rfl w_7_27 w_7_29 w_p4_6 w_1_13 w_7_30 (by decide +kernel) ?_
  refine s_istore (k := 5) C (by decide +kernel) ?_
  refine s_iload (k := 5) C (by decide +kernel) ?_
  refine s_iconst (n := (-1)) C (by decide +kernel) (by decide) ?_
  refine s_icmp_eq (off := 22) (tgt := 83) C (by decide +kernel) (by decide) (fun _ _ _ _ _ _ h => h) ?_
  refine s_iload_n (k := 2) C (by decide +kernel) ?_
  refine s_bipush (n := 7) C (by decide +kernel) (by decide) ?_
  refine s_icmp_ne (off := 16) (tgt := 83) C (by decide +kernel) (by decide) (fun _ _ _ _ _ _ h => h) ?_
  refine s_aload_n (k := 0) C (by decide +kernel) ?_
  refine s_getR C w_6_88 (by decide +kernel) rfl ?_
  refine s_iload (k := 5) C (by decide +kernel) ?_
  refine s_iconst (n := 2) C (by decide +kernel) (by decide) ?_
  refine s_iadd C (by decide +kernel) ?_
  refine s_dup2 C (by decide +kernel) ?_
  refine s_iald C (by decide +kernel) ?_
  refine s_iconst (n := 1) C (by decide +kernel) (by decide) ?_
  refine s_iadd C (by decide +kernel) ?_
  refine s_iast C (by decide +kernel) ?_
  exact (fun _ _ _ _ _ _ h => h)
set_option maxRecDepth 20000 in
theorem b_X12_asksAll_83 {Z : Zt} {d : Nat} {p : Program} {e : Env} {R : Room} {s : State} {m : MethodId} {args : Array Value} {below : List Frame} {meth : Method} {c : Code} {Rp : RT} (C : Cx Z d jX12_asksAll RX12 p R s m args meth c) : Sd Z jX12_asksAll p e R s m args below meth c (MQ below (QcS Z Rp) args s 0 0 (fun a => Z.2.2.1 < a)) 83 (w_X12_asksAll_83 (MS Z d) (Gw Z 6 p e R s m args below meth c (MQ below (QcS Z Rp) args s 0 0 (fun a => Z.2.2.1 < a))) Rp) := by
  unfold w_X12_asksAll_83
  refine s_iinc (n := 1) C (by decide +kernel) (by decide) ?_
  exact s_goto (off := (-71)) (tgt := 15) C (by decide +kernel) (by decide) (fun _ _ _ _ _ _ h => h)
set_option maxRecDepth 20000 in
theorem b_X12_asksAll_89 {Z : Zt} {d : Nat} {p : Program} {e : Env} {R : Room} {s : State} {m : MethodId} {args : Array Value} {below : List Frame} {meth : Method} {c : Code} {Rp : RT} (C : Cx Z d jX12_asksAll RX12 p R s m args meth c) : Sd Z jX12_asksAll p e R s m args below meth c (MQ below (QcS Z Rp) args s 0 0 (fun a => Z.2.2.1 < a)) 89 (w_X12_asksAll_89 (MS Z d) (Gw Z 6 p e R s m args below meth c (MQ below (QcS Z Rp) args s 0 0 (fun a => Z.2.2.1 < a))) Rp) := by
  unfold w_X12_asksAll_89
  exact s_vret C rfl (by decide +kernel)
theorem ms_X12_asksAll {Z : Zt} {d : Nat} {S : Sh} {μ : Mi} {ρ : Mr} {Rp : RT} (a0 : Nat) (x1 : Int32) (x2 : Int32) (h : ∀ G : Nat → PT, (∀ (L st : List Value) (S : Sh) (q : Nat × Nat) (μ : Mi) (ρ : Mr), w_X12_asksAll_15 (MS Z d) G Rp L st S q μ ρ → G 15 L st S q μ ρ) → (∀ (L st : List Value) (S : Sh) (q : Nat × Nat) (μ : Mi) (ρ : Mr), w_X12_asksAll_41 (MS Z d) G Rp L st S q μ ρ → G 41 L st S q μ ρ) → (∀ (L st : List Value) (S : Sh) (q : Nat × Nat) (μ : Mi) (ρ : Mr), w_X12_asksAll_83 (MS Z d) G Rp L st S q μ ρ → G 83 L st S q μ ρ) → (∀ (L st : List Value) (S : Sh) (q : Nat × Nat) (μ : Mi) (ρ : Mr), w_X12_asksAll_89 (MS Z d) G Rp L st S q μ ρ → G 89 L st S q μ ρ) → w_X12_asksAll_0 (MS Z d) G Rp [.ref a0, .int x1, .int x2, .null, .null, .null] [] S (0, 0) μ ρ) : MS Z (d + 1) jX12_asksAll [.ref a0, .int x1, .int x2] S μ ρ Rp :=
  MS_of [.ref a0, .int x1, .int x2, .null, .null, .null] (by decide +kernel) rfl rfl (Nat.le_of_ble_eq_true rfl) rfl (fun p e R s m args below meth c C => b_X12_asksAll_0 C _ _ _ _ _ _ (h _ (b_X12_asksAll_15 C) (b_X12_asksAll_41 C) (b_X12_asksAll_83 C) (b_X12_asksAll_89 C)))
def w_X12_standsUp_0 (M : CT) (G : Nat → PT) (Rp : RT) : PT := tAload 0 <| tIload 1 <| tConst 1 <| tAload 0 <| tIload 1 <| tConst 1 <| tCallV M jX12_of 12 27 2 <| tConst 1 <| tBin (fun x y => x + y) <| tCallV M jX12_lays 12 27 3 <| tAload 0 <| tIload 1 <| tConst 1 <| tCallV M jX12_plays 12 27 2 <| tAload 0 <| tIload 1 <| tConst 2 <| tIload 1 <| tCallV M jX12_lays 12 27 3 <| tAload 0 <| tIload 1 <| tConst 8 <| tConst 1 <| tIload 1 <| tBin (fun x y => x <<< (y &&& 31)) <| tCallV M jX12_lays 12 27 3 <| tAload 0 <| tIload 1 <| tConst 0 <| tCallV M jX12_asksAll 12 27 2 <| tAload 0 <| tConst 1 <| tIload 1 <| tBin (fun x y => x <<< (y &&& 31)) <| tCallV M jX12_isMajority 12 27 1 <| tIf (fun x => x = 0) (G 58) <| tAload 0 <| tIload 1 <| tCallV M jX12_leads 12 27 1 <| G 58
def w_X12_standsUp_58 (M : CT) (G : Nat → PT) (Rp : RT) : PT := tVret Rp
set_option maxRecDepth 20000 in
theorem b_X12_standsUp_0 {Z : Zt} {d : Nat} {p : Program} {e : Env} {R : Room} {s : State} {m : MethodId} {args : Array Value} {below : List Frame} {meth : Method} {c : Code} {Rp : RT} (C : Cx Z d jX12_standsUp RX12 p R s m args meth c) : Sd Z jX12_standsUp p e R s m args below meth c (MQ below (QcS Z Rp) args s 0 0 (fun a => Z.2.2.1 < a)) 0 (w_X12_standsUp_0 (MS Z d) (Gw Z 2 p e R s m args below meth c (MQ below (QcS Z Rp) args s 0 0 (fun a => Z.2.2.1 < a))) Rp) := by
  unfold w_X12_standsUp_0
  refine s_aload_n (k := 0) C (by decide +kernel) ?_
  refine s_iload_n (k := 1) C (by decide +kernel) ?_
  refine s_iconst (n := 1) C (by decide +kernel) (by decide) ?_
  refine s_aload_n (k := 0) C (by decide +kernel) ?_
  refine s_iload_n (k := 1) C (by decide +kernel) ?_
  refine s_iconst (n := 1) C (by decide +kernel) (by decide) ?_
  refine s_callV C rfl rfl (by decide +kernel) rfl w_6_220 w_6_222 w_p3_11 w_1_13 w_6_223 (by decide +kernel) ?_
  refine s_iconst (n := 1) C (by decide +kernel) (by decide) ?_
  refine s_iadd C (by decide +kernel) ?_
  refine s_callV C rfl rfl (by decide +kernel) rfl w_6_82 w_6_84 w_p3_4 w_1_13 w_6_85 (by decide +kernel) ?_
  refine s_aload_n (k := 0) C (by decide +kernel) ?_
  refine s_iload_n (k := 1) C (by decide +kernel) ?_
  refine s_iconst (n := 1) C (by decide +kernel) (by decide) ?_
  refine s_callV C rfl rfl (by decide +kernel) rfl w_7_11 w_7_13 w_p4_2 w_1_13 w_7_14 (by decide +kernel) ?_
  refine s_aload_n (k := 0) C (by decide +kernel) ?_
  refine s_iload_n (k := 1) C (by decide +kernel) ?_
  refine s_iconst (n := 2) C (by decide +kernel) (by decide) ?_
  refine s_iload_n (k := 1) C (by decide +kernel) ?_
  refine s_callV C rfl rfl (by decide +kernel) rfl w_6_82 w_6_84 w_p3_4 w_1_13 w_6_85 (by decide +kernel) ?_
  refine s_aload_n (k := 0) C (by decide +kernel) ?_
  refine s_iload_n (k := 1) C (by decide +kernel) ?_
  refine s_bipush (n := 8) C (by decide +kernel) (by decide) ?_
  refine s_iconst (n := 1) C (by decide +kernel) (by decide) ?_
  refine s_iload_n (k := 1) C (by decide +kernel) ?_
  refine s_ishl C (by decide +kernel) ?_
  refine s_callV C rfl rfl (by decide +kernel) rfl w_6_82 w_6_84 w_p3_4 w_1_13 w_6_85 (by decide +kernel) ?_
  refine s_aload_n (k := 0) C (by decide +kernel) ?_
  refine s_iload_n (k := 1) C (by decide +kernel) ?_
  refine s_iconst (n := 0) C (by decide +kernel) (by decide) ?_
  refine s_callV C rfl rfl (by decide +kernel) rfl w_7_19 w_7_21 w_p4_4 w_1_13 w_7_22 (by decide +kernel) ?_
  refine s_aload_n (k := 0) C (by decide +kernel) ?_
  refine s_iconst (n := 1) C (by decide +kernel) (by decide) ?_
  refine s_iload_n (k := 1) C (by decide +kernel) ?_
  refine s_ishl C (by decide +kernel) ?_
  refine s_callV C rfl rfl (by decide +kernel) rfl w_7_35 w_7_37 w_p4_8 w_1_13 w_7_38 (by decide +kernel) ?_
  refine s_if_eq (off := 8) (tgt := 58) C (by decide +kernel) (by decide) (fun _ _ _ _ _ _ h => h) ?_
  refine s_aload_n (k := 0) C (by decide +kernel) ?_
  refine s_iload_n (k := 1) C (by decide +kernel) ?_
  refine s_callV C rfl rfl (by decide +kernel) rfl w_7_39 w_7_41 w_p4_9 w_1_13 w_7_42 (by decide +kernel) ?_
  exact (fun _ _ _ _ _ _ h => h)
set_option maxRecDepth 20000 in
theorem b_X12_standsUp_58 {Z : Zt} {d : Nat} {p : Program} {e : Env} {R : Room} {s : State} {m : MethodId} {args : Array Value} {below : List Frame} {meth : Method} {c : Code} {Rp : RT} (C : Cx Z d jX12_standsUp RX12 p R s m args meth c) : Sd Z jX12_standsUp p e R s m args below meth c (MQ below (QcS Z Rp) args s 0 0 (fun a => Z.2.2.1 < a)) 58 (w_X12_standsUp_58 (MS Z d) (Gw Z 2 p e R s m args below meth c (MQ below (QcS Z Rp) args s 0 0 (fun a => Z.2.2.1 < a))) Rp) := by
  unfold w_X12_standsUp_58
  exact s_vret C rfl (by decide +kernel)
theorem ms_X12_standsUp {Z : Zt} {d : Nat} {S : Sh} {μ : Mi} {ρ : Mr} {Rp : RT} (a0 : Nat) (x1 : Int32) (h : ∀ G : Nat → PT, (∀ (L st : List Value) (S : Sh) (q : Nat × Nat) (μ : Mi) (ρ : Mr), w_X12_standsUp_58 (MS Z d) G Rp L st S q μ ρ → G 58 L st S q μ ρ) → w_X12_standsUp_0 (MS Z d) G Rp [.ref a0, .int x1] [] S (0, 0) μ ρ) : MS Z (d + 1) jX12_standsUp [.ref a0, .int x1] S μ ρ Rp :=
  MS_of [.ref a0, .int x1] (by decide +kernel) rfl rfl (Nat.le_of_ble_eq_true rfl) rfl (fun p e R s m args below meth c C => b_X12_standsUp_0 C _ _ _ _ _ _ (h _ (b_X12_standsUp_58 C)))
def w_X12_asks_0 (M : CT) (G : Nat → PT) (Rp : RT) : PT := tAload 0 <| tGetR 12 27 1 <| tConst 4515 <| tAld 20 <| tIf (fun x => x ≠ 0) (G 17) <| tAload 0 <| tIload 1 <| tCallV M jX12_standsUp 12 27 1 <| tVret Rp
def w_X12_asks_17 (M : CT) (G : Nat → PT) (Rp : RT) : PT := tAload 0 <| tIload 1 <| tConst 3 <| tCallV M jX12_plays 12 27 2 <| tAload 0 <| tIload 1 <| tConst 8 <| tConst 1 <| tIload 1 <| tBin (fun x y => x <<< (y &&& 31)) <| tCallV M jX12_lays 12 27 3 <| tAload 0 <| tIload 1 <| tConst 7 <| tCallV M jX12_asksAll 12 27 2 <| tAload 0 <| tConst 1 <| tIload 1 <| tBin (fun x y => x <<< (y &&& 31)) <| tCallV M jX12_isMajority 12 27 1 <| tIf (fun x => x = 0) (G 55) <| tAload 0 <| tIload 1 <| tCallV M jX12_standsUp 12 27 1 <| G 55
def w_X12_asks_55 (M : CT) (G : Nat → PT) (Rp : RT) : PT := tVret Rp
set_option maxRecDepth 20000 in
theorem b_X12_asks_0 {Z : Zt} {d : Nat} {p : Program} {e : Env} {R : Room} {s : State} {m : MethodId} {args : Array Value} {below : List Frame} {meth : Method} {c : Code} {Rp : RT} (C : Cx Z d jX12_asks RX12 p R s m args meth c) : Sd Z jX12_asks p e R s m args below meth c (MQ below (QcS Z Rp) args s 0 0 (fun a => Z.2.2.1 < a)) 0 (w_X12_asks_0 (MS Z d) (Gw Z 2 p e R s m args below meth c (MQ below (QcS Z Rp) args s 0 0 (fun a => Z.2.2.1 < a))) Rp) := by
  unfold w_X12_asks_0
  refine s_aload_n (k := 0) C (by decide +kernel) ?_
  refine s_getR C w_6_88 (by decide +kernel) rfl ?_
  refine s_sipush (n := 4515) C (by decide +kernel) (by decide) ?_
  refine s_iald C (by decide +kernel) ?_
  refine s_if_ne (off := 9) (tgt := 17) C (by decide +kernel) (by decide) (fun _ _ _ _ _ _ h => h) ?_
  refine s_aload_n (k := 0) C (by decide +kernel) ?_
  refine s_iload_n (k := 1) C (by decide +kernel) ?_
  refine s_callV C rfl rfl (by decide +kernel) rfl w_7_7 w_7_9 w_p4_1 w_1_13 w_7_10 (by decide +kernel) ?_
  exact s_vret C rfl (by decide +kernel)
set_option maxRecDepth 20000 in
theorem b_X12_asks_17 {Z : Zt} {d : Nat} {p : Program} {e : Env} {R : Room} {s : State} {m : MethodId} {args : Array Value} {below : List Frame} {meth : Method} {c : Code} {Rp : RT} (C : Cx Z d jX12_asks RX12 p R s m args meth c) : Sd Z jX12_asks p e R s m args below meth c (MQ below (QcS Z Rp) args s 0 0 (fun a => Z.2.2.1 < a)) 17 (w_X12_asks_17 (MS Z d) (Gw Z 2 p e R s m args below meth c (MQ below (QcS Z Rp) args s 0 0 (fun a => Z.2.2.1 < a))) Rp) := by
  unfold w_X12_asks_17
  refine s_aload_n (k := 0) C (by decide +kernel) ?_
  refine s_iload_n (k := 1) C (by decide +kernel) ?_
  refine s_iconst (n := 3) C (by decide +kernel) (by decide) ?_
  refine s_callV C rfl rfl (by decide +kernel) rfl w_7_11 w_7_13 w_p4_2 w_1_13 w_7_14 (by decide +kernel) ?_
  refine s_aload_n (k := 0) C (by decide +kernel) ?_
  refine s_iload_n (k := 1) C (by decide +kernel) ?_
  refine s_bipush (n := 8) C (by decide +kernel) (by decide) ?_
  refine s_iconst (n := 1) C (by decide +kernel) (by decide) ?_
  refine s_iload_n (k := 1) C (by decide +kernel) ?_
  refine s_ishl C (by decide +kernel) ?_
  refine s_callV C rfl rfl (by decide +kernel) rfl w_6_82 w_6_84 w_p3_4 w_1_13 w_6_85 (by decide +kernel) ?_
  refine s_aload_n (k := 0) C (by decide +kernel) ?_
  refine s_iload_n (k := 1) C (by decide +kernel) ?_
  refine s_bipush (n := 7) C (by decide +kernel) (by decide) ?_
  refine s_callV C rfl rfl (by decide +kernel) rfl w_7_19 w_7_21 w_p4_4 w_1_13 w_7_22 (by decide +kernel) ?_
  refine s_aload_n (k := 0) C (by decide +kernel) ?_
  refine s_iconst (n := 1) C (by decide +kernel) (by decide) ?_
  refine s_iload_n (k := 1) C (by decide +kernel) ?_
  refine s_ishl C (by decide +kernel) ?_
  refine s_callV C rfl rfl (by decide +kernel) rfl w_7_35 w_7_37 w_p4_8 w_1_13 w_7_38 (by decide +kernel) ?_
  refine s_if_eq (off := 8) (tgt := 55) C (by decide +kernel) (by decide) (fun _ _ _ _ _ _ h => h) ?_
  refine s_aload_n (k := 0) C (by decide +kernel) ?_
  refine s_iload_n (k := 1) C (by decide +kernel) ?_
  refine s_callV C rfl rfl (by decide +kernel) rfl w_7_7 w_7_9 w_p4_1 w_1_13 w_7_10 (by decide +kernel) ?_
  exact (fun _ _ _ _ _ _ h => h)
set_option maxRecDepth 20000 in
theorem b_X12_asks_55 {Z : Zt} {d : Nat} {p : Program} {e : Env} {R : Room} {s : State} {m : MethodId} {args : Array Value} {below : List Frame} {meth : Method} {c : Code} {Rp : RT} (C : Cx Z d jX12_asks RX12 p R s m args meth c) : Sd Z jX12_asks p e R s m args below meth c (MQ below (QcS Z Rp) args s 0 0 (fun a => Z.2.2.1 < a)) 55 (w_X12_asks_55 (MS Z d) (Gw Z 2 p e R s m args below meth c (MQ below (QcS Z Rp) args s 0 0 (fun a => Z.2.2.1 < a))) Rp) := by
  unfold w_X12_asks_55
  exact s_vret C rfl (by decide +kernel)
theorem ms_X12_asks {Z : Zt} {d : Nat} {S : Sh} {μ : Mi} {ρ : Mr} {Rp : RT} (a0 : Nat) (x1 : Int32) (h : ∀ G : Nat → PT, (∀ (L st : List Value) (S : Sh) (q : Nat × Nat) (μ : Mi) (ρ : Mr), w_X12_asks_17 (MS Z d) G Rp L st S q μ ρ → G 17 L st S q μ ρ) → (∀ (L st : List Value) (S : Sh) (q : Nat × Nat) (μ : Mi) (ρ : Mr), w_X12_asks_55 (MS Z d) G Rp L st S q μ ρ → G 55 L st S q μ ρ) → w_X12_asks_0 (MS Z d) G Rp [.ref a0, .int x1] [] S (0, 0) μ ρ) : MS Z (d + 1) jX12_asks [.ref a0, .int x1] S μ ρ Rp :=
  MS_of [.ref a0, .int x1] (by decide +kernel) rfl rfl (Nat.le_of_ble_eq_true rfl) rfl (fun p e R s m args below meth c C => b_X12_asks_0 C _ _ _ _ _ _ (h _ (b_X12_asks_17 C) (b_X12_asks_55 C)))
def w_X12_goesOut_0 (M : CT) (G : Nat → PT) (Rp : RT) : PT := tConst 2570 <| tConst 21 <| tIload 1 <| tBin (fun x y => x * y) <| tBin (fun x y => x + y) <| tIstore 2 <| tAload 0 <| tGetR 12 27 1 <| tIload 2 <| tAload 0 <| tGetR 12 27 12 <| tConst 0 <| tConst 21 <| tCallS M jX12_copies 5 <| tAload 0 <| tGetR 12 27 1 <| tIload 2 <| tConst 21 <| tBin (fun x y => x + y) <| tAload 0 <| tGetR 12 27 1 <| tIload 2 <| tConst 21 <| tAload 0 <| tGetR 12 27 1 <| tConst 4510 <| tAld 20 <| tConst 1 <| tBin (fun x y => x - y) <| tIload 1 <| tBin (fun x y => x - y) <| tBin (fun x y => x * y) <| tCallS M jX12_copies 5 <| tAload 0 <| tGetR 12 27 1 <| tConst 4510 <| tDup2 <| tAld 20 <| tConst 1 <| tBin (fun x y => x - y) <| tIast <| tVret Rp
set_option maxRecDepth 20000 in
theorem b_X12_goesOut_0 {Z : Zt} {d : Nat} {p : Program} {e : Env} {R : Room} {s : State} {m : MethodId} {args : Array Value} {below : List Frame} {meth : Method} {c : Code} {Rp : RT} (C : Cx Z d jX12_goesOut RX12 p R s m args meth c) : Sd Z jX12_goesOut p e R s m args below meth c (MQ below (QcS Z Rp) args s 0 0 (fun a => Z.2.2.1 < a)) 0 (w_X12_goesOut_0 (MS Z d) (Gw Z 3 p e R s m args below meth c (MQ below (QcS Z Rp) args s 0 0 (fun a => Z.2.2.1 < a))) Rp) := by
  unfold w_X12_goesOut_0
  refine s_sipush (n := 2570) C (by decide +kernel) (by decide) ?_
  refine s_bipush (n := 21) C (by decide +kernel) (by decide) ?_
  refine s_iload_n (k := 1) C (by decide +kernel) ?_
  refine s_imul C (by decide +kernel) ?_
  refine s_iadd C (by decide +kernel) ?_
  refine s_istore_n (k := 2) C (by decide +kernel) ?_
  refine s_aload_n (k := 0) C (by decide +kernel) ?_
  refine s_getR C w_6_88 (by decide +kernel) rfl ?_
  refine s_iload_n (k := 2) C (by decide +kernel) ?_
  refine s_aload_n (k := 0) C (by decide +kernel) ?_
  refine s_getR C w_6_99 (by decide +kernel) rfl ?_
  refine s_iconst (n := 0) C (by decide +kernel) (by decide) ?_
  refine s_bipush (n := 21) C (by decide +kernel) (by decide) ?_
  refine s_callS C (by decide +kernel) rfl w_6_182 w_6_183 w_1_13 w_6_184 (by decide +kernel) ?_
  refine s_aload_n (k := 0) C (by decide +kernel) ?_
  refine s_getR C w_6_88 (by decide +kernel) rfl ?_
  refine s_iload_n (k := 2) C (by decide +kernel) ?_
  refine s_bipush (n := 21) C (by decide +kernel) (by decide) ?_
  refine s_iadd C (by decide +kernel) ?_
  refine s_aload_n (k := 0) C (by decide +kernel) ?_
  refine s_getR C w_6_88 (by decide +kernel) rfl ?_
  refine s_iload_n (k := 2) C (by decide +kernel) ?_
  refine s_bipush (n := 21) C (by decide +kernel) (by decide) ?_
  refine s_aload_n (k := 0) C (by decide +kernel) ?_
  refine s_getR C w_6_88 (by decide +kernel) rfl ?_
  refine s_sipush (n := 4510) C (by decide +kernel) (by decide) ?_
  refine s_iald C (by decide +kernel) ?_
  refine s_iconst (n := 1) C (by decide +kernel) (by decide) ?_
  refine s_isub C (by decide +kernel) ?_
  refine s_iload_n (k := 1) C (by decide +kernel) ?_
  refine s_isub C (by decide +kernel) ?_
  refine s_imul C (by decide +kernel) ?_
  refine s_callS C (by decide +kernel) rfl w_6_182 w_6_183 w_1_13 w_6_184 (by decide +kernel) ?_
  refine s_aload_n (k := 0) C (by decide +kernel) ?_
  refine s_getR C w_6_88 (by decide +kernel) rfl ?_
  refine s_sipush (n := 4510) C (by decide +kernel) (by decide) ?_
  refine s_dup2 C (by decide +kernel) ?_
  refine s_iald C (by decide +kernel) ?_
  refine s_iconst (n := 1) C (by decide +kernel) (by decide) ?_
  refine s_isub C (by decide +kernel) ?_
  refine s_iast C (by decide +kernel) ?_
  exact s_vret C rfl (by decide +kernel)
theorem ms_X12_goesOut {Z : Zt} {d : Nat} {S : Sh} {μ : Mi} {ρ : Mr} {Rp : RT} (a0 : Nat) (x1 : Int32) (h : ∀ G : Nat → PT, w_X12_goesOut_0 (MS Z d) G Rp [.ref a0, .int x1, .null] [] S (0, 0) μ ρ) : MS Z (d + 1) jX12_goesOut [.ref a0, .int x1] S μ ρ Rp :=
  MS_of [.ref a0, .int x1, .null] (by decide +kernel) rfl rfl (Nat.le_of_ble_eq_true rfl) rfl (fun p e R s m args below meth c C => b_X12_goesOut_0 C _ _ _ _ _ _ (h _ ))
def w_X12_comes_0 (M : CT) (G : Nat → PT) (Rp : RT) : PT := tAload 0 <| tIload 1 <| tCallV M jX12_goesOut 12 27 1 <| tAload 0 <| tGetR 12 27 12 <| tConst 1 <| tAld 20 <| tIstore 2 <| tAload 0 <| tIload 2 <| tCallV M jX12_isUp 12 27 1 <| tIf (fun x => x = 0) (G 34) <| tAload 0 <| tAload 0 <| tGetR 12 27 12 <| tConst 0 <| tAld 20 <| tIload 2 <| tCallV M jX12_isLinked 12 27 2 <| tIf (fun x => x ≠ 0) (G 48) <| G 34
def w_X12_comes_34 (M : CT) (G : Nat → PT) (Rp : RT) : PT := tAload 0 <| tGetR 12 27 1 <| tConst 4511 <| tDup2 <| tAld 20 <| tConst 1 <| tBin (fun x y => x + y) <| tIast <| tConst 0 <| tIret Rp
def w_X12_comes_48 (M : CT) (G : Nat → PT) (Rp : RT) : PT := tAload 0 <| tGetR 12 27 1 <| tConst 4512 <| tDup2 <| tAld 20 <| tConst 1 <| tBin (fun x y => x + y) <| tIast <| tAload 0 <| tGetR 12 27 12 <| tConst 2 <| tAld 20 <| tAload 0 <| tIload 2 <| tConst 1 <| tCallV M jX12_of 12 27 2 <| tIf2 (fun x y => x ≤ y) (G 97) <| tAload 0 <| tGetR 12 27 12 <| tConst 3 <| tAld 20 <| tConst 7 <| tIf2 (fun x y => y ≤ x) (G 97) <| tAload 0 <| tIload 2 <| tAload 0 <| tGetR 12 27 12 <| tConst 2 <| tAld 20 <| tCallV M jX12_followsTerm 12 27 2 <| G 97
def w_X12_comes_97 (M : CT) (G : Nat → PT) (Rp : RT) : PT := tAload 0 <| tGetR 12 27 12 <| tConst 2 <| tAld 20 <| tAload 0 <| tIload 2 <| tConst 1 <| tCallV M jX12_of 12 27 2 <| tIf2 (fun x y => x ≠ y) (G 116) <| tConst 1 <| tGoto (G 117)
def w_X12_comes_116 (M : CT) (G : Nat → PT) (Rp : RT) : PT := tConst 0 <| G 117
def w_X12_comes_117 (M : CT) (G : Nat → PT) (Rp : RT) : PT := tIstore 3 <| tAload 0 <| tGetR 12 27 12 <| tConst 3 <| tAld 20 <| tSw [(0, G 176), (1, G 203), (2, G 241), (3, G 256), (4, G 433), (5, G 448), (6, G 303), (7, G 356), (8, G 388)] (G 448)
def w_X12_comes_176 (M : CT) (G : Nat → PT) (Rp : RT) : PT := tAload 0 <| tIload 2 <| tAload 0 <| tGetR 12 27 12 <| tConst 0 <| tAld 20 <| tIload 3 <| tAload 0 <| tGetR 12 27 12 <| tConst 4 <| tAld 20 <| tAload 0 <| tGetR 12 27 12 <| tConst 5 <| tAld 20 <| tCallV M jX12_asked 12 27 5 <| tGoto (G 477)
def w_X12_comes_203 (M : CT) (G : Nat → PT) (Rp : RT) : PT := tIload 3 <| tIf (fun x => x = 0) (G 477) <| tAload 0 <| tGetR 12 27 12 <| tConst 4 <| tAld 20 <| tConst 1 <| tIf2 (fun x y => x ≠ y) (G 477) <| tAload 0 <| tIload 2 <| tConst 3 <| tCallV M jX12_of 12 27 2 <| tConst 1 <| tIf2 (fun x y => x ≠ y) (G 477) <| tAload 0 <| tIload 2 <| tAload 0 <| tGetR 12 27 12 <| tConst 0 <| tAld 20 <| tCallV M jX12_voted 12 27 2 <| tGoto (G 477)
def w_X12_comes_241 (M : CT) (G : Nat → PT) (Rp : RT) : PT := tAload 0 <| tIload 2 <| tAload 0 <| tGetR 12 27 12 <| tConst 0 <| tAld 20 <| tIload 3 <| tCallV M jX12_takes 12 27 3 <| tGoto (G 477)
def w_X12_comes_256 (M : CT) (G : Nat → PT) (Rp : RT) : PT := tIload 3 <| tIf (fun x => x = 0) (G 477) <| tAload 0 <| tIload 2 <| tCallV M jX12_isLeader 12 27 1 <| tIf (fun x => x = 0) (G 477) <| tAload 0 <| tIload 2 <| tAload 0 <| tGetR 12 27 12 <| tConst 0 <| tAld 20 <| tAload 0 <| tGetR 12 27 12 <| tConst 4 <| tAld 20 <| tConst 1 <| tIf2 (fun x y => x ≠ y) (G 290) <| tConst 1 <| tGoto (G 291)
def w_X12_comes_290 (M : CT) (G : Nat → PT) (Rp : RT) : PT := tConst 0 <| G 291
def w_X12_comes_291 (M : CT) (G : Nat → PT) (Rp : RT) : PT := tAload 0 <| tGetR 12 27 12 <| tConst 5 <| tAld 20 <| tCallV M jX12_took 12 27 4 <| tGoto (G 477)
def w_X12_comes_303 (M : CT) (G : Nat → PT) (Rp : RT) : PT := tAload 0 <| tIload 2 <| tCallV M jX12_laysMembers 12 27 1 <| tIload 3 <| tIf (fun x => x = 0) (G 477) <| tAload 0 <| tIload 2 <| tCallV M jX12_isLeader 12 27 1 <| tIf (fun x => x ≠ 0) (G 477) <| tAload 0 <| tGetI 12 27 8 <| tAload 0 <| tGetI 12 27 9 <| tBin (fun x y => x ||| y) <| tIload 2 <| tCallS M jX12_has 2 <| tIf (fun x => x = 0) (G 477) <| tAload 0 <| tIload 2 <| tConst 1 <| tCallV M jX12_of 12 27 2 <| tConst 200 <| tIf2 (fun x y => y ≤ x) (G 477) <| tAload 0 <| tIload 2 <| tCallV M jX12_standsUp 12 27 1 <| tGoto (G 477)
def w_X12_comes_356 (M : CT) (G : Nat → PT) (Rp : RT) : PT := tAload 0 <| tIload 2 <| tAload 0 <| tGetR 12 27 12 <| tConst 0 <| tAld 20 <| tAload 0 <| tGetR 12 27 12 <| tConst 2 <| tAld 20 <| tAload 0 <| tGetR 12 27 12 <| tConst 4 <| tAld 20 <| tAload 0 <| tGetR 12 27 12 <| tConst 5 <| tAld 20 <| tCallV M jX12_wouldBe 12 27 5 <| tGoto (G 477)
def w_X12_comes_388 (M : CT) (G : Nat → PT) (Rp : RT) : PT := tAload 0 <| tIload 2 <| tConst 3 <| tCallV M jX12_of 12 27 2 <| tConst 3 <| tIf2 (fun x y => x ≠ y) (G 477) <| tAload 0 <| tIload 2 <| tAload 0 <| tGetR 12 27 12 <| tConst 0 <| tAld 20 <| tAload 0 <| tGetR 12 27 12 <| tConst 4 <| tAld 20 <| tConst 1 <| tIf2 (fun x y => x ≠ y) (G 420) <| tConst 1 <| tGoto (G 421)
def w_X12_comes_420 (M : CT) (G : Nat → PT) (Rp : RT) : PT := tConst 0 <| G 421
def w_X12_comes_421 (M : CT) (G : Nat → PT) (Rp : RT) : PT := tAload 0 <| tGetR 12 27 12 <| tConst 2 <| tAld 20 <| tCallV M jX12_would 12 27 4 <| tGoto (G 477)
def w_X12_comes_433 (M : CT) (G : Nat → PT) (Rp : RT) : PT := tAload 0 <| tIload 2 <| tAload 0 <| tGetR 12 27 12 <| tConst 0 <| tAld 20 <| tIload 3 <| tCallV M jX12_installs 12 27 3 <| tGoto (G 477)
def w_X12_comes_448 (M : CT) (G : Nat → PT) (Rp : RT) : PT := tIload 3 <| tIf (fun x => x = 0) (G 477) <| tAload 0 <| tIload 2 <| tCallV M jX12_isLeader 12 27 1 <| tIf (fun x => x = 0) (G 477) <| tAload 0 <| tIload 2 <| tAload 0 <| tGetR 12 27 12 <| tConst 0 <| tAld 20 <| tAload 0 <| tGetR 12 27 12 <| tConst 4 <| tAld 20 <| tCallV M jX12_installed 12 27 3 <| G 477
def w_X12_comes_477 (M : CT) (G : Nat → PT) (Rp : RT) : PT := tConst 1 <| tIret Rp
set_option maxRecDepth 20000 in
theorem b_X12_comes_0 {Z : Zt} {d : Nat} {p : Program} {e : Env} {R : Room} {s : State} {m : MethodId} {args : Array Value} {below : List Frame} {meth : Method} {c : Code} {Rp : RT} (C : Cx Z d jX12_comes RX12 p R s m args meth c) : Sd Z jX12_comes p e R s m args below meth c (MQ below (QcS Z Rp) args s 0 0 (fun a => Z.2.2.1 < a)) 0 (w_X12_comes_0 (MS Z d) (Gw Z 4 p e R s m args below meth c (MQ below (QcS Z Rp) args s 0 0 (fun a => Z.2.2.1 < a))) Rp) := by
  unfold w_X12_comes_0
  refine s_aload_n (k := 0) C (by decide +kernel) ?_
  refine s_iload_n (k := 1) C (by decide +kernel) ?_
  refine s_callV C rfl rfl (by decide +kernel) rfl w_7_176 w_7_178 w_p5_14 w_1_13 w_7_179 (by decide +kernel) ?_
  refine s_aload_n (k := 0) C (by decide +kernel) ?_
  refine s_getR C w_6_99 (by decide +kernel) rfl ?_
  refine s_iconst (n := 1) C (by decide +kernel) (by decide) ?_
  refine s_iald C (by decide +kernel) ?_
  refine s_istore_n (k := 2) C (by decide +kernel) ?_
  refine s_aload_n (k := 0) C (by decide +kernel) ?_
  refine s_iload_n (k := 2) C (by decide +kernel) ?_
  refine s_callV C rfl rfl (by decide +kernel) rfl w_6_232 w_6_234 w_p3_14 w_1_13 w_6_235 (by decide +kernel) ?_
  refine s_if_eq (off := 17) (tgt := 34) C (by decide +kernel) (by decide) (fun _ _ _ _ _ _ h => h) ?_
  refine s_aload_n (k := 0) C (by decide +kernel) ?_
  refine s_aload_n (k := 0) C (by decide +kernel) ?_
  refine s_getR C w_6_99 (by decide +kernel) rfl ?_
  refine s_iconst (n := 0) C (by decide +kernel) (by decide) ?_
  refine s_iald C (by decide +kernel) ?_
  refine s_iload_n (k := 2) C (by decide +kernel) ?_
  refine s_callV C rfl rfl (by decide +kernel) rfl w_7_31 w_7_33 w_p4_7 w_1_13 w_7_34 (by decide +kernel) ?_
  refine s_if_ne (off := 17) (tgt := 48) C (by decide +kernel) (by decide) (fun _ _ _ _ _ _ h => h) ?_
  exact (fun _ _ _ _ _ _ h => h)
set_option maxRecDepth 20000 in
theorem b_X12_comes_34 {Z : Zt} {d : Nat} {p : Program} {e : Env} {R : Room} {s : State} {m : MethodId} {args : Array Value} {below : List Frame} {meth : Method} {c : Code} {Rp : RT} (C : Cx Z d jX12_comes RX12 p R s m args meth c) : Sd Z jX12_comes p e R s m args below meth c (MQ below (QcS Z Rp) args s 0 0 (fun a => Z.2.2.1 < a)) 34 (w_X12_comes_34 (MS Z d) (Gw Z 4 p e R s m args below meth c (MQ below (QcS Z Rp) args s 0 0 (fun a => Z.2.2.1 < a))) Rp) := by
  unfold w_X12_comes_34
  refine s_aload_n (k := 0) C (by decide +kernel) ?_
  refine s_getR C w_6_88 (by decide +kernel) rfl ?_
  refine s_sipush (n := 4511) C (by decide +kernel) (by decide) ?_
  refine s_dup2 C (by decide +kernel) ?_
  refine s_iald C (by decide +kernel) ?_
  refine s_iconst (n := 1) C (by decide +kernel) (by decide) ?_
  refine s_iadd C (by decide +kernel) ?_
  refine s_iast C (by decide +kernel) ?_
  refine s_iconst (n := 0) C (by decide +kernel) (by decide) ?_
  exact s_iret C rfl (by decide +kernel)
set_option maxRecDepth 20000 in
theorem b_X12_comes_48 {Z : Zt} {d : Nat} {p : Program} {e : Env} {R : Room} {s : State} {m : MethodId} {args : Array Value} {below : List Frame} {meth : Method} {c : Code} {Rp : RT} (C : Cx Z d jX12_comes RX12 p R s m args meth c) : Sd Z jX12_comes p e R s m args below meth c (MQ below (QcS Z Rp) args s 0 0 (fun a => Z.2.2.1 < a)) 48 (w_X12_comes_48 (MS Z d) (Gw Z 4 p e R s m args below meth c (MQ below (QcS Z Rp) args s 0 0 (fun a => Z.2.2.1 < a))) Rp) := by
  unfold w_X12_comes_48
  refine s_aload_n (k := 0) C (by decide +kernel) ?_
  refine s_getR C w_6_88 (by decide +kernel) rfl ?_
  refine s_sipush (n := 4512) C (by decide +kernel) (by decide) ?_
  refine s_dup2 C (by decide +kernel) ?_
  refine s_iald C (by decide +kernel) ?_
  refine s_iconst (n := 1) C (by decide +kernel) (by decide) ?_
  refine s_iadd C (by decide +kernel) ?_
  refine s_iast C (by decide +kernel) ?_
  refine s_aload_n (k := 0) C (by decide +kernel) ?_
  refine s_getR C w_6_99 (by decide +kernel) rfl ?_
  refine s_iconst (n := 2) C (by decide +kernel) (by decide) ?_
  refine s_iald C (by decide +kernel) ?_
  refine s_aload_n (k := 0) C (by decide +kernel) ?_
  refine s_iload_n (k := 2) C (by decide +kernel) ?_
  refine s_iconst (n := 1) C (by decide +kernel) (by decide) ?_
  refine s_callV C rfl rfl (by decide +kernel) rfl w_6_220 w_6_222 w_p3_11 w_1_13 w_6_223 (by decide +kernel) ?_
  refine s_icmp_le (off := 25) (tgt := 97) C (by decide +kernel) (by decide) (fun _ _ _ _ _ _ h => h) ?_
  refine s_aload_n (k := 0) C (by decide +kernel) ?_
  refine s_getR C w_6_99 (by decide +kernel) rfl ?_
  refine s_iconst (n := 3) C (by decide +kernel) (by decide) ?_
  refine s_iald C (by decide +kernel) ?_
  refine s_bipush (n := 7) C (by decide +kernel) (by decide) ?_
  refine s_icmp_ge (off := 14) (tgt := 97) C (by decide +kernel) (by decide) (fun _ _ _ _ _ _ h => h) ?_
  refine s_aload_n (k := 0) C (by decide +kernel) ?_
  refine s_iload_n (k := 2) C (by decide +kernel) ?_
  refine s_aload_n (k := 0) C (by decide +kernel) ?_
  refine s_getR C w_6_99 (by decide +kernel) rfl ?_
  refine s_iconst (n := 2) C (by decide +kernel) (by decide) ?_
  refine s_iald C (by decide +kernel) ?_
  refine s_callV C rfl rfl (by decide +kernel) rfl w_7_180 w_7_182 w_p5_15 w_1_13 w_7_183 (by decide +kernel) ?_
  exact (fun _ _ _ _ _ _ h => h)
set_option maxRecDepth 20000 in
theorem b_X12_comes_97 {Z : Zt} {d : Nat} {p : Program} {e : Env} {R : Room} {s : State} {m : MethodId} {args : Array Value} {below : List Frame} {meth : Method} {c : Code} {Rp : RT} (C : Cx Z d jX12_comes RX12 p R s m args meth c) : Sd Z jX12_comes p e R s m args below meth c (MQ below (QcS Z Rp) args s 0 0 (fun a => Z.2.2.1 < a)) 97 (w_X12_comes_97 (MS Z d) (Gw Z 4 p e R s m args below meth c (MQ below (QcS Z Rp) args s 0 0 (fun a => Z.2.2.1 < a))) Rp) := by
  unfold w_X12_comes_97
  refine s_aload_n (k := 0) C (by decide +kernel) ?_
  refine s_getR C w_6_99 (by decide +kernel) rfl ?_
  refine s_iconst (n := 2) C (by decide +kernel) (by decide) ?_
  refine s_iald C (by decide +kernel) ?_
  refine s_aload_n (k := 0) C (by decide +kernel) ?_
  refine s_iload_n (k := 2) C (by decide +kernel) ?_
  refine s_iconst (n := 1) C (by decide +kernel) (by decide) ?_
  refine s_callV C rfl rfl (by decide +kernel) rfl w_6_220 w_6_222 w_p3_11 w_1_13 w_6_223 (by decide +kernel) ?_
  refine s_icmp_ne (off := 7) (tgt := 116) C (by decide +kernel) (by decide) (fun _ _ _ _ _ _ h => h) ?_
  refine s_iconst (n := 1) C (by decide +kernel) (by decide) ?_
  exact s_goto (off := 4) (tgt := 117) C (by decide +kernel) (by decide) (fun _ _ _ _ _ _ h => h)
set_option maxRecDepth 20000 in
theorem b_X12_comes_116 {Z : Zt} {d : Nat} {p : Program} {e : Env} {R : Room} {s : State} {m : MethodId} {args : Array Value} {below : List Frame} {meth : Method} {c : Code} {Rp : RT} (C : Cx Z d jX12_comes RX12 p R s m args meth c) : Sd Z jX12_comes p e R s m args below meth c (MQ below (QcS Z Rp) args s 0 0 (fun a => Z.2.2.1 < a)) 116 (w_X12_comes_116 (MS Z d) (Gw Z 4 p e R s m args below meth c (MQ below (QcS Z Rp) args s 0 0 (fun a => Z.2.2.1 < a))) Rp) := by
  unfold w_X12_comes_116
  refine s_iconst (n := 0) C (by decide +kernel) (by decide) ?_
  exact (fun _ _ _ _ _ _ h => h)
set_option maxRecDepth 20000 in
theorem b_X12_comes_117 {Z : Zt} {d : Nat} {p : Program} {e : Env} {R : Room} {s : State} {m : MethodId} {args : Array Value} {below : List Frame} {meth : Method} {c : Code} {Rp : RT} (C : Cx Z d jX12_comes RX12 p R s m args meth c) : Sd Z jX12_comes p e R s m args below meth c (MQ below (QcS Z Rp) args s 0 0 (fun a => Z.2.2.1 < a)) 117 (w_X12_comes_117 (MS Z d) (Gw Z 4 p e R s m args below meth c (MQ below (QcS Z Rp) args s 0 0 (fun a => Z.2.2.1 < a))) Rp) := by
  unfold w_X12_comes_117
  refine s_istore_n (k := 3) C (by decide +kernel) ?_
  refine s_aload_n (k := 0) C (by decide +kernel) ?_
  refine s_getR C w_6_99 (by decide +kernel) rfl ?_
  refine s_iconst (n := 3) C (by decide +kernel) (by decide) ?_
  refine s_iald C (by decide +kernel) ?_
  refine s_tsw (df := 324) (lo := 0) (hi := 8) (offs := #[52, 79, 117, 132, 309, 324, 179, 232, 264]) (len := 52) (tgt := 448) C (by decide +kernel) (by decide) (fun _ _ _ _ _ _ h => h) (fun i r h => ?_) (fun x h => tsw_out 9 x (fun q hq => ?_))
  · match i, h with
    | 0, h => cases h; dsimp only; exact ⟨by decide, by decide, 52, 176, by rfl, by decide, (fun _ _ _ _ _ _ h => h)⟩
    | 1, h => cases h; dsimp only; exact ⟨by decide, by decide, 79, 203, by rfl, by decide, (fun _ _ _ _ _ _ h => h)⟩
    | 2, h => cases h; dsimp only; exact ⟨by decide, by decide, 117, 241, by rfl, by decide, (fun _ _ _ _ _ _ h => h)⟩
    | 3, h => cases h; dsimp only; exact ⟨by decide, by decide, 132, 256, by rfl, by decide, (fun _ _ _ _ _ _ h => h)⟩
    | 4, h => cases h; dsimp only; exact ⟨by decide, by decide, 309, 433, by rfl, by decide, (fun _ _ _ _ _ _ h => h)⟩
    | 5, h => cases h; dsimp only; exact ⟨by decide, by decide, 324, 448, by rfl, by decide, (fun _ _ _ _ _ _ h => h)⟩
    | 6, h => cases h; dsimp only; exact ⟨by decide, by decide, 179, 303, by rfl, by decide, (fun _ _ _ _ _ _ h => h)⟩
    | 7, h => cases h; dsimp only; exact ⟨by decide, by decide, 232, 356, by rfl, by decide, (fun _ _ _ _ _ _ h => h)⟩
    | 8, h => cases h; dsimp only; exact ⟨by decide, by decide, 264, 388, by rfl, by decide, (fun _ _ _ _ _ _ h => h)⟩
    | q + 9, h => simp at h
  · match q, hq with
    | 0, _ => exact h _ (List.mem_of_getElem? (i := 0) rfl)
    | 1, _ => exact h _ (List.mem_of_getElem? (i := 1) rfl)
    | 2, _ => exact h _ (List.mem_of_getElem? (i := 2) rfl)
    | 3, _ => exact h _ (List.mem_of_getElem? (i := 3) rfl)
    | 4, _ => exact h _ (List.mem_of_getElem? (i := 4) rfl)
    | 5, _ => exact h _ (List.mem_of_getElem? (i := 5) rfl)
    | 6, _ => exact h _ (List.mem_of_getElem? (i := 6) rfl)
    | 7, _ => exact h _ (List.mem_of_getElem? (i := 7) rfl)
    | 8, _ => exact h _ (List.mem_of_getElem? (i := 8) rfl)
    | q + 9, hq => exact absurd hq (by omega)
set_option maxRecDepth 20000 in
theorem b_X12_comes_176 {Z : Zt} {d : Nat} {p : Program} {e : Env} {R : Room} {s : State} {m : MethodId} {args : Array Value} {below : List Frame} {meth : Method} {c : Code} {Rp : RT} (C : Cx Z d jX12_comes RX12 p R s m args meth c) : Sd Z jX12_comes p e R s m args below meth c (MQ below (QcS Z Rp) args s 0 0 (fun a => Z.2.2.1 < a)) 176 (w_X12_comes_176 (MS Z d) (Gw Z 4 p e R s m args below meth c (MQ below (QcS Z Rp) args s 0 0 (fun a => Z.2.2.1 < a))) Rp) := by
  unfold w_X12_comes_176
  refine s_aload_n (k := 0) C (by decide +kernel) ?_
  refine s_iload_n (k := 2) C (by decide +kernel) ?_
  refine s_aload_n (k := 0) C (by decide +kernel) ?_
  refine s_getR C w_6_99 (by decide +kernel) rfl ?_
  refine s_iconst (n := 0) C (by decide +kernel) (by decide) ?_
  refine s_iald C (by decide +kernel) ?_
  refine s_iload_n (k := 3) C (by decide +kernel) ?_
  refine s_aload_n (k := 0) C (by decide +kernel) ?_
  refine s_getR C w_6_99 (by decide +kernel) rfl ?_
  refine s_iconst (n := 4) C (by decide +kernel) (by decide) ?_
  refine s_iald C (by decide +kernel) ?_
  refine s_aload_n (k := 0) C (by decide +kernel) ?_
  refine s_getR C w_6_99 (by decide +kernel) rfl ?_
  refine s_iconst (n := 5) C (by decide +kernel) (by decide) ?_
  refine s_iald C (by decide +kernel) ?_
  refine s_callV C rfl rfl (by decide +kernel) rfl w_7_184 w_7_186 w_p6_0 w_1_13 w_7_187 (by decide +kernel) ?_
  exact s_goto (off := 277) (tgt := 477) C (by decide +kernel) (by decide) (fun _ _ _ _ _ _ h => h)
set_option maxRecDepth 20000 in
theorem b_X12_comes_203 {Z : Zt} {d : Nat} {p : Program} {e : Env} {R : Room} {s : State} {m : MethodId} {args : Array Value} {below : List Frame} {meth : Method} {c : Code} {Rp : RT} (C : Cx Z d jX12_comes RX12 p R s m args meth c) : Sd Z jX12_comes p e R s m args below meth c (MQ below (QcS Z Rp) args s 0 0 (fun a => Z.2.2.1 < a)) 203 (w_X12_comes_203 (MS Z d) (Gw Z 4 p e R s m args below meth c (MQ below (QcS Z Rp) args s 0 0 (fun a => Z.2.2.1 < a))) Rp) := by
  unfold w_X12_comes_203
  refine s_iload_n (k := 3) C (by decide +kernel) ?_
  refine s_if_eq (off := 273) (tgt := 477) C (by decide +kernel) (by decide) (fun _ _ _ _ _ _ h => h) ?_
  refine s_aload_n (k := 0) C (by decide +kernel) ?_
  refine s_getR C w_6_99 (by decide +kernel) rfl ?_
  refine s_iconst (n := 4) C (by decide +kernel) (by decide) ?_
  refine s_iald C (by decide +kernel) ?_
  refine s_iconst (n := 1) C (by decide +kernel) (by decide) ?_
  refine s_icmp_ne (off := 263) (tgt := 477) C (by decide +kernel) (by decide) (fun _ _ _ _ _ _ h => h) ?_
  refine s_aload_n (k := 0) C (by decide +kernel) ?_
  refine s_iload_n (k := 2) C (by decide +kernel) ?_
  refine s_iconst (n := 3) C (by decide +kernel) (by decide) ?_
  refine s_callV C rfl rfl (by decide +kernel) rfl w_6_220 w_6_222 w_p3_11 w_1_13 w_6_223 (by decide +kernel) ?_
  refine s_iconst (n := 1) C (by decide +kernel) (by decide) ?_
  refine s_icmp_ne (off := 253) (tgt := 477) C (by decide +kernel) (by decide) (fun _ _ _ _ _ _ h => h) ?_
  refine s_aload_n (k := 0) C (by decide +kernel) ?_
  refine s_iload_n (k := 2) C (by decide +kernel) ?_
  refine s_aload_n (k := 0) C (by decide +kernel) ?_
  refine s_getR C w_6_99 (by decide +kernel) rfl ?_
  refine s_iconst (n := 0) C (by decide +kernel) (by decide) ?_
  refine s_iald C (by decide +kernel) ?_
  refine s_callV C rfl rfl (by decide +kernel) rfl w_7_192 w_7_194 w_p6_2 w_1_13 w_7_195 (by decide +kernel) ?_
  exact s_goto (off := 239) (tgt := 477) C (by decide +kernel) (by decide) (fun _ _ _ _ _ _ h => h)
set_option maxRecDepth 20000 in
theorem b_X12_comes_241 {Z : Zt} {d : Nat} {p : Program} {e : Env} {R : Room} {s : State} {m : MethodId} {args : Array Value} {below : List Frame} {meth : Method} {c : Code} {Rp : RT} (C : Cx Z d jX12_comes RX12 p R s m args meth c) : Sd Z jX12_comes p e R s m args below meth c (MQ below (QcS Z Rp) args s 0 0 (fun a => Z.2.2.1 < a)) 241 (w_X12_comes_241 (MS Z d) (Gw Z 4 p e R s m args below meth c (MQ below (QcS Z Rp) args s 0 0 (fun a => Z.2.2.1 < a))) Rp) := by
  unfold w_X12_comes_241
  refine s_aload_n (k := 0) C (by decide +kernel) ?_
  refine s_iload_n (k := 2) C (by decide +kernel) ?_
  refine s_aload_n (k := 0) C (by decide +kernel) ?_
  refine s_getR C w_6_99 (by decide +kernel) rfl ?_
  refine s_iconst (n := 0) C (by decide +kernel) (by decide) ?_
  refine s_iald C (by decide +kernel) ?_
  refine s_iload_n (k := 3) C (by decide +kernel) ?_
  refine s_callV C rfl rfl (by decide +kernel) rfl w_7_196 w_7_198 w_p6_3 w_1_13 w_7_199 (by decide +kernel) ?_
  exact s_goto (off := 224) (tgt := 477) C (by decide +kernel) (by decide) (fun _ _ _ _ _ _ h => h)
set_option maxRecDepth 20000 in
theorem b_X12_comes_256 {Z : Zt} {d : Nat} {p : Program} {e : Env} {R : Room} {s : State} {m : MethodId} {args : Array Value} {below : List Frame} {meth : Method} {c : Code} {Rp : RT} (C : Cx Z d jX12_comes RX12 p R s m args meth c) : Sd Z jX12_comes p e R s m args below meth c (MQ below (QcS Z Rp) args s 0 0 (fun a => Z.2.2.1 < a)) 256 (w_X12_comes_256 (MS Z d) (Gw Z 4 p e R s m args below meth c (MQ below (QcS Z Rp) args s 0 0 (fun a => Z.2.2.1 < a))) Rp) := by
  unfold w_X12_comes_256
  refine s_iload_n (k := 3) C (by decide +kernel) ?_
  refine s_if_eq (off := 220) (tgt := 477) C (by decide +kernel) (by decide) (fun _ _ _ _ _ _ h => h) ?_
  refine s_aload_n (k := 0) C (by decide +kernel) ?_
  refine s_iload_n (k := 2) C (by decide +kernel) ?_
  refine s_callV C rfl rfl (by decide +kernel) rfl w_6_236 w_6_238 w_p3_15 w_1_13 w_6_239 (by decide +kernel) ?_
  refine s_if_eq (off := 212) (tgt := 477) C (by decide +kernel) (by decide) (fun _ _ _ _ _ _ h => h) ?_
  refine s_aload_n (k := 0) C (by decide +kernel) ?_
  refine s_iload_n (k := 2) C (by decide +kernel) ?_
  refine s_aload_n (k := 0) C (by decide +kernel) ?_
  refine s_getR C w_6_99 (by decide +kernel) rfl ?_
  refine s_iconst (n := 0) C (by decide +kernel) (by decide) ?_
  refine s_iald C (by decide +kernel) ?_
  refine s_aload_n (k := 0) C (by decide +kernel) ?_
  refine s_getR C w_6_99 (by decide +kernel) rfl ?_
  refine s_iconst (n := 4) C (by decide +kernel) (by decide) ?_
  refine s_iald C (by decide +kernel) ?_
  refine s_iconst (n := 1) C (by decide +kernel) (by decide) ?_
  refine s_icmp_ne (off := 7) (tgt := 290) C (by decide +kernel) (by decide) (fun _ _ _ _ _ _ h => h) ?_
  refine s_iconst (n := 1) C (by decide +kernel) (by decide) ?_
  exact s_goto (off := 4) (tgt := 291) C (by decide +kernel) (by decide) (fun _ _ _ _ _ _ h => h)
set_option maxRecDepth 20000 in
theorem b_X12_comes_290 {Z : Zt} {d : Nat} {p : Program} {e : Env} {R : Room} {s : State} {m : MethodId} {args : Array Value} {below : List Frame} {meth : Method} {c : Code} {Rp : RT} (C : Cx Z d jX12_comes RX12 p R s m args meth c) : Sd Z jX12_comes p e R s m args below meth c (MQ below (QcS Z Rp) args s 0 0 (fun a => Z.2.2.1 < a)) 290 (w_X12_comes_290 (MS Z d) (Gw Z 4 p e R s m args below meth c (MQ below (QcS Z Rp) args s 0 0 (fun a => Z.2.2.1 < a))) Rp) := by
  unfold w_X12_comes_290
  refine s_iconst (n := 0) C (by decide +kernel) (by decide) ?_
  exact (fun _ _ _ _ _ _ h => h)
set_option maxRecDepth 20000 in
theorem b_X12_comes_291 {Z : Zt} {d : Nat} {p : Program} {e : Env} {R : Room} {s : State} {m : MethodId} {args : Array Value} {below : List Frame} {meth : Method} {c : Code} {Rp : RT} (C : Cx Z d jX12_comes RX12 p R s m args meth c) : Sd Z jX12_comes p e R s m args below meth c (MQ below (QcS Z Rp) args s 0 0 (fun a => Z.2.2.1 < a)) 291 (w_X12_comes_291 (MS Z d) (Gw Z 4 p e R s m args below meth c (MQ below (QcS Z Rp) args s 0 0 (fun a => Z.2.2.1 < a))) Rp) := by
  unfold w_X12_comes_291
  refine s_aload_n (k := 0) C (by decide +kernel) ?_
  refine s_getR C w_6_99 (by decide +kernel) rfl ?_
  refine s_iconst (n := 5) C (by decide +kernel) (by decide) ?_
  refine s_iald C (by decide +kernel) ?_
  refine s_callV C rfl rfl (by decide +kernel) rfl w_7_204 w_7_206 w_p6_5 w_1_13 w_7_207 (by decide +kernel) ?_
  exact s_goto (off := 177) (tgt := 477) C (by decide +kernel) (by decide) (fun _ _ _ _ _ _ h => h)
set_option maxRecDepth 20000 in
theorem b_X12_comes_303 {Z : Zt} {d : Nat} {p : Program} {e : Env} {R : Room} {s : State} {m : MethodId} {args : Array Value} {below : List Frame} {meth : Method} {c : Code} {Rp : RT} (C : Cx Z d jX12_comes RX12 p R s m args meth c) : Sd Z jX12_comes p e R s m args below meth c (MQ below (QcS Z Rp) args s 0 0 (fun a => Z.2.2.1 < a)) 303 (w_X12_comes_303 (MS Z d) (Gw Z 4 p e R s m args below meth c (MQ below (QcS Z Rp) args s 0 0 (fun a => Z.2.2.1 < a))) Rp) := by
  unfold w_X12_comes_303
  refine s_aload_n (k := 0) C (by decide +kernel) ?_
  refine s_iload_n (k := 2) C (by decide +kernel) ?_
  refine s_callV C rfl rfl (by decide +kernel) rfl w_6_216 w_6_218 w_p3_10 w_1_13 w_6_219 (by decide +kernel) ?_
  refine s_iload_n (k := 3) C (by decide +kernel) ?_
  refine s_if_eq (off := 168) (tgt := 477) C (by decide +kernel) (by decide) (fun _ _ _ _ _ _ h => h) ?_
  refine s_aload_n (k := 0) C (by decide +kernel) ?_
  refine s_iload_n (k := 2) C (by decide +kernel) ?_
  refine s_callV C rfl rfl (by decide +kernel) rfl w_6_236 w_6_238 w_p3_15 w_1_13 w_6_239 (by decide +kernel) ?_
  refine s_if_ne (off := 160) (tgt := 477) C (by decide +kernel) (by decide) (fun _ _ _ _ _ _ h => h) ?_
  refine s_aload_n (k := 0) C (by decide +kernel) ?_
  refine s_getI C w_6_95 (by decide +kernel) rfl ?_
  refine s_aload_n (k := 0) C (by decide +kernel) ?_
  refine s_getI C w_6_96 (by decide +kernel) rfl ?_
  refine s_ior C (by decide +kernel) ?_
  refine s_iload_n (k := 2) C (by decide +kernel) ?_
  refine s_callS C (by decide +kernel) rfl w_7_0 w_7_1 w_1_13 w_7_2 (by decide +kernel) ?_
  refine s_if_eq (off := 144) (tgt := 477) C (by decide +kernel) (by decide) (fun _ _ _ _ _ _ h => h) ?_
  refine s_aload_n (k := 0) C (by decide +kernel) ?_
  refine s_iload_n (k := 2) C (by decide +kernel) ?_
  refine s_iconst (n := 1) C (by decide +kernel) (by decide) ?_
  refine s_callV C rfl rfl (by decide +kernel) rfl w_6_220 w_6_222 w_p3_11 w_1_13 w_6_223 (by decide +kernel) ?_
  refine s_sipush (n := 200) C (by decide +kernel) (by decide) ?_
  refine s_icmp_ge (off := 132) (tgt := 477) C (by decide +kernel) (by decide) (fun _ _ _ _ _ _ h => h) ?_
  refine s_aload_n (k := 0) C (by decide +kernel) ?_
  refine s_iload_n (k := 2) C (by decide +kernel) ?_
  refine s_callV C rfl rfl (by decide +kernel) rfl w_7_7 w_7_9 w_p4_1 w_1_13 w_7_10 (by decide +kernel) ?_
  exact s_goto (off := 124) (tgt := 477) C (by decide +kernel) (by decide) (fun _ _ _ _ _ _ h => h)
set_option maxRecDepth 20000 in
theorem b_X12_comes_356 {Z : Zt} {d : Nat} {p : Program} {e : Env} {R : Room} {s : State} {m : MethodId} {args : Array Value} {below : List Frame} {meth : Method} {c : Code} {Rp : RT} (C : Cx Z d jX12_comes RX12 p R s m args meth c) : Sd Z jX12_comes p e R s m args below meth c (MQ below (QcS Z Rp) args s 0 0 (fun a => Z.2.2.1 < a)) 356 (w_X12_comes_356 (MS Z d) (Gw Z 4 p e R s m args below meth c (MQ below (QcS Z Rp) args s 0 0 (fun a => Z.2.2.1 < a))) Rp) := by
  unfold w_X12_comes_356
  refine s_aload_n (k := 0) C (by decide +kernel) ?_
  refine s_iload_n (k := 2) C (by decide +kernel) ?_
  refine s_aload_n (k := 0) C (by decide +kernel) ?_
  refine s_getR C w_6_99 (by decide +kernel) rfl ?_
  refine s_iconst (n := 0) C (by decide +kernel) (by decide) ?_
  refine s_iald C (by decide +kernel) ?_
  refine s_aload_n (k := 0) C (by decide +kernel) ?_
  refine s_getR C w_6_99 (by decide +kernel) rfl ?_
  refine s_iconst (n := 2) C (by decide +kernel) (by decide) ?_
  refine s_iald C (by decide +kernel) ?_
  refine s_aload_n (k := 0) C (by decide +kernel) ?_
  refine s_getR C w_6_99 (by decide +kernel) rfl ?_
  refine s_iconst (n := 4) C (by decide +kernel) (by decide) ?_
  refine s_iald C (by decide +kernel) ?_
  refine s_aload_n (k := 0) C (by decide +kernel) ?_
  refine s_getR C w_6_99 (by decide +kernel) rfl ?_
  refine s_iconst (n := 5) C (by decide +kernel) (by decide) ?_
  refine s_iald C (by decide +kernel) ?_
  refine s_callV C rfl rfl (by decide +kernel) rfl w_7_216 w_7_218 w_p6_8 w_1_13 w_7_219 (by decide +kernel) ?_
  exact s_goto (off := 92) (tgt := 477) C (by decide +kernel) (by decide) (fun _ _ _ _ _ _ h => h)
set_option maxRecDepth 20000 in
theorem b_X12_comes_388 {Z : Zt} {d : Nat} {p : Program} {e : Env} {R : Room} {s : State} {m : MethodId} {args : Array Value} {below : List Frame} {meth : Method} {c : Code} {Rp : RT} (C : Cx Z d jX12_comes RX12 p R s m args meth c) : Sd Z jX12_comes p e R s m args below meth c (MQ below (QcS Z Rp) args s 0 0 (fun a => Z.2.2.1 < a)) 388 (w_X12_comes_388 (MS Z d) (Gw Z 4 p e R s m args below meth c (MQ below (QcS Z Rp) args s 0 0 (fun a => Z.2.2.1 < a))) Rp) := by
  unfold w_X12_comes_388
  refine s_aload_n (k := 0) C (by decide +kernel) ?_
  refine s_iload_n (k := 2) C (by decide +kernel) ?_
  refine s_iconst (n := 3) C (by decide +kernel) (by decide) ?_
  refine s_callV C rfl rfl (by decide +kernel) rfl w_6_220 w_6_222 w_p3_11 w_1_13 w_6_223 (by decide +kernel) ?_
  refine s_iconst (n := 3) C (by decide +kernel) (by decide) ?_
  refine s_icmp_ne (off := 82) (tgt := 477) C (by decide +kernel) (by decide) (fun _ _ _ _ _ _ h => h) ?_
  refine s_aload_n (k := 0) C (by decide +kernel) ?_
  refine s_iload_n (k := 2) C (by decide +kernel) ?_
  refine s_aload_n (k := 0) C (by decide +kernel) ?_
  refine s_getR C w_6_99 (by decide +kernel) rfl ?_
  refine s_iconst (n := 0) C (by decide +kernel) (by decide) ?_
  refine s_iald C (by decide +kernel) ?_
  refine s_aload_n (k := 0) C (by decide +kernel) ?_
  refine s_getR C w_6_99 (by decide +kernel) rfl ?_
  refine s_iconst (n := 4) C (by decide +kernel) (by decide) ?_
  refine s_iald C (by decide +kernel) ?_
  refine s_iconst (n := 1) C (by decide +kernel) (by decide) ?_
  refine s_icmp_ne (off := 7) (tgt := 420) C (by decide +kernel) (by decide) (fun _ _ _ _ _ _ h => h) ?_
  refine s_iconst (n := 1) C (by decide +kernel) (by decide) ?_
  exact s_goto (off := 4) (tgt := 421) C (by decide +kernel) (by decide) (fun _ _ _ _ _ _ h => h)
set_option maxRecDepth 20000 in
theorem b_X12_comes_420 {Z : Zt} {d : Nat} {p : Program} {e : Env} {R : Room} {s : State} {m : MethodId} {args : Array Value} {below : List Frame} {meth : Method} {c : Code} {Rp : RT} (C : Cx Z d jX12_comes RX12 p R s m args meth c) : Sd Z jX12_comes p e R s m args below meth c (MQ below (QcS Z Rp) args s 0 0 (fun a => Z.2.2.1 < a)) 420 (w_X12_comes_420 (MS Z d) (Gw Z 4 p e R s m args below meth c (MQ below (QcS Z Rp) args s 0 0 (fun a => Z.2.2.1 < a))) Rp) := by
  unfold w_X12_comes_420
  refine s_iconst (n := 0) C (by decide +kernel) (by decide) ?_
  exact (fun _ _ _ _ _ _ h => h)
set_option maxRecDepth 20000 in
theorem b_X12_comes_421 {Z : Zt} {d : Nat} {p : Program} {e : Env} {R : Room} {s : State} {m : MethodId} {args : Array Value} {below : List Frame} {meth : Method} {c : Code} {Rp : RT} (C : Cx Z d jX12_comes RX12 p R s m args meth c) : Sd Z jX12_comes p e R s m args below meth c (MQ below (QcS Z Rp) args s 0 0 (fun a => Z.2.2.1 < a)) 421 (w_X12_comes_421 (MS Z d) (Gw Z 4 p e R s m args below meth c (MQ below (QcS Z Rp) args s 0 0 (fun a => Z.2.2.1 < a))) Rp) := by
  unfold w_X12_comes_421
  refine s_aload_n (k := 0) C (by decide +kernel) ?_
  refine s_getR C w_6_99 (by decide +kernel) rfl ?_
  refine s_iconst (n := 2) C (by decide +kernel) (by decide) ?_
  refine s_iald C (by decide +kernel) ?_
  refine s_callV C rfl rfl (by decide +kernel) rfl w_7_220 w_7_222 w_p6_9 w_1_13 w_7_223 (by decide +kernel) ?_
  exact s_goto (off := 47) (tgt := 477) C (by decide +kernel) (by decide) (fun _ _ _ _ _ _ h => h)
set_option maxRecDepth 20000 in
theorem b_X12_comes_433 {Z : Zt} {d : Nat} {p : Program} {e : Env} {R : Room} {s : State} {m : MethodId} {args : Array Value} {below : List Frame} {meth : Method} {c : Code} {Rp : RT} (C : Cx Z d jX12_comes RX12 p R s m args meth c) : Sd Z jX12_comes p e R s m args below meth c (MQ below (QcS Z Rp) args s 0 0 (fun a => Z.2.2.1 < a)) 433 (w_X12_comes_433 (MS Z d) (Gw Z 4 p e R s m args below meth c (MQ below (QcS Z Rp) args s 0 0 (fun a => Z.2.2.1 < a))) Rp) := by
  unfold w_X12_comes_433
  refine s_aload_n (k := 0) C (by decide +kernel) ?_
  refine s_iload_n (k := 2) C (by decide +kernel) ?_
  refine s_aload_n (k := 0) C (by decide +kernel) ?_
  refine s_getR C w_6_99 (by decide +kernel) rfl ?_
  refine s_iconst (n := 0) C (by decide +kernel) (by decide) ?_
  refine s_iald C (by decide +kernel) ?_
  refine s_iload_n (k := 3) C (by decide +kernel) ?_
  refine s_callV C rfl rfl (by decide +kernel) rfl w_7_224 w_7_226 w_p6_10 w_1_13 w_7_227 (by decide +kernel) ?_
  exact s_goto (off := 32) (tgt := 477) C (by decide +kernel) (by decide) (fun _ _ _ _ _ _ h => h)
set_option maxRecDepth 20000 in
theorem b_X12_comes_448 {Z : Zt} {d : Nat} {p : Program} {e : Env} {R : Room} {s : State} {m : MethodId} {args : Array Value} {below : List Frame} {meth : Method} {c : Code} {Rp : RT} (C : Cx Z d jX12_comes RX12 p R s m args meth c) : Sd Z jX12_comes p e R s m args below meth c (MQ below (QcS Z Rp) args s 0 0 (fun a => Z.2.2.1 < a)) 448 (w_X12_comes_448 (MS Z d) (Gw Z 4 p e R s m args below meth c (MQ below (QcS Z Rp) args s 0 0 (fun a => Z.2.2.1 < a))) Rp) := by
  unfold w_X12_comes_448
  refine s_iload_n (k := 3) C (by decide +kernel) ?_
  refine s_if_eq (off := 28) (tgt := 477) C (by decide +kernel) (by decide) (fun _ _ _ _ _ _ h => h) ?_
  refine s_aload_n (k := 0) C (by decide +kernel) ?_
  refine s_iload_n (k := 2) C (by decide +kernel) ?_
  refine s_callV C rfl rfl (by decide +kernel) rfl w_6_236 w_6_238 w_p3_15 w_1_13 w_6_239 (by decide +kernel) ?_
  refine s_if_eq (off := 20) (tgt := 477) C (by decide +kernel) (by decide) (fun _ _ _ _ _ _ h => h) ?_
  refine s_aload_n (k := 0) C (by decide +kernel) ?_
  refine s_iload_n (k := 2) C (by decide +kernel) ?_
  refine s_aload_n (k := 0) C (by decide +kernel) ?_
  refine s_getR C w_6_99 (by decide +kernel) rfl ?_
  refine s_iconst (n := 0) C (by decide +kernel) (by decide) ?_
  refine s_iald C (by decide +kernel) ?_
  refine s_aload_n (k := 0) C (by decide +kernel) ?_
  refine s_getR C w_6_99 (by decide +kernel) rfl ?_
  refine s_iconst (n := 4) C (by decide +kernel) (by decide) ?_
  refine s_iald C (by decide +kernel) ?_
  refine s_callV C rfl rfl (by decide +kernel) rfl w_7_232 w_7_234 w_p6_12 w_1_13 w_7_235 (by decide +kernel) ?_
  exact (fun _ _ _ _ _ _ h => h)
set_option maxRecDepth 20000 in
theorem b_X12_comes_477 {Z : Zt} {d : Nat} {p : Program} {e : Env} {R : Room} {s : State} {m : MethodId} {args : Array Value} {below : List Frame} {meth : Method} {c : Code} {Rp : RT} (C : Cx Z d jX12_comes RX12 p R s m args meth c) : Sd Z jX12_comes p e R s m args below meth c (MQ below (QcS Z Rp) args s 0 0 (fun a => Z.2.2.1 < a)) 477 (w_X12_comes_477 (MS Z d) (Gw Z 4 p e R s m args below meth c (MQ below (QcS Z Rp) args s 0 0 (fun a => Z.2.2.1 < a))) Rp) := by
  unfold w_X12_comes_477
  refine s_iconst (n := 1) C (by decide +kernel) (by decide) ?_
  exact s_iret C rfl (by decide +kernel)
theorem ms_X12_comes {Z : Zt} {d : Nat} {S : Sh} {μ : Mi} {ρ : Mr} {Rp : RT} (a0 : Nat) (x1 : Int32) (h : ∀ G : Nat → PT, (∀ (L st : List Value) (S : Sh) (q : Nat × Nat) (μ : Mi) (ρ : Mr), w_X12_comes_34 (MS Z d) G Rp L st S q μ ρ → G 34 L st S q μ ρ) → (∀ (L st : List Value) (S : Sh) (q : Nat × Nat) (μ : Mi) (ρ : Mr), w_X12_comes_48 (MS Z d) G Rp L st S q μ ρ → G 48 L st S q μ ρ) → (∀ (L st : List Value) (S : Sh) (q : Nat × Nat) (μ : Mi) (ρ : Mr), w_X12_comes_97 (MS Z d) G Rp L st S q μ ρ → G 97 L st S q μ ρ) → (∀ (L st : List Value) (S : Sh) (q : Nat × Nat) (μ : Mi) (ρ : Mr), w_X12_comes_116 (MS Z d) G Rp L st S q μ ρ → G 116 L st S q μ ρ) → (∀ (L st : List Value) (S : Sh) (q : Nat × Nat) (μ : Mi) (ρ : Mr), w_X12_comes_117 (MS Z d) G Rp L st S q μ ρ → G 117 L st S q μ ρ) → (∀ (L st : List Value) (S : Sh) (q : Nat × Nat) (μ : Mi) (ρ : Mr), w_X12_comes_176 (MS Z d) G Rp L st S q μ ρ → G 176 L st S q μ ρ) → (∀ (L st : List Value) (S : Sh) (q : Nat × Nat) (μ : Mi) (ρ : Mr), w_X12_comes_203 (MS Z d) G Rp L st S q μ ρ → G 203 L st S q μ ρ) → (∀ (L st : List Value) (S : Sh) (q : Nat × Nat) (μ : Mi) (ρ : Mr), w_X12_comes_241 (MS Z d) G Rp L st S q μ ρ → G 241 L st S q μ ρ) → (∀ (L st : List Value) (S : Sh) (q : Nat × Nat) (μ : Mi) (ρ : Mr), w_X12_comes_256 (MS Z d) G Rp L st S q μ ρ → G 256 L st S q μ ρ) → (∀ (L st : List Value) (S : Sh) (q : Nat × Nat) (μ : Mi) (ρ : Mr), w_X12_comes_290 (MS Z d) G Rp L st S q μ ρ → G 290 L st S q μ ρ) → (∀ (L st : List Value) (S : Sh) (q : Nat × Nat) (μ : Mi) (ρ : Mr), w_X12_comes_291 (MS Z d) G Rp L st S q μ ρ → G 291 L st S q μ ρ) → (∀ (L st : List Value) (S : Sh) (q : Nat × Nat) (μ : Mi) (ρ : Mr), w_X12_comes_303 (MS Z d) G Rp L st S q μ ρ → G 303 L st S q μ ρ) → (∀ (L st : List Value) (S : Sh) (q : Nat × Nat) (μ : Mi) (ρ : Mr), w_X12_comes_356 (MS Z d) G Rp L st S q μ ρ → G 356 L st S q μ ρ) → (∀ (L st : List Value) (S : Sh) (q : Nat × Nat) (μ : Mi) (ρ : Mr), w_X12_comes_388 (MS Z d) G Rp L st S q μ ρ → G 388 L st S q μ ρ) → (∀ (L st : List Value) (S : Sh) (q : Nat × Nat) (μ : Mi) (ρ : Mr), w_X12_comes_420 (MS Z d) G Rp L st S q μ ρ → G 420 L st S q μ ρ) → (∀ (L st : List Value) (S : Sh) (q : Nat × Nat) (μ : Mi) (ρ : Mr), w_X12_comes_421 (MS Z d) G Rp L st S q μ ρ → G 421 L st S q μ ρ) → (∀ (L st : List Value) (S : Sh) (q : Nat × Nat) (μ : Mi) (ρ : Mr), w_X12_comes_433 (MS Z d) G Rp L st S q μ ρ → G 433 L st S q μ ρ) → (∀ (L st : List Value) (S : Sh) (q : Nat × Nat) (μ : Mi) (ρ : Mr), w_X12_comes_448 (MS Z d) G Rp L st S q μ ρ → G 448 L st S q μ ρ) → (∀ (L st : List Value) (S : Sh) (q : Nat × Nat) (μ : Mi) (ρ : Mr), w_X12_comes_477 (MS Z d) G Rp L st S q μ ρ → G 477 L st S q μ ρ) → w_X12_comes_0 (MS Z d) G Rp [.ref a0, .int x1, .null, .null] [] S (0, 0) μ ρ) : MS Z (d + 1) jX12_comes [.ref a0, .int x1] S μ ρ Rp :=
  MS_of [.ref a0, .int x1, .null, .null] (by decide +kernel) rfl rfl (Nat.le_of_ble_eq_true rfl) rfl (fun p e R s m args below meth c C => b_X12_comes_0 C _ _ _ _ _ _ (h _ (b_X12_comes_34 C) (b_X12_comes_48 C) (b_X12_comes_97 C) (b_X12_comes_116 C) (b_X12_comes_117 C) (b_X12_comes_176 C) (b_X12_comes_203 C) (b_X12_comes_241 C) (b_X12_comes_256 C) (b_X12_comes_290 C) (b_X12_comes_291 C) (b_X12_comes_303 C) (b_X12_comes_356 C) (b_X12_comes_388 C) (b_X12_comes_420 C) (b_X12_comes_421 C) (b_X12_comes_433 C) (b_X12_comes_448 C) (b_X12_comes_477 C)))
def w_X12_followsTerm_0 (M : CT) (G : Nat → PT) (Rp : RT) : PT := tAload 0 <| tIload 1 <| tConst 1 <| tIload 2 <| tCallV M jX12_lays 12 27 3 <| tAload 0 <| tIload 1 <| tConst 2 <| tConst (-1) <| tCallV M jX12_lays 12 27 3 <| tAload 0 <| tIload 1 <| tConst 0 <| tCallV M jX12_plays 12 27 2 <| tVret Rp
set_option maxRecDepth 20000 in
theorem b_X12_followsTerm_0 {Z : Zt} {d : Nat} {p : Program} {e : Env} {R : Room} {s : State} {m : MethodId} {args : Array Value} {below : List Frame} {meth : Method} {c : Code} {Rp : RT} (C : Cx Z d jX12_followsTerm RX12 p R s m args meth c) : Sd Z jX12_followsTerm p e R s m args below meth c (MQ below (QcS Z Rp) args s 0 0 (fun a => Z.2.2.1 < a)) 0 (w_X12_followsTerm_0 (MS Z d) (Gw Z 3 p e R s m args below meth c (MQ below (QcS Z Rp) args s 0 0 (fun a => Z.2.2.1 < a))) Rp) := by
  unfold w_X12_followsTerm_0
  refine s_aload_n (k := 0) C (by decide +kernel) ?_
  refine s_iload_n (k := 1) C (by decide +kernel) ?_
  refine s_iconst (n := 1) C (by decide +kernel) (by decide) ?_
  refine s_iload_n (k := 2) C (by decide +kernel) ?_
  refine s_callV C rfl rfl (by decide +kernel) rfl w_6_82 w_6_84 w_p3_4 w_1_13 w_6_85 (by decide +kernel) ?_
  refine s_aload_n (k := 0) C (by decide +kernel) ?_
  refine s_iload_n (k := 1) C (by decide +kernel) ?_
  refine s_iconst (n := 2) C (by decide +kernel) (by decide) ?_
  refine s_iconst (n := (-1)) C (by decide +kernel) (by decide) ?_
  refine s_callV C rfl rfl (by decide +kernel) rfl w_6_82 w_6_84 w_p3_4 w_1_13 w_6_85 (by decide +kernel) ?_
  refine s_aload_n (k := 0) C (by decide +kernel) ?_
  refine s_iload_n (k := 1) C (by decide +kernel) ?_
  refine s_iconst (n := 0) C (by decide +kernel) (by decide) ?_
  refine s_callV C rfl rfl (by decide +kernel) rfl w_7_11 w_7_13 w_p4_2 w_1_13 w_7_14 (by decide +kernel) ?_
  exact s_vret C rfl (by decide +kernel)
theorem ms_X12_followsTerm {Z : Zt} {d : Nat} {S : Sh} {μ : Mi} {ρ : Mr} {Rp : RT} (a0 : Nat) (x1 : Int32) (x2 : Int32) (h : ∀ G : Nat → PT, w_X12_followsTerm_0 (MS Z d) G Rp [.ref a0, .int x1, .int x2] [] S (0, 0) μ ρ) : MS Z (d + 1) jX12_followsTerm [.ref a0, .int x1, .int x2] S μ ρ Rp :=
  MS_of [.ref a0, .int x1, .int x2] (by decide +kernel) rfl rfl (Nat.le_of_ble_eq_true rfl) rfl (fun p e R s m args below meth c C => b_X12_followsTerm_0 C _ _ _ _ _ _ (h _ ))
def w_X12_wouldBe_0 (M : CT) (G : Nat → PT) (Rp : RT) : PT := tIload 3 <| tAload 0 <| tIload 1 <| tConst 1 <| tCallV M jX12_of 12 27 2 <| tIf2 (fun x y => x ≤ y) (G 34) <| tAload 0 <| tIload 1 <| tCallV M jX12_isLeader 12 27 1 <| tIf (fun x => x ≠ 0) (G 34) <| tAload 0 <| tIload 1 <| tIload 4 <| tIload 5 <| tCallV M jX12_isAsFar 12 27 3 <| tIf (fun x => x = 0) (G 34) <| tConst 1 <| tGoto (G 35)
def w_X12_wouldBe_34 (M : CT) (G : Nat → PT) (Rp : RT) : PT := tConst 0 <| G 35
def w_X12_wouldBe_35 (M : CT) (G : Nat → PT) (Rp : RT) : PT := tIstore 6 <| tAload 0 <| tIload 1 <| tIload 2 <| tConst 8 <| tIload 6 <| tIf (fun x => x = 0) (G 51) <| tConst 1 <| tGoto (G 52)
def w_X12_wouldBe_51 (M : CT) (G : Nat → PT) (Rp : RT) : PT := tConst 0 <| G 52
def w_X12_wouldBe_52 (M : CT) (G : Nat → PT) (Rp : RT) : PT := tConst 0 <| tCallV M jX12_sends 12 27 5 <| tIstore 7 <| tIload 7 <| tConst (-1) <| tIf2 (fun x y => x = y) (G 79) <| tIload 6 <| tIf (fun x => x = 0) (G 79) <| tAload 0 <| tGetR 12 27 1 <| tIload 7 <| tConst 2 <| tBin (fun x y => x + y) <| tIload 3 <| tIast <| G 79
def w_X12_wouldBe_79 (M : CT) (G : Nat → PT) (Rp : RT) : PT := tVret Rp
set_option maxRecDepth 20000 in
theorem b_X12_wouldBe_0 {Z : Zt} {d : Nat} {p : Program} {e : Env} {R : Room} {s : State} {m : MethodId} {args : Array Value} {below : List Frame} {meth : Method} {c : Code} {Rp : RT} (C : Cx Z d jX12_wouldBe RX12 p R s m args meth c) : Sd Z jX12_wouldBe p e R s m args below meth c (MQ below (QcS Z Rp) args s 0 0 (fun a => Z.2.2.1 < a)) 0 (w_X12_wouldBe_0 (MS Z d) (Gw Z 8 p e R s m args below meth c (MQ below (QcS Z Rp) args s 0 0 (fun a => Z.2.2.1 < a))) Rp) := by
  unfold w_X12_wouldBe_0
  refine s_iload_n (k := 3) C (by decide +kernel) ?_
  refine s_aload_n (k := 0) C (by decide +kernel) ?_
  refine s_iload_n (k := 1) C (by decide +kernel) ?_
  refine s_iconst (n := 1) C (by decide +kernel) (by decide) ?_
  refine s_callV C rfl rfl (by decide +kernel) rfl w_6_220 w_6_222 w_p3_11 w_1_13 w_6_223 (by decide +kernel) ?_
  refine s_icmp_le (off := 27) (tgt := 34) C (by decide +kernel) (by decide) (fun _ _ _ _ _ _ h => h) ?_
  refine s_aload_n (k := 0) C (by decide +kernel) ?_
  refine s_iload_n (k := 1) C (by decide +kernel) ?_
  refine s_callV C rfl rfl (by decide +kernel) rfl w_6_236 w_6_238 w_p3_15 w_1_13 w_6_239 (by decide +kernel) ?_
  refine s_if_ne (off := 19) (tgt := 34) C (by decide +kernel) (by decide) (fun _ _ _ _ _ _ h => h) ?_
  refine s_aload_n (k := 0) C (by decide +kernel) ?_
  refine s_iload_n (k := 1) C (by decide +kernel) ?_
  refine s_iload (k := 4) C (by decide +kernel) ?_
  refine s_iload (k := 5) C (by decide +kernel) ?_
  refine s_callV C rfl rfl (by decide +kernel) rfl w_7_188 w_7_190 w_p6_1 w_1_13 w_7_191 (by decide +kernel) ?_
  refine s_if_eq (off := 7) (tgt := 34) C (by decide +kernel) (by decide) (fun _ _ _ _ _ _ h => h) ?_
  refine s_iconst (n := 1) C (by decide +kernel) (by decide) ?_
  exact s_goto (off := 4) (tgt := 35) C (by decide +kernel) (by decide) (fun _ _ _ _ _ _ h => h)
set_option maxRecDepth 20000 in
theorem b_X12_wouldBe_34 {Z : Zt} {d : Nat} {p : Program} {e : Env} {R : Room} {s : State} {m : MethodId} {args : Array Value} {below : List Frame} {meth : Method} {c : Code} {Rp : RT} (C : Cx Z d jX12_wouldBe RX12 p R s m args meth c) : Sd Z jX12_wouldBe p e R s m args below meth c (MQ below (QcS Z Rp) args s 0 0 (fun a => Z.2.2.1 < a)) 34 (w_X12_wouldBe_34 (MS Z d) (Gw Z 8 p e R s m args below meth c (MQ below (QcS Z Rp) args s 0 0 (fun a => Z.2.2.1 < a))) Rp) := by
  unfold w_X12_wouldBe_34
  refine s_iconst (n := 0) C (by decide +kernel) (by decide) ?_
  exact (fun _ _ _ _ _ _ h => h)
set_option maxRecDepth 20000 in
theorem b_X12_wouldBe_35 {Z : Zt} {d : Nat} {p : Program} {e : Env} {R : Room} {s : State} {m : MethodId} {args : Array Value} {below : List Frame} {meth : Method} {c : Code} {Rp : RT} (C : Cx Z d jX12_wouldBe RX12 p R s m args meth c) : Sd Z jX12_wouldBe p e R s m args below meth c (MQ below (QcS Z Rp) args s 0 0 (fun a => Z.2.2.1 < a)) 35 (w_X12_wouldBe_35 (MS Z d) (Gw Z 8 p e R s m args below meth c (MQ below (QcS Z Rp) args s 0 0 (fun a => Z.2.2.1 < a))) Rp) := by
  unfold w_X12_wouldBe_35
  refine s_istore (k := 6) C (by decide +kernel) ?_
  refine s_aload_n (k := 0) C (by decide +kernel) ?_
  refine s_iload_n (k := 1) C (by decide +kernel) ?_
  refine s_iload_n (k := 2) C (by decide +kernel) ?_
  refine s_bipush (n := 8) C (by decide +kernel) (by decide) ?_
  refine s_iload (k := 6) C (by decide +kernel) ?_
  refine s_if_eq (off := 7) (tgt := 51) C (by decide +kernel) (by decide) (fun _ _ _ _ _ _ h => h) ?_
  refine s_iconst (n := 1) C (by decide +kernel) (by decide) ?_
  exact s_goto (off := 4) (tgt := 52) C (by decide +kernel) (by decide) (fun _ _ _ _ _ _ h => h)
set_option maxRecDepth 20000 in
theorem b_X12_wouldBe_51 {Z : Zt} {d : Nat} {p : Program} {e : Env} {R : Room} {s : State} {m : MethodId} {args : Array Value} {below : List Frame} {meth : Method} {c : Code} {Rp : RT} (C : Cx Z d jX12_wouldBe RX12 p R s m args meth c) : Sd Z jX12_wouldBe p e R s m args below meth c (MQ below (QcS Z Rp) args s 0 0 (fun a => Z.2.2.1 < a)) 51 (w_X12_wouldBe_51 (MS Z d) (Gw Z 8 p e R s m args below meth c (MQ below (QcS Z Rp) args s 0 0 (fun a => Z.2.2.1 < a))) Rp) := by
  unfold w_X12_wouldBe_51
  refine s_iconst (n := 0) C (by decide +kernel) (by decide) ?_
  exact (fun _ _ _ _ _ _ h => h)
set_option maxRecDepth 20000 in
theorem b_X12_wouldBe_52 {Z : Zt} {d : Nat} {p : Program} {e : Env} {R : Room} {s : State} {m : MethodId} {args : Array Value} {below : List Frame} {meth : Method} {c : Code} {Rp : RT} (C : Cx Z d jX12_wouldBe RX12 p R s m args meth c) : Sd Z jX12_wouldBe p e R s m args below meth c (MQ below (QcS Z Rp) args s 0 0 (fun a => Z.2.2.1 < a)) 52 (w_X12_wouldBe_52 (MS Z d) (Gw Z 8 p e R s m args below meth c (MQ below (QcS Z Rp) args s 0 0 (fun a => Z.2.2.1 < a))) Rp) := by
  unfold w_X12_wouldBe_52
  refine s_iconst (n := 0) C (by decide +kernel) (by decide) ?_
  refine s_callV C rfl rfl (by decide +kernel) rfl w_7_27 w_7_29 w_p4_6 w_1_13 w_7_30 (by decide +kernel) ?_
  refine s_istore (k := 7) C (by decide +kernel) ?_
  refine s_iload (k := 7) C (by decide +kernel) ?_
  refine s_iconst (n := (-1)) C (by decide +kernel) (by decide) ?_
  refine s_icmp_eq (off := 18) (tgt := 79) C (by decide +kernel) (by decide) (fun _ _ _ _ _ _ h => h) ?_
  refine s_iload (k := 6) C (by decide +kernel) ?_
  refine s_if_eq (off := 13) (tgt := 79) C (by decide +kernel) (by decide) (fun _ _ _ _ _ _ h => h) ?_
  refine s_aload_n (k := 0) C (by decide +kernel) ?_
  refine s_getR C w_6_88 (by decide +kernel) rfl ?_
  refine s_iload (k := 7) C (by decide +kernel) ?_
  refine s_iconst (n := 2) C (by decide +kernel) (by decide) ?_
  refine s_iadd C (by decide +kernel) ?_
  refine s_iload_n (k := 3) C (by decide +kernel) ?_
  refine s_iast C (by decide +kernel) ?_
  exact (fun _ _ _ _ _ _ h => h)
set_option maxRecDepth 20000 in
theorem b_X12_wouldBe_79 {Z : Zt} {d : Nat} {p : Program} {e : Env} {R : Room} {s : State} {m : MethodId} {args : Array Value} {below : List Frame} {meth : Method} {c : Code} {Rp : RT} (C : Cx Z d jX12_wouldBe RX12 p R s m args meth c) : Sd Z jX12_wouldBe p e R s m args below meth c (MQ below (QcS Z Rp) args s 0 0 (fun a => Z.2.2.1 < a)) 79 (w_X12_wouldBe_79 (MS Z d) (Gw Z 8 p e R s m args below meth c (MQ below (QcS Z Rp) args s 0 0 (fun a => Z.2.2.1 < a))) Rp) := by
  unfold w_X12_wouldBe_79
  exact s_vret C rfl (by decide +kernel)
theorem ms_X12_wouldBe {Z : Zt} {d : Nat} {S : Sh} {μ : Mi} {ρ : Mr} {Rp : RT} (a0 : Nat) (x1 : Int32) (x2 : Int32) (x3 : Int32) (x4 : Int32) (x5 : Int32) (h : ∀ G : Nat → PT, (∀ (L st : List Value) (S : Sh) (q : Nat × Nat) (μ : Mi) (ρ : Mr), w_X12_wouldBe_34 (MS Z d) G Rp L st S q μ ρ → G 34 L st S q μ ρ) → (∀ (L st : List Value) (S : Sh) (q : Nat × Nat) (μ : Mi) (ρ : Mr), w_X12_wouldBe_35 (MS Z d) G Rp L st S q μ ρ → G 35 L st S q μ ρ) → (∀ (L st : List Value) (S : Sh) (q : Nat × Nat) (μ : Mi) (ρ : Mr), w_X12_wouldBe_51 (MS Z d) G Rp L st S q μ ρ → G 51 L st S q μ ρ) → (∀ (L st : List Value) (S : Sh) (q : Nat × Nat) (μ : Mi) (ρ : Mr), w_X12_wouldBe_52 (MS Z d) G Rp L st S q μ ρ → G 52 L st S q μ ρ) → (∀ (L st : List Value) (S : Sh) (q : Nat × Nat) (μ : Mi) (ρ : Mr), w_X12_wouldBe_79 (MS Z d) G Rp L st S q μ ρ → G 79 L st S q μ ρ) → w_X12_wouldBe_0 (MS Z d) G Rp [.ref a0, .int x1, .int x2, .int x3, .int x4, .int x5, .null, .null] [] S (0, 0) μ ρ) : MS Z (d + 1) jX12_wouldBe [.ref a0, .int x1, .int x2, .int x3, .int x4, .int x5] S μ ρ Rp :=
  MS_of [.ref a0, .int x1, .int x2, .int x3, .int x4, .int x5, .null, .null] (by decide +kernel) rfl rfl (Nat.le_of_ble_eq_true rfl) rfl (fun p e R s m args below meth c C => b_X12_wouldBe_0 C _ _ _ _ _ _ (h _ (b_X12_wouldBe_34 C) (b_X12_wouldBe_35 C) (b_X12_wouldBe_51 C) (b_X12_wouldBe_52 C) (b_X12_wouldBe_79 C)))
def w_X12_would_0 (M : CT) (G : Nat → PT) (Rp : RT) : PT := tIload 3 <| tIf (fun x => x ≠ 0) (G 23) <| tIload 4 <| tAload 0 <| tIload 1 <| tConst 1 <| tCallV M jX12_of 12 27 2 <| tIf2 (fun x y => x ≤ y) (G 22) <| tAload 0 <| tIload 1 <| tIload 4 <| tCallV M jX12_followsTerm 12 27 2 <| G 22
def w_X12_would_22 (M : CT) (G : Nat → PT) (Rp : RT) : PT := tVret Rp
def w_X12_would_23 (M : CT) (G : Nat → PT) (Rp : RT) : PT := tIload 4 <| tAload 0 <| tIload 1 <| tConst 1 <| tCallV M jX12_of 12 27 2 <| tConst 1 <| tBin (fun x y => x + y) <| tIf2 (fun x y => x = y) (G 37) <| tVret Rp
def w_X12_would_37 (M : CT) (G : Nat → PT) (Rp : RT) : PT := tAload 0 <| tIload 1 <| tConst 8 <| tAload 0 <| tIload 1 <| tConst 8 <| tCallV M jX12_of 12 27 2 <| tConst 1 <| tIload 2 <| tBin (fun x y => x <<< (y &&& 31)) <| tBin (fun x y => x ||| y) <| tCallV M jX12_lays 12 27 3 <| tAload 0 <| tIload 1 <| tCallV M jX12_laysMembers 12 27 1 <| tAload 0 <| tAload 0 <| tIload 1 <| tConst 8 <| tCallV M jX12_of 12 27 2 <| tCallV M jX12_isMajority 12 27 1 <| tIf (fun x => x = 0) (G 79) <| tAload 0 <| tIload 1 <| tCallV M jX12_standsUp 12 27 1 <| G 79
def w_X12_would_79 (M : CT) (G : Nat → PT) (Rp : RT) : PT := tVret Rp
set_option maxRecDepth 20000 in
theorem b_X12_would_0 {Z : Zt} {d : Nat} {p : Program} {e : Env} {R : Room} {s : State} {m : MethodId} {args : Array Value} {below : List Frame} {meth : Method} {c : Code} {Rp : RT} (C : Cx Z d jX12_would RX12 p R s m args meth c) : Sd Z jX12_would p e R s m args below meth c (MQ below (QcS Z Rp) args s 0 0 (fun a => Z.2.2.1 < a)) 0 (w_X12_would_0 (MS Z d) (Gw Z 5 p e R s m args below meth c (MQ below (QcS Z Rp) args s 0 0 (fun a => Z.2.2.1 < a))) Rp) := by
  unfold w_X12_would_0
  refine s_iload_n (k := 3) C (by decide +kernel) ?_
  refine s_if_ne (off := 22) (tgt := 23) C (by decide +kernel) (by decide) (fun _ _ _ _ _ _ h => h) ?_
  refine s_iload (k := 4) C (by decide +kernel) ?_
  refine s_aload_n (k := 0) C (by decide +kernel) ?_
  refine s_iload_n (k := 1) C (by decide +kernel) ?_
  refine s_iconst (n := 1) C (by decide +kernel) (by decide) ?_
  refine s_callV C rfl rfl (by decide +kernel) rfl w_6_220 w_6_222 w_p3_11 w_1_13 w_6_223 (by decide +kernel) ?_
  refine s_icmp_le (off := 10) (tgt := 22) C (by decide +kernel) (by decide) (fun _ _ _ _ _ _ h => h) ?_
  refine s_aload_n (k := 0) C (by decide +kernel) ?_
  refine s_iload_n (k := 1) C (by decide +kernel) ?_
  refine s_iload (k := 4) C (by decide +kernel) ?_
  refine s_callV C rfl rfl (by decide +kernel) rfl w_7_180 w_7_182 w_p5_15 w_1_13 w_7_183 (by decide +kernel) ?_
  exact (fun _ _ _ _ _ _ h => h)
set_option maxRecDepth 20000 in
theorem b_X12_would_22 {Z : Zt} {d : Nat} {p : Program} {e : Env} {R : Room} {s : State} {m : MethodId} {args : Array Value} {below : List Frame} {meth : Method} {c : Code} {Rp : RT} (C : Cx Z d jX12_would RX12 p R s m args meth c) : Sd Z jX12_would p e R s m args below meth c (MQ below (QcS Z Rp) args s 0 0 (fun a => Z.2.2.1 < a)) 22 (w_X12_would_22 (MS Z d) (Gw Z 5 p e R s m args below meth c (MQ below (QcS Z Rp) args s 0 0 (fun a => Z.2.2.1 < a))) Rp) := by
  unfold w_X12_would_22
  exact s_vret C rfl (by decide +kernel)
set_option maxRecDepth 20000 in
theorem b_X12_would_23 {Z : Zt} {d : Nat} {p : Program} {e : Env} {R : Room} {s : State} {m : MethodId} {args : Array Value} {below : List Frame} {meth : Method} {c : Code} {Rp : RT} (C : Cx Z d jX12_would RX12 p R s m args meth c) : Sd Z jX12_would p e R s m args below meth c (MQ below (QcS Z Rp) args s 0 0 (fun a => Z.2.2.1 < a)) 23 (w_X12_would_23 (MS Z d) (Gw Z 5 p e R s m args below meth c (MQ below (QcS Z Rp) args s 0 0 (fun a => Z.2.2.1 < a))) Rp) := by
  unfold w_X12_would_23
  refine s_iload (k := 4) C (by decide +kernel) ?_
  refine s_aload_n (k := 0) C (by decide +kernel) ?_
  refine s_iload_n (k := 1) C (by decide +kernel) ?_
  refine s_iconst (n := 1) C (by decide +kernel) (by decide) ?_
  refine s_callV C rfl rfl (by decide +kernel) rfl w_6_220 w_6_222 w_p3_11 w_1_13 w_6_223 (by decide +kernel) ?_
  refine s_iconst (n := 1) C (by decide +kernel) (by decide) ?_
  refine s_iadd C (by decide +kernel) ?_
  refine s_icmp_eq (off := 4) (tgt := 37) C (by decide +kernel) (by decide) (fun _ _ _ _ _ _ h => h) ?_
  exact s_vret C rfl (by decide +kernel)
set_option maxRecDepth 20000 in
theorem b_X12_would_37 {Z : Zt} {d : Nat} {p : Program} {e : Env} {R : Room} {s : State} {m : MethodId} {args : Array Value} {below : List Frame} {meth : Method} {c : Code} {Rp : RT} (C : Cx Z d jX12_would RX12 p R s m args meth c) : Sd Z jX12_would p e R s m args below meth c (MQ below (QcS Z Rp) args s 0 0 (fun a => Z.2.2.1 < a)) 37 (w_X12_would_37 (MS Z d) (Gw Z 5 p e R s m args below meth c (MQ below (QcS Z Rp) args s 0 0 (fun a => Z.2.2.1 < a))) Rp) := by
  unfold w_X12_would_37
  refine s_aload_n (k := 0) C (by decide +kernel) ?_
  refine s_iload_n (k := 1) C (by decide +kernel) ?_
  refine s_bipush (n := 8) C (by decide +kernel) (by decide) ?_
  refine s_aload_n (k := 0) C (by decide +kernel) ?_
  refine s_iload_n (k := 1) C (by decide +kernel) ?_
  refine s_bipush (n := 8) C (by decide +kernel) (by decide) ?_
  refine s_callV C rfl rfl (by decide +kernel) rfl w_6_220 w_6_222 w_p3_11 w_1_13 w_6_223 (by decide +kernel) ?_
  refine s_iconst (n := 1) C (by decide +kernel) (by decide) ?_
  refine s_iload_n (k := 2) C (by decide +kernel) ?_
  refine s_ishl C (by decide +kernel) ?_
  refine s_ior C (by decide +kernel) ?_
  refine s_callV C rfl rfl (by decide +kernel) rfl w_6_82 w_6_84 w_p3_4 w_1_13 w_6_85 (by decide +kernel) ?_
  refine s_aload_n (k := 0) C (by decide +kernel) ?_
  refine s_iload_n (k := 1) C (by decide +kernel) ?_
  refine s_callV C rfl rfl (by decide +kernel) rfl w_6_216 w_6_218 w_p3_10 w_1_13 w_6_219 (by decide +kernel) ?_
  refine s_aload_n (k := 0) C (by decide +kernel) ?_
  refine s_aload_n (k := 0) C (by decide +kernel) ?_
  refine s_iload_n (k := 1) C (by decide +kernel) ?_
  refine s_bipush (n := 8) C (by decide +kernel) (by decide) ?_
  refine s_callV C rfl rfl (by decide +kernel) rfl w_6_220 w_6_222 w_p3_11 w_1_13 w_6_223 (by decide +kernel) ?_
  refine s_callV C rfl rfl (by decide +kernel) rfl w_7_35 w_7_37 w_p4_8 w_1_13 w_7_38 (by decide +kernel) ?_
  refine s_if_eq (off := 8) (tgt := 79) C (by decide +kernel) (by decide) (fun _ _ _ _ _ _ h => h) ?_
  refine s_aload_n (k := 0) C (by decide +kernel) ?_
  refine s_iload_n (k := 1) C (by decide +kernel) ?_
  refine s_callV C rfl rfl (by decide +kernel) rfl w_7_7 w_7_9 w_p4_1 w_1_13 w_7_10 (by decide +kernel) ?_
  exact (fun _ _ _ _ _ _ h => h)
set_option maxRecDepth 20000 in
theorem b_X12_would_79 {Z : Zt} {d : Nat} {p : Program} {e : Env} {R : Room} {s : State} {m : MethodId} {args : Array Value} {below : List Frame} {meth : Method} {c : Code} {Rp : RT} (C : Cx Z d jX12_would RX12 p R s m args meth c) : Sd Z jX12_would p e R s m args below meth c (MQ below (QcS Z Rp) args s 0 0 (fun a => Z.2.2.1 < a)) 79 (w_X12_would_79 (MS Z d) (Gw Z 5 p e R s m args below meth c (MQ below (QcS Z Rp) args s 0 0 (fun a => Z.2.2.1 < a))) Rp) := by
  unfold w_X12_would_79
  exact s_vret C rfl (by decide +kernel)
theorem ms_X12_would {Z : Zt} {d : Nat} {S : Sh} {μ : Mi} {ρ : Mr} {Rp : RT} (a0 : Nat) (x1 : Int32) (x2 : Int32) (x3 : Int32) (x4 : Int32) (h : ∀ G : Nat → PT, (∀ (L st : List Value) (S : Sh) (q : Nat × Nat) (μ : Mi) (ρ : Mr), w_X12_would_22 (MS Z d) G Rp L st S q μ ρ → G 22 L st S q μ ρ) → (∀ (L st : List Value) (S : Sh) (q : Nat × Nat) (μ : Mi) (ρ : Mr), w_X12_would_23 (MS Z d) G Rp L st S q μ ρ → G 23 L st S q μ ρ) → (∀ (L st : List Value) (S : Sh) (q : Nat × Nat) (μ : Mi) (ρ : Mr), w_X12_would_37 (MS Z d) G Rp L st S q μ ρ → G 37 L st S q μ ρ) → (∀ (L st : List Value) (S : Sh) (q : Nat × Nat) (μ : Mi) (ρ : Mr), w_X12_would_79 (MS Z d) G Rp L st S q μ ρ → G 79 L st S q μ ρ) → w_X12_would_0 (MS Z d) G Rp [.ref a0, .int x1, .int x2, .int x3, .int x4] [] S (0, 0) μ ρ) : MS Z (d + 1) jX12_would [.ref a0, .int x1, .int x2, .int x3, .int x4] S μ ρ Rp :=
  MS_of [.ref a0, .int x1, .int x2, .int x3, .int x4] (by decide +kernel) rfl rfl (Nat.le_of_ble_eq_true rfl) rfl (fun p e R s m args below meth c C => b_X12_would_0 C _ _ _ _ _ _ (h _ (b_X12_would_22 C) (b_X12_would_23 C) (b_X12_would_37 C) (b_X12_would_79 C)))
def w_X12_hears_0 (M : CT) (G : Nat → PT) (Rp : RT) : PT := tAload 0 <| tIload 1 <| tConst 11 <| tCallV M jX12_of 12 27 2 <| tConst 1 <| tIf2 (fun x y => x ≠ y) (G 28) <| tAload 0 <| tGetR 12 27 12 <| tConst 8 <| tAld 20 <| tAload 0 <| tIload 1 <| tConst 14 <| tCallV M jX12_of 12 27 2 <| tIf2 (fun x y => y ≤ x) (G 29) <| G 28
def w_X12_hears_28 (M : CT) (G : Nat → PT) (Rp : RT) : PT := tVret Rp
def w_X12_hears_29 (M : CT) (G : Nat → PT) (Rp : RT) : PT := tAload 0 <| tIload 1 <| tConst 15 <| tAload 0 <| tIload 1 <| tConst 15 <| tCallV M jX12_of 12 27 2 <| tConst 1 <| tIload 2 <| tBin (fun x y => x <<< (y &&& 31)) <| tBin (fun x y => x ||| y) <| tCallV M jX12_lays 12 27 3 <| tAload 0 <| tIload 1 <| tCallV M jX12_answersRead 12 27 1 <| tVret Rp
set_option maxRecDepth 20000 in
theorem b_X12_hears_0 {Z : Zt} {d : Nat} {p : Program} {e : Env} {R : Room} {s : State} {m : MethodId} {args : Array Value} {below : List Frame} {meth : Method} {c : Code} {Rp : RT} (C : Cx Z d jX12_hears RX12 p R s m args meth c) : Sd Z jX12_hears p e R s m args below meth c (MQ below (QcS Z Rp) args s 0 0 (fun a => Z.2.2.1 < a)) 0 (w_X12_hears_0 (MS Z d) (Gw Z 3 p e R s m args below meth c (MQ below (QcS Z Rp) args s 0 0 (fun a => Z.2.2.1 < a))) Rp) := by
  unfold w_X12_hears_0
  refine s_aload_n (k := 0) C (by decide +kernel) ?_
  refine s_iload_n (k := 1) C (by decide +kernel) ?_
  refine s_bipush (n := 11) C (by decide +kernel) (by decide) ?_
  refine s_callV C rfl rfl (by decide +kernel) rfl w_6_220 w_6_222 w_p3_11 w_1_13 w_6_223 (by decide +kernel) ?_
  refine s_iconst (n := 1) C (by decide +kernel) (by decide) ?_
  refine s_icmp_ne (off := 20) (tgt := 28) C (by decide +kernel) (by decide) (fun _ _ _ _ _ _ h => h) ?_
  refine s_aload_n (k := 0) C (by decide +kernel) ?_
  refine s_getR C w_6_99 (by decide +kernel) rfl ?_
  refine s_bipush (n := 8) C (by decide +kernel) (by decide) ?_
  refine s_iald C (by decide +kernel) ?_
  refine s_aload_n (k := 0) C (by decide +kernel) ?_
  refine s_iload_n (k := 1) C (by decide +kernel) ?_
  refine s_bipush (n := 14) C (by decide +kernel) (by decide) ?_
  refine s_callV C rfl rfl (by decide +kernel) rfl w_6_220 w_6_222 w_p3_11 w_1_13 w_6_223 (by decide +kernel) ?_
  refine s_icmp_ge (off := 4) (tgt := 29) C (by decide +kernel) (by decide) (fun _ _ _ _ _ _ h => h) ?_
  exact (fun _ _ _ _ _ _ h => h)
set_option maxRecDepth 20000 in
theorem b_X12_hears_28 {Z : Zt} {d : Nat} {p : Program} {e : Env} {R : Room} {s : State} {m : MethodId} {args : Array Value} {below : List Frame} {meth : Method} {c : Code} {Rp : RT} (C : Cx Z d jX12_hears RX12 p R s m args meth c) : Sd Z jX12_hears p e R s m args below meth c (MQ below (QcS Z Rp) args s 0 0 (fun a => Z.2.2.1 < a)) 28 (w_X12_hears_28 (MS Z d) (Gw Z 3 p e R s m args below meth c (MQ below (QcS Z Rp) args s 0 0 (fun a => Z.2.2.1 < a))) Rp) := by
  unfold w_X12_hears_28
  exact s_vret C rfl (by decide +kernel)
set_option maxRecDepth 20000 in
theorem b_X12_hears_29 {Z : Zt} {d : Nat} {p : Program} {e : Env} {R : Room} {s : State} {m : MethodId} {args : Array Value} {below : List Frame} {meth : Method} {c : Code} {Rp : RT} (C : Cx Z d jX12_hears RX12 p R s m args meth c) : Sd Z jX12_hears p e R s m args below meth c (MQ below (QcS Z Rp) args s 0 0 (fun a => Z.2.2.1 < a)) 29 (w_X12_hears_29 (MS Z d) (Gw Z 3 p e R s m args below meth c (MQ below (QcS Z Rp) args s 0 0 (fun a => Z.2.2.1 < a))) Rp) := by
  unfold w_X12_hears_29
  refine s_aload_n (k := 0) C (by decide +kernel) ?_
  refine s_iload_n (k := 1) C (by decide +kernel) ?_
  refine s_bipush (n := 15) C (by decide +kernel) (by decide) ?_
  refine s_aload_n (k := 0) C (by decide +kernel) ?_
  refine s_iload_n (k := 1) C (by decide +kernel) ?_
  refine s_bipush (n := 15) C (by decide +kernel) (by decide) ?_
  refine s_callV C rfl rfl (by decide +kernel) rfl w_6_220 w_6_222 w_p3_11 w_1_13 w_6_223 (by decide +kernel) ?_
  refine s_iconst (n := 1) C (by decide +kernel) (by decide) ?_
  refine s_iload_n (k := 2) C (by decide +kernel) ?_
  refine s_ishl C (by decide +kernel) ?_
  refine s_ior C (by decide +kernel) ?_
  refine s_callV C rfl rfl (by decide +kernel) rfl w_6_82 w_6_84 w_p3_4 w_1_13 w_6_85 (by decide +kernel) ?_
  refine s_aload_n (k := 0) C (by decide +kernel) ?_
  refine s_iload_n (k := 1) C (by decide +kernel) ?_
  refine s_callV C rfl rfl (by decide +kernel) rfl w_7_108 w_7_110 w_p5_4 w_1_13 w_7_111 (by decide +kernel) ?_
  exact s_vret C rfl (by decide +kernel)
theorem ms_X12_hears {Z : Zt} {d : Nat} {S : Sh} {μ : Mi} {ρ : Mr} {Rp : RT} (a0 : Nat) (x1 : Int32) (x2 : Int32) (h : ∀ G : Nat → PT, (∀ (L st : List Value) (S : Sh) (q : Nat × Nat) (μ : Mi) (ρ : Mr), w_X12_hears_28 (MS Z d) G Rp L st S q μ ρ → G 28 L st S q μ ρ) → (∀ (L st : List Value) (S : Sh) (q : Nat × Nat) (μ : Mi) (ρ : Mr), w_X12_hears_29 (MS Z d) G Rp L st S q μ ρ → G 29 L st S q μ ρ) → w_X12_hears_0 (MS Z d) G Rp [.ref a0, .int x1, .int x2] [] S (0, 0) μ ρ) : MS Z (d + 1) jX12_hears [.ref a0, .int x1, .int x2] S μ ρ Rp :=
  MS_of [.ref a0, .int x1, .int x2] (by decide +kernel) rfl rfl (Nat.le_of_ble_eq_true rfl) rfl (fun p e R s m args below meth c C => b_X12_hears_0 C _ _ _ _ _ _ (h _ (b_X12_hears_28 C) (b_X12_hears_29 C)))
def w_X12_answersRead_0 (M : CT) (G : Nat → PT) (Rp : RT) : PT := tAload 0 <| tIload 1 <| tCallV M jX12_laysMembers 12 27 1 <| tAload 0 <| tAload 0 <| tIload 1 <| tConst 15 <| tCallV M jX12_of 12 27 2 <| tCallV M jX12_isMajority 12 27 1 <| tIf (fun x => x ≠ 0) (G 20) <| tVret Rp
def w_X12_answersRead_20 (M : CT) (G : Nat → PT) (Rp : RT) : PT := tAload 0 <| tIload 1 <| tConst 11 <| tConst 2 <| tCallV M jX12_lays 12 27 3 <| tAload 0 <| tIload 1 <| tConst 13 <| tAload 0 <| tIload 1 <| tConst 16 <| tAload 0 <| tIload 1 <| tConst 12 <| tCallV M jX12_of 12 27 2 <| tBin (fun x y => x + y) <| tCallV M jX12_of 12 27 2 <| tCallV M jX12_lays 12 27 3 <| tAload 0 <| tIload 1 <| tConst 15 <| tConst 0 <| tCallV M jX12_lays 12 27 3 <| tVret Rp
set_option maxRecDepth 20000 in
theorem b_X12_answersRead_0 {Z : Zt} {d : Nat} {p : Program} {e : Env} {R : Room} {s : State} {m : MethodId} {args : Array Value} {below : List Frame} {meth : Method} {c : Code} {Rp : RT} (C : Cx Z d jX12_answersRead RX12 p R s m args meth c) : Sd Z jX12_answersRead p e R s m args below meth c (MQ below (QcS Z Rp) args s 0 0 (fun a => Z.2.2.1 < a)) 0 (w_X12_answersRead_0 (MS Z d) (Gw Z 2 p e R s m args below meth c (MQ below (QcS Z Rp) args s 0 0 (fun a => Z.2.2.1 < a))) Rp) := by
  unfold w_X12_answersRead_0
  refine s_aload_n (k := 0) C (by decide +kernel) ?_
  refine s_iload_n (k := 1) C (by decide +kernel) ?_
  refine s_callV C rfl rfl (by decide +kernel) rfl w_6_216 w_6_218 w_p3_10 w_1_13 w_6_219 (by decide +kernel) ?_
  refine s_aload_n (k := 0) C (by decide +kernel) ?_
  refine s_aload_n (k := 0) C (by decide +kernel) ?_
  refine s_iload_n (k := 1) C (by decide +kernel) ?_
  refine s_bipush (n := 15) C (by decide +kernel) (by decide) ?_
  refine s_callV C rfl rfl (by decide +kernel) rfl w_6_220 w_6_222 w_p3_11 w_1_13 w_6_223 (by decide +kernel) ?_
  refine s_callV C rfl rfl (by decide +kernel) rfl w_7_35 w_7_37 w_p4_8 w_1_13 w_7_38 (by decide +kernel) ?_
  refine s_if_ne (off := 4) (tgt := 20) C (by decide +kernel) (by decide) (fun _ _ _ _ _ _ h => h) ?_
  exact s_vret C rfl (by decide +kernel)
set_option maxRecDepth 20000 in
theorem b_X12_answersRead_20 {Z : Zt} {d : Nat} {p : Program} {e : Env} {R : Room} {s : State} {m : MethodId} {args : Array Value} {below : List Frame} {meth : Method} {c : Code} {Rp : RT} (C : Cx Z d jX12_answersRead RX12 p R s m args meth c) : Sd Z jX12_answersRead p e R s m args below meth c (MQ below (QcS Z Rp) args s 0 0 (fun a => Z.2.2.1 < a)) 20 (w_X12_answersRead_20 (MS Z d) (Gw Z 2 p e R s m args below meth c (MQ below (QcS Z Rp) args s 0 0 (fun a => Z.2.2.1 < a))) Rp) := by
  unfold w_X12_answersRead_20
  refine s_aload_n (k := 0) C (by decide +kernel) ?_
  refine s_iload_n (k := 1) C (by decide +kernel) ?_
  refine s_bipush (n := 11) C (by decide +kernel) (by decide) ?_
  refine s_iconst (n := 2) C (by decide +kernel) (by decide) ?_
  refine s_callV C rfl rfl (by decide +kernel) rfl w_6_82 w_6_84 w_p3_4 w_1_13 w_6_85 (by decide +kernel) ?_
  refine s_aload_n (k := 0) C (by decide +kernel) ?_
  refine s_iload_n (k := 1) C (by decide +kernel) ?_
  refine s_bipush (n := 13) C (by decide +kernel) (by decide) ?_
  refine s_aload_n (k := 0) C (by decide +kernel) ?_
  refine s_iload_n (k := 1) C (by decide +kernel) ?_
  refine s_bipush (n := 16) C (by decide +kernel) (by decide) ?_
  refine s_aload_n (k := 0) C (by decide +kernel) ?_
  refine s_iload_n (k := 1) C (by decide +kernel) ?_
  refine s_bipush (n := 12) C (by decide +kernel) (by decide) ?_
  refine s_callV C rfl rfl (by decide +kernel) rfl w_6_220 w_6_222 w_p3_11 w_1_13 w_6_223 (by decide +kernel) ?_
  refine s_iadd C (by decide +kernel) ?_
  refine s_callV C rfl rfl (by decide +kernel) rfl w_6_220 w_6_222 w_p3_11 w_1_13 w_6_223 (by decide +kernel) ?_
  refine s_callV C rfl rfl (by decide +kernel) rfl w_6_82 w_6_84 w_p3_4 w_1_13 w_6_85 (by decide +kernel) ?_
  refine s_aload_n (k := 0) C (by decide +kernel) ?_
  refine s_iload_n (k := 1) C (by decide +kernel) ?_
  refine s_bipush (n := 15) C (by decide +kernel) (by decide) ?_
  refine s_iconst (n := 0) C (by decide +kernel) (by decide) ?_
  refine s_callV C rfl rfl (by decide +kernel) rfl w_6_82 w_6_84 w_p3_4 w_1_13 w_6_85 (by decide +kernel) ?_
  exact s_vret C rfl (by decide +kernel)
theorem ms_X12_answersRead {Z : Zt} {d : Nat} {S : Sh} {μ : Mi} {ρ : Mr} {Rp : RT} (a0 : Nat) (x1 : Int32) (h : ∀ G : Nat → PT, (∀ (L st : List Value) (S : Sh) (q : Nat × Nat) (μ : Mi) (ρ : Mr), w_X12_answersRead_20 (MS Z d) G Rp L st S q μ ρ → G 20 L st S q μ ρ) → w_X12_answersRead_0 (MS Z d) G Rp [.ref a0, .int x1] [] S (0, 0) μ ρ) : MS Z (d + 1) jX12_answersRead [.ref a0, .int x1] S μ ρ Rp :=
  MS_of [.ref a0, .int x1] (by decide +kernel) rfl rfl (Nat.le_of_ble_eq_true rfl) rfl (fun p e R s m args below meth c C => b_X12_answersRead_0 C _ _ _ _ _ _ (h _ (b_X12_answersRead_20 C)))
def w_X12_isAsFar_0 (M : CT) (G : Nat → PT) (Rp : RT) : PT := tAload 0 <| tIload 1 <| tAload 0 <| tIload 1 <| tConst 4 <| tCallV M jX12_of 12 27 2 <| tCallV M jX12_termAt 12 27 2 <| tIstore 4 <| tIload 3 <| tIload 4 <| tIf2 (fun x y => y < x) (G 35) <| tIload 3 <| tIload 4 <| tIf2 (fun x y => x ≠ y) (G 39) <| tIload 2 <| tAload 0 <| tIload 1 <| tConst 4 <| tCallV M jX12_of 12 27 2 <| tIf2 (fun x y => x < y) (G 39) <| G 35
def w_X12_isAsFar_35 (M : CT) (G : Nat → PT) (Rp : RT) : PT := tConst 1 <| tGoto (G 40)
def w_X12_isAsFar_39 (M : CT) (G : Nat → PT) (Rp : RT) : PT := tConst 0 <| G 40
def w_X12_isAsFar_40 (M : CT) (G : Nat → PT) (Rp : RT) : PT := tZret Rp
set_option maxRecDepth 20000 in
theorem b_X12_isAsFar_0 {Z : Zt} {d : Nat} {p : Program} {e : Env} {R : Room} {s : State} {m : MethodId} {args : Array Value} {below : List Frame} {meth : Method} {c : Code} {Rp : RT} (C : Cx Z d jX12_isAsFar RX12 p R s m args meth c) : Sd Z jX12_isAsFar p e R s m args below meth c (MQ below (QcS Z Rp) args s 0 0 (fun a => Z.2.2.1 < a)) 0 (w_X12_isAsFar_0 (MS Z d) (Gw Z 5 p e R s m args below meth c (MQ below (QcS Z Rp) args s 0 0 (fun a => Z.2.2.1 < a))) Rp) := by
  unfold w_X12_isAsFar_0
  refine s_aload_n (k := 0) C (by decide +kernel) ?_
  refine s_iload_n (k := 1) C (by decide +kernel) ?_
  refine s_aload_n (k := 0) C (by decide +kernel) ?_
  refine s_iload_n (k := 1) C (by decide +kernel) ?_
  refine s_iconst (n := 4) C (by decide +kernel) (by decide) ?_
  refine s_callV C rfl rfl (by decide +kernel) rfl w_6_220 w_6_222 w_p3_11 w_1_13 w_6_223 (by decide +kernel) ?_
  refine s_callV C rfl rfl (by decide +kernel) rfl w_7_23 w_7_25 w_p4_5 w_1_13 w_7_26 (by decide +kernel) ?_
  refine s_istore (k := 4) C (by decide +kernel) ?_
  refine s_iload_n (k := 3) C (by decide +kernel) ?_
  refine s_iload (k := 4) C (by decide +kernel) ?_
  refine s_icmp_gt (off := 19) (tgt := 35) C (by decide +kernel) (by decide) (fun _ _ _ _ _ _ h => h) ?_
  refine s_iload_n (k := 3) C (by decide +kernel) ?_
  refine s_iload (k := 4) C (by decide +kernel) ?_
  refine s_icmp_ne (off := 17) (tgt := 39) C (by decide +kernel) (by decide) (fun _ _ _ _ _ _ h => h) ?_
  refine s_iload_n (k := 2) C (by decide +kernel) ?_
  refine s_aload_n (k := 0) C (by decide +kernel) ?_
  refine s_iload_n (k := 1) C (by decide +kernel) ?_
  refine s_iconst (n := 4) C (by decide +kernel) (by decide) ?_
  refine s_callV C rfl rfl (by decide +kernel) rfl w_6_220 w_6_222 w_p3_11 w_1_13 w_6_223 (by decide +kernel) ?_
  refine s_icmp_lt (off := 7) (tgt := 39) C (by decide +kernel) (by decide) (fun _ _ _ _ _ _ h => h) ?_
  exact (fun _ _ _ _ _ _ h => h)
set_option maxRecDepth 20000 in
theorem b_X12_isAsFar_35 {Z : Zt} {d : Nat} {p : Program} {e : Env} {R : Room} {s : State} {m : MethodId} {args : Array Value} {below : List Frame} {meth : Method} {c : Code} {Rp : RT} (C : Cx Z d jX12_isAsFar RX12 p R s m args meth c) : Sd Z jX12_isAsFar p e R s m args below meth c (MQ below (QcS Z Rp) args s 0 0 (fun a => Z.2.2.1 < a)) 35 (w_X12_isAsFar_35 (MS Z d) (Gw Z 5 p e R s m args below meth c (MQ below (QcS Z Rp) args s 0 0 (fun a => Z.2.2.1 < a))) Rp) := by
  unfold w_X12_isAsFar_35
  refine s_iconst (n := 1) C (by decide +kernel) (by decide) ?_
  exact s_goto (off := 4) (tgt := 40) C (by decide +kernel) (by decide) (fun _ _ _ _ _ _ h => h)
set_option maxRecDepth 20000 in
theorem b_X12_isAsFar_39 {Z : Zt} {d : Nat} {p : Program} {e : Env} {R : Room} {s : State} {m : MethodId} {args : Array Value} {below : List Frame} {meth : Method} {c : Code} {Rp : RT} (C : Cx Z d jX12_isAsFar RX12 p R s m args meth c) : Sd Z jX12_isAsFar p e R s m args below meth c (MQ below (QcS Z Rp) args s 0 0 (fun a => Z.2.2.1 < a)) 39 (w_X12_isAsFar_39 (MS Z d) (Gw Z 5 p e R s m args below meth c (MQ below (QcS Z Rp) args s 0 0 (fun a => Z.2.2.1 < a))) Rp) := by
  unfold w_X12_isAsFar_39
  refine s_iconst (n := 0) C (by decide +kernel) (by decide) ?_
  exact (fun _ _ _ _ _ _ h => h)
set_option maxRecDepth 20000 in
theorem b_X12_isAsFar_40 {Z : Zt} {d : Nat} {p : Program} {e : Env} {R : Room} {s : State} {m : MethodId} {args : Array Value} {below : List Frame} {meth : Method} {c : Code} {Rp : RT} (C : Cx Z d jX12_isAsFar RX12 p R s m args meth c) : Sd Z jX12_isAsFar p e R s m args below meth c (MQ below (QcS Z Rp) args s 0 0 (fun a => Z.2.2.1 < a)) 40 (w_X12_isAsFar_40 (MS Z d) (Gw Z 5 p e R s m args below meth c (MQ below (QcS Z Rp) args s 0 0 (fun a => Z.2.2.1 < a))) Rp) := by
  unfold w_X12_isAsFar_40
  exact s_zret C rfl (by decide +kernel)
theorem ms_X12_isAsFar {Z : Zt} {d : Nat} {S : Sh} {μ : Mi} {ρ : Mr} {Rp : RT} (a0 : Nat) (x1 : Int32) (x2 : Int32) (x3 : Int32) (h : ∀ G : Nat → PT, (∀ (L st : List Value) (S : Sh) (q : Nat × Nat) (μ : Mi) (ρ : Mr), w_X12_isAsFar_35 (MS Z d) G Rp L st S q μ ρ → G 35 L st S q μ ρ) → (∀ (L st : List Value) (S : Sh) (q : Nat × Nat) (μ : Mi) (ρ : Mr), w_X12_isAsFar_39 (MS Z d) G Rp L st S q μ ρ → G 39 L st S q μ ρ) → (∀ (L st : List Value) (S : Sh) (q : Nat × Nat) (μ : Mi) (ρ : Mr), w_X12_isAsFar_40 (MS Z d) G Rp L st S q μ ρ → G 40 L st S q μ ρ) → w_X12_isAsFar_0 (MS Z d) G Rp [.ref a0, .int x1, .int x2, .int x3, .null] [] S (0, 0) μ ρ) : MS Z (d + 1) jX12_isAsFar [.ref a0, .int x1, .int x2, .int x3] S μ ρ Rp :=
  MS_of [.ref a0, .int x1, .int x2, .int x3, .null] (by decide +kernel) rfl rfl (Nat.le_of_ble_eq_true rfl) rfl (fun p e R s m args below meth c C => b_X12_isAsFar_0 C _ _ _ _ _ _ (h _ (b_X12_isAsFar_35 C) (b_X12_isAsFar_39 C) (b_X12_isAsFar_40 C)))
def w_X12_asked_0 (M : CT) (G : Nat → PT) (Rp : RT) : PT := tIload 3 <| tIf (fun x => x = 0) (G 40) <| tAload 0 <| tIload 1 <| tConst 2 <| tCallV M jX12_of 12 27 2 <| tConst (-1) <| tIf2 (fun x y => x = y) (G 24) <| tAload 0 <| tIload 1 <| tConst 2 <| tCallV M jX12_of 12 27 2 <| tIload 2 <| tIf2 (fun x y => x ≠ y) (G 40) <| G 24
def w_X12_asked_24 (M : CT) (G : Nat → PT) (Rp : RT) : PT := tAload 0 <| tIload 1 <| tIload 4 <| tIload 5 <| tCallV M jX12_isAsFar 12 27 3 <| tIf (fun x => x = 0) (G 40) <| tConst 1 <| tGoto (G 41)
def w_X12_asked_40 (M : CT) (G : Nat → PT) (Rp : RT) : PT := tConst 0 <| G 41
def w_X12_asked_41 (M : CT) (G : Nat → PT) (Rp : RT) : PT := tIstore 6 <| tIload 6 <| tIf (fun x => x = 0) (G 55) <| tAload 0 <| tIload 1 <| tConst 2 <| tIload 2 <| tCallV M jX12_lays 12 27 3 <| G 55
def w_X12_asked_55 (M : CT) (G : Nat → PT) (Rp : RT) : PT := tAload 0 <| tIload 1 <| tIload 2 <| tConst 1 <| tIload 6 <| tIf (fun x => x = 0) (G 68) <| tConst 1 <| tGoto (G 69)
def w_X12_asked_68 (M : CT) (G : Nat → PT) (Rp : RT) : PT := tConst 0 <| G 69
def w_X12_asked_69 (M : CT) (G : Nat → PT) (Rp : RT) : PT := tConst 0 <| tCallV M jX12_sends 12 27 5 <| tIstore 7 <| tVret Rp
set_option maxRecDepth 20000 in
theorem b_X12_asked_0 {Z : Zt} {d : Nat} {p : Program} {e : Env} {R : Room} {s : State} {m : MethodId} {args : Array Value} {below : List Frame} {meth : Method} {c : Code} {Rp : RT} (C : Cx Z d jX12_asked RX12 p R s m args meth c) : Sd Z jX12_asked p e R s m args below meth c (MQ below (QcS Z Rp) args s 0 0 (fun a => Z.2.2.1 < a)) 0 (w_X12_asked_0 (MS Z d) (Gw Z 8 p e R s m args below meth c (MQ below (QcS Z Rp) args s 0 0 (fun a => Z.2.2.1 < a))) Rp) := by
  unfold w_X12_asked_0
  refine s_iload_n (k := 3) C (by decide +kernel) ?_
  refine s_if_eq (off := 39) (tgt := 40) C (by decide +kernel) (by decide) (fun _ _ _ _ _ _ h => h) ?_
  refine s_aload_n (k := 0) C (by decide +kernel) ?_
  refine s_iload_n (k := 1) C (by decide +kernel) ?_
  refine s_iconst (n := 2) C (by decide +kernel) (by decide) ?_
  refine s_callV C rfl rfl (by decide +kernel) rfl w_6_220 w_6_222 w_p3_11 w_1_13 w_6_223 (by decide +kernel) ?_
  refine s_iconst (n := (-1)) C (by decide +kernel) (by decide) ?_
  refine s_icmp_eq (off := 13) (tgt := 24) C (by decide +kernel) (by decide) (fun _ _ _ _ _ _ h => h) ?_
  refine s_aload_n (k := 0) C (by decide +kernel) ?_
  refine s_iload_n (k := 1) C (by decide +kernel) ?_
  refine s_iconst (n := 2) C (by decide +kernel) (by decide) ?_
  refine s_callV C rfl rfl (by decide +kernel) rfl w_6_220 w_6_222 w_p3_11 w_1_13 w_6_223 (by decide +kernel) ?_
  refine s_iload_n (k := 2) C (by decide +kernel) ?_
  refine s_icmp_ne (off := 19) (tgt := 40) C (by decide +kernel) (by decide) (fun _ _ _ _ _ _ h => h) ?_
  exact (fun _ _ _ _ _ _ h => h)
set_option maxRecDepth 20000 in
theorem b_X12_asked_24 {Z : Zt} {d : Nat} {p : Program} {e : Env} {R : Room} {s : State} {m : MethodId} {args : Array Value} {below : List Frame} {meth : Method} {c : Code} {Rp : RT} (C : Cx Z d jX12_asked RX12 p R s m args meth c) : Sd Z jX12_asked p e R s m args below meth c (MQ below (QcS Z Rp) args s 0 0 (fun a => Z.2.2.1 < a)) 24 (w_X12_asked_24 (MS Z d) (Gw Z 8 p e R s m args below meth c (MQ below (QcS Z Rp) args s 0 0 (fun a => Z.2.2.1 < a))) Rp) := by
  unfold w_X12_asked_24
  refine s_aload_n (k := 0) C (by decide +kernel) ?_
  refine s_iload_n (k := 1) C (by decide +kernel) ?_
  refine s_iload (k := 4) C (by decide +kernel) ?_
  refine s_iload (k := 5) C (by decide +kernel) ?_
  refine s_callV C rfl rfl (by decide +kernel) rfl w_7_188 w_7_190 w_p6_1 w_1_13 w_7_191 (by decide +kernel) ?_
  refine s_if_eq (off := 7) (tgt := 40) C (by decide +kernel) (by decide) (fun _ _ _ _ _ _ h => h) ?_
  refine s_iconst (n := 1) C (by decide +kernel) (by decide) ?_
  exact s_goto (off := 4) (tgt := 41) C (by decide +kernel) (by decide) (fun _ _ _ _ _ _ h => h)
set_option maxRecDepth 20000 in
theorem b_X12_asked_40 {Z : Zt} {d : Nat} {p : Program} {e : Env} {R : Room} {s : State} {m : MethodId} {args : Array Value} {below : List Frame} {meth : Method} {c : Code} {Rp : RT} (C : Cx Z d jX12_asked RX12 p R s m args meth c) : Sd Z jX12_asked p e R s m args below meth c (MQ below (QcS Z Rp) args s 0 0 (fun a => Z.2.2.1 < a)) 40 (w_X12_asked_40 (MS Z d) (Gw Z 8 p e R s m args below meth c (MQ below (QcS Z Rp) args s 0 0 (fun a => Z.2.2.1 < a))) Rp) := by
  unfold w_X12_asked_40
  refine s_iconst (n := 0) C (by decide +kernel) (by decide) ?_
  exact (fun _ _ _ _ _ _ h => h)
set_option maxRecDepth 20000 in
theorem b_X12_asked_41 {Z : Zt} {d : Nat} {p : Program} {e : Env} {R : Room} {s : State} {m : MethodId} {args : Array Value} {below : List Frame} {meth : Method} {c : Code} {Rp : RT} (C : Cx Z d jX12_asked RX12 p R s m args meth c) : Sd Z jX12_asked p e R s m args below meth c (MQ below (QcS Z Rp) args s 0 0 (fun a => Z.2.2.1 < a)) 41 (w_X12_asked_41 (MS Z d) (Gw Z 8 p e R s m args below meth c (MQ below (QcS Z Rp) args s 0 0 (fun a => Z.2.2.1 < a))) Rp) := by
  unfold w_X12_asked_41
  refine s_istore (k := 6) C (by decide +kernel) ?_
  refine s_iload (k := 6) C (by decide +kernel) ?_
  refine s_if_eq (off := 10) (tgt := 55) C (by decide +kernel) (by decide) (fun _ _ _ _ _ _ h => h) ?_
  refine s_aload_n (k := 0) C (by decide +kernel) ?_
  refine s_iload_n (k := 1) C (by decide +kernel) ?_
  refine s_iconst (n := 2) C (by decide +kernel) (by decide) ?_
  refine s_iload_n (k := 2) C (by decide +kernel) ?_
  refine s_callV C rfl rfl (by decide +kernel) rfl w_6_82 w_6_84 w_p3_4 w_1_13 w_6_85 (by decide +kernel) ?_
  exact (fun _ _ _ _ _ _ h => h)
set_option maxRecDepth 20000 in
theorem b_X12_asked_55 {Z : Zt} {d : Nat} {p : Program} {e : Env} {R : Room} {s : State} {m : MethodId} {args : Array Value} {below : List Frame} {meth : Method} {c : Code} {Rp : RT} (C : Cx Z d jX12_asked RX12 p R s m args meth c) : Sd Z jX12_asked p e R s m args below meth c (MQ below (QcS Z Rp) args s 0 0 (fun a => Z.2.2.1 < a)) 55 (w_X12_asked_55 (MS Z d) (Gw Z 8 p e R s m args below meth c (MQ below (QcS Z Rp) args s 0 0 (fun a => Z.2.2.1 < a))) Rp) := by
  unfold w_X12_asked_55
  refine s_aload_n (k := 0) C (by decide +kernel) ?_
  refine s_iload_n (k := 1) C (by decide +kernel) ?_
  refine s_iload_n (k := 2) C (by decide +kernel) ?_
  refine s_iconst (n := 1) C (by decide +kernel) (by decide) ?_
  refine s_iload (k := 6) C (by decide +kernel) ?_
  refine s_if_eq (off := 7) (tgt := 68) C (by decide +kernel) (by decide) (fun _ _ _ _ _ _ h => h) ?_
  refine s_iconst (n := 1) C (by decide +kernel) (by decide) ?_
  exact s_goto (off := 4) (tgt := 69) C (by decide +kernel) (by decide) (fun _ _ _ _ _ _ h => h)
set_option maxRecDepth 20000 in
theorem b_X12_asked_68 {Z : Zt} {d : Nat} {p : Program} {e : Env} {R : Room} {s : State} {m : MethodId} {args : Array Value} {below : List Frame} {meth : Method} {c : Code} {Rp : RT} (C : Cx Z d jX12_asked RX12 p R s m args meth c) : Sd Z jX12_asked p e R s m args below meth c (MQ below (QcS Z Rp) args s 0 0 (fun a => Z.2.2.1 < a)) 68 (w_X12_asked_68 (MS Z d) (Gw Z 8 p e R s m args below meth c (MQ below (QcS Z Rp) args s 0 0 (fun a => Z.2.2.1 < a))) Rp) := by
  unfold w_X12_asked_68
  refine s_iconst (n := 0) C (by decide +kernel) (by decide) ?_
  exact (fun _ _ _ _ _ _ h => h)
set_option maxRecDepth 20000 in
theorem b_X12_asked_69 {Z : Zt} {d : Nat} {p : Program} {e : Env} {R : Room} {s : State} {m : MethodId} {args : Array Value} {below : List Frame} {meth : Method} {c : Code} {Rp : RT} (C : Cx Z d jX12_asked RX12 p R s m args meth c) : Sd Z jX12_asked p e R s m args below meth c (MQ below (QcS Z Rp) args s 0 0 (fun a => Z.2.2.1 < a)) 69 (w_X12_asked_69 (MS Z d) (Gw Z 8 p e R s m args below meth c (MQ below (QcS Z Rp) args s 0 0 (fun a => Z.2.2.1 < a))) Rp) := by
  unfold w_X12_asked_69
  refine s_iconst (n := 0) C (by decide +kernel) (by decide) ?_
  refine s_callV C rfl rfl (by decide +kernel) rfl w_7_27 w_7_29 w_p4_6 w_1_13 w_7_30 (by decide +kernel) ?_
  refine s_istore (k := 7) C (by decide +kernel) ?_
  exact s_vret C rfl (by decide +kernel)
theorem ms_X12_asked {Z : Zt} {d : Nat} {S : Sh} {μ : Mi} {ρ : Mr} {Rp : RT} (a0 : Nat) (x1 : Int32) (x2 : Int32) (x3 : Int32) (x4 : Int32) (x5 : Int32) (h : ∀ G : Nat → PT, (∀ (L st : List Value) (S : Sh) (q : Nat × Nat) (μ : Mi) (ρ : Mr), w_X12_asked_24 (MS Z d) G Rp L st S q μ ρ → G 24 L st S q μ ρ) → (∀ (L st : List Value) (S : Sh) (q : Nat × Nat) (μ : Mi) (ρ : Mr), w_X12_asked_40 (MS Z d) G Rp L st S q μ ρ → G 40 L st S q μ ρ) → (∀ (L st : List Value) (S : Sh) (q : Nat × Nat) (μ : Mi) (ρ : Mr), w_X12_asked_41 (MS Z d) G Rp L st S q μ ρ → G 41 L st S q μ ρ) → (∀ (L st : List Value) (S : Sh) (q : Nat × Nat) (μ : Mi) (ρ : Mr), w_X12_asked_55 (MS Z d) G Rp L st S q μ ρ → G 55 L st S q μ ρ) → (∀ (L st : List Value) (S : Sh) (q : Nat × Nat) (μ : Mi) (ρ : Mr), w_X12_asked_68 (MS Z d) G Rp L st S q μ ρ → G 68 L st S q μ ρ) → (∀ (L st : List Value) (S : Sh) (q : Nat × Nat) (μ : Mi) (ρ : Mr), w_X12_asked_69 (MS Z d) G Rp L st S q μ ρ → G 69 L st S q μ ρ) → w_X12_asked_0 (MS Z d) G Rp [.ref a0, .int x1, .int x2, .int x3, .int x4, .int x5, .null, .null] [] S (0, 0) μ ρ) : MS Z (d + 1) jX12_asked [.ref a0, .int x1, .int x2, .int x3, .int x4, .int x5] S μ ρ Rp :=
  MS_of [.ref a0, .int x1, .int x2, .int x3, .int x4, .int x5, .null, .null] (by decide +kernel) rfl rfl (Nat.le_of_ble_eq_true rfl) rfl (fun p e R s m args below meth c C => b_X12_asked_0 C _ _ _ _ _ _ (h _ (b_X12_asked_24 C) (b_X12_asked_40 C) (b_X12_asked_41 C) (b_X12_asked_55 C) (b_X12_asked_68 C) (b_X12_asked_69 C)))
def w_X12_voted_0 (M : CT) (G : Nat → PT) (Rp : RT) : PT := tAload 0 <| tIload 1 <| tConst 8 <| tAload 0 <| tIload 1 <| tConst 8 <| tCallV M jX12_of 12 27 2 <| tConst 1 <| tIload 2 <| tBin (fun x y => x <<< (y &&& 31)) <| tBin (fun x y => x ||| y) <| tCallV M jX12_lays 12 27 3 <| tAload 0 <| tIload 1 <| tCallV M jX12_laysMembers 12 27 1 <| tAload 0 <| tAload 0 <| tIload 1 <| tConst 8 <| tCallV M jX12_of 12 27 2 <| tCallV M jX12_isMajority 12 27 1 <| tIf (fun x => x = 0) (G 42) <| tAload 0 <| tIload 1 <| tCallV M jX12_leads 12 27 1 <| G 42
def w_X12_voted_42 (M : CT) (G : Nat → PT) (Rp : RT) : PT := tVret Rp
set_option maxRecDepth 20000 in
theorem b_X12_voted_0 {Z : Zt} {d : Nat} {p : Program} {e : Env} {R : Room} {s : State} {m : MethodId} {args : Array Value} {below : List Frame} {meth : Method} {c : Code} {Rp : RT} (C : Cx Z d jX12_voted RX12 p R s m args meth c) : Sd Z jX12_voted p e R s m args below meth c (MQ below (QcS Z Rp) args s 0 0 (fun a => Z.2.2.1 < a)) 0 (w_X12_voted_0 (MS Z d) (Gw Z 3 p e R s m args below meth c (MQ below (QcS Z Rp) args s 0 0 (fun a => Z.2.2.1 < a))) Rp) := by
  unfold w_X12_voted_0
  refine s_aload_n (k := 0) C (by decide +kernel) ?_
  refine s_iload_n (k := 1) C (by decide +kernel) ?_
  refine s_bipush (n := 8) C (by decide +kernel) (by decide) ?_
  refine s_aload_n (k := 0) C (by decide +kernel) ?_
  refine s_iload_n (k := 1) C (by decide +kernel) ?_
  refine s_bipush (n := 8) C (by decide +kernel) (by decide) ?_
  refine s_callV C rfl rfl (by decide +kernel) rfl w_6_220 w_6_222 w_p3_11 w_1_13 w_6_223 (by decide +kernel) ?_
  refine s_iconst (n := 1) C (by decide +kernel) (by decide) ?_
  refine s_iload_n (k := 2) C (by decide +kernel) ?_
  refine s_ishl C (by decide +kernel) ?_
  refine s_ior C (by decide +kernel) ?_
  refine s_callV C rfl rfl (by decide +kernel) rfl w_6_82 w_6_84 w_p3_4 w_1_13 w_6_85 (by decide +kernel) ?_
  refine s_aload_n (k := 0) C (by decide +kernel) ?_
  refine s_iload_n (k := 1) C (by decide +kernel) ?_
  refine s_callV C rfl rfl (by decide +kernel) rfl w_6_216 w_6_218 w_p3_10 w_1_13 w_6_219 (by decide +kernel) ?_
  refine s_aload_n (k := 0) C (by decide +kernel) ?_
  refine s_aload_n (k := 0) C (by decide +kernel) ?_
  refine s_iload_n (k := 1) C (by decide +kernel) ?_
  refine s_bipush (n := 8) C (by decide +kernel) (by decide) ?_
  refine s_callV C rfl rfl (by decide +kernel) rfl w_6_220 w_6_222 w_p3_11 w_1_13 w_6_223 (by decide +kernel) ?_
  refine s_callV C rfl rfl (by decide +kernel) rfl w_7_35 w_7_37 w_p4_8 w_1_13 w_7_38 (by decide +kernel) ?_
  refine s_if_eq (off := 8) (tgt := 42) C (by decide +kernel) (by decide) (fun _ _ _ _ _ _ h => h) ?_
  refine s_aload_n (k := 0) C (by decide +kernel) ?_
  refine s_iload_n (k := 1) C (by decide +kernel) ?_
  refine s_callV C rfl rfl (by decide +kernel) rfl w_7_39 w_7_41 w_p4_9 w_1_13 w_7_42 (by decide +kernel) ?_
  exact (fun _ _ _ _ _ _ h => h)
set_option maxRecDepth 20000 in
theorem b_X12_voted_42 {Z : Zt} {d : Nat} {p : Program} {e : Env} {R : Room} {s : State} {m : MethodId} {args : Array Value} {below : List Frame} {meth : Method} {c : Code} {Rp : RT} (C : Cx Z d jX12_voted RX12 p R s m args meth c) : Sd Z jX12_voted p e R s m args below meth c (MQ below (QcS Z Rp) args s 0 0 (fun a => Z.2.2.1 < a)) 42 (w_X12_voted_42 (MS Z d) (Gw Z 3 p e R s m args below meth c (MQ below (QcS Z Rp) args s 0 0 (fun a => Z.2.2.1 < a))) Rp) := by
  unfold w_X12_voted_42
  exact s_vret C rfl (by decide +kernel)
theorem ms_X12_voted {Z : Zt} {d : Nat} {S : Sh} {μ : Mi} {ρ : Mr} {Rp : RT} (a0 : Nat) (x1 : Int32) (x2 : Int32) (h : ∀ G : Nat → PT, (∀ (L st : List Value) (S : Sh) (q : Nat × Nat) (μ : Mi) (ρ : Mr), w_X12_voted_42 (MS Z d) G Rp L st S q μ ρ → G 42 L st S q μ ρ) → w_X12_voted_0 (MS Z d) G Rp [.ref a0, .int x1, .int x2] [] S (0, 0) μ ρ) : MS Z (d + 1) jX12_voted [.ref a0, .int x1, .int x2] S μ ρ Rp :=
  MS_of [.ref a0, .int x1, .int x2] (by decide +kernel) rfl rfl (Nat.le_of_ble_eq_true rfl) rfl (fun p e R s m args below meth c C => b_X12_voted_0 C _ _ _ _ _ _ (h _ (b_X12_voted_42 C)))
def w_X12_answers_0 (M : CT) (G : Nat → PT) (Rp : RT) : PT := tAload 0 <| tIload 1 <| tIload 2 <| tConst 3 <| tIload 3 <| tIload 4 <| tCallV M jX12_sends 12 27 5 <| tIstore 5 <| tVret Rp
set_option maxRecDepth 20000 in
theorem b_X12_answers_0 {Z : Zt} {d : Nat} {p : Program} {e : Env} {R : Room} {s : State} {m : MethodId} {args : Array Value} {below : List Frame} {meth : Method} {c : Code} {Rp : RT} (C : Cx Z d jX12_answers RX12 p R s m args meth c) : Sd Z jX12_answers p e R s m args below meth c (MQ below (QcS Z Rp) args s 0 0 (fun a => Z.2.2.1 < a)) 0 (w_X12_answers_0 (MS Z d) (Gw Z 6 p e R s m args below meth c (MQ below (QcS Z Rp) args s 0 0 (fun a => Z.2.2.1 < a))) Rp) := by
  unfold w_X12_answers_0
  refine s_aload_n (k := 0) C (by decide +kernel) ?_
  refine s_iload_n (k := 1) C (by decide +kernel) ?_
  refine s_iload_n (k := 2) C (by decide +kernel) ?_
  refine s_iconst (n := 3) C (by decide +kernel) (by decide) ?_
  refine s_iload_n (k := 3) C (by decide +kernel) ?_
  refine s_iload (k := 4) C (by decide +kernel) ?_
  refine s_callV C rfl rfl (by decide +kernel) rfl w_7_27 w_7_29 w_p4_6 w_1_13 w_7_30 (by decide +kernel) ?_
  refine s_istore (k := 5) C (by decide +kernel) ?_
  exact s_vret C rfl (by decide +kernel)
theorem ms_X12_answers {Z : Zt} {d : Nat} {S : Sh} {μ : Mi} {ρ : Mr} {Rp : RT} (a0 : Nat) (x1 : Int32) (x2 : Int32) (x3 : Int32) (x4 : Int32) (h : ∀ G : Nat → PT, w_X12_answers_0 (MS Z d) G Rp [.ref a0, .int x1, .int x2, .int x3, .int x4, .null] [] S (0, 0) μ ρ) : MS Z (d + 1) jX12_answers [.ref a0, .int x1, .int x2, .int x3, .int x4] S μ ρ Rp :=
  MS_of [.ref a0, .int x1, .int x2, .int x3, .int x4, .null] (by decide +kernel) rfl rfl (Nat.le_of_ble_eq_true rfl) rfl (fun p e R s m args below meth c C => b_X12_answers_0 C _ _ _ _ _ _ (h _ ))
def w_X12_takes_0 (M : CT) (G : Nat → PT) (Rp : RT) : PT := tIload 3 <| tIf (fun x => x ≠ 0) (G 18) <| tAload 0 <| tIload 1 <| tIload 2 <| tConst 0 <| tAload 0 <| tIload 1 <| tConst 4 <| tCallV M jX12_of 12 27 2 <| tCallV M jX12_answers 12 27 4 <| tVret Rp
def w_X12_takes_18 (M : CT) (G : Nat → PT) (Rp : RT) : PT := tAload 0 <| tIload 1 <| tCallV M jX12_isLeader 12 27 1 <| tIf (fun x => x ≠ 0) (G 32) <| tAload 0 <| tIload 1 <| tConst 0 <| tCallV M jX12_plays 12 27 2 <| G 32
def w_X12_takes_32 (M : CT) (G : Nat → PT) (Rp : RT) : PT := tAload 0 <| tGetR 12 27 12 <| tConst 4 <| tAld 20 <| tIstore 4 <| tIload 4 <| tAload 0 <| tIload 1 <| tConst 4 <| tCallV M jX12_of 12 27 2 <| tIf2 (fun x y => x ≤ y) (G 65) <| tAload 0 <| tIload 1 <| tIload 2 <| tConst 0 <| tAload 0 <| tIload 1 <| tConst 4 <| tCallV M jX12_of 12 27 2 <| tCallV M jX12_answers 12 27 4 <| tVret Rp
def w_X12_takes_65 (M : CT) (G : Nat → PT) (Rp : RT) : PT := tIload 4 <| tAload 0 <| tIload 1 <| tConst 5 <| tCallV M jX12_of 12 27 2 <| tIf2 (fun x y => x < y) (G 104) <| tAload 0 <| tIload 1 <| tIload 4 <| tCallV M jX12_termAt 12 27 2 <| tAload 0 <| tGetR 12 27 12 <| tConst 5 <| tAld 20 <| tIf2 (fun x y => x = y) (G 104) <| tAload 0 <| tIload 1 <| tIload 2 <| tConst 0 <| tIload 4 <| tConst 1 <| tBin (fun x y => x - y) <| tCallV M jX12_answers 12 27 4 <| tVret Rp
def w_X12_takes_104 (M : CT) (G : Nat → PT) (Rp : RT) : PT := tAload 0 <| tGetR 12 27 12 <| tConst 6 <| tAld 20 <| tIstore 5 <| tConst 0 <| tIstore 6 <| G 116
def w_X12_takes_116 (M : CT) (G : Nat → PT) (Rp : RT) : PT := tIload 6 <| tIload 5 <| tIf2 (fun x y => y ≤ x) (G 250) <| tIload 4 <| tConst 1 <| tBin (fun x y => x + y) <| tIload 6 <| tBin (fun x y => x + y) <| tIstore 7 <| tConst 9 <| tConst 4 <| tIload 6 <| tBin (fun x y => x * y) <| tBin (fun x y => x + y) <| tIstore 8 <| tIload 7 <| tAload 0 <| tIload 1 <| tConst 5 <| tCallV M jX12_of 12 27 2 <| tIf2 (fun x y => y < x) (G 155) <| tGoto (G 244)
def w_X12_takes_155 (M : CT) (G : Nat → PT) (Rp : RT) : PT := tIload 7 <| tAload 0 <| tIload 1 <| tConst 4 <| tCallV M jX12_of 12 27 2 <| tIf2 (fun x y => y < x) (G 194) <| tAload 0 <| tIload 1 <| tIload 7 <| tConst 0 <| tCallV M jX12_ofEntry 12 27 3 <| tAload 0 <| tGetR 12 27 12 <| tIload 8 <| tAld 20 <| tIf2 (fun x y => x = y) (G 194) <| tAload 0 <| tIload 1 <| tConst 4 <| tIload 7 <| tConst 1 <| tBin (fun x y => x - y) <| tCallV M jX12_lays 12 27 3 <| G 194
def w_X12_takes_194 (M : CT) (G : Nat → PT) (Rp : RT) : PT := tIload 7 <| tAload 0 <| tIload 1 <| tConst 4 <| tCallV M jX12_of 12 27 2 <| tIf2 (fun x y => x ≤ y) (G 244) <| tAload 0 <| tIload 1 <| tAload 0 <| tGetR 12 27 12 <| tIload 8 <| tAld 20 <| tAload 0 <| tGetR 12 27 12 <| tIload 8 <| tConst 1 <| tBin (fun x y => x + y) <| tAld 20 <| tAload 0 <| tGetR 12 27 12 <| tIload 8 <| tConst 2 <| tBin (fun x y => x + y) <| tAld 20 <| tAload 0 <| tGetR 12 27 12 <| tIload 8 <| tConst 3 <| tBin (fun x y => x + y) <| tAld 20 <| tCallV M jX12_comesToLog 12 27 5 <| G 244
def w_X12_takes_244 (M : CT) (G : Nat → PT) (Rp : RT) : PT := tIinc 6 1 <| tGoto (G 116)
def w_X12_takes_250 (M : CT) (G : Nat → PT) (Rp : RT) : PT := tAload 0 <| tIload 1 <| tAload 0 <| tGetR 12 27 12 <| tConst 7 <| tAld 20 <| tIload 4 <| tIload 5 <| tBin (fun x y => x + y) <| tCallS M jX12_lesser 2 <| tCallV M jX12_does 12 27 2 <| tAload 0 <| tIload 1 <| tIload 2 <| tConst 1 <| tIload 4 <| tIload 5 <| tBin (fun x y => x + y) <| tCallV M jX12_answers 12 27 4 <| tVret Rp
set_option maxRecDepth 20000 in
theorem b_X12_takes_0 {Z : Zt} {d : Nat} {p : Program} {e : Env} {R : Room} {s : State} {m : MethodId} {args : Array Value} {below : List Frame} {meth : Method} {c : Code} {Rp : RT} (C : Cx Z d jX12_takes RX12 p R s m args meth c) : Sd Z jX12_takes p e R s m args below meth c (MQ below (QcS Z Rp) args s 0 0 (fun a => Z.2.2.1 < a)) 0 (w_X12_takes_0 (MS Z d) (Gw Z 9 p e R s m args below meth c (MQ below (QcS Z Rp) args s 0 0 (fun a => Z.2.2.1 < a))) Rp) := by
  unfold w_X12_takes_0
  refine s_iload_n (k := 3) C (by decide +kernel) ?_
  refine s_if_ne (off := 17) (tgt := 18) C (by decide +kernel) (by decide) (fun _ _ _ _ _ _ h => h) ?_
  refine s_aload_n (k := 0) C (by decide +kernel) ?_
  refine s_iload_n (k := 1) C (by decide +kernel) ?_
  refine s_iload_n (k := 2) C (by decide +kernel) ?_
  refine s_iconst (n := 0) C (by decide +kernel) (by decide) ?_
  refine s_aload_n (k := 0) C (by decide +kernel) ?_
  refine s_iload_n (k := 1) C (by decide +kernel) ?_
  refine s_iconst (n := 4) C (by decide +kernel) (by decide) ?_
  refine s_callV C rfl rfl (by decide +kernel) rfl w_6_220 w_6_222 w_p3_11 w_1_13 w_6_223 (by decide +kernel) ?_
  refine s_callV C rfl rfl (by decide +kernel) rfl w_7_200 w_7_202 w_p6_4 w_1_13 w_7_203 (by decide +kernel) ?_
  exact s_vret C rfl (by decide +kernel)
set_option maxRecDepth 20000 in
theorem b_X12_takes_18 {Z : Zt} {d : Nat} {p : Program} {e : Env} {R : Room} {s : State} {m : MethodId} {args : Array Value} {below : List Frame} {meth : Method} {c : Code} {Rp : RT} (C : Cx Z d jX12_takes RX12 p R s m args meth c) : Sd Z jX12_takes p e R s m args below meth c (MQ below (QcS Z Rp) args s 0 0 (fun a => Z.2.2.1 < a)) 18 (w_X12_takes_18 (MS Z d) (Gw Z 9 p e R s m args below meth c (MQ below (QcS Z Rp) args s 0 0 (fun a => Z.2.2.1 < a))) Rp) := by
  unfold w_X12_takes_18
  refine s_aload_n (k := 0) C (by decide +kernel) ?_
  refine s_iload_n (k := 1) C (by decide +kernel) ?_
  refine s_callV C rfl rfl (by decide +kernel) rfl w_6_236 w_6_238 w_p3_15 w_1_13 w_6_239 (by decide +kernel) ?_
  refine s_if_ne (off := 9) (tgt := 32) C (by decide +kernel) (by decide) (fun _ _ _ _ _ _ h => h) ?_
  refine s_aload_n (k := 0) C (by decide +kernel) ?_
  refine s_iload_n (k := 1) C (by decide +kernel) ?_
  refine s_iconst (n := 0) C (by decide +kernel) (by decide) ?_
  refine s_callV C rfl rfl (by decide +kernel) rfl w_7_11 w_7_13 w_p4_2 w_1_13 w_7_14 (by decide +kernel) ?_
  exact (fun _ _ _ _ _ _ h => h)
set_option maxRecDepth 20000 in
theorem b_X12_takes_32 {Z : Zt} {d : Nat} {p : Program} {e : Env} {R : Room} {s : State} {m : MethodId} {args : Array Value} {below : List Frame} {meth : Method} {c : Code} {Rp : RT} (C : Cx Z d jX12_takes RX12 p R s m args meth c) : Sd Z jX12_takes p e R s m args below meth c (MQ below (QcS Z Rp) args s 0 0 (fun a => Z.2.2.1 < a)) 32 (w_X12_takes_32 (MS Z d) (Gw Z 9 p e R s m args below meth c (MQ below (QcS Z Rp) args s 0 0 (fun a => Z.2.2.1 < a))) Rp) := by
  unfold w_X12_takes_32
  refine s_aload_n (k := 0) C (by decide +kernel) ?_
  refine s_getR C w_6_99 (by decide +kernel) rfl ?_
  refine s_iconst (n := 4) C (by decide +kernel) (by decide) ?_
  refine s_iald C (by decide +kernel) ?_
  refine s_istore (k := 4) C (by decide +kernel) ?_
  refine s_iload (k := 4) C (by decide +kernel) ?_
  refine s_aload_n (k := 0) C (by decide +kernel) ?_
  refine s_iload_n (k := 1) C (by decide +kernel) ?_
  refine s_iconst (n := 4) C (by decide +kernel) (by decide) ?_
  refine s_callV C rfl rfl (by decide +kernel) rfl w_6_220 w_6_222 w_p3_11 w_1_13 w_6_223 (by decide +kernel) ?_
  refine s_icmp_le (off := 17) (tgt := 65) C (by decide +kernel) (by decide) (fun _ _ _ _ _ _ h => h) ?_
  refine s_aload_n (k := 0) C (by decide +kernel) ?_
  refine s_iload_n (k := 1) C (by decide +kernel) ?_
  refine s_iload_n (k := 2) C (by decide +kernel) ?_
  refine s_iconst (n := 0) C (by decide +kernel) (by decide) ?_
  refine s_aload_n (k := 0) C (by decide +kernel) ?_
  refine s_iload_n (k := 1) C (by decide +kernel) ?_
  refine s_iconst (n := 4) C (by decide +kernel) (by decide) ?_
  refine s_callV C rfl rfl (by decide +kernel) rfl w_6_220 w_6_222 w_p3_11 w_1_13 w_6_223 (by decide +kernel) ?_
  refine s_callV C rfl rfl (by decide +kernel) rfl w_7_200 w_7_202 w_p6_4 w_1_13 w_7_203 (by decide +kernel) ?_
  exact s_vret C rfl (by decide +kernel)
set_option maxRecDepth 20000 in
theorem b_X12_takes_65 {Z : Zt} {d : Nat} {p : Program} {e : Env} {R : Room} {s : State} {m : MethodId} {args : Array Value} {below : List Frame} {meth : Method} {c : Code} {Rp : RT} (C : Cx Z d jX12_takes RX12 p R s m args meth c) : Sd Z jX12_takes p e R s m args below meth c (MQ below (QcS Z Rp) args s 0 0 (fun a => Z.2.2.1 < a)) 65 (w_X12_takes_65 (MS Z d) (Gw Z 9 p e R s m args below meth c (MQ below (QcS Z Rp) args s 0 0 (fun a => Z.2.2.1 < a))) Rp) := by
  unfold w_X12_takes_65
  refine s_iload (k := 4) C (by decide +kernel) ?_
  refine s_aload_n (k := 0) C (by decide +kernel) ?_
  refine s_iload_n (k := 1) C (by decide +kernel) ?_
  refine s_iconst (n := 5) C (by decide +kernel) (by decide) ?_
  refine s_callV C rfl rfl (by decide +kernel) rfl w_6_220 w_6_222 w_p3_11 w_1_13 w_6_223 (by decide +kernel) ?_
  refine s_icmp_lt (off := 31) (tgt := 104) C (by decide +kernel) (by decide) (fun _ _ _ _ _ _ h => h) ?_
  refine s_aload_n (k := 0) C (by decide +kernel) ?_
  refine s_iload_n (k := 1) C (by decide +kernel) ?_
  refine s_iload (k := 4) C (by decide +kernel) ?_
  refine s_callV C rfl rfl (by decide +kernel) rfl w_7_23 w_7_25 w_p4_5 w_1_13 w_7_26 (by decide +kernel) ?_
  refine s_aload_n (k := 0) C (by decide +kernel) ?_
  refine s_getR C w_6_99 (by decide +kernel) rfl ?_
  refine s_iconst (n := 5) C (by decide +kernel) (by decide) ?_
  refine s_iald C (by decide +kernel) ?_
  refine s_icmp_eq (off := 15) (tgt := 104) C (by decide +kernel) (by decide) (fun _ _ _ _ _ _ h => h) ?_
  refine s_aload_n (k := 0) C (by decide +kernel) ?_
  refine s_iload_n (k := 1) C (by decide +kernel) ?_
  refine s_iload_n (k := 2) C (by decide +kernel) ?_
  refine s_iconst (n := 0) C (by decide +kernel) (by decide) ?_
  refine s_iload (k := 4) C (by decide +kernel) ?_
  refine s_iconst (n := 1) C (by decide +kernel) (by decide) ?_
  refine s_isub C (by decide +kernel) ?_
  refine s_callV C rfl rfl (by decide +kernel) rfl w_7_200 w_7_202 w_p6_4 w_1_13 w_7_203 (by decide +kernel) ?_
  exact s_vret C rfl (by decide +kernel)
set_option maxRecDepth 20000 in
theorem b_X12_takes_104 {Z : Zt} {d : Nat} {p : Program} {e : Env} {R : Room} {s : State} {m : MethodId} {args : Array Value} {below : List Frame} {meth : Method} {c : Code} {Rp : RT} (C : Cx Z d jX12_takes RX12 p R s m args meth c) : Sd Z jX12_takes p e R s m args below meth c (MQ below (QcS Z Rp) args s 0 0 (fun a => Z.2.2.1 < a)) 104 (w_X12_takes_104 (MS Z d) (Gw Z 9 p e R s m args below meth c (MQ below (QcS Z Rp) args s 0 0 (fun a => Z.2.2.1 < a))) Rp) := by
  unfold w_X12_takes_104
  refine s_aload_n (k := 0) C (by decide +kernel) ?_
  refine s_getR C w_6_99 (by decide +kernel) rfl ?_
  refine s_bipush (n := 6) C (by decide +kernel) (by decide) ?_
  refine s_iald C (by decide +kernel) ?_
  refine s_istore (k := 5) C (by decide +kernel) ?_
  refine s_iconst (n := 0) C (by decide +kernel) (by decide) ?_
  refine s_istore (k := 6) C (by decide +kernel) ?_
  exact (fun _ _ _ _ _ _ h => h)
set_option maxRecDepth 20000 in
theorem b_X12_takes_116 {Z : Zt} {d : Nat} {p : Program} {e : Env} {R : Room} {s : State} {m : MethodId} {args : Array Value} {below : List Frame} {meth : Method} {c : Code} {Rp : RT} (C : Cx Z d jX12_takes RX12 p R s m args meth c) : Sd Z jX12_takes p e R s m args below meth c (MQ below (QcS Z Rp) args s 0 0 (fun a => Z.2.2.1 < a)) 116 (w_X12_takes_116 (MS Z d) (Gw Z 9 p e R s m args below meth c (MQ below (QcS Z Rp) args s 0 0 (fun a => Z.2.2.1 < a))) Rp) := by
  unfold w_X12_takes_116
  refine s_iload (k := 6) C (by decide +kernel) ?_
  refine s_iload (k := 5) C (by decide +kernel) ?_
  refine s_icmp_ge (off := 130) (tgt := 250) C (by decide +kernel) (by decide) (fun _ _ _ _ _ _ h => h) ?_
  refine s_iload (k := 4) C (by decide +kernel) ?_
  refine s_iconst (n := 1) C (by decide +kernel) (by decide) ?_
  refine s_iadd C (by decide +kernel) ?_
  refine s_iload (k := 6) C (by decide +kernel) ?_
  refine s_iadd C (by decide +kernel) ?_
  refine s_istore (k := 7) C (by decide +kernel) ?_
  refine s_bipush (n := 9) C (by decide +kernel) (by decide) ?_
  refine s_iconst (n := 4) C (by decide +kernel) (by decide) ?_
  refine s_iload (k := 6) C (by decide +kernel) ?_
  refine s_imul C (by decide +kernel) ?_
  refine s_iadd C (by decide +kernel) ?_
  refine s_istore (k := 8) C (by decide +kernel) ?_
  refine s_iload (k := 7) C (by decide +kernel) ?_
  refine s_aload_n (k := 0) C (by decide +kernel) ?_
  refine s_iload_n (k := 1) C (by decide +kernel) ?_
  refine s_iconst (n := 5) C (by decide +kernel) (by decide) ?_
  refine s_callV C rfl rfl (by decide +kernel) rfl w_6_220 w_6_222 w_p3_11 w_1_13 w_6_223 (by decide +kernel) ?_
  refine s_icmp_gt (off := 6) (tgt := 155) C (by decide +kernel) (by decide) (fun _ _ _ _ _ _ h => h) ?_
  exact s_goto (off := 92) (tgt := 244) C (by decide +kernel) (by decide) (fun _ _ _ _ _ _ h => h)
set_option maxRecDepth 20000 in
theorem b_X12_takes_155 {Z : Zt} {d : Nat} {p : Program} {e : Env} {R : Room} {s : State} {m : MethodId} {args : Array Value} {below : List Frame} {meth : Method} {c : Code} {Rp : RT} (C : Cx Z d jX12_takes RX12 p R s m args meth c) : Sd Z jX12_takes p e R s m args below meth c (MQ below (QcS Z Rp) args s 0 0 (fun a => Z.2.2.1 < a)) 155 (w_X12_takes_155 (MS Z d) (Gw Z 9 p e R s m args below meth c (MQ below (QcS Z Rp) args s 0 0 (fun a => Z.2.2.1 < a))) Rp) := by
  unfold w_X12_takes_155
  refine s_iload (k := 7) C (by decide +kernel) ?_
  refine s_aload_n (k := 0) C (by decide +kernel) ?_
  refine s_iload_n (k := 1) C (by decide +kernel) ?_
  refine s_iconst (n := 4) C (by decide +kernel) (by decide) ?_
  refine s_callV C rfl rfl (by decide +kernel) rfl w_6_220 w_6_222 w_p3_11 w_1_13 w_6_223 (by decide +kernel) ?_
  refine s_icmp_gt (off := 31) (tgt := 194) C (by decide +kernel) (by decide) (fun _ _ _ _ _ _ h => h) ?_
  refine s_aload_n (k := 0) C (by decide +kernel) ?_
  refine s_iload_n (k := 1) C (by decide +kernel) ?_
  refine s_iload (k := 7) C (by decide +kernel) ?_
  refine s_iconst (n := 0) C (by decide +kernel) (by decide) ?_
  refine s_callV C rfl rfl (by decide +kernel) rfl w_6_228 w_6_230 w_p3_13 w_1_13 w_6_231 (by decide +kernel) ?_
  refine s_aload_n (k := 0) C (by decide +kernel) ?_
  refine s_getR C w_6_99 (by decide +kernel) rfl ?_
  refine s_iload (k := 8) C (by decide +kernel) ?_
  refine s_iald C (by decide +kernel) ?_
  refine s_icmp_eq (off := 13) (tgt := 194) C (by decide +kernel) (by decide) (fun _ _ _ _ _ _ h => h) ?_
  refine s_aload_n (k := 0) C (by decide +kernel) ?_
  refine s_iload_n (k := 1) C (by decide +kernel) ?_
  refine s_iconst (n := 4) C (by decide +kernel) (by decide) ?_
  refine s_iload (k := 7) C (by decide +kernel) ?_
  refine s_iconst (n := 1) C (by decide +kernel) (by decide) ?_
  refine s_isub C (by decide +kernel) ?_
  refine s_callV C rfl rfl (by decide +kernel) rfl w_6_82 w_6_84 w_p3_4 w_1_13 w_6_85 (by decide +kernel) ?_
  exact (fun _ _ _ _ _ _ h => h)
set_option maxRecDepth 20000 in
theorem b_X12_takes_194 {Z : Zt} {d : Nat} {p : Program} {e : Env} {R : Room} {s : State} {m : MethodId} {args : Array Value} {below : List Frame} {meth : Method} {c : Code} {Rp : RT} (C : Cx Z d jX12_takes RX12 p R s m args meth c) : Sd Z jX12_takes p e R s m args below meth c (MQ below (QcS Z Rp) args s 0 0 (fun a => Z.2.2.1 < a)) 194 (w_X12_takes_194 (MS Z d) (Gw Z 9 p e R s m args below meth c (MQ below (QcS Z Rp) args s 0 0 (fun a => Z.2.2.1 < a))) Rp) := by
  unfold w_X12_takes_194
  refine s_iload (k := 7) C (by decide +kernel) ?_
  refine s_aload_n (k := 0) C (by decide +kernel) ?_
  refine s_iload_n (k := 1) C (by decide +kernel) ?_
  refine s_iconst (n := 4) C (by decide +kernel) (by decide) ?_
  refine s_callV C rfl rfl (by decide +kernel) rfl w_6_220 w_6_222 w_p3_11 w_1_13 w_6_223 (by decide +kernel) ?_
  refine s_icmp_le (off := 42) (tgt := 244) C (by decide +kernel) (by decide) (fun _ _ _ _ _ _ h => h) ?_
  refine s_aload_n (k := 0) C (by decide +kernel) ?_
  refine s_iload_n (k := 1) C (by decide +kernel) ?_
  refine s_aload_n (k := 0) C (by decide +kernel) ?_
  refine s_getR C w_6_99 (by decide +kernel) rfl ?_
  refine s_iload (k := 8) C (by decide +kernel) ?_
  refine s_iald C (by decide +kernel) ?_
  refine s_aload_n (k := 0) C (by decide +kernel) ?_
  refine s_getR C w_6_99 (by decide +kernel) rfl ?_
  refine s_iload (k := 8) C (by decide +kernel) ?_
  refine s_iconst (n := 1) C (by decide +kernel) (by decide) ?_
  refine s_iadd C (by decide +kernel) ?_
  refine s_iald C (by decide +kernel) ?_
  refine s_aload_n (k := 0) C (by decide +kernel) ?_
  refine s_getR C w_6_99 (by decide +kernel) rfl ?_
  refine s_iload (k := 8) C (by decide +kernel) ?_
  refine s_iconst (n := 2) C (by decide +kernel) (by decide) ?_
  refine s_iadd C (by decide +kernel) ?_
  refine s_iald C (by decide +kernel) ?_
  refine s_aload_n (k := 0) C (by decide +kernel) ?_
  refine s_getR C w_6_99 (by decide +kernel) rfl ?_
  refine s_iload (k := 8) C (by decide +kernel) ?_
  refine s_iconst (n := 3) C (by decide +kernel) (by decide) ?_
  refine s_iadd C (by decide +kernel) ?_
  refine s_iald C (by decide +kernel) ?_
  refine s_callV C rfl rfl (by decide +kernel) rfl w_7_43 w_7_45 w_p4_10 w_1_13 w_7_46 (by decide +kernel) ?_
  exact (fun _ _ _ _ _ _ h => h)
set_option maxRecDepth 20000 in
theorem b_X12_takes_244 {Z : Zt} {d : Nat} {p : Program} {e : Env} {R : Room} {s : State} {m : MethodId} {args : Array Value} {below : List Frame} {meth : Method} {c : Code} {Rp : RT} (C : Cx Z d jX12_takes RX12 p R s m args meth c) : Sd Z jX12_takes p e R s m args below meth c (MQ below (QcS Z Rp) args s 0 0 (fun a => Z.2.2.1 < a)) 244 (w_X12_takes_244 (MS Z d) (Gw Z 9 p e R s m args below meth c (MQ below (QcS Z Rp) args s 0 0 (fun a => Z.2.2.1 < a))) Rp) := by
  unfold w_X12_takes_244
  refine s_iinc (n := 1) C (by decide +kernel) (by decide) ?_
  exact s_goto (off := (-131)) (tgt := 116) C (by decide +kernel) (by decide) (fun _ _ _ _ _ _ h => h)
set_option maxRecDepth 20000 in
theorem b_X12_takes_250 {Z : Zt} {d : Nat} {p : Program} {e : Env} {R : Room} {s : State} {m : MethodId} {args : Array Value} {below : List Frame} {meth : Method} {c : Code} {Rp : RT} (C : Cx Z d jX12_takes RX12 p R s m args meth c) : Sd Z jX12_takes p e R s m args below meth c (MQ below (QcS Z Rp) args s 0 0 (fun a => Z.2.2.1 < a)) 250 (w_X12_takes_250 (MS Z d) (Gw Z 9 p e R s m args below meth c (MQ below (QcS Z Rp) args s 0 0 (fun a => Z.2.2.1 < a))) Rp) := by
  unfold w_X12_takes_250
  refine s_aload_n (k := 0) C (by decide +kernel) ?_
  refine s_iload_n (k := 1) C (by decide +kernel) ?_
  refine s_aload_n (k := 0) C (by decide +kernel) ?_
  refine s_getR C w_6_99 (by decide +kernel) rfl ?_
  refine s_bipush (n := 7) C (by decide +kernel) (by decide) ?_
  refine s_iald C (by decide +kernel) ?_
  refine s_iload (k := 4) C (by decide +kernel) ?_
  refine s_iload (k := 5) C (by decide +kernel) ?_
  refine s_iadd C (by decide +kernel) ?_
  refine s_callS C (by decide +kernel) rfl w_7_55 w_7_56 w_1_13 w_7_57 (by decide +kernel) ?_
  refine s_callV C rfl rfl (by decide +kernel) rfl w_7_69 w_7_71 w_p4_15 w_1_13 w_7_72 (by decide +kernel) ?_
  refine s_aload_n (k := 0) C (by decide +kernel) ?_
  refine s_iload_n (k := 1) C (by decide +kernel) ?_
  refine s_iload_n (k := 2) C (by decide +kernel) ?_
  refine s_iconst (n := 1) C (by decide +kernel) (by decide) ?_
  refine s_iload (k := 4) C (by decide +kernel) ?_
  refine s_iload (k := 5) C (by decide +kernel) ?_
  refine s_iadd C (by decide +kernel) ?_
  refine s_callV C rfl rfl (by decide +kernel) rfl w_7_200 w_7_202 w_p6_4 w_1_13 w_7_203 (by decide +kernel) ?_
  exact s_vret C rfl (by decide +kernel)
theorem ms_X12_takes {Z : Zt} {d : Nat} {S : Sh} {μ : Mi} {ρ : Mr} {Rp : RT} (a0 : Nat) (x1 : Int32) (x2 : Int32) (x3 : Int32) (h : ∀ G : Nat → PT, (∀ (L st : List Value) (S : Sh) (q : Nat × Nat) (μ : Mi) (ρ : Mr), w_X12_takes_18 (MS Z d) G Rp L st S q μ ρ → G 18 L st S q μ ρ) → (∀ (L st : List Value) (S : Sh) (q : Nat × Nat) (μ : Mi) (ρ : Mr), w_X12_takes_32 (MS Z d) G Rp L st S q μ ρ → G 32 L st S q μ ρ) → (∀ (L st : List Value) (S : Sh) (q : Nat × Nat) (μ : Mi) (ρ : Mr), w_X12_takes_65 (MS Z d) G Rp L st S q μ ρ → G 65 L st S q μ ρ) → (∀ (L st : List Value) (S : Sh) (q : Nat × Nat) (μ : Mi) (ρ : Mr), w_X12_takes_104 (MS Z d) G Rp L st S q μ ρ → G 104 L st S q μ ρ) → (∀ (L st : List Value) (S : Sh) (q : Nat × Nat) (μ : Mi) (ρ : Mr), w_X12_takes_116 (MS Z d) G Rp L st S q μ ρ → G 116 L st S q μ ρ) → (∀ (L st : List Value) (S : Sh) (q : Nat × Nat) (μ : Mi) (ρ : Mr), w_X12_takes_155 (MS Z d) G Rp L st S q μ ρ → G 155 L st S q μ ρ) → (∀ (L st : List Value) (S : Sh) (q : Nat × Nat) (μ : Mi) (ρ : Mr), w_X12_takes_194 (MS Z d) G Rp L st S q μ ρ → G 194 L st S q μ ρ) → (∀ (L st : List Value) (S : Sh) (q : Nat × Nat) (μ : Mi) (ρ : Mr), w_X12_takes_244 (MS Z d) G Rp L st S q μ ρ → G 244 L st S q μ ρ) → (∀ (L st : List Value) (S : Sh) (q : Nat × Nat) (μ : Mi) (ρ : Mr), w_X12_takes_250 (MS Z d) G Rp L st S q μ ρ → G 250 L st S q μ ρ) → w_X12_takes_0 (MS Z d) G Rp [.ref a0, .int x1, .int x2, .int x3, .null, .null, .null, .null, .null] [] S (0, 0) μ ρ) : MS Z (d + 1) jX12_takes [.ref a0, .int x1, .int x2, .int x3] S μ ρ Rp :=
  MS_of [.ref a0, .int x1, .int x2, .int x3, .null, .null, .null, .null, .null] (by decide +kernel) rfl rfl (Nat.le_of_ble_eq_true rfl) rfl (fun p e R s m args below meth c C => b_X12_takes_0 C _ _ _ _ _ _ (h _ (b_X12_takes_18 C) (b_X12_takes_32 C) (b_X12_takes_65 C) (b_X12_takes_104 C) (b_X12_takes_116 C) (b_X12_takes_155 C) (b_X12_takes_194 C) (b_X12_takes_244 C) (b_X12_takes_250 C)))
def w_X12_took_0 (M : CT) (G : Nat → PT) (Rp : RT) : PT := tAload 0 <| tIload 1 <| tIload 2 <| tCallV M jX12_hears 12 27 2 <| tIload 3 <| tIf (fun x => x ≠ 0) (G 56) <| tAload 0 <| tIload 1 <| tConst 24 <| tIload 2 <| tBin (fun x y => x + y) <| tAload 0 <| tIload 1 <| tConst 24 <| tIload 2 <| tBin (fun x y => x + y) <| tCallV M jX12_of 12 27 2 <| tIload 4 <| tConst 1 <| tBin (fun x y => x + y) <| tCallS M jX12_lesser 2 <| tAload 0 <| tIload 1 <| tConst 29 <| tIload 2 <| tBin (fun x y => x + y) <| tCallV M jX12_of 12 27 2 <| tConst 1 <| tBin (fun x y => x + y) <| tCallS M jX12_greater 2 <| tCallV M jX12_lays 12 27 3 <| tAload 0 <| tIload 1 <| tIload 2 <| tCallV M jX12_feeds 12 27 2 <| tVret Rp
def w_X12_took_56 (M : CT) (G : Nat → PT) (Rp : RT) : PT := tAload 0 <| tIload 1 <| tConst 29 <| tIload 2 <| tBin (fun x y => x + y) <| tAload 0 <| tIload 1 <| tConst 29 <| tIload 2 <| tBin (fun x y => x + y) <| tCallV M jX12_of 12 27 2 <| tIload 4 <| tCallS M jX12_greater 2 <| tCallV M jX12_lays 12 27 3 <| tAload 0 <| tIload 1 <| tConst 24 <| tIload 2 <| tBin (fun x y => x + y) <| tAload 0 <| tIload 1 <| tConst 29 <| tIload 2 <| tBin (fun x y => x + y) <| tCallV M jX12_of 12 27 2 <| tConst 1 <| tBin (fun x y => x + y) <| tCallV M jX12_lays 12 27 3 <| tAload 0 <| tIload 1 <| tIload 2 <| tCallV M jX12_goesOn 12 27 2 <| tVret Rp
set_option maxRecDepth 20000 in
theorem b_X12_took_0 {Z : Zt} {d : Nat} {p : Program} {e : Env} {R : Room} {s : State} {m : MethodId} {args : Array Value} {below : List Frame} {meth : Method} {c : Code} {Rp : RT} (C : Cx Z d jX12_took RX12 p R s m args meth c) : Sd Z jX12_took p e R s m args below meth c (MQ below (QcS Z Rp) args s 0 0 (fun a => Z.2.2.1 < a)) 0 (w_X12_took_0 (MS Z d) (Gw Z 5 p e R s m args below meth c (MQ below (QcS Z Rp) args s 0 0 (fun a => Z.2.2.1 < a))) Rp) := by
  unfold w_X12_took_0
  refine s_aload_n (k := 0) C (by decide +kernel) ?_
  refine s_iload_n (k := 1) C (by decide +kernel) ?_
  refine s_iload_n (k := 2) C (by decide +kernel) ?_
  refine s_callV C rfl rfl (by decide +kernel) rfl w_7_208 w_7_210 w_p6_6 w_1_13 w_7_211 (by decide +kernel) ?_
  refine s_iload_n (k := 3) C (by decide +kernel) ?_
  refine s_if_ne (off := 49) (tgt := 56) C (by decide +kernel) (by decide) (fun _ _ _ _ _ _ h => h) ?_
  refine s_aload_n (k := 0) C (by decide +kernel) ?_
  refine s_iload_n (k := 1) C (by decide +kernel) ?_
  refine s_bipush (n := 24) C (by decide +kernel) (by decide) ?_
  refine s_iload_n (k := 2) C (by decide +kernel) ?_
  refine s_iadd C (by decide +kernel) ?_
  refine s_aload_n (k := 0) C (by decide +kernel) ?_
  refine s_iload_n (k := 1) C (by decide +kernel) ?_
  refine s_bipush (n := 24) C (by decide +kernel) (by decide) ?_
  refine s_iload_n (k := 2) C (by decide +kernel) ?_
  refine s_iadd C (by decide +kernel) ?_
  refine s_callV C rfl rfl (by decide +kernel) rfl w_6_220 w_6_222 w_p3_11 w_1_13 w_6_223 (by decide +kernel) ?_
  refine s_iload (k := 4) C (by decide +kernel) ?_
  refine s_iconst (n := 1) C (by decide +kernel) (by decide) ?_
  refine s_iadd C (by decide +kernel) ?_
  refine s_callS C (by decide +kernel) rfl w_7_55 w_7_56 w_1_13 w_7_57 (by decide +kernel) ?_
  refine s_aload_n (k := 0) C (by decide +kernel) ?_
  refine s_iload_n (k := 1) C (by decide +kernel) ?_
  refine s_bipush (n := 29) C (by decide +kernel) (by decide) ?_
  refine s_iload_n (k := 2) C (by decide +kernel) ?_
  refine s_iadd C (by decide +kernel) ?_
  refine s_callV C rfl rfl (by decide +kernel) rfl w_6_220 w_6_222 w_p3_11 w_1_13 w_6_223 (by decide +kernel) ?_
  refine s_iconst (n := 1) C (by decide +kernel) (by decide) ?_
  refine s_iadd C (by decide +kernel) ?_
  refine s_callS C (by decide +kernel) rfl w_7_58 w_7_59 w_1_13 w_7_60 (by decide +kernel) ?_
  refine s_callV C rfl rfl (by decide +kernel) rfl w_6_82 w_6_84 w_p3_4 w_1_13 w_6_85 (by decide +kernel) ?_
  refine s_aload_n (k := 0) C (by decide +kernel) ?_
  refine s_iload_n (k := 1) C (by decide +kernel) ?_
  refine s_iload_n (k := 2) C (by decide +kernel) ?_
  refine s_callV C rfl rfl (by decide +kernel) rfl w_7_51 w_7_53 w_p4_12 w_1_13 w_7_54 (by decide +kernel) ?_
  exact s_vret C rfl (by decide +kernel)
set_option maxRecDepth 20000 in
theorem b_X12_took_56 {Z : Zt} {d : Nat} {p : Program} {e : Env} {R : Room} {s : State} {m : MethodId} {args : Array Value} {below : List Frame} {meth : Method} {c : Code} {Rp : RT} (C : Cx Z d jX12_took RX12 p R s m args meth c) : Sd Z jX12_took p e R s m args below meth c (MQ below (QcS Z Rp) args s 0 0 (fun a => Z.2.2.1 < a)) 56 (w_X12_took_56 (MS Z d) (Gw Z 5 p e R s m args below meth c (MQ below (QcS Z Rp) args s 0 0 (fun a => Z.2.2.1 < a))) Rp) := by
  unfold w_X12_took_56
  refine s_aload_n (k := 0) C (by decide +kernel) ?_
  refine s_iload_n (k := 1) C (by decide +kernel) ?_
  refine s_bipush (n := 29) C (by decide +kernel) (by decide) ?_
  refine s_iload_n (k := 2) C (by decide +kernel) ?_
  refine s_iadd C (by decide +kernel) ?_
  refine s_aload_n (k := 0) C (by decide +kernel) ?_
  refine s_iload_n (k := 1) C (by decide +kernel) ?_
  refine s_bipush (n := 29) C (by decide +kernel) (by decide) ?_
  refine s_iload_n (k := 2) C (by decide +kernel) ?_
  refine s_iadd C (by decide +kernel) ?_
  refine s_callV C rfl rfl (by decide +kernel) rfl w_6_220 w_6_222 w_p3_11 w_1_13 w_6_223 (by decide +kernel) ?_
  refine s_iload (k := 4) C (by decide +kernel) ?_
  refine s_callS C (by decide +kernel) rfl w_7_58 w_7_59 w_1_13 w_7_60 (by decide +kernel) ?_
  refine s_callV C rfl rfl (by decide +kernel) rfl w_6_82 w_6_84 w_p3_4 w_1_13 w_6_85 (by decide +kernel) ?_
  refine s_aload_n (k := 0) C (by decide +kernel) ?_
  refine s_iload_n (k := 1) C (by decide +kernel) ?_
  refine s_bipush (n := 24) C (by decide +kernel) (by decide) ?_
  refine s_iload_n (k := 2) C (by decide +kernel) ?_
  refine s_iadd C (by decide +kernel) ?_
  refine s_aload_n (k := 0) C (by decide +kernel) ?_
  refine s_iload_n (k := 1) C (by decide +kernel) ?_
  refine s_bipush (n := 29) C (by decide +kernel) (by decide) ?_
  refine s_iload_n (k := 2) C (by decide +kernel) ?_
  refine s_iadd C (by decide +kernel) ?_
  refine s_callV C rfl rfl (by decide +kernel) rfl w_6_220 w_6_222 w_p3_11 w_1_13 w_6_223 (by decide +kernel) ?_
  refine s_iconst (n := 1) C (by decide +kernel) (by decide) ?_
  refine s_iadd C (by decide +kernel) ?_
  refine s_callV C rfl rfl (by decide +kernel) rfl w_6_82 w_6_84 w_p3_4 w_1_13 w_6_85 (by decide +kernel) ?_
  refine s_aload_n (k := 0) C (by decide +kernel) ?_
  refine s_iload_n (k := 1) C (by decide +kernel) ?_
  refine s_iload_n (k := 2) C (by decide +kernel) ?_
  refine s_callV C rfl rfl (by decide +kernel) rfl w_7_212 w_7_214 w_p6_7 w_1_13 w_7_215 (by decide +kernel) ?_
  exact s_vret C rfl (by decide +kernel)
theorem ms_X12_took {Z : Zt} {d : Nat} {S : Sh} {μ : Mi} {ρ : Mr} {Rp : RT} (a0 : Nat) (x1 : Int32) (x2 : Int32) (x3 : Int32) (x4 : Int32) (h : ∀ G : Nat → PT, (∀ (L st : List Value) (S : Sh) (q : Nat × Nat) (μ : Mi) (ρ : Mr), w_X12_took_56 (MS Z d) G Rp L st S q μ ρ → G 56 L st S q μ ρ) → w_X12_took_0 (MS Z d) G Rp [.ref a0, .int x1, .int x2, .int x3, .int x4] [] S (0, 0) μ ρ) : MS Z (d + 1) jX12_took [.ref a0, .int x1, .int x2, .int x3, .int x4] S μ ρ Rp :=
  MS_of [.ref a0, .int x1, .int x2, .int x3, .int x4] (by decide +kernel) rfl rfl (Nat.le_of_ble_eq_true rfl) rfl (fun p e R s m args below meth c C => b_X12_took_0 C _ _ _ _ _ _ (h _ (b_X12_took_56 C)))
def w_X12_goesOn_0 (M : CT) (G : Nat → PT) (Rp : RT) : PT := tAload 0 <| tIload 1 <| tCallV M jX12_agrees 12 27 1 <| tAload 0 <| tIload 1 <| tCallV M jX12_isLeader 12 27 1 <| tIf (fun x => x = 0) (G 37) <| tAload 0 <| tIload 1 <| tConst 24 <| tIload 2 <| tBin (fun x y => x + y) <| tCallV M jX12_of 12 27 2 <| tAload 0 <| tIload 1 <| tConst 4 <| tCallV M jX12_of 12 27 2 <| tIf2 (fun x y => y < x) (G 37) <| tAload 0 <| tIload 1 <| tIload 2 <| tCallV M jX12_feeds 12 27 2 <| G 37
def w_X12_goesOn_37 (M : CT) (G : Nat → PT) (Rp : RT) : PT := tVret Rp
set_option maxRecDepth 20000 in
theorem b_X12_goesOn_0 {Z : Zt} {d : Nat} {p : Program} {e : Env} {R : Room} {s : State} {m : MethodId} {args : Array Value} {below : List Frame} {meth : Method} {c : Code} {Rp : RT} (C : Cx Z d jX12_goesOn RX12 p R s m args meth c) : Sd Z jX12_goesOn p e R s m args below meth c (MQ below (QcS Z Rp) args s 0 0 (fun a => Z.2.2.1 < a)) 0 (w_X12_goesOn_0 (MS Z d) (Gw Z 3 p e R s m args below meth c (MQ below (QcS Z Rp) args s 0 0 (fun a => Z.2.2.1 < a))) Rp) := by
  unfold w_X12_goesOn_0
  refine s_aload_n (k := 0) C (by decide +kernel) ?_
  refine s_iload_n (k := 1) C (by decide +kernel) ?_
  refine s_callV C rfl rfl (by decide +kernel) rfl w_7_61 w_7_63 w_p4_13 w_1_13 w_7_64 (by decide +kernel) ?_
  refine s_aload_n (k := 0) C (by decide +kernel) ?_
  refine s_iload_n (k := 1) C (by decide +kernel) ?_
  refine s_callV C rfl rfl (by decide +kernel) rfl w_6_236 w_6_238 w_p3_15 w_1_13 w_6_239 (by decide +kernel) ?_
  refine s_if_eq (off := 27) (tgt := 37) C (by decide +kernel) (by decide) (fun _ _ _ _ _ _ h => h) ?_
  refine s_aload_n (k := 0) C (by decide +kernel) ?_
  refine s_iload_n (k := 1) C (by decide +kernel) ?_
  refine s_bipush (n := 24) C (by decide +kernel) (by decide) ?_
  refine s_iload_n (k := 2) C (by decide +kernel) ?_
  refine s_iadd C (by decide +kernel) ?_
  refine s_callV C rfl rfl (by decide +kernel) rfl w_6_220 w_6_222 w_p3_11 w_1_13 w_6_223 (by decide +kernel) ?_
  refine s_aload_n (k := 0) C (by decide +kernel) ?_
  refine s_iload_n (k := 1) C (by decide +kernel) ?_
  refine s_iconst (n := 4) C (by decide +kernel) (by decide) ?_
  refine s_callV C rfl rfl (by decide +kernel) rfl w_6_220 w_6_222 w_p3_11 w_1_13 w_6_223 (by decide +kernel) ?_
  refine s_icmp_gt (off := 9) (tgt := 37) C (by decide +kernel) (by decide) (fun _ _ _ _ _ _ h => h) ?_
  refine s_aload_n (k := 0) C (by decide +kernel) ?_
  refine s_iload_n (k := 1) C (by decide +kernel) ?_
  refine s_iload_n (k := 2) C (by decide +kernel) ?_
  refine s_callV C rfl rfl (by decide +kernel) rfl w_7_51 w_7_53 w_p4_12 w_1_13 w_7_54 (by decide +kernel) ?_
  exact (fun _ _ _ _ _ _ h => h)
set_option maxRecDepth 20000 in
theorem b_X12_goesOn_37 {Z : Zt} {d : Nat} {p : Program} {e : Env} {R : Room} {s : State} {m : MethodId} {args : Array Value} {below : List Frame} {meth : Method} {c : Code} {Rp : RT} (C : Cx Z d jX12_goesOn RX12 p R s m args meth c) : Sd Z jX12_goesOn p e R s m args below meth c (MQ below (QcS Z Rp) args s 0 0 (fun a => Z.2.2.1 < a)) 37 (w_X12_goesOn_37 (MS Z d) (Gw Z 3 p e R s m args below meth c (MQ below (QcS Z Rp) args s 0 0 (fun a => Z.2.2.1 < a))) Rp) := by
  unfold w_X12_goesOn_37
  exact s_vret C rfl (by decide +kernel)
theorem ms_X12_goesOn {Z : Zt} {d : Nat} {S : Sh} {μ : Mi} {ρ : Mr} {Rp : RT} (a0 : Nat) (x1 : Int32) (x2 : Int32) (h : ∀ G : Nat → PT, (∀ (L st : List Value) (S : Sh) (q : Nat × Nat) (μ : Mi) (ρ : Mr), w_X12_goesOn_37 (MS Z d) G Rp L st S q μ ρ → G 37 L st S q μ ρ) → w_X12_goesOn_0 (MS Z d) G Rp [.ref a0, .int x1, .int x2] [] S (0, 0) μ ρ) : MS Z (d + 1) jX12_goesOn [.ref a0, .int x1, .int x2] S μ ρ Rp :=
  MS_of [.ref a0, .int x1, .int x2] (by decide +kernel) rfl rfl (Nat.le_of_ble_eq_true rfl) rfl (fun p e R s m args below meth c C => b_X12_goesOn_0 C _ _ _ _ _ _ (h _ (b_X12_goesOn_37 C)))
def w_X12_installs_0 (M : CT) (G : Nat → PT) (Rp : RT) : PT := tAload 0 <| tGetR 12 27 12 <| tConst 4 <| tAld 20 <| tIstore 4 <| tIload 3 <| tIf (fun x => x = 0) (G 43) <| tAload 0 <| tIload 1 <| tConst 0 <| tCallV M jX12_plays 12 27 2 <| tIload 4 <| tAload 0 <| tIload 1 <| tConst 7 <| tCallV M jX12_of 12 27 2 <| tIf2 (fun x y => x ≤ y) (G 43) <| tAload 0 <| tIload 1 <| tIload 4 <| tAload 0 <| tGetR 12 27 12 <| tConst 5 <| tAld 20 <| tCallV M jX12_takesSnapshot 12 27 3 <| G 43
def w_X12_installs_43 (M : CT) (G : Nat → PT) (Rp : RT) : PT := tAload 0 <| tIload 1 <| tIload 2 <| tConst 5 <| tIload 3 <| tIf (fun x => x = 0) (G 56) <| tIload 4 <| tGoto (G 57)
def w_X12_installs_56 (M : CT) (G : Nat → PT) (Rp : RT) : PT := tConst 0 <| G 57
def w_X12_installs_57 (M : CT) (G : Nat → PT) (Rp : RT) : PT := tConst 0 <| tCallV M jX12_sends 12 27 5 <| tIstore 5 <| tVret Rp
set_option maxRecDepth 20000 in
theorem b_X12_installs_0 {Z : Zt} {d : Nat} {p : Program} {e : Env} {R : Room} {s : State} {m : MethodId} {args : Array Value} {below : List Frame} {meth : Method} {c : Code} {Rp : RT} (C : Cx Z d jX12_installs RX12 p R s m args meth c) : Sd Z jX12_installs p e R s m args below meth c (MQ below (QcS Z Rp) args s 0 0 (fun a => Z.2.2.1 < a)) 0 (w_X12_installs_0 (MS Z d) (Gw Z 6 p e R s m args below meth c (MQ below (QcS Z Rp) args s 0 0 (fun a => Z.2.2.1 < a))) Rp) := by
  unfold w_X12_installs_0
  refine s_aload_n (k := 0) C (by decide +kernel) ?_
  refine s_getR C w_6_99 (by decide +kernel) rfl ?_
  refine s_iconst (n := 4) C (by decide +kernel) (by decide) ?_
  refine s_iald C (by decide +kernel) ?_
  refine s_istore (k := 4) C (by decide +kernel) ?_
  refine s_iload_n (k := 3) C (by decide +kernel) ?_
  refine s_if_eq (off := 34) (tgt := 43) C (by decide +kernel) (by decide) (fun _ _ _ _ _ _ h => h) ?_
  refine s_aload_n (k := 0) C (by decide +kernel) ?_
  refine s_iload_n (k := 1) C (by decide +kernel) ?_
  refine s_iconst (n := 0) C (by decide +kernel) (by decide) ?_
  refine s_callV C rfl rfl (by decide +kernel) rfl w_7_11 w_7_13 w_p4_2 w_1_13 w_7_14 (by decide +kernel) ?_
  refine s_iload (k := 4) C (by decide +kernel) ?_
  refine s_aload_n (k := 0) C (by decide +kernel) ?_
  refine s_iload_n (k := 1) C (by decide +kernel) ?_
  refine s_bipush (n := 7) C (by decide +kernel) (by decide) ?_
  refine s_callV C rfl rfl (by decide +kernel) rfl w_6_220 w_6_222 w_p3_11 w_1_13 w_6_223 (by decide +kernel) ?_
  refine s_icmp_le (off := 16) (tgt := 43) C (by decide +kernel) (by decide) (fun _ _ _ _ _ _ h => h) ?_
  refine s_aload_n (k := 0) C (by decide +kernel) ?_
  refine s_iload_n (k := 1) C (by decide +kernel) ?_
  refine s_iload (k := 4) C (by decide +kernel) ?_
  refine s_aload_n (k := 0) C (by decide +kernel) ?_
  refine s_getR C w_6_99 (by decide +kernel) rfl ?_
  refine s_iconst (n := 5) C (by decide +kernel) (by decide) ?_
  refine s_iald C (by decide +kernel) ?_
  refine s_callV C rfl rfl (by decide +kernel) rfl w_7_228 w_7_230 w_p6_11 w_1_13 w_7_231 (by decide +kernel) ?_
  exact (fun _ _ _ _ _ _ h => h)
set_option maxRecDepth 20000 in
theorem b_X12_installs_43 {Z : Zt} {d : Nat} {p : Program} {e : Env} {R : Room} {s : State} {m : MethodId} {args : Array Value} {below : List Frame} {meth : Method} {c : Code} {Rp : RT} (C : Cx Z d jX12_installs RX12 p R s m args meth c) : Sd Z jX12_installs p e R s m args below meth c (MQ below (QcS Z Rp) args s 0 0 (fun a => Z.2.2.1 < a)) 43 (w_X12_installs_43 (MS Z d) (Gw Z 6 p e R s m args below meth c (MQ below (QcS Z Rp) args s 0 0 (fun a => Z.2.2.1 < a))) Rp) := by
  unfold w_X12_installs_43
  refine s_aload_n (k := 0) C (by decide +kernel) ?_
  refine s_iload_n (k := 1) C (by decide +kernel) ?_
  refine s_iload_n (k := 2) C (by decide +kernel) ?_
  refine s_iconst (n := 5) C (by decide +kernel) (by decide) ?_
  refine s_iload_n (k := 3) C (by decide +kernel) ?_
  refine s_if_eq (off := 8) (tgt := 56) C (by decide +kernel) (by decide) (fun _ _ _ _ _ _ h => h) ?_
  refine s_iload (k := 4) C (by decide +kernel) ?_
  exact s_goto (off := 4) (tgt := 57) C (by decide +kernel) (by decide) (fun _ _ _ _ _ _ h => h)
set_option maxRecDepth 20000 in
theorem b_X12_installs_56 {Z : Zt} {d : Nat} {p : Program} {e : Env} {R : Room} {s : State} {m : MethodId} {args : Array Value} {below : List Frame} {meth : Method} {c : Code} {Rp : RT} (C : Cx Z d jX12_installs RX12 p R s m args meth c) : Sd Z jX12_installs p e R s m args below meth c (MQ below (QcS Z Rp) args s 0 0 (fun a => Z.2.2.1 < a)) 56 (w_X12_installs_56 (MS Z d) (Gw Z 6 p e R s m args below meth c (MQ below (QcS Z Rp) args s 0 0 (fun a => Z.2.2.1 < a))) Rp) := by
  unfold w_X12_installs_56
  refine s_iconst (n := 0) C (by decide +kernel) (by decide) ?_
  exact (fun _ _ _ _ _ _ h => h)
set_option maxRecDepth 20000 in
theorem b_X12_installs_57 {Z : Zt} {d : Nat} {p : Program} {e : Env} {R : Room} {s : State} {m : MethodId} {args : Array Value} {below : List Frame} {meth : Method} {c : Code} {Rp : RT} (C : Cx Z d jX12_installs RX12 p R s m args meth c) : Sd Z jX12_installs p e R s m args below meth c (MQ below (QcS Z Rp) args s 0 0 (fun a => Z.2.2.1 < a)) 57 (w_X12_installs_57 (MS Z d) (Gw Z 6 p e R s m args below meth c (MQ below (QcS Z Rp) args s 0 0 (fun a => Z.2.2.1 < a))) Rp) := by
  unfold w_X12_installs_57
  refine s_iconst (n := 0) C (by decide +kernel) (by decide) ?_
  refine s_callV C rfl rfl (by decide +kernel) rfl w_7_27 w_7_29 w_p4_6 w_1_13 w_7_30 (by decide +kernel) ?_
  refine s_istore (k := 5) C (by decide +kernel) ?_
  exact s_vret C rfl (by decide +kernel)
theorem ms_X12_installs {Z : Zt} {d : Nat} {S : Sh} {μ : Mi} {ρ : Mr} {Rp : RT} (a0 : Nat) (x1 : Int32) (x2 : Int32) (x3 : Int32) (h : ∀ G : Nat → PT, (∀ (L st : List Value) (S : Sh) (q : Nat × Nat) (μ : Mi) (ρ : Mr), w_X12_installs_43 (MS Z d) G Rp L st S q μ ρ → G 43 L st S q μ ρ) → (∀ (L st : List Value) (S : Sh) (q : Nat × Nat) (μ : Mi) (ρ : Mr), w_X12_installs_56 (MS Z d) G Rp L st S q μ ρ → G 56 L st S q μ ρ) → (∀ (L st : List Value) (S : Sh) (q : Nat × Nat) (μ : Mi) (ρ : Mr), w_X12_installs_57 (MS Z d) G Rp L st S q μ ρ → G 57 L st S q μ ρ) → w_X12_installs_0 (MS Z d) G Rp [.ref a0, .int x1, .int x2, .int x3, .null, .null] [] S (0, 0) μ ρ) : MS Z (d + 1) jX12_installs [.ref a0, .int x1, .int x2, .int x3] S μ ρ Rp :=
  MS_of [.ref a0, .int x1, .int x2, .int x3, .null, .null] (by decide +kernel) rfl rfl (Nat.le_of_ble_eq_true rfl) rfl (fun p e R s m args below meth c C => b_X12_installs_0 C _ _ _ _ _ _ (h _ (b_X12_installs_43 C) (b_X12_installs_56 C) (b_X12_installs_57 C)))
def w_X12_takesSnapshot_0 (M : CT) (G : Nat → PT) (Rp : RT) : PT := tAload 0 <| tIload 1 <| tIload 2 <| tCallV M jX12_termAt 12 27 2 <| tIload 3 <| tIf2 (fun x y => x = y) (G 17) <| tAload 0 <| tIload 1 <| tConst 4 <| tIload 2 <| tCallV M jX12_lays 12 27 3 <| G 17
def w_X12_takesSnapshot_17 (M : CT) (G : Nat → PT) (Rp : RT) : PT := tAload 0 <| tIload 1 <| tConst 5 <| tIload 2 <| tCallV M jX12_lays 12 27 3 <| tAload 0 <| tIload 1 <| tConst 6 <| tIload 3 <| tCallV M jX12_lays 12 27 3 <| tAload 0 <| tIload 1 <| tConst 7 <| tIload 2 <| tCallV M jX12_lays 12 27 3 <| tConst 0 <| tIstore 4 <| G 43
def w_X12_takesSnapshot_43 (M : CT) (G : Nat → PT) (Rp : RT) : PT := tIload 4 <| tConst 4 <| tIf2 (fun x y => y ≤ x) (G 95) <| tAload 0 <| tIload 1 <| tConst 16 <| tIload 4 <| tBin (fun x y => x + y) <| tAload 0 <| tGetR 12 27 12 <| tConst 9 <| tIload 4 <| tBin (fun x y => x + y) <| tAld 20 <| tCallV M jX12_lays 12 27 3 <| tAload 0 <| tIload 1 <| tConst 20 <| tIload 4 <| tBin (fun x y => x + y) <| tAload 0 <| tGetR 12 27 12 <| tConst 9 <| tIload 4 <| tBin (fun x y => x + y) <| tAld 20 <| tCallV M jX12_lays 12 27 3 <| tIinc 4 1 <| tGoto (G 43)
def w_X12_takesSnapshot_95 (M : CT) (G : Nat → PT) (Rp : RT) : PT := tAload 0 <| tIload 1 <| tConst 9 <| tAload 0 <| tGetR 12 27 12 <| tConst 13 <| tAld 20 <| tCallV M jX12_lays 12 27 3 <| tAload 0 <| tIload 1 <| tConst 10 <| tAload 0 <| tGetR 12 27 12 <| tConst 14 <| tAld 20 <| tCallV M jX12_lays 12 27 3 <| tVret Rp
set_option maxRecDepth 20000 in
theorem b_X12_takesSnapshot_0 {Z : Zt} {d : Nat} {p : Program} {e : Env} {R : Room} {s : State} {m : MethodId} {args : Array Value} {below : List Frame} {meth : Method} {c : Code} {Rp : RT} (C : Cx Z d jX12_takesSnapshot RX12 p R s m args meth c) : Sd Z jX12_takesSnapshot p e R s m args below meth c (MQ below (QcS Z Rp) args s 0 0 (fun a => Z.2.2.1 < a)) 0 (w_X12_takesSnapshot_0 (MS Z d) (Gw Z 5 p e R s m args below meth c (MQ below (QcS Z Rp) args s 0 0 (fun a => Z.2.2.1 < a))) Rp) := by
  unfold w_X12_takesSnapshot_0
  refine s_aload_n (k := 0) C (by decide +kernel) ?_
  refine s_iload_n (k := 1) C (by decide +kernel) ?_
  refine s_iload_n (k := 2) C (by decide +kernel) ?_
  refine s_callV C rfl rfl (by decide +kernel) rfl w_7_23 w_7_25 w_p4_5 w_1_13 w_7_26 (by decide +kernel) ?_
  refine s_iload_n (k := 3) C (by decide +kernel) ?_
  refine s_icmp_eq (off := 10) (tgt := 17) C (by decide +kernel) (by decide) (fun _ _ _ _ _ _ h => h) ?_
  refine s_aload_n (k := 0) C (by decide +kernel) ?_
  refine s_iload_n (k := 1) C (by decide +kernel) ?_
  refine s_iconst (n := 4) C (by decide +kernel) (by decide) ?_
  refine s_iload_n (k := 2) C (by decide +kernel) ?_
  refine s_callV C rfl rfl (by decide +kernel) rfl w_6_82 w_6_84 w_p3_4 w_1_13 w_6_85 (by decide +kernel) ?_
  exact (fun _ _ _ _ _ _ h => h)
set_option maxRecDepth 20000 in
theorem b_X12_takesSnapshot_17 {Z : Zt} {d : Nat} {p : Program} {e : Env} {R : Room} {s : State} {m : MethodId} {args : Array Value} {below : List Frame} {meth : Method} {c : Code} {Rp : RT} (C : Cx Z d jX12_takesSnapshot RX12 p R s m args meth c) : Sd Z jX12_takesSnapshot p e R s m args below meth c (MQ below (QcS Z Rp) args s 0 0 (fun a => Z.2.2.1 < a)) 17 (w_X12_takesSnapshot_17 (MS Z d) (Gw Z 5 p e R s m args below meth c (MQ below (QcS Z Rp) args s 0 0 (fun a => Z.2.2.1 < a))) Rp) := by
  unfold w_X12_takesSnapshot_17
  refine s_aload_n (k := 0) C (by decide +kernel) ?_
  refine s_iload_n (k := 1) C (by decide +kernel) ?_
  refine s_iconst (n := 5) C (by decide +kernel) (by decide) ?_
  refine s_iload_n (k := 2) C (by decide +kernel) ?_
  refine s_callV C rfl rfl (by decide +kernel) rfl w_6_82 w_6_84 w_p3_4 w_1_13 w_6_85 (by decide +kernel) ?_
  refine s_aload_n (k := 0) C (by decide +kernel) ?_
  refine s_iload_n (k := 1) C (by decide +kernel) ?_
  refine s_bipush (n := 6) C (by decide +kernel) (by decide) ?_
  refine s_iload_n (k := 3) C (by decide +kernel) ?_
  refine s_callV C rfl rfl (by decide +kernel) rfl w_6_82 w_6_84 w_p3_4 w_1_13 w_6_85 (by decide +kernel) ?_
  refine s_aload_n (k := 0) C (by decide +kernel) ?_
  refine s_iload_n (k := 1) C (by decide +kernel) ?_
  refine s_bipush (n := 7) C (by decide +kernel) (by decide) ?_
  refine s_iload_n (k := 2) C (by decide +kernel) ?_
  refine s_callV C rfl rfl (by decide +kernel) rfl w_6_82 w_6_84 w_p3_4 w_1_13 w_6_85 (by decide +kernel) ?_
  refine s_iconst (n := 0) C (by decide +kernel) (by decide) ?_
  refine s_istore (k := 4) C (by decide +kernel) ?_
  exact (fun _ _ _ _ _ _ h => h)
set_option maxRecDepth 20000 in
theorem b_X12_takesSnapshot_43 {Z : Zt} {d : Nat} {p : Program} {e : Env} {R : Room} {s : State} {m : MethodId} {args : Array Value} {below : List Frame} {meth : Method} {c : Code} {Rp : RT} (C : Cx Z d jX12_takesSnapshot RX12 p R s m args meth c) : Sd Z jX12_takesSnapshot p e R s m args below meth c (MQ below (QcS Z Rp) args s 0 0 (fun a => Z.2.2.1 < a)) 43 (w_X12_takesSnapshot_43 (MS Z d) (Gw Z 5 p e R s m args below meth c (MQ below (QcS Z Rp) args s 0 0 (fun a => Z.2.2.1 < a))) Rp) := by
  unfold w_X12_takesSnapshot_43
  refine s_iload (k := 4) C (by decide +kernel) ?_
  refine s_iconst (n := 4) C (by decide +kernel) (by decide) ?_
  refine s_icmp_ge (off := 49) (tgt := 95) C (by decide +kernel) (by decide) (fun _ _ _ _ _ _ h => h) ?_
  refine s_aload_n (k := 0) C (by decide +kernel) ?_
  refine s_iload_n (k := 1) C (by decide +kernel) ?_
  refine s_bipush (n := 16) C (by decide +kernel) (by decide) ?_
  refine s_iload (k := 4) C (by decide +kernel) ?_
  refine s_iadd C (by decide +kernel) ?_
  refine s_aload_n (k := 0) C (by decide +kernel) ?_
  refine s_getR C w_6_99 (by decide +kernel) rfl ?_
  refine s_bipush (n := 9) C (by decide +kernel) (by decide) ?_
  refine s_iload (k := 4) C (by decide +kernel) ?_
  refine s_iadd C (by decide +kernel) ?_
  refine s_iald C (by decide +kernel) ?_
  refine s_callV C rfl rfl (by decide +kernel) rfl w_6_82 w_6_84 w_p3_4 w_1_13 w_6_85 (by decide +kernel) ?_
  refine s_aload_n (k := 0) C (by decide +kernel) ?_
  refine s_iload_n (k := 1) C (by decide +kernel) ?_
  refine s_bipush (n := 20) C (by decide +kernel) (by decide) ?_
  refine s_iload (k := 4) C (by decide +kernel) ?_
  refine s_iadd C (by decide +kernel) ?_
  refine s_aload_n (k := 0) C (by decide +kernel) ?_
  refine s_getR C w_6_99 (by decide +kernel) rfl ?_
  refine s_bipush (n := 9) C (by decide +kernel) (by decide) ?_
  refine s_iload (k := 4) C (by decide +kernel) ?_
  refine s_iadd C (by decide +kernel) ?_
  refine s_iald C (by decide +kernel) ?_
  refine s_callV C rfl rfl (by decide +kernel) rfl w_6_82 w_6_84 w_p3_4 w_1_13 w_6_85 (by decide +kernel) ?_
  refine s_iinc (n := 1) C (by decide +kernel) (by decide) ?_
  exact s_goto (off := (-49)) (tgt := 43) C (by decide +kernel) (by decide) (fun _ _ _ _ _ _ h => h)
set_option maxRecDepth 20000 in
theorem b_X12_takesSnapshot_95 {Z : Zt} {d : Nat} {p : Program} {e : Env} {R : Room} {s : State} {m : MethodId} {args : Array Value} {below : List Frame} {meth : Method} {c : Code} {Rp : RT} (C : Cx Z d jX12_takesSnapshot RX12 p R s m args meth c) : Sd Z jX12_takesSnapshot p e R s m args below meth c (MQ below (QcS Z Rp) args s 0 0 (fun a => Z.2.2.1 < a)) 95 (w_X12_takesSnapshot_95 (MS Z d) (Gw Z 5 p e R s m args below meth c (MQ below (QcS Z Rp) args s 0 0 (fun a => Z.2.2.1 < a))) Rp) := by
  unfold w_X12_takesSnapshot_95
  refine s_aload_n (k := 0) C (by decide +kernel) ?_
  refine s_iload_n (k := 1) C (by decide +kernel) ?_
  refine s_bipush (n := 9) C (by decide +kernel) (by decide) ?_
  refine s_aload_n (k := 0) C (by decide +kernel) ?_
  refine s_getR C w_6_99 (by decide +kernel) rfl ?_
  refine s_bipush (n := 13) C (by decide +kernel) (by decide) ?_
  refine s_iald C (by decide +kernel) ?_
  refine s_callV C rfl rfl (by decide +kernel) rfl w_6_82 w_6_84 w_p3_4 w_1_13 w_6_85 (by decide +kernel) ?_
  refine s_aload_n (k := 0) C (by decide +kernel) ?_
  refine s_iload_n (k := 1) C (by decide +kernel) ?_
  refine s_bipush (n := 10) C (by decide +kernel) (by decide) ?_
  refine s_aload_n (k := 0) C (by decide +kernel) ?_
  refine s_getR C w_6_99 (by decide +kernel) rfl ?_
  refine s_bipush (n := 14) C (by decide +kernel) (by decide) ?_
  refine s_iald C (by decide +kernel) ?_
  refine s_callV C rfl rfl (by decide +kernel) rfl w_6_82 w_6_84 w_p3_4 w_1_13 w_6_85 (by decide +kernel) ?_
  exact s_vret C rfl (by decide +kernel)
theorem ms_X12_takesSnapshot {Z : Zt} {d : Nat} {S : Sh} {μ : Mi} {ρ : Mr} {Rp : RT} (a0 : Nat) (x1 : Int32) (x2 : Int32) (x3 : Int32) (h : ∀ G : Nat → PT, (∀ (L st : List Value) (S : Sh) (q : Nat × Nat) (μ : Mi) (ρ : Mr), w_X12_takesSnapshot_17 (MS Z d) G Rp L st S q μ ρ → G 17 L st S q μ ρ) → (∀ (L st : List Value) (S : Sh) (q : Nat × Nat) (μ : Mi) (ρ : Mr), w_X12_takesSnapshot_43 (MS Z d) G Rp L st S q μ ρ → G 43 L st S q μ ρ) → (∀ (L st : List Value) (S : Sh) (q : Nat × Nat) (μ : Mi) (ρ : Mr), w_X12_takesSnapshot_95 (MS Z d) G Rp L st S q μ ρ → G 95 L st S q μ ρ) → w_X12_takesSnapshot_0 (MS Z d) G Rp [.ref a0, .int x1, .int x2, .int x3, .null] [] S (0, 0) μ ρ) : MS Z (d + 1) jX12_takesSnapshot [.ref a0, .int x1, .int x2, .int x3] S μ ρ Rp :=
  MS_of [.ref a0, .int x1, .int x2, .int x3, .null] (by decide +kernel) rfl rfl (Nat.le_of_ble_eq_true rfl) rfl (fun p e R s m args below meth c C => b_X12_takesSnapshot_0 C _ _ _ _ _ _ (h _ (b_X12_takesSnapshot_17 C) (b_X12_takesSnapshot_43 C) (b_X12_takesSnapshot_95 C)))
