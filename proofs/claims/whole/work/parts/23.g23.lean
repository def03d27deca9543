def w_X12_ofEntry_0 (M : CT) (G : Nat → PT) (Rp : RT) : PT := tAload 0 <| tIload 1 <| tConst 34 <| tConst 4 <| tIload 2 <| tConst 1 <| tBin (fun x y => x - y) <| tBin (fun x y => x * y) <| tBin (fun x y => x + y) <| tIload 3 <| tBin (fun x y => x + y) <| tFn 3 F_X12_of <| tIret Rp
set_option maxRecDepth 20000 in
theorem b_X12_ofEntry_0 {Z : Zt} {d : Nat} {p : Program} {e : Env} {R : Room} {s : State} {m : MethodId} {args : Array Value} {below : List Frame} {meth : Method} {c : Code} {Rp : RT} (C : Cx Z (d + 1) jX12_ofEntry RX12 p R s m args meth c) : Sd Z jX12_ofEntry p e R s m args below meth c (MQ below (QcS Z Rp) args s 0 0 (fun a => Z.2.2.1 < a)) 0 (w_X12_ofEntry_0 (MS Z (d + 1)) (Gw Z 4 p e R s m args below meth c (MQ below (QcS Z Rp) args s 0 0 (fun a => Z.2.2.1 < a))) Rp) := by
  unfold w_X12_ofEntry_0
  refine s_aload_n (k := 0) C (by decide +kernel) ?_
  refine s_iload_n (k := 1) C (by decide +kernel) ?_
  refine s_bipush (n := 34) C (by decide +kernel) (by decide) ?_
  refine s_iconst (n := 4) C (by decide +kernel) (by decide) ?_
  refine s_iload_n (k := 2) C (by decide +kernel) ?_
  refine s_iconst (n := 1) C (by decide +kernel) (by decide) ?_
  refine s_isub C (by decide +kernel) ?_
  refine s_imul C (by decide +kernel) ?_
  refine s_iadd C (by decide +kernel) ?_
  refine s_iload_n (k := 3) C (by decide +kernel) ?_
  refine s_iadd C (by decide +kernel) ?_
  refine s_fnV C (j2 := jX12_of) (cl := 12) (nf := 27) rfl rfl (by decide +kernel) rfl w_6_220 w_6_222 w_p3_11 w_1_13 w_6_223 (by decide +kernel) (fun _ _ _ _ _ h => f_X12_of h) (fun _ _ _ _ _ h => r_X12_of h) ?_
  exact s_iret C rfl (by decide +kernel)
theorem ms_X12_ofEntry {Z : Zt} {d : Nat} {S : Sh} {μ : Mi} {ρ : Mr} {Rp : RT} (a0 : Nat) (x1 : Int32) (x2 : Int32) (x3 : Int32) (h : ∀ G : Nat → PT, w_X12_ofEntry_0 (MS Z (d + 1)) G Rp [.ref a0, .int x1, .int x2, .int x3] [] S (0, 0) μ ρ) : MS Z (d + 2) jX12_ofEntry [.ref a0, .int x1, .int x2, .int x3] S μ ρ Rp :=
  MS_of [.ref a0, .int x1, .int x2, .int x3] (by decide +kernel) rfl rfl (Nat.le_of_ble_eq_true rfl) rfl (fun p e R s m args below meth c C => b_X12_ofEntry_0 C _ _ _ _ _ _ (h _ ))
def w_X12_isStore_0 (M : CT) (G : Nat → PT) (Rp : RT) : PT := tIload 0 <| tI2l <| tLconst 0 <| tLconst 4 <| tFn 3 F_X12_within <| tZret Rp
set_option maxRecDepth 20000 in
theorem b_X12_isStore_0 {Z : Zt} {d : Nat} {p : Program} {e : Env} {R : Room} {s : State} {m : MethodId} {args : Array Value} {below : List Frame} {meth : Method} {c : Code} {Rp : RT} (C : Cx Z (d + 1) jX12_isStore RX12 p R s m args meth c) : Sd Z jX12_isStore p e R s m args below meth c (MQ below (QcS Z Rp) args s 0 0 (fun a => Z.2.2.1 < a)) 0 (w_X12_isStore_0 (MS Z (d + 1)) (Gw Z 1 p e R s m args below meth c (MQ below (QcS Z Rp) args s 0 0 (fun a => Z.2.2.1 < a))) Rp) := by
  unfold w_X12_isStore_0
  refine s_iload_n (k := 0) C (by decide +kernel) ?_
  refine s_i2l C (by decide +kernel) ?_
  refine s_lconst (n := 0) C (by decide +kernel) (by decide) ?_
  refine s_ldc2 C w_6_211 (by decide +kernel) ?_
  refine s_fnS C (j2 := jX12_within) (by decide +kernel) rfl w_6_175 w_6_176 w_1_13 w_6_177 (by decide +kernel) (fun _ _ _ _ _ h => f_X12_within h) ?_
  exact s_zret C rfl (by decide +kernel)
theorem ms_X12_isStore {Z : Zt} {d : Nat} {S : Sh} {μ : Mi} {ρ : Mr} {Rp : RT} (x1 : Int32) (h : ∀ G : Nat → PT, w_X12_isStore_0 (MS Z (d + 1)) G Rp [.int x1] [] S (0, 0) μ ρ) : MS Z (d + 2) jX12_isStore [.int x1] S μ ρ Rp :=
  MS_of [.int x1] (by decide +kernel) rfl rfl (Nat.le_of_ble_eq_true rfl) rfl (fun p e R s m args below meth c C => b_X12_isStore_0 C _ _ _ _ _ _ (h _ ))
def w_X12_isCell_0 (M : CT) (G : Nat → PT) (Rp : RT) : PT := tIload 0 <| tI2l <| tLconst 0 <| tLconst 3 <| tFn 3 F_X12_within <| tZret Rp
set_option maxRecDepth 20000 in
theorem b_X12_isCell_0 {Z : Zt} {d : Nat} {p : Program} {e : Env} {R : Room} {s : State} {m : MethodId} {args : Array Value} {below : List Frame} {meth : Method} {c : Code} {Rp : RT} (C : Cx Z (d + 1) jX12_isCell RX12 p R s m args meth c) : Sd Z jX12_isCell p e R s m args below meth c (MQ below (QcS Z Rp) args s 0 0 (fun a => Z.2.2.1 < a)) 0 (w_X12_isCell_0 (MS Z (d + 1)) (Gw Z 1 p e R s m args below meth c (MQ below (QcS Z Rp) args s 0 0 (fun a => Z.2.2.1 < a))) Rp) := by
  unfold w_X12_isCell_0
  refine s_iload_n (k := 0) C (by decide +kernel) ?_
  refine s_i2l C (by decide +kernel) ?_
  refine s_lconst (n := 0) C (by decide +kernel) (by decide) ?_
  refine s_ldc2 C w_7_93 (by decide +kernel) ?_
  refine s_fnS C (j2 := jX12_within) (by decide +kernel) rfl w_6_175 w_6_176 w_1_13 w_6_177 (by decide +kernel) (fun _ _ _ _ _ h => f_X12_within h) ?_
  exact s_zret C rfl (by decide +kernel)
theorem ms_X12_isCell {Z : Zt} {d : Nat} {S : Sh} {μ : Mi} {ρ : Mr} {Rp : RT} (x1 : Int32) (h : ∀ G : Nat → PT, w_X12_isCell_0 (MS Z (d + 1)) G Rp [.int x1] [] S (0, 0) μ ρ) : MS Z (d + 2) jX12_isCell [.int x1] S μ ρ Rp :=
  MS_of [.int x1] (by decide +kernel) rfl rfl (Nat.le_of_ble_eq_true rfl) rfl (fun p e R s m args below meth c C => b_X12_isCell_0 C _ _ _ _ _ _ (h _ ))
def w_X12_isUp_15 (M : CT) (G : Nat → PT) (Rp : RT) : PT := tZret Rp
def w_X12_isUp_14 (M : CT) (G : Nat → PT) (Rp : RT) : PT := tConst 0 <| w_X12_isUp_15 M G Rp
def w_X12_isUp_0 (M : CT) (G : Nat → PT) (Rp : RT) : PT := tAload 0 <| tIload 1 <| tConst 0 <| tFn 3 F_X12_of <| tConst 1 <| tIf2 (fun x y => x ≠ y) (w_X12_isUp_14 M G Rp) <| tConst 1 <| tGoto (w_X12_isUp_15 M G Rp)
set_option maxRecDepth 20000 in
theorem b_X12_isUp_15 {Z : Zt} {d : Nat} {p : Program} {e : Env} {R : Room} {s : State} {m : MethodId} {args : Array Value} {below : List Frame} {meth : Method} {c : Code} {Rp : RT} (C : Cx Z (d + 1) jX12_isUp RX12 p R s m args meth c) : Sd Z jX12_isUp p e R s m args below meth c (MQ below (QcS Z Rp) args s 0 0 (fun a => Z.2.2.1 < a)) 15 (w_X12_isUp_15 (MS Z (d + 1)) (Gw Z 2 p e R s m args below meth c (MQ below (QcS Z Rp) args s 0 0 (fun a => Z.2.2.1 < a))) Rp) := by
  unfold w_X12_isUp_15
  exact s_zret C rfl (by decide +kernel)
set_option maxRecDepth 20000 in
theorem b_X12_isUp_14 {Z : Zt} {d : Nat} {p : Program} {e : Env} {R : Room} {s : State} {m : MethodId} {args : Array Value} {below : List Frame} {meth : Method} {c : Code} {Rp : RT} (C : Cx Z (d + 1) jX12_isUp RX12 p R s m args meth c) : Sd Z jX12_isUp p e R s m args below meth c (MQ below (QcS Z Rp) args s 0 0 (fun a => Z.2.2.1 < a)) 14 (w_X12_isUp_14 (MS Z (d + 1)) (Gw Z 2 p e R s m args below meth c (MQ below (QcS Z Rp) args s 0 0 (fun a => Z.2.2.1 < a))) Rp) := by
  unfold w_X12_isUp_14
  refine s_iconst (n := 0) C (by decide +kernel) (by decide) ?_
  exact (b_X12_isUp_15 C)
set_option maxRecDepth 20000 in
theorem b_X12_isUp_0 {Z : Zt} {d : Nat} {p : Program} {e : Env} {R : Room} {s : State} {m : MethodId} {args : Array Value} {below : List Frame} {meth : Method} {c : Code} {Rp : RT} (C : Cx Z (d + 1) jX12_isUp RX12 p R s m args meth c) : Sd Z jX12_isUp p e R s m args below meth c (MQ below (QcS Z Rp) args s 0 0 (fun a => Z.2.2.1 < a)) 0 (w_X12_isUp_0 (MS Z (d + 1)) (Gw Z 2 p e R s m args below meth c (MQ below (QcS Z Rp) args s 0 0 (fun a => Z.2.2.1 < a))) Rp) := by
  unfold w_X12_isUp_0
  refine s_aload_n (k := 0) C (by decide +kernel) ?_
  refine s_iload_n (k := 1) C (by decide +kernel) ?_
  refine s_iconst (n := 0) C (by decide +kernel) (by decide) ?_
  refine s_fnV C (j2 := jX12_of) (cl := 12) (nf := 27) rfl rfl (by decide +kernel) rfl w_6_220 w_6_222 w_p3_11 w_1_13 w_6_223 (by decide +kernel) (fun _ _ _ _ _ h => f_X12_of h) (fun _ _ _ _ _ h => r_X12_of h) ?_
  refine s_iconst (n := 1) C (by decide +kernel) (by decide) ?_
  refine s_icmp_ne (off := 7) (tgt := 14) C (by decide +kernel) (by decide) (b_X12_isUp_14 C) ?_
  refine s_iconst (n := 1) C (by decide +kernel) (by decide) ?_
  exact s_goto (off := 4) (tgt := 15) C (by decide +kernel) (by decide) (b_X12_isUp_15 C)
theorem ms_X12_isUp {Z : Zt} {d : Nat} {S : Sh} {μ : Mi} {ρ : Mr} {Rp : RT} (a0 : Nat) (x1 : Int32) (h : ∀ G : Nat → PT, w_X12_isUp_0 (MS Z (d + 1)) G Rp [.ref a0, .int x1] [] S (0, 0) μ ρ) : MS Z (d + 2) jX12_isUp [.ref a0, .int x1] S μ ρ Rp :=
  MS_of [.ref a0, .int x1] (by decide +kernel) rfl rfl (Nat.le_of_ble_eq_true rfl) rfl (fun p e R s m args below meth c C => b_X12_isUp_0 C _ _ _ _ _ _ (h _ ))
def w_X12_isLeader_15 (M : CT) (G : Nat → PT) (Rp : RT) : PT := tZret Rp
def w_X12_isLeader_14 (M : CT) (G : Nat → PT) (Rp : RT) : PT := tConst 0 <| w_X12_isLeader_15 M G Rp
def w_X12_isLeader_0 (M : CT) (G : Nat → PT) (Rp : RT) : PT := tAload 0 <| tIload 1 <| tConst 3 <| tFn 3 F_X12_of <| tConst 2 <| tIf2 (fun x y => x ≠ y) (w_X12_isLeader_14 M G Rp) <| tConst 1 <| tGoto (w_X12_isLeader_15 M G Rp)
set_option maxRecDepth 20000 in
theorem b_X12_isLeader_15 {Z : Zt} {d : Nat} {p : Program} {e : Env} {R : Room} {s : State} {m : MethodId} {args : Array Value} {below : List Frame} {meth : Method} {c : Code} {Rp : RT} (C : Cx Z (d + 1) jX12_isLeader RX12 p R s m args meth c) : Sd Z jX12_isLeader p e R s m args below meth c (MQ below (QcS Z Rp) args s 0 0 (fun a => Z.2.2.1 < a)) 15 (w_X12_isLeader_15 (MS Z (d + 1)) (Gw Z 2 p e R s m args below meth c (MQ below (QcS Z Rp) args s 0 0 (fun a => Z.2.2.1 < a))) Rp) := by
  unfold w_X12_isLeader_15
  exact s_zret C rfl (by decide +kernel)
set_option maxRecDepth 20000 in
theorem b_X12_isLeader_14 {Z : Zt} {d : Nat} {p : Program} {e : Env} {R : Room} {s : State} {m : MethodId} {args : Array Value} {below : List Frame} {meth : Method} {c : Code} {Rp : RT} (C : Cx Z (d + 1) jX12_isLeader RX12 p R s m args meth c) : Sd Z jX12_isLeader p e R s m args below meth c (MQ below (QcS Z Rp) args s 0 0 (fun a => Z.2.2.1 < a)) 14 (w_X12_isLeader_14 (MS Z (d + 1)) (Gw Z 2 p e R s m args below meth c (MQ below (QcS Z Rp) args s 0 0 (fun a => Z.2.2.1 < a))) Rp) := by
  unfold w_X12_isLeader_14
  refine s_iconst (n := 0) C (by decide +kernel) (by decide) ?_
  exact (b_X12_isLeader_15 C)
set_option maxRecDepth 20000 in
theorem b_X12_isLeader_0 {Z : Zt} {d : Nat} {p : Program} {e : Env} {R : Room} {s : State} {m : MethodId} {args : Array Value} {below : List Frame} {meth : Method} {c : Code} {Rp : RT} (C : Cx Z (d + 1) jX12_isLeader RX12 p R s m args meth c) : Sd Z jX12_isLeader p e R s m args below meth c (MQ below (QcS Z Rp) args s 0 0 (fun a => Z.2.2.1 < a)) 0 (w_X12_isLeader_0 (MS Z (d + 1)) (Gw Z 2 p e R s m args below meth c (MQ below (QcS Z Rp) args s 0 0 (fun a => Z.2.2.1 < a))) Rp) := by
  unfold w_X12_isLeader_0
  refine s_aload_n (k := 0) C (by decide +kernel) ?_
  refine s_iload_n (k := 1) C (by decide +kernel) ?_
  refine s_iconst (n := 3) C (by decide +kernel) (by decide) ?_
  refine s_fnV C (j2 := jX12_of) (cl := 12) (nf := 27) rfl rfl (by decide +kernel) rfl w_6_220 w_6_222 w_p3_11 w_1_13 w_6_223 (by decide +kernel) (fun _ _ _ _ _ h => f_X12_of h) (fun _ _ _ _ _ h => r_X12_of h) ?_
  refine s_iconst (n := 2) C (by decide +kernel) (by decide) ?_
  refine s_icmp_ne (off := 7) (tgt := 14) C (by decide +kernel) (by decide) (b_X12_isLeader_14 C) ?_
  refine s_iconst (n := 1) C (by decide +kernel) (by decide) ?_
  exact s_goto (off := 4) (tgt := 15) C (by decide +kernel) (by decide) (b_X12_isLeader_15 C)
theorem ms_X12_isLeader {Z : Zt} {d : Nat} {S : Sh} {μ : Mi} {ρ : Mr} {Rp : RT} (a0 : Nat) (x1 : Int32) (h : ∀ G : Nat → PT, w_X12_isLeader_0 (MS Z (d + 1)) G Rp [.ref a0, .int x1] [] S (0, 0) μ ρ) : MS Z (d + 2) jX12_isLeader [.ref a0, .int x1] S μ ρ Rp :=
  MS_of [.ref a0, .int x1] (by decide +kernel) rfl rfl (Nat.le_of_ble_eq_true rfl) rfl (fun p e R s m args below meth c C => b_X12_isLeader_0 C _ _ _ _ _ _ (h _ ))
def w_X12_isLinked_0 (M : CT) (G : Nat → PT) (Rp : RT) : PT := tAload 0 <| tGetR 12 27 1 <| tConst 4513 <| tAld 20 <| tConst 5 <| tIload 1 <| tBin (fun x y => x * y) <| tIload 2 <| tBin (fun x y => x + y) <| tFn 2 F_X12_has <| tZret Rp
set_option maxRecDepth 20000 in
theorem b_X12_isLinked_0 {Z : Zt} {d : Nat} {p : Program} {e : Env} {R : Room} {s : State} {m : MethodId} {args : Array Value} {below : List Frame} {meth : Method} {c : Code} {Rp : RT} (C : Cx Z (d + 1) jX12_isLinked RX12 p R s m args meth c) : Sd Z jX12_isLinked p e R s m args below meth c (MQ below (QcS Z Rp) args s 0 0 (fun a => Z.2.2.1 < a)) 0 (w_X12_isLinked_0 (MS Z (d + 1)) (Gw Z 3 p e R s m args below meth c (MQ below (QcS Z Rp) args s 0 0 (fun a => Z.2.2.1 < a))) Rp) := by
  unfold w_X12_isLinked_0
  refine s_aload_n (k := 0) C (by decide +kernel) ?_
  refine s_getR C w_6_88 (by decide +kernel) rfl ?_
  refine s_sipush (n := 4513) C (by decide +kernel) (by decide) ?_
  refine s_iald C (by decide +kernel) ?_
  refine s_iconst (n := 5) C (by decide +kernel) (by decide) ?_
  refine s_iload_n (k := 1) C (by decide +kernel) ?_
  refine s_imul C (by decide +kernel) ?_
  refine s_iload_n (k := 2) C (by decide +kernel) ?_
  refine s_iadd C (by decide +kernel) ?_
  refine s_fnS C (j2 := jX12_has) (by decide +kernel) rfl w_7_0 w_7_1 w_1_13 w_7_2 (by decide +kernel) (fun _ _ _ _ _ h => f_X12_has h) ?_
  exact s_zret C rfl (by decide +kernel)
theorem ms_X12_isLinked {Z : Zt} {d : Nat} {S : Sh} {μ : Mi} {ρ : Mr} {Rp : RT} (a0 : Nat) (x1 : Int32) (x2 : Int32) (h : ∀ G : Nat → PT, w_X12_isLinked_0 (MS Z (d + 1)) G Rp [.ref a0, .int x1, .int x2] [] S (0, 0) μ ρ) : MS Z (d + 2) jX12_isLinked [.ref a0, .int x1, .int x2] S μ ρ Rp :=
  MS_of [.ref a0, .int x1, .int x2] (by decide +kernel) rfl rfl (Nat.le_of_ble_eq_true rfl) rfl (fun p e R s m args below meth c C => b_X12_isLinked_0 C _ _ _ _ _ _ (h _ ))
def w_X12_isMajority_56 (M : CT) (G : Nat → PT) (Rp : RT) : PT := tZret Rp
def w_X12_isMajority_55 (M : CT) (G : Nat → PT) (Rp : RT) : PT := tConst 0 <| w_X12_isMajority_56 M G Rp
def w_X12_isMajority_51 (M : CT) (G : Nat → PT) (Rp : RT) : PT := tConst 1 <| tGoto (w_X12_isMajority_56 M G Rp)
def w_X12_isMajority_23 (M : CT) (G : Nat → PT) (Rp : RT) : PT := tAload 0 <| tGetI 12 27 9 <| tIf (fun x => x = 0) (w_X12_isMajority_51 M G Rp) <| tConst 2 <| tIload 1 <| tAload 0 <| tGetI 12 27 9 <| tBin (fun x y => x &&& y) <| tFn 1 F_X12_bits <| tBin (fun x y => x * y) <| tAload 0 <| tGetI 12 27 9 <| tFn 1 F_X12_bits <| tIf2 (fun x y => x ≤ y) (w_X12_isMajority_55 M G Rp) <| w_X12_isMajority_51 M G Rp
def w_X12_isMajority_0 (M : CT) (G : Nat → PT) (Rp : RT) : PT := tConst 2 <| tIload 1 <| tAload 0 <| tGetI 12 27 8 <| tBin (fun x y => x &&& y) <| tFn 1 F_X12_bits <| tBin (fun x y => x * y) <| tAload 0 <| tGetI 12 27 8 <| tFn 1 F_X12_bits <| tIf2 (fun x y => y < x) (w_X12_isMajority_23 M G Rp) <| tConst 0 <| tZret Rp
set_option maxRecDepth 20000 in
theorem b_X12_isMajority_56 {Z : Zt} {d : Nat} {p : Program} {e : Env} {R : Room} {s : State} {m : MethodId} {args : Array Value} {below : List Frame} {meth : Method} {c : Code} {Rp : RT} (C : Cx Z (d + 1) jX12_isMajority RX12 p R s m args meth c) : Sd Z jX12_isMajority p e R s m args below meth c (MQ below (QcS Z Rp) args s 0 0 (fun a => Z.2.2.1 < a)) 56 (w_X12_isMajority_56 (MS Z (d + 1)) (Gw Z 2 p e R s m args below meth c (MQ below (QcS Z Rp) args s 0 0 (fun a => Z.2.2.1 < a))) Rp) := by
  unfold w_X12_isMajority_56
  exact s_zret C rfl (by decide +kernel)
set_option maxRecDepth 20000 in
theorem b_X12_isMajority_55 {Z : Zt} {d : Nat} {p : Program} {e : Env} {R : Room} {s : State} {m : MethodId} {args : Array Value} {below : List Frame} {meth : Method} {c : Code} {Rp : RT} (C : Cx Z (d + 1) jX12_isMajority RX12 p R s m args meth c) : Sd Z jX12_isMajority p e R s m args below meth c (MQ below (QcS Z Rp) args s 0 0 (fun a => Z.2.2.1 < a)) 55 (w_X12_isMajority_55 (MS Z (d + 1)) (Gw Z 2 p e R s m args below meth c (MQ below (QcS Z Rp) args s 0 0 (fun a => Z.2.2.1 < a))) Rp) := by
  unfold w_X12_isMajority_55
  refine s_iconst (n := 0) C (by decide +kernel) (by decide) ?_
  exact (b_X12_isMajority_56 C)
set_option maxRecDepth 20000 in
theorem b_X12_isMajority_51 {Z : Zt} {d : Nat} {p : Program} {e : Env} {R : Room} {s : State} {m : MethodId} {args : Array Value} {below : List Frame} {meth : Method} {c : Code} {Rp : RT} (C : Cx Z (d + 1) jX12_isMajority RX12 p R s m args meth c) : Sd Z jX12_isMajority p e R s m args below meth c (MQ below (QcS Z Rp) args s 0 0 (fun a => Z.2.2.1 < a)) 51 (w_X12_isMajority_51 (MS Z (d + 1)) (Gw Z 2 p e R s m args below meth c (MQ below (QcS Z Rp) args s 0 0 (fun a => Z.2.2.1 < a))) Rp) := by
  unfold w_X12_isMajority_51
  refine s_iconst (n := 1) C (by decide +kernel) (by decide) ?_
  exact s_goto (off := 4) (tgt := 56) C (by decide +kernel) (by decide) (b_X12_isMajority_56 C)
set_option maxRecDepth 20000 in
theorem b_X12_isMajority_23 {Z : Zt} {d : Nat} {p : Program} {e : Env} {R : Room} {s : State} {m : MethodId} {args : Array Value} {below : List Frame} {meth : Method} {c : Code} {Rp : RT} (C : Cx Z (d + 1) jX12_isMajority RX12 p R s m args meth c) : Sd Z jX12_isMajority p e R s m args below meth c (MQ below (QcS Z Rp) args s 0 0 (fun a => Z.2.2.1 < a)) 23 (w_X12_isMajority_23 (MS Z (d + 1)) (Gw Z 2 p e R s m args below meth c (MQ below (QcS Z Rp) args s 0 0 (fun a => Z.2.2.1 < a))) Rp) := by
  unfold w_X12_isMajority_23
  refine s_aload_n (k := 0) C (by decide +kernel) ?_
  refine s_getI C w_6_96 (by decide +kernel) rfl ?_
  refine s_if_eq (off := 24) (tgt := 51) C (by decide +kernel) (by decide) (b_X12_isMajority_51 C) ?_
  refine s_iconst (n := 2) C (by decide +kernel) (by decide) ?_
  refine s_iload_n (k := 1) C (by decide +kernel) ?_
  refine s_aload_n (k := 0) C (by decide +kernel) ?_
  refine s_getI C w_6_96 (by decide +kernel) rfl ?_
  refine s_iand C (by decide +kernel) ?_
  refine s_fnS C (j2 := jX12_bits) (by decide +kernel) rfl w_6_185 w_6_186 w_1_13 w_6_187 (by decide +kernel) (fun _ _ _ _ _ h => f_X12_bits h) ?_
  refine s_imul C (by decide +kernel) ?_
  refine s_aload_n (k := 0) C (by decide +kernel) ?_
  refine s_getI C w_6_96 (by decide +kernel) rfl ?_
  refine s_fnS C (j2 := jX12_bits) (by decide +kernel) rfl w_6_185 w_6_186 w_1_13 w_6_187 (by decide +kernel) (fun _ _ _ _ _ h => f_X12_bits h) ?_
  refine s_icmp_le (off := 7) (tgt := 55) C (by decide +kernel) (by decide) (b_X12_isMajority_55 C) ?_
  exact (b_X12_isMajority_51 C)
set_option maxRecDepth 20000 in
theorem b_X12_isMajority_0 {Z : Zt} {d : Nat} {p : Program} {e : Env} {R : Room} {s : State} {m : MethodId} {args : Array Value} {below : List Frame} {meth : Method} {c : Code} {Rp : RT} (C : Cx Z (d + 1) jX12_isMajority RX12 p R s m args meth c) : Sd Z jX12_isMajority p e R s m args below meth c (MQ below (QcS Z Rp) args s 0 0 (fun a => Z.2.2.1 < a)) 0 (w_X12_isMajority_0 (MS Z (d + 1)) (Gw Z 2 p e R s m args below meth c (MQ below (QcS Z Rp) args s 0 0 (fun a => Z.2.2.1 < a))) Rp) := by
  unfold w_X12_isMajority_0
  refine s_iconst (n := 2) C (by decide +kernel) (by decide) ?_
  refine s_iload_n (k := 1) C (by decide +kernel) ?_
  refine s_aload_n (k := 0) C (by decide +kernel) ?_
  refine s_getI C w_6_95 (by decide +kernel) rfl ?_
  refine s_iand C (by decide +kernel) ?_
  refine s_fnS C (j2 := jX12_bits) (by decide +kernel) rfl w_6_185 w_6_186 w_1_13 w_6_187 (by decide +kernel) (fun _ _ _ _ _ h => f_X12_bits h) ?_
  refine s_imul C (by decide +kernel) ?_
  refine s_aload_n (k := 0) C (by decide +kernel) ?_
  refine s_getI C w_6_95 (by decide +kernel) rfl ?_
  refine s_fnS C (j2 := jX12_bits) (by decide +kernel) rfl w_6_185 w_6_186 w_1_13 w_6_187 (by decide +kernel) (fun _ _ _ _ _ h => f_X12_bits h) ?_
  refine s_icmp_gt (off := 5) (tgt := 23) C (by decide +kernel) (by decide) (b_X12_isMajority_23 C) ?_
  refine s_iconst (n := 0) C (by decide +kernel) (by decide) ?_
  exact s_zret C rfl (by decide +kernel)
theorem ms_X12_isMajority {Z : Zt} {d : Nat} {S : Sh} {μ : Mi} {ρ : Mr} {Rp : RT} (a0 : Nat) (x1 : Int32) (h : ∀ G : Nat → PT, w_X12_isMajority_0 (MS Z (d + 1)) G Rp [.ref a0, .int x1] [] S (0, 0) μ ρ) : MS Z (d + 2) jX12_isMajority [.ref a0, .int x1] S μ ρ Rp :=
  MS_of [.ref a0, .int x1] (by decide +kernel) rfl rfl (Nat.le_of_ble_eq_true rfl) rfl (fun p e R s m args below meth c C => b_X12_isMajority_0 C _ _ _ _ _ _ (h _ ))
def w_X12_readsNothing_0 (M : CT) (G : Nat → PT) (Rp : RT) : PT := tAload 0 <| tIload 1 <| tConst 11 <| tConst 0 <| tFn 4 F_X12_lays <| tAload 0 <| tIload 1 <| tConst 12 <| tConst 0 <| tFn 4 F_X12_lays <| tAload 0 <| tIload 1 <| tConst 13 <| tConst 0 <| tFn 4 F_X12_lays <| tAload 0 <| tIload 1 <| tConst 15 <| tConst 0 <| tFn 4 F_X12_lays <| tVret Rp
set_option maxRecDepth 20000 in
theorem b_X12_readsNothing_0 {Z : Zt} {d : Nat} {p : Program} {e : Env} {R : Room} {s : State} {m : MethodId} {args : Array Value} {below : List Frame} {meth : Method} {c : Code} {Rp : RT} (C : Cx Z (d + 1) jX12_readsNothing RX12 p R s m args meth c) : Sd Z jX12_readsNothing p e R s m args below meth c (MQ below (QcS Z Rp) args s 0 0 (fun a => Z.2.2.1 < a)) 0 (w_X12_readsNothing_0 (MS Z (d + 1)) (Gw Z 2 p e R s m args below meth c (MQ below (QcS Z Rp) args s 0 0 (fun a => Z.2.2.1 < a))) Rp) := by
  unfold w_X12_readsNothing_0
  refine s_aload_n (k := 0) C (by decide +kernel) ?_
  refine s_iload_n (k := 1) C (by decide +kernel) ?_
  refine s_bipush (n := 11) C (by decide +kernel) (by decide) ?_
  refine s_iconst (n := 0) C (by decide +kernel) (by decide) ?_
  refine s_fnV C (j2 := jX12_lays) (cl := 12) (nf := 27) rfl rfl (by decide +kernel) rfl w_6_82 w_6_84 w_p3_4 w_1_13 w_6_85 (by decide +kernel) (fun _ _ _ _ _ h => f_X12_lays h) (fun _ _ _ _ _ h => r_X12_lays h) ?_
  refine s_aload_n (k := 0) C (by decide +kernel) ?_
  refine s_iload_n (k := 1) C (by decide +kernel) ?_
  refine s_bipush (n := 12) C (by decide +kernel) (by decide) ?_
  refine s_iconst (n := 0) C (by decide +kernel) (by decide) ?_
  refine s_fnV C (j2 := jX12_lays) (cl := 12) (nf := 27) rfl rfl (by decide +kernel) rfl w_6_82 w_6_84 w_p3_4 w_1_13 w_6_85 (by decide +kernel) (fun _ _ _ _ _ h => f_X12_lays h) (fun _ _ _ _ _ h => r_X12_lays h) ?_
  refine s_aload_n (k := 0) C (by decide +kernel) ?_
  refine s_iload_n (k := 1) C (by decide +kernel) ?_
  refine s_bipush (n := 13) C (by decide +kernel) (by decide) ?_
  refine s_iconst (n := 0) C (by decide +kernel) (by decide) ?_
  refine s_fnV C (j2 := jX12_lays) (cl := 12) (nf := 27) rfl rfl (by decide +kernel) rfl w_6_82 w_6_84 w_p3_4 w_1_13 w_6_85 (by decide +kernel) (fun _ _ _ _ _ h => f_X12_lays h) (fun _ _ _ _ _ h => r_X12_lays h) ?_
  refine s_aload_n (k := 0) C (by decide +kernel) ?_
  refine s_iload_n (k := 1) C (by decide +kernel) ?_
  refine s_bipush (n := 15) C (by decide +kernel) (by decide) ?_
  refine s_iconst (n := 0) C (by decide +kernel) (by decide) ?_
  refine s_fnV C (j2 := jX12_lays) (cl := 12) (nf := 27) rfl rfl (by decide +kernel) rfl w_6_82 w_6_84 w_p3_4 w_1_13 w_6_85 (by decide +kernel) (fun _ _ _ _ _ h => f_X12_lays h) (fun _ _ _ _ _ h => r_X12_lays h) ?_
  exact s_vret C rfl (by decide +kernel)
theorem ms_X12_readsNothing {Z : Zt} {d : Nat} {S : Sh} {μ : Mi} {ρ : Mr} {Rp : RT} (a0 : Nat) (x1 : Int32) (h : ∀ G : Nat → PT, w_X12_readsNothing_0 (MS Z (d + 1)) G Rp [.ref a0, .int x1] [] S (0, 0) μ ρ) : MS Z (d + 2) jX12_readsNothing [.ref a0, .int x1] S μ ρ Rp :=
  MS_of [.ref a0, .int x1] (by decide +kernel) rfl rfl (Nat.le_of_ble_eq_true rfl) rfl (fun p e R s m args below meth c C => b_X12_readsNothing_0 C _ _ _ _ _ _ (h _ ))
def w_X12_comesToLog_0 (M : CT) (G : Nat → PT) (Rp : RT) : PT := tConst 34 <| tConst 4 <| tAload 0 <| tIload 1 <| tConst 4 <| tFn 3 F_X12_of <| tBin (fun x y => x * y) <| tBin (fun x y => x + y) <| tIstore 6 <| tAload 0 <| tIload 1 <| tIload 6 <| tIload 2 <| tFn 4 F_X12_lays <| tAload 0 <| tIload 1 <| tIload 6 <| tConst 1 <| tBin (fun x y => x + y) <| tIload 3 <| tFn 4 F_X12_lays <| tAload 0 <| tIload 1 <| tIload 6 <| tConst 2 <| tBin (fun x y => x + y) <| tIload 4 <| tFn 4 F_X12_lays <| tAload 0 <| tIload 1 <| tIload 6 <| tConst 3 <| tBin (fun x y => x + y) <| tIload 5 <| tFn 4 F_X12_lays <| tAload 0 <| tIload 1 <| tConst 4 <| tAload 0 <| tIload 1 <| tConst 4 <| tFn 3 F_X12_of <| tConst 1 <| tBin (fun x y => x + y) <| tFn 4 F_X12_lays <| tVret Rp
set_option maxRecDepth 20000 in
theorem b_X12_comesToLog_0 {Z : Zt} {d : Nat} {p : Program} {e : Env} {R : Room} {s : State} {m : MethodId} {args : Array Value} {below : List Frame} {meth : Method} {c : Code} {Rp : RT} (C : Cx Z (d + 1) jX12_comesToLog RX12 p R s m args meth c) : Sd Z jX12_comesToLog p e R s m args below meth c (MQ below (QcS Z Rp) args s 0 0 (fun a => Z.2.2.1 < a)) 0 (w_X12_comesToLog_0 (MS Z (d + 1)) (Gw Z 7 p e R s m args below meth c (MQ below (QcS Z Rp) args s 0 0 (fun a => Z.2.2.1 < a))) Rp) := by
  unfold w_X12_comesToLog_0
  refine s_bipush (n := 34) C (by decide +kernel) (by decide) ?_
  refine s_iconst (n := 4) C (by decide +kernel) (by decide) ?_
  refine s_aload_n (k := 0) C (by decide +kernel) ?_
  refine s_iload_n (k := 1) C (by decide +kernel) ?_
  refine s_iconst (n := 4) C (by decide +kernel) (by decide) ?_
  refine s_fnV C (j2 := jX12_of) (cl := 12) (nf := 27) rfl rfl (by decide +kernel) rfl w_6_220 w_6_222 w_p3_11 w_1_13 w_6_223 (by decide +kernel) (fun _ _ _ _ _ h => f_X12_of h) (fun _ _ _ _ _ h => r_X12_of h) ?_
  refine s_imul C (by decide +kernel) ?_
  refine s_iadd C (by decide +kernel) ?_
  refine s_istore (k := 6) C (by decide +kernel) ?_
  refine s_aload_n (k := 0) C (by decide +kernel) ?_
  refine s_iload_n (k := 1) C (by decide +kernel) ?_
  refine s_iload (k := 6) C (by decide +kernel) ?_
  refine s_iload_n (k := 2) C (by decide +kernel) ?_
  refine s_fnV C (j2 := jX12_lays) (cl := 12) (nf := 27) rfl rfl (by decide +kernel) rfl w_6_82 w_6_84 w_p3_4 w_1_13 w_6_85 (by decide +kernel) (fun _ _ _ _ _ h => f_X12_lays h) (fun _ _ _ _ _ h => r_X12_lays h) ?_
  refine s_aload_n (k := 0) C (by decide +kernel) ?_
  refine s_iload_n (k := 1) C (by decide +kernel) ?_
  refine s_iload (k := 6) C (by decide +kernel) ?_
  refine s_iconst (n := 1) C (by decide +kernel) (by decide) ?_
  refine s_iadd C (by decide +kernel) ?_
  refine s_iload_n (k := 3) C (by decide +kernel) ?_
  refine s_fnV C (j2 := jX12_lays) (cl := 12) (nf := 27) rfl rfl (by decide +kernel) rfl w_6_82 w_6_84 w_p3_4 w_1_13 w_6_85 (by decide +kernel) (fun _ _ _ _ _ h => f_X12_lays h) (fun _ _ _ _ _ h => r_X12_lays h) ?_
  refine s_aload_n (k := 0) C (by decide +kernel) ?_
  refine s_iload_n (k := 1) C (by decide +kernel) ?_
  refine s_iload (k := 6) C (by decide +kernel) ?_
  refine s_iconst (n := 2) C (by decide +kernel) (by decide) ?_
  refine s_iadd C (by decide +kernel) ?_
  refine s_iload (k := 4) C (by decide +kernel) ?_
  refine s_fnV C (j2 := jX12_lays) (cl := 12) (nf := 27) rfl rfl (by decide +kernel) rfl w_6_82 w_6_84 w_p3_4 w_1_13 w_6_85 (by decide +kernel) (fun _ _ _ _ _ h => f_X12_lays h) (fun _ _ _ _ _ h => r_X12_lays h) ?_
  refine s_aload_n (k := 0) C (by decide +kernel) ?_
  refine s_iload_n (k := 1) C (by decide +kernel) ?_
  refine s_iload (k := 6) C (by decide +kernel) ?_
  refine s_iconst (n := 3) C (by decide +kernel) (by decide) ?_
  refine s_iadd C (by decide +kernel) ?_
  refine s_iload (k := 5) C (by decide +kernel) ?_
  refine s_fnV C (j2 := jX12_lays) (cl := 12) (nf := 27) rfl rfl (by decide +kernel) rfl w_6_82 w_6_84 w_p3_4 w_1_13 w_6_85 (by decide +kernel) (fun _ _ _ _ _ h => f_X12_lays h) (fun _ _ _ _ _ h => r_X12_lays h) ?_
  refine s_aload_n (k := 0) C (by decide +kernel) ?_
  refine s_iload_n (k := 1) C (by decide +kernel) ?_
  refine s_iconst (n := 4) C (by decide +kernel) (by decide) ?_
  refine s_aload_n (k := 0) C (by decide +kernel) ?_
  refine s_iload_n (k := 1) C (by decide +kernel) ?_
  refine s_iconst (n := 4) C (by decide +kernel) (by decide) ?_
  refine s_fnV C (j2 := jX12_of) (cl := 12) (nf := 27) rfl rfl (by decide +kernel) rfl w_6_220 w_6_222 w_p3_11 w_1_13 w_6_223 (by decide +kernel) (fun _ _ _ _ _ h => f_X12_of h) (fun _ _ _ _ _ h => r_X12_of h) ?_
  refine s_iconst (n := 1) C (by decide +kernel) (by decide) ?_
  refine s_iadd C (by decide +kernel) ?_
  refine s_fnV C (j2 := jX12_lays) (cl := 12) (nf := 27) rfl rfl (by decide +kernel) rfl w_6_82 w_6_84 w_p3_4 w_1_13 w_6_85 (by decide +kernel) (fun _ _ _ _ _ h => f_X12_lays h) (fun _ _ _ _ _ h => r_X12_lays h) ?_
  exact s_vret C rfl (by decide +kernel)
theorem ms_X12_comesToLog {Z : Zt} {d : Nat} {S : Sh} {μ : Mi} {ρ : Mr} {Rp : RT} (a0 : Nat) (x1 : Int32) (x2 : Int32) (x3 : Int32) (x4 : Int32) (x5 : Int32) (h : ∀ G : Nat → PT, w_X12_comesToLog_0 (MS Z (d + 1)) G Rp [.ref a0, .int x1, .int x2, .int x3, .int x4, .int x5, .null] [] S (0, 0) μ ρ) : MS Z (d + 2) jX12_comesToLog [.ref a0, .int x1, .int x2, .int x3, .int x4, .int x5] S μ ρ Rp :=
  MS_of [.ref a0, .int x1, .int x2, .int x3, .int x4, .int x5, .null] (by decide +kernel) rfl rfl (Nat.le_of_ble_eq_true rfl) rfl (fun p e R s m args below meth c C => b_X12_comesToLog_0 C _ _ _ _ _ _ (h _ ))
def w_X12_having_50 (M : CT) (G : Nat → PT) (Rp : RT) : PT := tIload 3 <| tIret Rp
def w_X12_having_42 (M : CT) (G : Nat → PT) (Rp : RT) : PT := tBin (fun x y => x ||| y) <| tIstore 3 <| tIinc 4 1 <| tGoto (G 7)
def w_X12_having_41 (M : CT) (G : Nat → PT) (Rp : RT) : PT := tConst 0 <| w_X12_having_42 M G Rp
def w_X12_having_7 (M : CT) (G : Nat → PT) (Rp : RT) : PT := tIload 4 <| tConst 5 <| tIf2 (fun x y => y ≤ x) (w_X12_having_50 M G Rp) <| tIload 3 <| tIload 4 <| tIload 1 <| tIf2 (fun x y => x = y) (w_X12_having_41 M G Rp) <| tAload 0 <| tIload 1 <| tConst 29 <| tIload 4 <| tBin (fun x y => x + y) <| tFn 3 F_X12_of <| tIload 2 <| tIf2 (fun x y => x < y) (w_X12_having_41 M G Rp) <| tConst 1 <| tIload 4 <| tBin (fun x y => x <<< (y &&& 31)) <| tGoto (w_X12_having_42 M G Rp)
def w_X12_having_0 (M : CT) (G : Nat → PT) (Rp : RT) : PT := tConst 1 <| tIload 1 <| tBin (fun x y => x <<< (y &&& 31)) <| tIstore 3 <| tConst 0 <| tIstore 4 <| G 7
set_option maxRecDepth 20000 in
theorem b_X12_having_50 {Z : Zt} {d : Nat} {p : Program} {e : Env} {R : Room} {s : State} {m : MethodId} {args : Array Value} {below : List Frame} {meth : Method} {c : Code} {Rp : RT} (C : Cx Z (d + 1) jX12_having RX12 p R s m args meth c) : Sd Z jX12_having p e R s m args below meth c (MQ below (QcS Z Rp) args s 0 0 (fun a => Z.2.2.1 < a)) 50 (w_X12_having_50 (MS Z (d + 1)) (Gw Z 5 p e R s m args below meth c (MQ below (QcS Z Rp) args s 0 0 (fun a => Z.2.2.1 < a))) Rp) := by
  unfold w_X12_having_50
  refine s_iload_n (k := 3) C (by decide +kernel) ?_
  exact s_iret C rfl (by decide +kernel)
set_option maxRecDepth 20000 in
theorem b_X12_having_42 {Z : Zt} {d : Nat} {p : Program} {e : Env} {R : Room} {s : State} {m : MethodId} {args : Array Value} {below : List Frame} {meth : Method} {c : Code} {Rp : RT} (C : Cx Z (d + 1) jX12_having RX12 p R s m args meth c) : Sd Z jX12_having p e R s m args below meth c (MQ below (QcS Z Rp) args s 0 0 (fun a => Z.2.2.1 < a)) 42 (w_X12_having_42 (MS Z (d + 1)) (Gw Z 5 p e R s m args below meth c (MQ below (QcS Z Rp) args s 0 0 (fun a => Z.2.2.1 < a))) Rp) := by
  unfold w_X12_having_42
  refine s_ior C (by decide +kernel) ?_
  refine s_istore_n (k := 3) C (by decide +kernel) ?_
  refine s_iinc (n := 1) C (by decide +kernel) (by decide) ?_
  exact s_goto (off := (-40)) (tgt := 7) C (by decide +kernel) (by decide) (fun _ _ _ _ _ _ h => h)
set_option maxRecDepth 20000 in
theorem b_X12_having_41 {Z : Zt} {d : Nat} {p : Program} {e : Env} {R : Room} {s : State} {m : MethodId} {args : Array Value} {below : List Frame} {meth : Method} {c : Code} {Rp : RT} (C : Cx Z (d + 1) jX12_having RX12 p R s m args meth c) : Sd Z jX12_having p e R s m args below meth c (MQ below (QcS Z Rp) args s 0 0 (fun a => Z.2.2.1 < a)) 41 (w_X12_having_41 (MS Z (d + 1)) (Gw Z 5 p e R s m args below meth c (MQ below (QcS Z Rp) args s 0 0 (fun a => Z.2.2.1 < a))) Rp) := by
  unfold w_X12_having_41
  refine s_iconst (n := 0) C (by decide +kernel) (by decide) ?_
  exact (b_X12_having_42 C)
set_option maxRecDepth 20000 in
theorem b_X12_having_7 {Z : Zt} {d : Nat} {p : Program} {e : Env} {R : Room} {s : State} {m : MethodId} {args : Array Value} {below : List Frame} {meth : Method} {c : Code} {Rp : RT} (C : Cx Z (d + 1) jX12_having RX12 p R s m args meth c) : Sd Z jX12_having p e R s m args below meth c (MQ below (QcS Z Rp) args s 0 0 (fun a => Z.2.2.1 < a)) 7 (w_X12_having_7 (MS Z (d + 1)) (Gw Z 5 p e R s m args below meth c (MQ below (QcS Z Rp) args s 0 0 (fun a => Z.2.2.1 < a))) Rp) := by
  unfold w_X12_having_7
  refine s_iload (k := 4) C (by decide +kernel) ?_
  refine s_iconst (n := 5) C (by decide +kernel) (by decide) ?_
  refine s_icmp_ge (off := 40) (tgt := 50) C (by decide +kernel) (by decide) (b_X12_having_50 C) ?_
  refine s_iload_n (k := 3) C (by decide +kernel) ?_
  refine s_iload (k := 4) C (by decide +kernel) ?_
  refine s_iload_n (k := 1) C (by decide +kernel) ?_
  refine s_icmp_eq (off := 24) (tgt := 41) C (by decide +kernel) (by decide) (b_X12_having_41 C) ?_
  refine s_aload_n (k := 0) C (by decide +kernel) ?_
  refine s_iload_n (k := 1) C (by decide +kernel) ?_
  refine s_bipush (n := 29) C (by decide +kernel) (by decide) ?_
  refine s_iload (k := 4) C (by decide +kernel) ?_
  refine s_iadd C (by decide +kernel) ?_
  refine s_fnV C (j2 := jX12_of) (cl := 12) (nf := 27) rfl rfl (by decide +kernel) rfl w_6_220 w_6_222 w_p3_11 w_1_13 w_6_223 (by decide +kernel) (fun _ _ _ _ _ h => f_X12_of h) (fun _ _ _ _ _ h => r_X12_of h) ?_
  refine s_iload_n (k := 2) C (by decide +kernel) ?_
  refine s_icmp_lt (off := 10) (tgt := 41) C (by decide +kernel) (by decide) (b_X12_having_41 C) ?_
  refine s_iconst (n := 1) C (by decide +kernel) (by decide) ?_
  refine s_iload (k := 4) C (by decide +kernel) ?_
  refine s_ishl C (by decide +kernel) ?_
  exact s_goto (off := 4) (tgt := 42) C (by decide +kernel) (by decide) (b_X12_having_42 C)
set_option maxRecDepth 20000 in
theorem b_X12_having_0 {Z : Zt} {d : Nat} {p : Program} {e : Env} {R : Room} {s : State} {m : MethodId} {args : Array Value} {below : List Frame} {meth : Method} {c : Code} {Rp : RT} (C : Cx Z (d + 1) jX12_having RX12 p R s m args meth c) : Sd Z jX12_having p e R s m args below meth c (MQ below (QcS Z Rp) args s 0 0 (fun a => Z.2.2.1 < a)) 0 (w_X12_having_0 (MS Z (d + 1)) (Gw Z 5 p e R s m args below meth c (MQ below (QcS Z Rp) args s 0 0 (fun a => Z.2.2.1 < a))) Rp) := by
  unfold w_X12_having_0
  refine s_iconst (n := 1) C (by decide +kernel) (by decide) ?_
  refine s_iload_n (k := 1) C (by decide +kernel) ?_
  refine s_ishl C (by decide +kernel) ?_
  refine s_istore_n (k := 3) C (by decide +kernel) ?_
  refine s_iconst (n := 0) C (by decide +kernel) (by decide) ?_
  refine s_istore (k := 4) C (by decide +kernel) ?_
  exact (fun _ _ _ _ _ _ h => h)
theorem ms_X12_having {Z : Zt} {d : Nat} {S : Sh} {μ : Mi} {ρ : Mr} {Rp : RT} (a0 : Nat) (x1 : Int32) (x2 : Int32) (h : ∀ G : Nat → PT, (∀ (L st : List Value) (S : Sh) (q : Nat × Nat) (μ : Mi) (ρ : Mr), w_X12_having_7 (MS Z (d + 1)) G Rp L st S q μ ρ → G 7 L st S q μ ρ) → w_X12_having_0 (MS Z (d + 1)) G Rp [.ref a0, .int x1, .int x2, .null, .null] [] S (0, 0) μ ρ) : MS Z (d + 2) jX12_having [.ref a0, .int x1, .int x2] S μ ρ Rp :=
  MS_of [.ref a0, .int x1, .int x2, .null, .null] (by decide +kernel) rfl rfl (Nat.le_of_ble_eq_true rfl) rfl (fun p e R s m args below meth c C => b_X12_having_0 C _ _ _ _ _ _ (h _ (b_X12_having_7 C)))
def w_X12_isMessage_0 (M : CT) (G : Nat → PT) (Rp : RT) : PT := tIload 1 <| tI2l <| tLconst 0 <| tAload 0 <| tGetR 12 27 1 <| tConst 4510 <| tAld 20 <| tConst 1 <| tBin (fun x y => x - y) <| tI2l <| tFn 3 F_X12_within <| tZret Rp
set_option maxRecDepth 20000 in
theorem b_X12_isMessage_0 {Z : Zt} {d : Nat} {p : Program} {e : Env} {R : Room} {s : State} {m : MethodId} {args : Array Value} {below : List Frame} {meth : Method} {c : Code} {Rp : RT} (C : Cx Z (d + 1) jX12_isMessage RX12 p R s m args meth c) : Sd Z jX12_isMessage p e R s m args below meth c (MQ below (QcS Z Rp) args s 0 0 (fun a => Z.2.2.1 < a)) 0 (w_X12_isMessage_0 (MS Z (d + 1)) (Gw Z 2 p e R s m args below meth c (MQ below (QcS Z Rp) args s 0 0 (fun a => Z.2.2.1 < a))) Rp) := by
  unfold w_X12_isMessage_0
  refine s_iload_n (k := 1) C (by decide +kernel) ?_
  refine s_i2l C (by decide +kernel) ?_
  refine s_lconst (n := 0) C (by decide +kernel) (by decide) ?_
  refine s_aload_n (k := 0) C (by decide +kernel) ?_
  refine s_getR C w_6_88 (by decide +kernel) rfl ?_
  refine s_sipush (n := 4510) C (by decide +kernel) (by decide) ?_
  refine s_iald C (by decide +kernel) ?_
  refine s_iconst (n := 1) C (by decide +kernel) (by decide) ?_
  refine s_isub C (by decide +kernel) ?_
  refine s_i2l C (by decide +kernel) ?_
  refine s_fnS C (j2 := jX12_within) (by decide +kernel) rfl w_6_175 w_6_176 w_1_13 w_6_177 (by decide +kernel) (fun _ _ _ _ _ h => f_X12_within h) ?_
  exact s_zret C rfl (by decide +kernel)
theorem ms_X12_isMessage {Z : Zt} {d : Nat} {S : Sh} {μ : Mi} {ρ : Mr} {Rp : RT} (a0 : Nat) (x1 : Int32) (h : ∀ G : Nat → PT, w_X12_isMessage_0 (MS Z (d + 1)) G Rp [.ref a0, .int x1] [] S (0, 0) μ ρ) : MS Z (d + 2) jX12_isMessage [.ref a0, .int x1] S μ ρ Rp :=
  MS_of [.ref a0, .int x1] (by decide +kernel) rfl rfl (Nat.le_of_ble_eq_true rfl) rfl (fun p e R s m args below meth c C => b_X12_isMessage_0 C _ _ _ _ _ _ (h _ ))
def w_X12_isInLog_0 (M : CT) (G : Nat → PT) (Rp : RT) : PT := tIload 2 <| tI2l <| tAload 0 <| tIload 1 <| tConst 5 <| tFn 3 F_X12_of <| tConst 1 <| tBin (fun x y => x + y) <| tI2l <| tAload 0 <| tIload 1 <| tConst 4 <| tFn 3 F_X12_of <| tI2l <| tFn 3 F_X12_within <| tZret Rp
set_option maxRecDepth 20000 in
theorem b_X12_isInLog_0 {Z : Zt} {d : Nat} {p : Program} {e : Env} {R : Room} {s : State} {m : MethodId} {args : Array Value} {below : List Frame} {meth : Method} {c : Code} {Rp : RT} (C : Cx Z (d + 1) jX12_isInLog RX12 p R s m args meth c) : Sd Z jX12_isInLog p e R s m args below meth c (MQ below (QcS Z Rp) args s 0 0 (fun a => Z.2.2.1 < a)) 0 (w_X12_isInLog_0 (MS Z (d + 1)) (Gw Z 3 p e R s m args below meth c (MQ below (QcS Z Rp) args s 0 0 (fun a => Z.2.2.1 < a))) Rp) := by
  unfold w_X12_isInLog_0
  refine s_iload_n (k := 2) C (by decide +kernel) ?_
  refine s_i2l C (by decide +kernel) ?_
  refine s_aload_n (k := 0) C (by decide +kernel) ?_
  refine s_iload_n (k := 1) C (by decide +kernel) ?_
  refine s_iconst (n := 5) C (by decide +kernel) (by decide) ?_
  refine s_fnV C (j2 := jX12_of) (cl := 12) (nf := 27) rfl rfl (by decide +kernel) rfl w_6_220 w_6_222 w_p3_11 w_1_13 w_6_223 (by decide +kernel) (fun _ _ _ _ _ h => f_X12_of h) (fun _ _ _ _ _ h => r_X12_of h) ?_
  refine s_iconst (n := 1) C (by decide +kernel) (by decide) ?_
  refine s_iadd C (by decide +kernel) ?_
  refine s_i2l C (by decide +kernel) ?_
  refine s_aload_n (k := 0) C (by decide +kernel) ?_
  refine s_iload_n (k := 1) C (by decide +kernel) ?_
  refine s_iconst (n := 4) C (by decide +kernel) (by decide) ?_
  refine s_fnV C (j2 := jX12_of) (cl := 12) (nf := 27) rfl rfl (by decide +kernel) rfl w_6_220 w_6_222 w_p3_11 w_1_13 w_6_223 (by decide +kernel) (fun _ _ _ _ _ h => f_X12_of h) (fun _ _ _ _ _ h => r_X12_of h) ?_
  refine s_i2l C (by decide +kernel) ?_
  refine s_fnS C (j2 := jX12_within) (by decide +kernel) rfl w_6_175 w_6_176 w_1_13 w_6_177 (by decide +kernel) (fun _ _ _ _ _ h => f_X12_within h) ?_
  exact s_zret C rfl (by decide +kernel)
theorem ms_X12_isInLog {Z : Zt} {d : Nat} {S : Sh} {μ : Mi} {ρ : Mr} {Rp : RT} (a0 : Nat) (x1 : Int32) (x2 : Int32) (h : ∀ G : Nat → PT, w_X12_isInLog_0 (MS Z (d + 1)) G Rp [.ref a0, .int x1, .int x2] [] S (0, 0) μ ρ) : MS Z (d + 2) jX12_isInLog [.ref a0, .int x1, .int x2] S μ ρ Rp :=
  MS_of [.ref a0, .int x1, .int x2] (by decide +kernel) rfl rfl (Nat.le_of_ble_eq_true rfl) rfl (fun p e R s m args below meth c C => b_X12_isInLog_0 C _ _ _ _ _ _ (h _ ))
