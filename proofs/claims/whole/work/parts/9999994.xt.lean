/-! ===== the text's length and letters ===== -/
def w_J0_coder_7d493_14 (M : CT) (G : Nat → PT) (Rp : RT) : PT := tNret .byte Rp
def w_J0_coder_7d493_13 (M : CT) (G : Nat → PT) (Rp : RT) : PT := tConst 1 <| w_J0_coder_7d493_14 M G Rp
def w_J0_coder_7d493_0 (M : CT) (G : Nat → PT) (Rp : RT) : PT := tPush (.int 1) <| tIf (fun x => x = 0) (w_J0_coder_7d493_13 M G Rp) <| tAload 0 <| tGetX 1 (.int 0) <| tGoto (w_J0_coder_7d493_14 M G Rp)
set_option maxRecDepth 20000 in
theorem b_J0_coder_7d493_14 {Z : Zt} {d : Nat} {p : Program} {e : Env} {R : Room} {s : State} {m : MethodId} {args : Array Value} {below : List Frame} {meth : Method} {c : Code} {Rp : RT} (hZ : ZX Z) (C : Cx Z d jJ0_coder_7d493 RJ0 p R s m args meth c) : Sd Z jJ0_coder_7d493 p e R s m args below meth c (MQ below (QcS Z Rp) args s 0 0 (fun a => Z.2.2.1 < a)) 14 (w_J0_coder_7d493_14 (MS Z d) (Gw Z 1 p e R s m args below meth c (MQ below (QcS Z Rp) args s 0 0 (fun a => Z.2.2.1 < a))) Rp) := by
  unfold w_J0_coder_7d493_14
  exact s_nret C rfl (by decide +kernel)
set_option maxRecDepth 20000 in
theorem b_J0_coder_7d493_13 {Z : Zt} {d : Nat} {p : Program} {e : Env} {R : Room} {s : State} {m : MethodId} {args : Array Value} {below : List Frame} {meth : Method} {c : Code} {Rp : RT} (hZ : ZX Z) (C : Cx Z d jJ0_coder_7d493 RJ0 p R s m args meth c) : Sd Z jJ0_coder_7d493 p e R s m args below meth c (MQ below (QcS Z Rp) args s 0 0 (fun a => Z.2.2.1 < a)) 13 (w_J0_coder_7d493_13 (MS Z d) (Gw Z 1 p e R s m args below meth c (MQ below (QcS Z Rp) args s 0 0 (fun a => Z.2.2.1 < a))) Rp) := by
  unfold w_J0_coder_7d493_13
  refine s_iconst (n := 1) C (by decide +kernel) (by decide) ?_
  exact (b_J0_coder_7d493_14 hZ C)
set_option maxRecDepth 20000 in
theorem b_J0_coder_7d493_0 {Z : Zt} {d : Nat} {p : Program} {e : Env} {R : Room} {s : State} {m : MethodId} {args : Array Value} {below : List Frame} {meth : Method} {c : Code} {Rp : RT} (hZ : ZX Z) (C : Cx Z d jJ0_coder_7d493 RJ0 p R s m args meth c) : Sd Z jJ0_coder_7d493 p e R s m args below meth c (MQ below (QcS Z Rp) args s 0 0 (fun a => Z.2.2.1 < a)) 0 (w_J0_coder_7d493_0 (MS Z d) (Gw Z 1 p e R s m args below meth c (MQ below (QcS Z Rp) args s 0 0 (fun a => Z.2.2.1 < a))) Rp) := by
  unfold w_J0_coder_7d493_0
  refine s_gets (w := .int 1) C (hZ _ C.2.2.2.2.2.2.2.2.1).2.2.1 rfl w_4_217 (by decide +kernel) ?_
  refine s_if_eq (off := 10) (tgt := 13) C (by decide +kernel) (by decide) (b_J0_coder_7d493_13 hZ C) ?_
  refine s_aload_n (k := 0) C (by decide +kernel) ?_
  refine s_getX (k := 1) (w := .int 0) C (hZ _ C.2.2.2.2.2.2.2.2.1).2.1.2.2.1 rfl w_9_26 (by decide +kernel) ?_
  exact s_goto (off := 4) (tgt := 14) C (by decide +kernel) (by decide) (b_J0_coder_7d493_14 hZ C)
theorem ms_J0_coder_7d493 {Z : Zt} {d : Nat} {S : Sh} {μ : Mi} {ρ : Mr} {Rp : RT} (hZ : ZX Z)  (h : ∀ G : Nat → PT, w_J0_coder_7d493_0 (MS Z d) G Rp [.float 1] [] S (0, 0) μ ρ) : MS Z (d + 1) jJ0_coder_7d493 [.float 1] S μ ρ Rp :=
  MS_of [.float 1] (by decide +kernel) rfl rfl (Nat.le_of_ble_eq_true rfl) rfl (fun p e R s m args below meth c C => b_J0_coder_7d493_0 hZ C _ _ _ _ _ _ (h _ ))
def w_J0_isLatin1_aae02_18 (M : CT) (G : Nat → PT) (Rp : RT) : PT := tZret Rp
def w_J0_isLatin1_aae02_17 (M : CT) (G : Nat → PT) (Rp : RT) : PT := tConst 0 <| w_J0_isLatin1_aae02_18 M G Rp
def w_J0_isLatin1_aae02_0 (M : CT) (G : Nat → PT) (Rp : RT) : PT := tPush (.int 1) <| tIf (fun x => x = 0) (w_J0_isLatin1_aae02_17 M G Rp) <| tAload 0 <| tGetX 1 (.int 0) <| tIf (fun x => x ≠ 0) (w_J0_isLatin1_aae02_17 M G Rp) <| tConst 1 <| tGoto (w_J0_isLatin1_aae02_18 M G Rp)
set_option maxRecDepth 20000 in
theorem b_J0_isLatin1_aae02_18 {Z : Zt} {d : Nat} {p : Program} {e : Env} {R : Room} {s : State} {m : MethodId} {args : Array Value} {below : List Frame} {meth : Method} {c : Code} {Rp : RT} (hZ : ZX Z) (C : Cx Z d jJ0_isLatin1_aae02 RJ0 p R s m args meth c) : Sd Z jJ0_isLatin1_aae02 p e R s m args below meth c (MQ below (QcS Z Rp) args s 0 0 (fun a => Z.2.2.1 < a)) 18 (w_J0_isLatin1_aae02_18 (MS Z d) (Gw Z 1 p e R s m args below meth c (MQ below (QcS Z Rp) args s 0 0 (fun a => Z.2.2.1 < a))) Rp) := by
  unfold w_J0_isLatin1_aae02_18
  exact s_zret C rfl (by decide +kernel)
set_option maxRecDepth 20000 in
theorem b_J0_isLatin1_aae02_17 {Z : Zt} {d : Nat} {p : Program} {e : Env} {R : Room} {s : State} {m : MethodId} {args : Array Value} {below : List Frame} {meth : Method} {c : Code} {Rp : RT} (hZ : ZX Z) (C : Cx Z d jJ0_isLatin1_aae02 RJ0 p R s m args meth c) : Sd Z jJ0_isLatin1_aae02 p e R s m args below meth c (MQ below (QcS Z Rp) args s 0 0 (fun a => Z.2.2.1 < a)) 17 (w_J0_isLatin1_aae02_17 (MS Z d) (Gw Z 1 p e R s m args below meth c (MQ below (QcS Z Rp) args s 0 0 (fun a => Z.2.2.1 < a))) Rp) := by
  unfold w_J0_isLatin1_aae02_17
  refine s_iconst (n := 0) C (by decide +kernel) (by decide) ?_
  exact (b_J0_isLatin1_aae02_18 hZ C)
set_option maxRecDepth 20000 in
theorem b_J0_isLatin1_aae02_0 {Z : Zt} {d : Nat} {p : Program} {e : Env} {R : Room} {s : State} {m : MethodId} {args : Array Value} {below : List Frame} {meth : Method} {c : Code} {Rp : RT} (hZ : ZX Z) (C : Cx Z d jJ0_isLatin1_aae02 RJ0 p R s m args meth c) : Sd Z jJ0_isLatin1_aae02 p e R s m args below meth c (MQ below (QcS Z Rp) args s 0 0 (fun a => Z.2.2.1 < a)) 0 (w_J0_isLatin1_aae02_0 (MS Z d) (Gw Z 1 p e R s m args below meth c (MQ below (QcS Z Rp) args s 0 0 (fun a => Z.2.2.1 < a))) Rp) := by
  unfold w_J0_isLatin1_aae02_0
  refine s_gets (w := .int 1) C (hZ _ C.2.2.2.2.2.2.2.2.1).2.2.1 rfl w_4_217 (by decide +kernel) ?_
  refine s_if_eq (off := 14) (tgt := 17) C (by decide +kernel) (by decide) (b_J0_isLatin1_aae02_17 hZ C) ?_
  refine s_aload_n (k := 0) C (by decide +kernel) ?_
  refine s_getX (k := 1) (w := .int 0) C (hZ _ C.2.2.2.2.2.2.2.2.1).2.1.2.2.1 rfl w_9_26 (by decide +kernel) ?_
  refine s_if_ne (off := 7) (tgt := 17) C (by decide +kernel) (by decide) (b_J0_isLatin1_aae02_17 hZ C) ?_
  refine s_iconst (n := 1) C (by decide +kernel) (by decide) ?_
  exact s_goto (off := 4) (tgt := 18) C (by decide +kernel) (by decide) (b_J0_isLatin1_aae02_18 hZ C)
theorem ms_J0_isLatin1_aae02 {Z : Zt} {d : Nat} {S : Sh} {μ : Mi} {ρ : Mr} {Rp : RT} (hZ : ZX Z)  (h : ∀ G : Nat → PT, w_J0_isLatin1_aae02_0 (MS Z d) G Rp [.float 1] [] S (0, 0) μ ρ) : MS Z (d + 1) jJ0_isLatin1_aae02 [.float 1] S μ ρ Rp :=
  MS_of [.float 1] (by decide +kernel) rfl rfl (Nat.le_of_ble_eq_true rfl) rfl (fun p e R s m args below meth c C => b_J0_isLatin1_aae02_0 hZ C _ _ _ _ _ _ (h _ ))
def w_J3_checkIndex_8e157_16 (M : CT) (G : Nat → PT) (Rp : RT) : PT := tIload 0 <| tIret Rp
def w_J3_checkIndex_8e157_9 (M : CT) (G : Nat → PT) (Rp : RT) : PT := tBad
def w_J3_checkIndex_8e157_0 (M : CT) (G : Nat → PT) (Rp : RT) : PT := tIload 0 <| tIf (fun x => x < 0) (w_J3_checkIndex_8e157_9 M G Rp) <| tIload 0 <| tIload 1 <| tIf2 (fun x y => x < y) (w_J3_checkIndex_8e157_16 M G Rp) <| w_J3_checkIndex_8e157_9 M G Rp
set_option maxRecDepth 20000 in
theorem b_J3_checkIndex_8e157_16 {Z : Zt} {d : Nat} {p : Program} {e : Env} {R : Room} {s : State} {m : MethodId} {args : Array Value} {below : List Frame} {meth : Method} {c : Code} {Rp : RT} (hZ : ZX Z) (C : Cx Z d jJ3_checkIndex_8e157 RJ3 p R s m args meth c) : Sd Z jJ3_checkIndex_8e157 p e R s m args below meth c (MQ below (QcS Z Rp) args s 0 0 (fun a => Z.2.2.1 < a)) 16 (w_J3_checkIndex_8e157_16 (MS Z d) (Gw Z 3 p e R s m args below meth c (MQ below (QcS Z Rp) args s 0 0 (fun a => Z.2.2.1 < a))) Rp) := by
  unfold w_J3_checkIndex_8e157_16
  refine s_iload_n (k := 0) C (by decide +kernel) ?_
  exact s_iret C rfl (by decide +kernel)
set_option maxRecDepth 20000 in
theorem b_J3_checkIndex_8e157_9 {Z : Zt} {d : Nat} {p : Program} {e : Env} {R : Room} {s : State} {m : MethodId} {args : Array Value} {below : List Frame} {meth : Method} {c : Code} {Rp : RT} (hZ : ZX Z) (C : Cx Z d jJ3_checkIndex_8e157 RJ3 p R s m args meth c) : Sd Z jJ3_checkIndex_8e157 p e R s m args below meth c (MQ below (QcS Z Rp) args s 0 0 (fun a => Z.2.2.1 < a)) 9 (w_J3_checkIndex_8e157_9 (MS Z d) (Gw Z 3 p e R s m args below meth c (MQ below (QcS Z Rp) args s 0 0 (fun a => Z.2.2.1 < a))) Rp) := by
  unfold w_J3_checkIndex_8e157_9
  exact s_bad
set_option maxRecDepth 20000 in
theorem b_J3_checkIndex_8e157_0 {Z : Zt} {d : Nat} {p : Program} {e : Env} {R : Room} {s : State} {m : MethodId} {args : Array Value} {below : List Frame} {meth : Method} {c : Code} {Rp : RT} (hZ : ZX Z) (C : Cx Z d jJ3_checkIndex_8e157 RJ3 p R s m args meth c) : Sd Z jJ3_checkIndex_8e157 p e R s m args below meth c (MQ below (QcS Z Rp) args s 0 0 (fun a => Z.2.2.1 < a)) 0 (w_J3_checkIndex_8e157_0 (MS Z d) (Gw Z 3 p e R s m args below meth c (MQ below (QcS Z Rp) args s 0 0 (fun a => Z.2.2.1 < a))) Rp) := by
  unfold w_J3_checkIndex_8e157_0
  refine s_iload_n (k := 0) C (by decide +kernel) ?_
  refine s_if_lt (off := 8) (tgt := 9) C (by decide +kernel) (by decide) (b_J3_checkIndex_8e157_9 hZ C) ?_
  refine s_iload_n (k := 0) C (by decide +kernel) ?_
  refine s_iload_n (k := 1) C (by decide +kernel) ?_
  refine s_icmp_lt (off := 10) (tgt := 16) C (by decide +kernel) (by decide) (b_J3_checkIndex_8e157_16 hZ C) ?_
  exact (b_J3_checkIndex_8e157_9 hZ C)
theorem ms_J3_checkIndex_8e157 {Z : Zt} {d : Nat} {S : Sh} {μ : Mi} {ρ : Mr} {Rp : RT} (hZ : ZX Z) (x1 : Int32) (x2 : Int32) (h : ∀ G : Nat → PT, w_J3_checkIndex_8e157_0 (MS Z d) G Rp [.int x1, .int x2, .float 3] [] S (0, 0) μ ρ) : MS Z (d + 1) jJ3_checkIndex_8e157 [.int x1, .int x2, .float 3] S μ ρ Rp :=
  MS_of [.int x1, .int x2, .float 3] (by decide +kernel) rfl rfl (Nat.le_of_ble_eq_true rfl) rfl (fun p e R s m args below meth c C => b_J3_checkIndex_8e157_0 hZ C _ _ _ _ _ _ (h _ ))
theorem ms_J3_checkIndex_n {Z : Zt} {d : Nat} {S : Sh} {μ : Mi} {ρ : Mr} {Rp : RT} (hZ : ZX Z) (x1 : Int32) (x2 : Int32) (h : ∀ G : Nat → PT, w_J3_checkIndex_8e157_0 (MS Z d) G Rp [.int x1, .int x2, .null] [] S (0, 0) μ ρ) : MS Z (d + 1) jJ3_checkIndex_8e157 [.int x1, .int x2, .null] S μ ρ Rp :=
  MS_of [.int x1, .int x2, .null] (by decide +kernel) rfl rfl (Nat.le_of_ble_eq_true rfl) rfl (fun p e R s m args below meth c C => b_J3_checkIndex_8e157_0 hZ C _ _ _ _ _ _ (h _ ))
def w_J0_checkIndex_df160_0 (M : CT) (G : Nat → PT) (Rp : RT) : PT := tIload 0 <| tIload 1 <| tPushF <| tCallS M jJ3_checkIndex_8e157 3 <| tPop <| tVret Rp
set_option maxRecDepth 20000 in
theorem b_J0_checkIndex_df160_0 {Z : Zt} {d : Nat} {p : Program} {e : Env} {R : Room} {s : State} {m : MethodId} {args : Array Value} {below : List Frame} {meth : Method} {c : Code} {Rp : RT} (hZ : ZX Z) (C : Cx Z (d + 1) jJ0_checkIndex_df160 RJ0 p R s m args meth c) : Sd Z jJ0_checkIndex_df160 p e R s m args below meth c (MQ below (QcS Z Rp) args s 0 0 (fun a => Z.2.2.1 < a)) 0 (w_J0_checkIndex_df160_0 (MS Z (d + 1)) (Gw Z 2 p e R s m args below meth c (MQ below (QcS Z Rp) args s 0 0 (fun a => Z.2.2.1 < a))) Rp) := by
  unfold w_J0_checkIndex_df160_0
  refine s_iload_n (k := 0) C (by decide +kernel) ?_
  refine s_iload_n (k := 1) C (by decide +kernel) ?_
  refine s_getsF C hZ w_4_233 (by decide +kernel) ?_
  refine s_callS C (by decide +kernel) rfl w_4_235 w_4_236 w_1_19 w_4_237 (by decide +kernel) ?_
  refine s_pop C (by decide +kernel) ?_
  exact s_vret C rfl (by decide +kernel)
theorem ms_J0_checkIndex_df160 {Z : Zt} {d : Nat} {S : Sh} {μ : Mi} {ρ : Mr} {Rp : RT} (hZ : ZX Z) (x1 : Int32) (x2 : Int32) (h : ∀ G : Nat → PT, w_J0_checkIndex_df160_0 (MS Z (d + 1)) G Rp [.int x1, .int x2] [] S (0, 0) μ ρ) : MS Z (d + 2) jJ0_checkIndex_df160 [.int x1, .int x2] S μ ρ Rp :=
  MS_of [.int x1, .int x2] (by decide +kernel) rfl rfl (Nat.le_of_ble_eq_true rfl) rfl (fun p e R s m args below meth c C => b_J0_checkIndex_df160_0 hZ C _ _ _ _ _ _ (h _ ))
def w_J0_length_8abf5_0 (M : CT) (G : Nat → PT) (Rp : RT) : PT := tAload 0 <| tGetX 1 (.float 2) <| tAlenX 2 (Int32.ofNat 103) <| tAload 0 <| tCallX M jJ0_coder_7d493 0 <| tBin (fun x y => x >>> (y &&& 31)) <| tIret Rp
set_option maxRecDepth 20000 in
theorem b_J0_length_8abf5_0 {Z : Zt} {d : Nat} {p : Program} {e : Env} {R : Room} {s : State} {m : MethodId} {args : Array Value} {below : List Frame} {meth : Method} {c : Code} {Rp : RT} (hZ : ZX Z) (C : Cx Z (d + 1) jJ0_length_8abf5 RJ0 p R s m args meth c) : Sd Z jJ0_length_8abf5 p e R s m args below meth c (MQ below (QcS Z Rp) args s 0 0 (fun a => Z.2.2.1 < a)) 0 (w_J0_length_8abf5_0 (MS Z (d + 1)) (Gw Z 1 p e R s m args below meth c (MQ below (QcS Z Rp) args s 0 0 (fun a => Z.2.2.1 < a))) Rp) := by
  unfold w_J0_length_8abf5_0
  refine s_aload_n (k := 0) C (by decide +kernel) ?_
  refine s_getX (k := 1) (w := .float 2) C (hZ _ C.2.2.2.2.2.2.2.2.1).2.1.2.2.2.1 rfl w_9_25 (by decide +kernel) ?_
  refine s_alenX (k := 2) C (hZ _ C.2.2.2.2.2.2.2.2.1).2.1.2.2.2.2 (by decide +kernel) ?_
  refine s_aload_n (k := 0) C (by decide +kernel) ?_
  refine s_callX C hZ rfl (by decide +kernel) rfl w_4_213 w_4_214 w_4_215 w_1_17 w_4_216 (by decide +kernel) ?_
  refine s_ishr C (by decide +kernel) ?_
  exact s_iret C rfl (by decide +kernel)
theorem ms_J0_length_8abf5 {Z : Zt} {d : Nat} {S : Sh} {μ : Mi} {ρ : Mr} {Rp : RT} (hZ : ZX Z)  (h : ∀ G : Nat → PT, w_J0_length_8abf5_0 (MS Z (d + 1)) G Rp [.float 1] [] S (0, 0) μ ρ) : MS Z (d + 2) jJ0_length_8abf5 [.float 1] S μ ρ Rp :=
  MS_of [.float 1] (by decide +kernel) rfl rfl (Nat.le_of_ble_eq_true rfl) rfl (fun p e R s m args below meth c C => b_J0_length_8abf5_0 hZ C _ _ _ _ _ _ (h _ ))
def w_J1_charAt_3b067_0 (M : CT) (G : Nat → PT) (Rp : RT) : PT := tIload 1 <| tAload 0 <| tAlenX 2 (Int32.ofNat 103) <| tCallS M jJ0_checkIndex_df160 2 <| tAload 0 <| tIload 1 <| tLdX 2 103 wdT <| tConst 255 <| tBin (fun x y => x &&& y) <| tUn (fun x => (x.toUInt32 % 65536).toInt32) <| tNret .char Rp
set_option maxRecDepth 20000 in
theorem b_J1_charAt_3b067_0 {Z : Zt} {d : Nat} {p : Program} {e : Env} {R : Room} {s : State} {m : MethodId} {args : Array Value} {below : List Frame} {meth : Method} {c : Code} {Rp : RT} (hZ : ZX Z) (C : Cx Z (d + 2) jJ1_charAt_3b067 RJ1 p R s m args meth c) : Sd Z jJ1_charAt_3b067 p e R s m args below meth c (MQ below (QcS Z Rp) args s 0 0 (fun a => Z.2.2.1 < a)) 0 (w_J1_charAt_3b067_0 (MS Z (d + 2)) (Gw Z 2 p e R s m args below meth c (MQ below (QcS Z Rp) args s 0 0 (fun a => Z.2.2.1 < a))) Rp) := by
  unfold w_J1_charAt_3b067_0
  refine s_iload_n (k := 1) C (by decide +kernel) ?_
  refine s_aload_n (k := 0) C (by decide +kernel) ?_
  refine s_alenX (k := 2) C (hZ _ C.2.2.2.2.2.2.2.2.1).2.1.2.2.2.2 (by decide +kernel) ?_
  refine s_callS C (by decide +kernel) rfl w_4_230 w_4_231 w_1_17 w_4_232 (by decide +kernel) ?_
  refine s_aload_n (k := 0) C (by decide +kernel) ?_
  refine s_iload_n (k := 1) C (by decide +kernel) ?_
  refine s_baldX (k := 2) C (hZ _ C.2.2.2.2.2.2.2.2.1).2.1.2.2.2.2 (by decide +kernel) ?_
  refine s_sipush (n := 255) C (by decide +kernel) (by decide) ?_
  refine s_iand C (by decide +kernel) ?_
  refine s_i2c C (by decide +kernel) ?_
  exact s_nret C rfl (by decide +kernel)
theorem ms_J1_charAt_3b067 {Z : Zt} {d : Nat} {S : Sh} {μ : Mi} {ρ : Mr} {Rp : RT} (hZ : ZX Z) (x2 : Int32) (h : ∀ G : Nat → PT, w_J1_charAt_3b067_0 (MS Z (d + 2)) G Rp [.float 2, .int x2] [] S (0, 0) μ ρ) : MS Z (d + 3) jJ1_charAt_3b067 [.float 2, .int x2] S μ ρ Rp :=
  MS_of [.float 2, .int x2] (by decide +kernel) rfl rfl (Nat.le_of_ble_eq_true rfl) rfl (fun p e R s m args below meth c C => b_J1_charAt_3b067_0 hZ C _ _ _ _ _ _ (h _ ))
def w_J0_charAt_5068e_16 (M : CT) (G : Nat → PT) (Rp : RT) : PT := tAload 0 <| tGetX 1 (.float 2) <| tIload 1 <| tCallS M jJ2_charAt_3b067 2 <| tNret .char Rp
def w_J0_charAt_5068e_0 (M : CT) (G : Nat → PT) (Rp : RT) : PT := tAload 0 <| tCallX M jJ0_isLatin1_aae02 0 <| tIf (fun x => x = 0) (w_J0_charAt_5068e_16 M G Rp) <| tAload 0 <| tGetX 1 (.float 2) <| tIload 1 <| tCallS M jJ1_charAt_3b067 2 <| tNret .char Rp
set_option maxRecDepth 20000 in
theorem b_J0_charAt_5068e_16 {Z : Zt} {d : Nat} {p : Program} {e : Env} {R : Room} {s : State} {m : MethodId} {args : Array Value} {below : List Frame} {meth : Method} {c : Code} {Rp : RT} (hZ : ZX Z) (C : Cx Z (d + 4) jJ0_charAt_5068e RJ0 p R s m args meth c) : Sd Z jJ0_charAt_5068e p e R s m args below meth c (MQ below (QcS Z Rp) args s 0 0 (fun a => Z.2.2.1 < a)) 16 (w_J0_charAt_5068e_16 (MS Z (d + 4)) (Gw Z 2 p e R s m args below meth c (MQ below (QcS Z Rp) args s 0 0 (fun a => Z.2.2.1 < a))) Rp) := by
  unfold w_J0_charAt_5068e_16
  refine s_aload_n (k := 0) C (by decide +kernel) ?_
  refine s_getX (k := 1) (w := .float 2) C (hZ _ C.2.2.2.2.2.2.2.2.1).2.1.2.2.2.1 rfl w_9_25 (by decide +kernel) ?_
  refine s_iload_n (k := 1) C (by decide +kernel) ?_
  refine s_callS C (by decide +kernel) rfl w_4_238 w_4_239 w_1_20 w_5_0 (by decide +kernel) ?_
  exact s_nret C rfl (by decide +kernel)
set_option maxRecDepth 20000 in
theorem b_J0_charAt_5068e_0 {Z : Zt} {d : Nat} {p : Program} {e : Env} {R : Room} {s : State} {m : MethodId} {args : Array Value} {below : List Frame} {meth : Method} {c : Code} {Rp : RT} (hZ : ZX Z) (C : Cx Z (d + 4) jJ0_charAt_5068e RJ0 p R s m args meth c) : Sd Z jJ0_charAt_5068e p e R s m args below meth c (MQ below (QcS Z Rp) args s 0 0 (fun a => Z.2.2.1 < a)) 0 (w_J0_charAt_5068e_0 (MS Z (d + 4)) (Gw Z 2 p e R s m args below meth c (MQ below (QcS Z Rp) args s 0 0 (fun a => Z.2.2.1 < a))) Rp) := by
  unfold w_J0_charAt_5068e_0
  refine s_aload_n (k := 0) C (by decide +kernel) ?_
  refine s_callX C hZ rfl (by decide +kernel) rfl w_4_223 w_4_224 w_4_225 w_1_17 w_4_226 (by decide +kernel) ?_
  refine s_if_eq (off := 12) (tgt := 16) C (by decide +kernel) (by decide) (b_J0_charAt_5068e_16 hZ C) ?_
  refine s_aload_n (k := 0) C (by decide +kernel) ?_
  refine s_getX (k := 1) (w := .float 2) C (hZ _ C.2.2.2.2.2.2.2.2.1).2.1.2.2.2.1 rfl w_9_25 (by decide +kernel) ?_
  refine s_iload_n (k := 1) C (by decide +kernel) ?_
  refine s_callS C (by decide +kernel) rfl w_4_227 w_4_228 w_1_18 w_4_229 (by decide +kernel) ?_
  exact s_nret C rfl (by decide +kernel)
theorem ms_J0_charAt_5068e {Z : Zt} {d : Nat} {S : Sh} {μ : Mi} {ρ : Mr} {Rp : RT} (hZ : ZX Z) (x1 : Int32) (h : ∀ G : Nat → PT, w_J0_charAt_5068e_0 (MS Z (d + 4)) G Rp [.float 1, .int x1] [] S (0, 0) μ ρ) : MS Z (d + 5) jJ0_charAt_5068e [.float 1, .int x1] S μ ρ Rp :=
  MS_of [.float 1, .int x1] (by decide +kernel) rfl rfl (Nat.le_of_ble_eq_true rfl) rfl (fun p e R s m args below meth c C => b_J0_charAt_5068e_0 hZ C _ _ _ _ _ _ (h _ ))
section Txt
variable {Z : Zt} {d : Nat} {S : Sh} {μ : Mi} {ρ : Mr} {Rp : RT}
theorem f_J0_coder (hZ : ZX Z) (h : Rp (some (.int 0)) S μ ρ) : MS Z (d + 1) jJ0_coder_7d493 [.float 1] S μ ρ Rp := by
  refine ms_J0_coder_7d493 hZ (fun G => ?_)
  simp only [w_J0_coder_7d493_0, w_J0_coder_7d493_13, w_J0_coder_7d493_14, tAload, tIload, nth, tGetI, tGetR, tConst, tLconst, tBin, tUn, tI2l, tAld, tAldR, tAlen, tIast, tBast, tZast, tAast, tIret, tZret, tVret, tAret, tIf, tIf2, tGoto, tIstore, tAstore, sset, tIinc, tDup, tDup2, tPop, tPutI, tPutZ, tPutR, tCallV, tCallS, popN, tFn, tCopy, tMax, tMin, tSw, swc, tRem, tObjI, Option.toList, List.nil_append, List.cons_append, okR, true_and, and_true, true_or, or_true, Nat.zero_le, ne_eq, not_false_eq_true, Nat.reduceEqDiff, tPush, tGetX, tNret]
  exact ⟨fun c => absurd c (by decide), fun _ => ⟨rfl, h⟩⟩
theorem f_J0_isLatin1 (hZ : ZX Z) (h : Rp (some (.int 1)) S μ ρ) : MS Z (d + 1) jJ0_isLatin1_aae02 [.float 1] S μ ρ Rp := by
  refine ms_J0_isLatin1_aae02 hZ (fun G => ?_)
  simp only [w_J0_isLatin1_aae02_0, w_J0_isLatin1_aae02_17, w_J0_isLatin1_aae02_18, tAload, tIload, nth, tGetI, tGetR, tConst, tLconst, tBin, tUn, tI2l, tAld, tAldR, tAlen, tIast, tBast, tZast, tAast, tIret, tZret, tVret, tAret, tIf, tIf2, tGoto, tIstore, tAstore, sset, tIinc, tDup, tDup2, tPop, tPutI, tPutZ, tPutR, tCallV, tCallS, popN, tFn, tCopy, tMax, tMin, tSw, swc, tRem, tObjI, Option.toList, List.nil_append, List.cons_append, okR, true_and, and_true, true_or, or_true, Nat.zero_le, ne_eq, not_false_eq_true, Nat.reduceEqDiff, tPush, tGetX]
  exact ⟨fun c => absurd c (by decide), fun _ => ⟨fun c => absurd trivial c, fun _ => h⟩⟩
theorem f_J0_length (hZ : ZX Z) (h : Rp (some (.int (nI 103))) S μ ρ) : MS Z (d + 2) jJ0_length_8abf5 [.float 1] S μ ρ Rp := by
  refine ms_J0_length_8abf5 hZ (fun G => ?_)
  simp only [w_J0_length_8abf5_0, tAload, tIload, nth, tGetI, tGetR, tConst, tLconst, tBin, tUn, tI2l, tAld, tAldR, tAlen, tIast, tBast, tZast, tAast, tIret, tZret, tVret, tAret, tIf, tIf2, tGoto, tIstore, tAstore, sset, tIinc, tDup, tDup2, tPop, tPutI, tPutZ, tPutR, tCallV, tCallS, popN, tFn, tCopy, tMax, tMin, tSw, swc, tRem, tObjI, Option.toList, List.nil_append, List.cons_append, okR, true_and, and_true, true_or, or_true, Nat.zero_le, ne_eq, not_false_eq_true, Nat.reduceEqDiff, tGetX, tAlenX, tCallX]
  refine f_J0_coder hZ ?_
  show Rp (some (.int (Int32.ofNat 103 >>> ((0 : Int32) &&& 31)))) S μ ρ
  rw [show Int32.ofNat 103 >>> ((0 : Int32) &&& 31) = nI 103 from by decide]
  exact h
theorem f_J3_check (hZ : ZX Z) {i n : Nat} (hi : i < n) (hn : n < 2 ^ 31) {v : Value} (hv : v = .null ∨ v = .float 3) (h : Rp (some (.int (nI i))) S μ ρ) : MS Z (d + 1) jJ3_checkIndex_8e157 [.int (nI i), .int (nI n), v] S μ ρ Rp := by
  have go : ∀ (G : Nat → PT) (w : Value), w_J3_checkIndex_8e157_0 (MS Z d) G Rp [.int (nI i), .int (nI n), w] [] S (0, 0) μ ρ := by
    intro G w
    simp only [w_J3_checkIndex_8e157_0, w_J3_checkIndex_8e157_9, w_J3_checkIndex_8e157_16, tAload, tIload, nth, tGetI, tGetR, tConst, tLconst, tBin, tUn, tI2l, tAld, tAldR, tAlen, tIast, tBast, tZast, tAast, tIret, tZret, tVret, tAret, tIf, tIf2, tGoto, tIstore, tAstore, sset, tIinc, tDup, tDup2, tPop, tPutI, tPutZ, tPutR, tCallV, tCallS, popN, tFn, tCopy, tMax, tMin, tSw, swc, tRem, tObjI, Option.toList, List.nil_append, List.cons_append, okR, true_and, and_true, true_or, or_true, Nat.zero_le, ne_eq, not_false_eq_true, Nat.reduceEqDiff, tBad]
    exact ⟨fun c => absurd c (nI_pos (by omega)), fun _ => ⟨fun _ => h, fun c => c (by rw [nI_ltI (by omega) (by omega)]; exact hi)⟩⟩
  rcases hv with rfl | rfl
  · exact ms_J3_checkIndex_n hZ _ _ (fun G => go G _)
  · exact ms_J3_checkIndex_8e157 hZ _ _ (fun G => go G _)
theorem f_J0_check (hZ : ZX Z) {i n : Nat} (hi : i < n) (hn : n < 2 ^ 31) (h : Rp none S μ ρ) : MS Z (d + 2) jJ0_checkIndex_df160 [.int (nI i), .int (nI n)] S μ ρ Rp := by
  refine ms_J0_checkIndex_df160 hZ _ _ (fun G => ?_)
  simp only [w_J0_checkIndex_df160_0, tAload, tIload, nth, tGetI, tGetR, tConst, tLconst, tBin, tUn, tI2l, tAld, tAldR, tAlen, tIast, tBast, tZast, tAast, tIret, tZret, tVret, tAret, tIf, tIf2, tGoto, tIstore, tAstore, sset, tIinc, tDup, tDup2, tPop, tPutI, tPutZ, tPutR, tCallV, tCallS, popN, tFn, tCopy, tMax, tMin, tSw, swc, tRem, tObjI, Option.toList, List.nil_append, List.cons_append, okR, true_and, and_true, true_or, or_true, Nat.zero_le, ne_eq, not_false_eq_true, Nat.reduceEqDiff, tPushF]
  exact ⟨f_J3_check hZ hi hn (Or.inl rfl) h, f_J3_check hZ hi hn (Or.inr rfl) h⟩
theorem wd_ch : ∀ i : Fin 103, ((wdT i.val &&& 255).toUInt32 % 65536).toInt32 = wdT i.val := by decide +kernel
theorem f_J1_charAt (hZ : ZX Z) {i : Nat} (hi : i < 103) (h : Rp (some (.int (wdT i))) S μ ρ) : MS Z (d + 3) jJ1_charAt_3b067 [.float 2, .int (nI i)] S μ ρ Rp := by
  refine ms_J1_charAt_3b067 hZ _ (fun G => ?_)
  simp only [w_J1_charAt_3b067_0, tAload, tIload, nth, tGetI, tGetR, tConst, tLconst, tBin, tUn, tI2l, tAld, tAldR, tAlen, tIast, tBast, tZast, tAast, tIret, tZret, tVret, tAret, tIf, tIf2, tGoto, tIstore, tAstore, sset, tIinc, tDup, tDup2, tPop, tPutI, tPutZ, tPutR, tCallV, tCallS, popN, tFn, tCopy, tMax, tMin, tSw, swc, tRem, tObjI, Option.toList, List.nil_append, List.cons_append, okR, true_and, and_true, true_or, or_true, Nat.zero_le, ne_eq, not_false_eq_true, Nat.reduceEqDiff, tAlenX, tLdX, tNret]
  refine f_J0_check (n := 103) hZ hi (by decide) ?_
  have e := wd_ch ⟨i, hi⟩
  dsimp only at e
  rw [nI_clamp (by omega), e]
  refine ⟨inb_nI hi (by decide), ?_, h⟩
  show Value.int ((wdT i).toUInt32 % 65536).toInt32 = _
  have e2 : ∀ i : Fin 103, ((wdT i.val).toUInt32 % 65536).toInt32 = wdT i.val := by decide +kernel
  rw [e2 ⟨i, hi⟩]
theorem f_J0_charAt (hZ : ZX Z) {i : Nat} (hi : i < 103) (h : Rp (some (.int (wdT i))) S μ ρ) : MS Z (d + 5) jJ0_charAt_5068e [.float 1, .int (nI i)] S μ ρ Rp := by
  refine ms_J0_charAt_5068e hZ _ (fun G => ?_)
  simp only [w_J0_charAt_5068e_0, tAload, tIload, nth, tGetI, tGetR, tConst, tLconst, tBin, tUn, tI2l, tAld, tAldR, tAlen, tIast, tBast, tZast, tAast, tIret, tZret, tVret, tAret, tIf, tIf2, tGoto, tIstore, tAstore, sset, tIinc, tDup, tDup2, tPop, tPutI, tPutZ, tPutR, tCallV, tCallS, popN, tFn, tCopy, tMax, tMin, tSw, swc, tRem, tObjI, Option.toList, List.nil_append, List.cons_append, okR, true_and, and_true, true_or, or_true, Nat.zero_le, ne_eq, not_false_eq_true, Nat.reduceEqDiff, tGetX, tCallX, tNret]
  refine f_J0_isLatin1 (d := d + 3) hZ ?_
  refine ⟨fun c => absurd c (by decide), fun _ => ⟨trivial, ?_⟩⟩
  refine f_J1_charAt (d := d + 1) hZ hi ?_
  show narrow .char (.int (wdT i)) = .int (wdT i) ∧ Rp (some (.int (wdT i))) S μ ρ
  refine ⟨?_, h⟩
  show Value.int ((wdT i).toUInt32 % 65536).toInt32 = _
  have e2 : ∀ i : Fin 103, ((wdT i.val).toUInt32 % 65536).toInt32 = wdT i.val := by decide +kernel
  rw [e2 ⟨i, hi⟩]
end Txt
