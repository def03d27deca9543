def w_X12_installed_0 (M : CT) (G : Nat → PT) (Rp : RT) : PT := tAload 0 <| tIload 1 <| tIload 2 <| tCallV M jX12_hears 12 27 2 <| tIload 3 <| tIf (fun x => x ≠ 0) (G 11) <| tVret Rp
def w_X12_installed_11 (M : CT) (G : Nat → PT) (Rp : RT) : PT := tAload 0 <| tIload 1 <| tConst 29 <| tIload 2 <| tBin (fun x y => x + y) <| tAload 0 <| tIload 1 <| tConst 29 <| tIload 2 <| tBin (fun x y => x + y) <| tCallV M jX12_of 12 27 2 <| tIload 3 <| tCallS M jX12_greater 2 <| tCallV M jX12_lays 12 27 3 <| tAload 0 <| tIload 1 <| tConst 24 <| tIload 2 <| tBin (fun x y => x + y) <| tAload 0 <| tIload 1 <| tConst 24 <| tIload 2 <| tBin (fun x y => x + y) <| tCallV M jX12_of 12 27 2 <| tAload 0 <| tIload 1 <| tConst 29 <| tIload 2 <| tBin (fun x y => x + y) <| tCallV M jX12_of 12 27 2 <| tConst 1 <| tBin (fun x y => x + y) <| tCallS M jX12_greater 2 <| tCallV M jX12_lays 12 27 3 <| tAload 0 <| tIload 1 <| tIload 2 <| tCallV M jX12_goesOn 12 27 2 <| tVret Rp
set_option maxRecDepth 20000 in
theorem b_X12_installed_0 {Z : Zt} {d : Nat} {p : Program} {e : Env} {R : Room} {s : State} {m : MethodId} {args : Array Value} {below : List Frame} {meth : Method} {c : Code} {Rp : RT} (C : Cx Z d jX12_installed RX12 p R s m args meth c) : Sd Z jX12_installed p e R s m args below meth c (MQ below (QcS Z Rp) args s 0 0 (fun a => Z.2.2.1 < a)) 0 (w_X12_installed_0 (MS Z d) (Gw Z 4 p e R s m args below meth c (MQ below (QcS Z Rp) args s 0 0 (fun a => Z.2.2.1 < a))) Rp) := by
  unfold w_X12_installed_0
  refine s_aload_n (k := 0) C (by decide +kernel) ?_
  refine s_iload_n (k := 1) C (by decide +kernel) ?_
  refine s_iload_n (k := 2) C (by decide +kernel) ?_
  refine s_callV C rfl rfl (by decide +kernel) rfl w_7_208 w_7_210 w_p6_6 w_1_13 w_7_211 (by decide +kernel) ?_
  refine s_iload_n (k := 3) C (by decide +kernel) ?_
  refine s_if_ne (off := 4) (tgt := 11) C (by decide +kernel) (by decide) (fun _ _ _ _ _ _ h => h) ?_
  exact s_vret C rfl (by decide +kernel)
set_option maxRecDepth 20000 in
theorem b_X12_installed_11 {Z : Zt} {d : Nat} {p : Program} {e : Env} {R : Room} {s : State} {m : MethodId} {args : Array Value} {below : List Frame} {meth : Method} {c : Code} {Rp : RT} (C : Cx Z d jX12_installed RX12 p R s m args meth c) : Sd Z jX12_installed p e R s m args below meth c (MQ below (QcS Z Rp) args s 0 0 (fun a => Z.2.2.1 < a)) 11 (w_X12_installed_11 (MS Z d) (Gw Z 4 p e R s m args below meth c (MQ below (QcS Z Rp) args s 0 0 (fun a => Z.2.2.1 < a))) Rp) := by
  unfold w_X12_installed_11
  refine s_aload_n (k := 0) C (by decide +kernel) ?_
  refine s_iload_n (k := 1) C (by decide +kernel) ?_
  refine s_bipush (n := 29) C (by decide +kernel) (by decide) ?_
  refine s_iload_n (k := 2) C (by decide +kernel) ?_
  refine s_iadd C (by decide +kernel) ?_
  refine s_aload_n (k := 0) C (by decide +kernel) ?_
  refine s_iload_n (k := 1) C (by decide +kernel) ?_
  refine s_bipush (n := 29) C (by decide +kernel) (by decide) ?_
  refine s_iload_n (k := 2) C (by decide +kernel) ?_
  refine s_iadd C (by decide +kernel) ?_
  refine s_callV C rfl rfl (by decide +kernel) rfl w_6_220 w_6_222 w_p3_11 w_1_13 w_6_223 (by decide +kernel) ?_
  refine s_iload_n (k := 3) C (by decide +kernel) ?_
  refine s_callS C (by decide +kernel) rfl w_7_58 w_7_59 w_1_13 w_7_60 (by decide +kernel) ?_
  refine s_callV C rfl rfl (by decide +kernel) rfl w_6_82 w_6_84 w_p3_4 w_1_13 w_6_85 (by decide +kernel) ?_
  refine s_aload_n (k := 0) C (by decide +kernel) ?_
  refine s_iload_n (k := 1) C (by decide +kernel) ?_
  refine s_bipush (n := 24) C (by decide +kernel) (by decide) ?_
  refine s_iload_n (k := 2) C (by decide +kernel) ?_
  refine s_iadd C (by decide +kernel) ?_
  refine s_aload_n (k := 0) C (by decide +kernel) ?_
  refine s_iload_n (k := 1) C (by decide +kernel) ?_
  refine s_bipush (n := 24) C (by decide +kernel) (by decide) ?_
  refine s_iload_n (k := 2) C (by decide +kernel) ?_
  refine s_iadd C (by decide +kernel) ?_
  refine s_callV C rfl rfl (by decide +kernel) rfl w_6_220 w_6_222 w_p3_11 w_1_13 w_6_223 (by decide +kernel) ?_
  refine s_aload_n (k := 0) C (by decide +kernel) ?_
  refine s_iload_n (k := 1) C (by decide +kernel) ?_
  refine s_bipush (n := 29) C (by decide +kernel) (by decide) ?_
  refine s_iload_n (k := 2) C (by decide +kernel) ?_
  refine s_iadd C (by decide +kernel) ?_
  refine s_callV C rfl rfl (by decide +kernel) rfl w_6_220 w_6_222 w_p3_11 w_1_13 w_6_223 (by decide +kernel) ?_
  refine s_iconst (n := 1) C (by decide +kernel) (by decide) ?_
  refine s_iadd C (by decide +kernel) ?_
  refine s_callS C (by decide +kernel) rfl w_7_58 w_7_59 w_1_13 w_7_60 (by decide +kernel) ?_
  refine s_callV C rfl rfl (by decide +kernel) rfl w_6_82 w_6_84 w_p3_4 w_1_13 w_6_85 (by decide +kernel) ?_
  refine s_aload_n (k := 0) C (by decide +kernel) ?_
  refine s_iload_n (k := 1) C (by decide +kernel) ?_
  refine s_iload_n (k := 2) C (by decide +kernel) ?_
  refine s_callV C rfl rfl (by decide +kernel) rfl w_7_212 w_7_214 w_p6_7 w_1_13 w_7_215 (by decide +kernel) ?_
  exact s_vret C rfl (by decide +kernel)
theorem ms_X12_installed {Z : Zt} {d : Nat} {S : Sh} {μ : Mi} {ρ : Mr} {Rp : RT} (a0 : Nat) (x1 : Int32) (x2 : Int32) (x3 : Int32) (h : ∀ G : Nat → PT, (∀ (L st : List Value) (S : Sh) (q : Nat × Nat) (μ : Mi) (ρ : Mr), w_X12_installed_11 (MS Z d) G Rp L st S q μ ρ → G 11 L st S q μ ρ) → w_X12_installed_0 (MS Z d) G Rp [.ref a0, .int x1, .int x2, .int x3] [] S (0, 0) μ ρ) : MS Z (d + 1) jX12_installed [.ref a0, .int x1, .int x2, .int x3] S μ ρ Rp :=
  MS_of [.ref a0, .int x1, .int x2, .int x3] (by decide +kernel) rfl rfl (Nat.le_of_ble_eq_true rfl) rfl (fun p e R s m args below meth c C => b_X12_installed_0 C _ _ _ _ _ _ (h _ (b_X12_installed_11 C)))
def w_X12_settles_0 (M : CT) (G : Nat → PT) (Rp : RT) : PT := tConst 0 <| tIstore 2 <| G 2
def w_X12_settles_2 (M : CT) (G : Nat → PT) (Rp : RT) : PT := tIload 2 <| tIload 1 <| tIf2 (fun x y => y ≤ x) (G 30) <| tAload 0 <| tGetR 12 27 1 <| tConst 4510 <| tAld 20 <| tIf (fun x => x ≤ 0) (G 30) <| tAload 0 <| tConst 0 <| tCallV M jX12_comes 12 27 1 <| tIstore 3 <| tIinc 2 1 <| tGoto (G 2)
def w_X12_settles_30 (M : CT) (G : Nat → PT) (Rp : RT) : PT := tIload 2 <| tIret Rp
set_option maxRecDepth 20000 in
theorem b_X12_settles_0 {Z : Zt} {d : Nat} {p : Program} {e : Env} {R : Room} {s : State} {m : MethodId} {args : Array Value} {below : List Frame} {meth : Method} {c : Code} {Rp : RT} (C : Cx Z d jX12_settles RX12 p R s m args meth c) : Sd Z jX12_settles p e R s m args below meth c (MQ below (QcS Z Rp) args s 0 0 (fun a => Z.2.2.1 < a)) 0 (w_X12_settles_0 (MS Z d) (Gw Z 4 p e R s m args below meth c (MQ below (QcS Z Rp) args s 0 0 (fun a => Z.2.2.1 < a))) Rp) := by
  unfold w_X12_settles_0
  refine s_iconst (n := 0) C (by decide +kernel) (by decide) ?_
  refine s_istore_n (k := 2) C (by decide +kernel) ?_
  exact (fun _ _ _ _ _ _ h => h)
set_option maxRecDepth 20000 in
theorem b_X12_settles_2 {Z : Zt} {d : Nat} {p : Program} {e : Env} {R : Room} {s : State} {m : MethodId} {args : Array Value} {below : List Frame} {meth : Method} {c : Code} {Rp : RT} (C : Cx Z d jX12_settles RX12 p R s m args meth c) : Sd Z jX12_settles p e R s m args below meth c (MQ below (QcS Z Rp) args s 0 0 (fun a => Z.2.2.1 < a)) 2 (w_X12_settles_2 (MS Z d) (Gw Z 4 p e R s m args below meth c (MQ below (QcS Z Rp) args s 0 0 (fun a => Z.2.2.1 < a))) Rp) := by
  unfold w_X12_settles_2
  refine s_iload_n (k := 2) C (by decide +kernel) ?_
  refine s_iload_n (k := 1) C (by decide +kernel) ?_
  refine s_icmp_ge (off := 26) (tgt := 30) C (by decide +kernel) (by decide) (fun _ _ _ _ _ _ h => h) ?_
  refine s_aload_n (k := 0) C (by decide +kernel) ?_
  refine s_getR C w_6_88 (by decide +kernel) rfl ?_
  refine s_sipush (n := 4510) C (by decide +kernel) (by decide) ?_
  refine s_iald C (by decide +kernel) ?_
  refine s_if_le (off := 15) (tgt := 30) C (by decide +kernel) (by decide) (fun _ _ _ _ _ _ h => h) ?_
  refine s_aload_n (k := 0) C (by decide +kernel) ?_
  refine s_iconst (n := 0) C (by decide +kernel) (by decide) ?_
  refine s_callV C rfl rfl (by decide +kernel) rfl w_7_172 w_7_174 w_p5_13 w_1_13 w_7_175 (by decide +kernel) ?_
  refine s_istore_n (k := 3) C (by decide +kernel) ?_
  refine s_iinc (n := 1) C (by decide +kernel) (by decide) ?_
  exact s_goto (off := (-25)) (tgt := 2) C (by decide +kernel) (by decide) (fun _ _ _ _ _ _ h => h)
set_option maxRecDepth 20000 in
theorem b_X12_settles_30 {Z : Zt} {d : Nat} {p : Program} {e : Env} {R : Room} {s : State} {m : MethodId} {args : Array Value} {below : List Frame} {meth : Method} {c : Code} {Rp : RT} (C : Cx Z d jX12_settles RX12 p R s m args meth c) : Sd Z jX12_settles p e R s m args below meth c (MQ below (QcS Z Rp) args s 0 0 (fun a => Z.2.2.1 < a)) 30 (w_X12_settles_30 (MS Z d) (Gw Z 4 p e R s m args below meth c (MQ below (QcS Z Rp) args s 0 0 (fun a => Z.2.2.1 < a))) Rp) := by
  unfold w_X12_settles_30
  refine s_iload_n (k := 2) C (by decide +kernel) ?_
  exact s_iret C rfl (by decide +kernel)
theorem ms_X12_settles {Z : Zt} {d : Nat} {S : Sh} {μ : Mi} {ρ : Mr} {Rp : RT} (a0 : Nat) (x1 : Int32) (h : ∀ G : Nat → PT, (∀ (L st : List Value) (S : Sh) (q : Nat × Nat) (μ : Mi) (ρ : Mr), w_X12_settles_2 (MS Z d) G Rp L st S q μ ρ → G 2 L st S q μ ρ) → (∀ (L st : List Value) (S : Sh) (q : Nat × Nat) (μ : Mi) (ρ : Mr), w_X12_settles_30 (MS Z d) G Rp L st S q μ ρ → G 30 L st S q μ ρ) → w_X12_settles_0 (MS Z d) G Rp [.ref a0, .int x1, .null, .null] [] S (0, 0) μ ρ) : MS Z (d + 1) jX12_settles [.ref a0, .int x1] S μ ρ Rp :=
  MS_of [.ref a0, .int x1, .null, .null] (by decide +kernel) rfl rfl (Nat.le_of_ble_eq_true rfl) rfl (fun p e R s m args below meth c C => b_X12_settles_0 C _ _ _ _ _ _ (h _ (b_X12_settles_2 C) (b_X12_settles_30 C)))
def w_X12_actTimeout_0 (M : CT) (G : Nat → PT) (Rp : RT) : PT := tIload 1 <| tCallS M jX12_isStore 1 <| tIf (fun x => x ≠ 0) (G 10) <| tConst (-2) <| tIret Rp
def w_X12_actTimeout_10 (M : CT) (G : Nat → PT) (Rp : RT) : PT := tAload 0 <| tIload 1 <| tCallV M jX12_whyNot 12 27 1 <| tIf (fun x => x = 0) (G 21) <| tConst (-5) <| tIret Rp
def w_X12_actTimeout_21 (M : CT) (G : Nat → PT) (Rp : RT) : PT := tAload 0 <| tIload 1 <| tCallV M jX12_asks 12 27 1 <| tAload 0 <| tIload 1 <| tConst 1 <| tCallV M jX12_of 12 27 2 <| tIret Rp
set_option maxRecDepth 20000 in
theorem b_X12_actTimeout_0 {Z : Zt} {d : Nat} {p : Program} {e : Env} {R : Room} {s : State} {m : MethodId} {args : Array Value} {below : List Frame} {meth : Method} {c : Code} {Rp : RT} (C : Cx Z d jX12_actTimeout RX12 p R s m args meth c) : Sd Z jX12_actTimeout p e R s m args below meth c (MQ below (QcS Z Rp) args s 0 0 (fun a => Z.2.2.1 < a)) 0 (w_X12_actTimeout_0 (MS Z d) (Gw Z 2 p e R s m args below meth c (MQ below (QcS Z Rp) args s 0 0 (fun a => Z.2.2.1 < a))) Rp) := by
  unfold w_X12_actTimeout_0
  refine s_iload_n (k := 1) C (by decide +kernel) ?_
  refine s_callS C (by decide +kernel) rfl w_6_208 w_6_209 w_1_13 w_6_210 (by decide +kernel) ?_
  refine s_if_ne (off := 6) (tgt := 10) C (by decide +kernel) (by decide) (fun _ _ _ _ _ _ h => h) ?_
  refine s_bipush (n := (-2)) C (by decide +kernel) (by decide) ?_
  exact s_iret C rfl (by decide +kernel)
set_option maxRecDepth 20000 in
theorem b_X12_actTimeout_10 {Z : Zt} {d : Nat} {p : Program} {e : Env} {R : Room} {s : State} {m : MethodId} {args : Array Value} {below : List Frame} {meth : Method} {c : Code} {Rp : RT} (C : Cx Z d jX12_actTimeout RX12 p R s m args meth c) : Sd Z jX12_actTimeout p e R s m args below meth c (MQ below (QcS Z Rp) args s 0 0 (fun a => Z.2.2.1 < a)) 10 (w_X12_actTimeout_10 (MS Z d) (Gw Z 2 p e R s m args below meth c (MQ below (QcS Z Rp) args s 0 0 (fun a => Z.2.2.1 < a))) Rp) := by
  unfold w_X12_actTimeout_10
  refine s_aload_n (k := 0) C (by decide +kernel) ?_
  refine s_iload_n (k := 1) C (by decide +kernel) ?_
  refine s_callV C rfl rfl (by decide +kernel) rfl w_6_212 w_6_214 w_p3_9 w_1_13 w_6_215 (by decide +kernel) ?_
  refine s_if_eq (off := 6) (tgt := 21) C (by decide +kernel) (by decide) (fun _ _ _ _ _ _ h => h) ?_
  refine s_bipush (n := (-5)) C (by decide +kernel) (by decide) ?_
  exact s_iret C rfl (by decide +kernel)
set_option maxRecDepth 20000 in
theorem b_X12_actTimeout_21 {Z : Zt} {d : Nat} {p : Program} {e : Env} {R : Room} {s : State} {m : MethodId} {args : Array Value} {below : List Frame} {meth : Method} {c : Code} {Rp : RT} (C : Cx Z d jX12_actTimeout RX12 p R s m args meth c) : Sd Z jX12_actTimeout p e R s m args below meth c (MQ below (QcS Z Rp) args s 0 0 (fun a => Z.2.2.1 < a)) 21 (w_X12_actTimeout_21 (MS Z d) (Gw Z 2 p e R s m args below meth c (MQ below (QcS Z Rp) args s 0 0 (fun a => Z.2.2.1 < a))) Rp) := by
  unfold w_X12_actTimeout_21
  refine s_aload_n (k := 0) C (by decide +kernel) ?_
  refine s_iload_n (k := 1) C (by decide +kernel) ?_
  refine s_callV C rfl rfl (by decide +kernel) rfl w_7_3 w_7_5 w_p4_0 w_1_13 w_7_6 (by decide +kernel) ?_
  refine s_aload_n (k := 0) C (by decide +kernel) ?_
  refine s_iload_n (k := 1) C (by decide +kernel) ?_
  refine s_iconst (n := 1) C (by decide +kernel) (by decide) ?_
  refine s_callV C rfl rfl (by decide +kernel) rfl w_6_220 w_6_222 w_p3_11 w_1_13 w_6_223 (by decide +kernel) ?_
  exact s_iret C rfl (by decide +kernel)
theorem ms_X12_actTimeout {Z : Zt} {d : Nat} {S : Sh} {μ : Mi} {ρ : Mr} {Rp : RT} (a0 : Nat) (x1 : Int32) (h : ∀ G : Nat → PT, (∀ (L st : List Value) (S : Sh) (q : Nat × Nat) (μ : Mi) (ρ : Mr), w_X12_actTimeout_10 (MS Z d) G Rp L st S q μ ρ → G 10 L st S q μ ρ) → (∀ (L st : List Value) (S : Sh) (q : Nat × Nat) (μ : Mi) (ρ : Mr), w_X12_actTimeout_21 (MS Z d) G Rp L st S q μ ρ → G 21 L st S q μ ρ) → w_X12_actTimeout_0 (MS Z d) G Rp [.ref a0, .int x1] [] S (0, 0) μ ρ) : MS Z (d + 1) jX12_actTimeout [.ref a0, .int x1] S μ ρ Rp :=
  MS_of [.ref a0, .int x1] (by decide +kernel) rfl rfl (Nat.le_of_ble_eq_true rfl) rfl (fun p e R s m args below meth c C => b_X12_actTimeout_0 C _ _ _ _ _ _ (h _ (b_X12_actTimeout_10 C) (b_X12_actTimeout_21 C)))
def w_X12_actBeat_0 (M : CT) (G : Nat → PT) (Rp : RT) : PT := tIload 1 <| tCallS M jX12_isStore 1 <| tIf (fun x => x ≠ 0) (G 10) <| tConst (-2) <| tIret Rp
def w_X12_actBeat_10 (M : CT) (G : Nat → PT) (Rp : RT) : PT := tAload 0 <| tIload 1 <| tCallV M jX12_isLeader 12 27 1 <| tIf (fun x => x ≠ 0) (G 21) <| tConst (-5) <| tIret Rp
def w_X12_actBeat_21 (M : CT) (G : Nat → PT) (Rp : RT) : PT := tAload 0 <| tIload 1 <| tCallV M jX12_feedsAll 12 27 1 <| tAload 0 <| tGetR 12 27 1 <| tConst 4510 <| tAld 20 <| tIret Rp
set_option maxRecDepth 20000 in
theorem b_X12_actBeat_0 {Z : Zt} {d : Nat} {p : Program} {e : Env} {R : Room} {s : State} {m : MethodId} {args : Array Value} {below : List Frame} {meth : Method} {c : Code} {Rp : RT} (C : Cx Z d jX12_actBeat RX12 p R s m args meth c) : Sd Z jX12_actBeat p e R s m args below meth c (MQ below (QcS Z Rp) args s 0 0 (fun a => Z.2.2.1 < a)) 0 (w_X12_actBeat_0 (MS Z d) (Gw Z 2 p e R s m args below meth c (MQ below (QcS Z Rp) args s 0 0 (fun a => Z.2.2.1 < a))) Rp) := by
  unfold w_X12_actBeat_0
  refine s_iload_n (k := 1) C (by decide +kernel) ?_
  refine s_callS C (by decide +kernel) rfl w_6_208 w_6_209 w_1_13 w_6_210 (by decide +kernel) ?_
  refine s_if_ne (off := 6) (tgt := 10) C (by decide +kernel) (by decide) (fun _ _ _ _ _ _ h => h) ?_
  refine s_bipush (n := (-2)) C (by decide +kernel) (by decide) ?_
  exact s_iret C rfl (by decide +kernel)
set_option maxRecDepth 20000 in
theorem b_X12_actBeat_10 {Z : Zt} {d : Nat} {p : Program} {e : Env} {R : Room} {s : State} {m : MethodId} {args : Array Value} {below : List Frame} {meth : Method} {c : Code} {Rp : RT} (C : Cx Z d jX12_actBeat RX12 p R s m args meth c) : Sd Z jX12_actBeat p e R s m args below meth c (MQ below (QcS Z Rp) args s 0 0 (fun a => Z.2.2.1 < a)) 10 (w_X12_actBeat_10 (MS Z d) (Gw Z 2 p e R s m args below meth c (MQ below (QcS Z Rp) args s 0 0 (fun a => Z.2.2.1 < a))) Rp) := by
  unfold w_X12_actBeat_10
  refine s_aload_n (k := 0) C (by decide +kernel) ?_
  refine s_iload_n (k := 1) C (by decide +kernel) ?_
  refine s_callV C rfl rfl (by decide +kernel) rfl w_6_236 w_6_238 w_p3_15 w_1_13 w_6_239 (by decide +kernel) ?_
  refine s_if_ne (off := 6) (tgt := 21) C (by decide +kernel) (by decide) (fun _ _ _ _ _ _ h => h) ?_
  refine s_bipush (n := (-5)) C (by decide +kernel) (by decide) ?_
  exact s_iret C rfl (by decide +kernel)
set_option maxRecDepth 20000 in
theorem b_X12_actBeat_21 {Z : Zt} {d : Nat} {p : Program} {e : Env} {R : Room} {s : State} {m : MethodId} {args : Array Value} {below : List Frame} {meth : Method} {c : Code} {Rp : RT} (C : Cx Z d jX12_actBeat RX12 p R s m args meth c) : Sd Z jX12_actBeat p e R s m args below meth c (MQ below (QcS Z Rp) args s 0 0 (fun a => Z.2.2.1 < a)) 21 (w_X12_actBeat_21 (MS Z d) (Gw Z 2 p e R s m args below meth c (MQ below (QcS Z Rp) args s 0 0 (fun a => Z.2.2.1 < a))) Rp) := by
  unfold w_X12_actBeat_21
  refine s_aload_n (k := 0) C (by decide +kernel) ?_
  refine s_iload_n (k := 1) C (by decide +kernel) ?_
  refine s_callV C rfl rfl (by decide +kernel) rfl w_7_47 w_7_49 w_p4_11 w_1_13 w_7_50 (by decide +kernel) ?_
  refine s_aload_n (k := 0) C (by decide +kernel) ?_
  refine s_getR C w_6_88 (by decide +kernel) rfl ?_
  refine s_sipush (n := 4510) C (by decide +kernel) (by decide) ?_
  refine s_iald C (by decide +kernel) ?_
  exact s_iret C rfl (by decide +kernel)
theorem ms_X12_actBeat {Z : Zt} {d : Nat} {S : Sh} {μ : Mi} {ρ : Mr} {Rp : RT} (a0 : Nat) (x1 : Int32) (h : ∀ G : Nat → PT, (∀ (L st : List Value) (S : Sh) (q : Nat × Nat) (μ : Mi) (ρ : Mr), w_X12_actBeat_10 (MS Z d) G Rp L st S q μ ρ → G 10 L st S q μ ρ) → (∀ (L st : List Value) (S : Sh) (q : Nat × Nat) (μ : Mi) (ρ : Mr), w_X12_actBeat_21 (MS Z d) G Rp L st S q μ ρ → G 21 L st S q μ ρ) → w_X12_actBeat_0 (MS Z d) G Rp [.ref a0, .int x1] [] S (0, 0) μ ρ) : MS Z (d + 1) jX12_actBeat [.ref a0, .int x1] S μ ρ Rp :=
  MS_of [.ref a0, .int x1] (by decide +kernel) rfl rfl (Nat.le_of_ble_eq_true rfl) rfl (fun p e R s m args below meth c C => b_X12_actBeat_0 C _ _ _ _ _ _ (h _ (b_X12_actBeat_10 C) (b_X12_actBeat_21 C)))
def w_X12_proposes_0 (M : CT) (G : Nat → PT) (Rp : RT) : PT := tAload 0 <| tIload 1 <| tAload 0 <| tIload 1 <| tConst 1 <| tCallV M jX12_of 12 27 2 <| tIload 2 <| tIload 3 <| tIload 4 <| tCallV M jX12_comesToLog 12 27 5 <| tAload 0 <| tIload 1 <| tConst 4 <| tCallV M jX12_of 12 27 2 <| tIstore 5 <| tAload 0 <| tIload 1 <| tCallV M jX12_feedsAll 12 27 1 <| tAload 0 <| tIload 1 <| tCallV M jX12_agrees 12 27 1 <| tIload 5 <| tIret Rp
set_option maxRecDepth 20000 in
theorem b_X12_proposes_0 {Z : Zt} {d : Nat} {p : Program} {e : Env} {R : Room} {s : State} {m : MethodId} {args : Array Value} {below : List Frame} {meth : Method} {c : Code} {Rp : RT} (C : Cx Z d jX12_proposes RX12 p R s m args meth c) : Sd Z jX12_proposes p e R s m args below meth c (MQ below (QcS Z Rp) args s 0 0 (fun a => Z.2.2.1 < a)) 0 (w_X12_proposes_0 (MS Z d) (Gw Z 6 p e R s m args below meth c (MQ below (QcS Z Rp) args s 0 0 (fun a => Z.2.2.1 < a))) Rp) := by
  unfold w_X12_proposes_0
  refine s_aload_n (k := 0) C (by decide +kernel) ?_
  refine s_iload_n (k := 1) C (by decide +kernel) ?_
  refine s_aload_n (k := 0) C (by decide +kernel) ?_
  refine s_iload_n (k := 1) C (by decide +kernel) ?_
  refine s_iconst (n := 1) C (by decide +kernel) (by decide) ?_
  refine s_callV C rfl rfl (by decide +kernel) rfl w_6_220 w_6_222 w_p3_11 w_1_13 w_6_223 (by decide +kernel) ?_
  refine s_iload_n (k := 2) C (by decide +kernel) ?_
  refine s_iload_n (k := 3) C (by decide +kernel) ?_
  refine s_iload (k := 4) C (by decide +kernel) ?_
  refine s_callV C rfl rfl (by decide +kernel) rfl w_7_43 w_7_45 w_p4_10 w_1_13 w_7_46 (by decide +kernel) ?_
  refine s_aload_n (k := 0) C (by decide +kernel) ?_
  refine s_iload_n (k := 1) C (by decide +kernel) ?_
  refine s_iconst (n := 4) C (by decide +kernel) (by decide) ?_
  refine s_callV C rfl rfl (by decide +kernel) rfl w_6_220 w_6_222 w_p3_11 w_1_13 w_6_223 (by decide +kernel) ?_
  refine s_istore (k := 5) C (by decide +kernel) ?_
  refine s_aload_n (k := 0) C (by decide +kernel) ?_
  refine s_iload_n (k := 1) C (by decide +kernel) ?_
  refine s_callV C rfl rfl (by decide +kernel) rfl w_7_47 w_7_49 w_p4_11 w_1_13 w_7_50 (by decide +kernel) ?_
  refine s_aload_n (k := 0) C (by decide +kernel) ?_
  refine s_iload_n (k := 1) C (by decide +kernel) ?_
  refine s_callV C rfl rfl (by decide +kernel) rfl w_7_61 w_7_63 w_p4_13 w_1_13 w_7_64 (by decide +kernel) ?_
  refine s_iload (k := 5) C (by decide +kernel) ?_
  exact s_iret C rfl (by decide +kernel)
theorem ms_X12_proposes {Z : Zt} {d : Nat} {S : Sh} {μ : Mi} {ρ : Mr} {Rp : RT} (a0 : Nat) (x1 : Int32) (x2 : Int32) (x3 : Int32) (x4 : Int32) (h : ∀ G : Nat → PT, w_X12_proposes_0 (MS Z d) G Rp [.ref a0, .int x1, .int x2, .int x3, .int x4, .null] [] S (0, 0) μ ρ) : MS Z (d + 1) jX12_proposes [.ref a0, .int x1, .int x2, .int x3, .int x4] S μ ρ Rp :=
  MS_of [.ref a0, .int x1, .int x2, .int x3, .int x4, .null] (by decide +kernel) rfl rfl (Nat.le_of_ble_eq_true rfl) rfl (fun p e R s m args below meth c C => b_X12_proposes_0 C _ _ _ _ _ _ (h _ ))
def w_X12_isCell_0 (M : CT) (G : Nat → PT) (Rp : RT) : PT := tIload 0 <| tI2l <| tLconst 0 <| tLconst 3 <| tCallS M jX12_within 3 <| tZret Rp
set_option maxRecDepth 20000 in
theorem b_X12_isCell_0 {Z : Zt} {d : Nat} {p : Program} {e : Env} {R : Room} {s : State} {m : MethodId} {args : Array Value} {below : List Frame} {meth : Method} {c : Code} {Rp : RT} (C : Cx Z d jX12_isCell RX12 p R s m args meth c) : Sd Z jX12_isCell p e R s m args below meth c (MQ below (QcS Z Rp) args s 0 0 (fun a => Z.2.2.1 < a)) 0 (w_X12_isCell_0 (MS Z d) (Gw Z 1 p e R s m args below meth c (MQ below (QcS Z Rp) args s 0 0 (fun a => Z.2.2.1 < a))) Rp) := by
  unfold w_X12_isCell_0
  refine s_iload_n (k := 0) C (by decide +kernel) ?_
  refine s_i2l C (by decide +kernel) ?_
  refine s_lconst (n := 0) C (by decide +kernel) (by decide) ?_
  refine s_ldc2 C w_7_93 (by decide +kernel) ?_
  refine s_callS C (by decide +kernel) rfl w_6_175 w_6_176 w_1_13 w_6_177 (by decide +kernel) ?_
  exact s_zret C rfl (by decide +kernel)
theorem ms_X12_isCell {Z : Zt} {d : Nat} {S : Sh} {μ : Mi} {ρ : Mr} {Rp : RT} (x1 : Int32) (h : ∀ G : Nat → PT, w_X12_isCell_0 (MS Z d) G Rp [.int x1] [] S (0, 0) μ ρ) : MS Z (d + 1) jX12_isCell [.int x1] S μ ρ Rp :=
  MS_of [.int x1] (by decide +kernel) rfl rfl (Nat.le_of_ble_eq_true rfl) rfl (fun p e R s m args below meth c C => b_X12_isCell_0 C _ _ _ _ _ _ (h _ ))
def w_X12_actPropose_0 (M : CT) (G : Nat → PT) (Rp : RT) : PT := tIload 1 <| tCallS M jX12_isStore 1 <| tIf (fun x => x = 0) (G 26) <| tIload 2 <| tI2l <| tLconst 1 <| tLconst 2 <| tCallS M jX12_within 3 <| tIf (fun x => x = 0) (G 26) <| tIload 3 <| tCallS M jX12_isCell 1 <| tIf (fun x => x ≠ 0) (G 29) <| G 26
def w_X12_actPropose_26 (M : CT) (G : Nat → PT) (Rp : RT) : PT := tConst (-2) <| tIret Rp
def w_X12_actPropose_29 (M : CT) (G : Nat → PT) (Rp : RT) : PT := tIload 4 <| tI2l <| tLconst (-999) <| tLconst 999 <| tCallS M jX12_within 3 <| tIf (fun x => x ≠ 0) (G 47) <| tConst (-3) <| tIret Rp
def w_X12_actPropose_47 (M : CT) (G : Nat → PT) (Rp : RT) : PT := tAload 0 <| tIload 1 <| tCallV M jX12_isLeader 12 27 1 <| tIf (fun x => x ≠ 0) (G 58) <| tConst (-5) <| tIret Rp
def w_X12_actPropose_58 (M : CT) (G : Nat → PT) (Rp : RT) : PT := tAload 0 <| tIload 1 <| tConst 4 <| tCallV M jX12_of 12 27 2 <| tConst 100 <| tIf2 (fun x y => x < y) (G 74) <| tConst (-4) <| tGoto (G 83)
def w_X12_actPropose_74 (M : CT) (G : Nat → PT) (Rp : RT) : PT := tAload 0 <| tIload 1 <| tIload 2 <| tIload 3 <| tIload 4 <| tCallV M jX12_proposes 12 27 4 <| G 83
def w_X12_actPropose_83 (M : CT) (G : Nat → PT) (Rp : RT) : PT := tIret Rp
set_option maxRecDepth 20000 in
theorem b_X12_actPropose_0 {Z : Zt} {d : Nat} {p : Program} {e : Env} {R : Room} {s : State} {m : MethodId} {args : Array Value} {below : List Frame} {meth : Method} {c : Code} {Rp : RT} (C : Cx Z d jX12_actPropose RX12 p R s m args meth c) : Sd Z jX12_actPropose p e R s m args below meth c (MQ below (QcS Z Rp) args s 0 0 (fun a => Z.2.2.1 < a)) 0 (w_X12_actPropose_0 (MS Z d) (Gw Z 5 p e R s m args below meth c (MQ below (QcS Z Rp) args s 0 0 (fun a => Z.2.2.1 < a))) Rp) := by
  unfold w_X12_actPropose_0
  refine s_iload_n (k := 1) C (by decide +kernel) ?_
  refine s_callS C (by decide +kernel) rfl w_6_208 w_6_209 w_1_13 w_6_210 (by decide +kernel) ?_
  refine s_if_eq (off := 22) (tgt := 26) C (by decide +kernel) (by decide) (fun _ _ _ _ _ _ h => h) ?_
  refine s_iload_n (k := 2) C (by decide +kernel) ?_
  refine s_i2l C (by decide +kernel) ?_
  refine s_lconst (n := 1) C (by decide +kernel) (by decide) ?_
  refine s_ldc2 C w_7_89 (by decide +kernel) ?_
  refine s_callS C (by decide +kernel) rfl w_6_175 w_6_176 w_1_13 w_6_177 (by decide +kernel) ?_
  refine s_if_eq (off := 10) (tgt := 26) C (by decide +kernel) (by decide) (fun _ _ _ _ _ _ h => h) ?_
  refine s_iload_n (k := 3) C (by decide +kernel) ?_
  refine s_callS C (by decide +kernel) rfl w_7_90 w_7_91 w_1_13 w_7_92 (by decide +kernel) ?_
  refine s_if_ne (off := 6) (tgt := 29) C (by decide +kernel) (by decide) (fun _ _ _ _ _ _ h => h) ?_
  exact (fun _ _ _ _ _ _ h => h)
set_option maxRecDepth 20000 in
theorem b_X12_actPropose_26 {Z : Zt} {d : Nat} {p : Program} {e : Env} {R : Room} {s : State} {m : MethodId} {args : Array Value} {below : List Frame} {meth : Method} {c : Code} {Rp : RT} (C : Cx Z d jX12_actPropose RX12 p R s m args meth c) : Sd Z jX12_actPropose p e R s m args below meth c (MQ below (QcS Z Rp) args s 0 0 (fun a => Z.2.2.1 < a)) 26 (w_X12_actPropose_26 (MS Z d) (Gw Z 5 p e R s m args below meth c (MQ below (QcS Z Rp) args s 0 0 (fun a => Z.2.2.1 < a))) Rp) := by
  unfold w_X12_actPropose_26
  refine s_bipush (n := (-2)) C (by decide +kernel) (by decide) ?_
  exact s_iret C rfl (by decide +kernel)
set_option maxRecDepth 20000 in
theorem b_X12_actPropose_29 {Z : Zt} {d : Nat} {p : Program} {e : Env} {R : Room} {s : State} {m : MethodId} {args : Array Value} {below : List Frame} {meth : Method} {c : Code} {Rp : RT} (C : Cx Z d jX12_actPropose RX12 p R s m args meth c) : Sd Z jX12_actPropose p e R s m args below meth c (MQ below (QcS Z Rp) args s 0 0 (fun a => Z.2.2.1 < a)) 29 (w_X12_actPropose_29 (MS Z d) (Gw Z 5 p e R s m args below meth c (MQ below (QcS Z Rp) args s 0 0 (fun a => Z.2.2.1 < a))) Rp) := by
  unfold w_X12_actPropose_29
  refine s_iload (k := 4) C (by decide +kernel) ?_
  refine s_i2l C (by decide +kernel) ?_
  refine s_ldc2 C w_7_94 (by decide +kernel) ?_
  refine s_ldc2 C w_7_95 (by decide +kernel) ?_
  refine s_callS C (by decide +kernel) rfl w_6_175 w_6_176 w_1_13 w_6_177 (by decide +kernel) ?_
  refine s_if_ne (off := 6) (tgt := 47) C (by decide +kernel) (by decide) (fun _ _ _ _ _ _ h => h) ?_
  refine s_bipush (n := (-3)) C (by decide +kernel) (by decide) ?_
  exact s_iret C rfl (by decide +kernel)
set_option maxRecDepth 20000 in
theorem b_X12_actPropose_47 {Z : Zt} {d : Nat} {p : Program} {e : Env} {R : Room} {s : State} {m : MethodId} {args : Array Value} {below : List Frame} {meth : Method} {c : Code} {Rp : RT} (C : Cx Z d jX12_actPropose RX12 p R s m args meth c) : Sd Z jX12_actPropose p e R s m args below meth c (MQ below (QcS Z Rp) args s 0 0 (fun a => Z.2.2.1 < a)) 47 (w_X12_actPropose_47 (MS Z d) (Gw Z 5 p e R s m args below meth c (MQ below (QcS Z Rp) args s 0 0 (fun a => Z.2.2.1 < a))) Rp) := by
  unfold w_X12_actPropose_47
  refine s_aload_n (k := 0) C (by decide +kernel) ?_
  refine s_iload_n (k := 1) C (by decide +kernel) ?_
  refine s_callV C rfl rfl (by decide +kernel) rfl w_6_236 w_6_238 w_p3_15 w_1_13 w_6_239 (by decide +kernel) ?_
  refine s_if_ne (off := 6) (tgt := 58) C (by decide +kernel) (by decide) (fun _ _ _ _ _ _ h => h) ?_
  refine s_bipush (n := (-5)) C (by decide +kernel) (by decide) ?_
  exact s_iret C rfl (by decide +kernel)
set_option maxRecDepth 20000 in
theorem b_X12_actPropose_58 {Z : Zt} {d : Nat} {p : Program} {e : Env} {R : Room} {s : State} {m : MethodId} {args : Array Value} {below : List Frame} {meth : Method} {c : Code} {Rp : RT} (C : Cx Z d jX12_actPropose RX12 p R s m args meth c) : Sd Z jX12_actPropose p e R s m args below meth c (MQ below (QcS Z Rp) args s 0 0 (fun a => Z.2.2.1 < a)) 58 (w_X12_actPropose_58 (MS Z d) (Gw Z 5 p e R s m args below meth c (MQ below (QcS Z Rp) args s 0 0 (fun a => Z.2.2.1 < a))) Rp) := by
  unfold w_X12_actPropose_58
  refine s_aload_n (k := 0) C (by decide +kernel) ?_
  refine s_iload_n (k := 1) C (by decide +kernel) ?_
  refine s_iconst (n := 4) C (by decide +kernel) (by decide) ?_
  refine s_callV C rfl rfl (by decide +kernel) rfl w_6_220 w_6_222 w_p3_11 w_1_13 w_6_223 (by decide +kernel) ?_
  refine s_bipush (n := 100) C (by decide +kernel) (by decide) ?_
  refine s_icmp_lt (off := 8) (tgt := 74) C (by decide +kernel) (by decide) (fun _ _ _ _ _ _ h => h) ?_
  refine s_bipush (n := (-4)) C (by decide +kernel) (by decide) ?_
  exact s_goto (off := 12) (tgt := 83) C (by decide +kernel) (by decide) (fun _ _ _ _ _ _ h => h)
set_option maxRecDepth 20000 in
theorem b_X12_actPropose_74 {Z : Zt} {d : Nat} {p : Program} {e : Env} {R : Room} {s : State} {m : MethodId} {args : Array Value} {below : List Frame} {meth : Method} {c : Code} {Rp : RT} (C : Cx Z d jX12_actPropose RX12 p R s m args meth c) : Sd Z jX12_actPropose p e R s m args below meth c (MQ below (QcS Z Rp) args s 0 0 (fun a => Z.2.2.1 < a)) 74 (w_X12_actPropose_74 (MS Z d) (Gw Z 5 p e R s m args below meth c (MQ below (QcS Z Rp) args s 0 0 (fun a => Z.2.2.1 < a))) Rp) := by
  unfold w_X12_actPropose_74
  refine s_aload_n (k := 0) C (by decide +kernel) ?_
  refine s_iload_n (k := 1) C (by decide +kernel) ?_
  refine s_iload_n (k := 2) C (by decide +kernel) ?_
  refine s_iload_n (k := 3) C (by decide +kernel) ?_
  refine s_iload (k := 4) C (by decide +kernel) ?_
  refine s_callV C rfl rfl (by decide +kernel) rfl w_7_96 w_7_98 w_p5_2 w_1_13 w_7_99 (by decide +kernel) ?_
  exact (fun _ _ _ _ _ _ h => h)
set_option maxRecDepth 20000 in
theorem b_X12_actPropose_83 {Z : Zt} {d : Nat} {p : Program} {e : Env} {R : Room} {s : State} {m : MethodId} {args : Array Value} {below : List Frame} {meth : Method} {c : Code} {Rp : RT} (C : Cx Z d jX12_actPropose RX12 p R s m args meth c) : Sd Z jX12_actPropose p e R s m args below meth c (MQ below (QcS Z Rp) args s 0 0 (fun a => Z.2.2.1 < a)) 83 (w_X12_actPropose_83 (MS Z d) (Gw Z 5 p e R s m args below meth c (MQ below (QcS Z Rp) args s 0 0 (fun a => Z.2.2.1 < a))) Rp) := by
  unfold w_X12_actPropose_83
  exact s_iret C rfl (by decide +kernel)
theorem ms_X12_actPropose {Z : Zt} {d : Nat} {S : Sh} {μ : Mi} {ρ : Mr} {Rp : RT} (a0 : Nat) (x1 : Int32) (x2 : Int32) (x3 : Int32) (x4 : Int32) (h : ∀ G : Nat → PT, (∀ (L st : List Value) (S : Sh) (q : Nat × Nat) (μ : Mi) (ρ : Mr), w_X12_actPropose_26 (MS Z d) G Rp L st S q μ ρ → G 26 L st S q μ ρ) → (∀ (L st : List Value) (S : Sh) (q : Nat × Nat) (μ : Mi) (ρ : Mr), w_X12_actPropose_29 (MS Z d) G Rp L st S q μ ρ → G 29 L st S q μ ρ) → (∀ (L st : List Value) (S : Sh) (q : Nat × Nat) (μ : Mi) (ρ : Mr), w_X12_actPropose_47 (MS Z d) G Rp L st S q μ ρ → G 47 L st S q μ ρ) → (∀ (L st : List Value) (S : Sh) (q : Nat × Nat) (μ : Mi) (ρ : Mr), w_X12_actPropose_58 (MS Z d) G Rp L st S q μ ρ → G 58 L st S q μ ρ) → (∀ (L st : List Value) (S : Sh) (q : Nat × Nat) (μ : Mi) (ρ : Mr), w_X12_actPropose_74 (MS Z d) G Rp L st S q μ ρ → G 74 L st S q μ ρ) → (∀ (L st : List Value) (S : Sh) (q : Nat × Nat) (μ : Mi) (ρ : Mr), w_X12_actPropose_83 (MS Z d) G Rp L st S q μ ρ → G 83 L st S q μ ρ) → w_X12_actPropose_0 (MS Z d) G Rp [.ref a0, .int x1, .int x2, .int x3, .int x4] [] S (0, 0) μ ρ) : MS Z (d + 1) jX12_actPropose [.ref a0, .int x1, .int x2, .int x3, .int x4] S μ ρ Rp :=
  MS_of [.ref a0, .int x1, .int x2, .int x3, .int x4] (by decide +kernel) rfl rfl (Nat.le_of_ble_eq_true rfl) rfl (fun p e R s m args below meth c C => b_X12_actPropose_0 C _ _ _ _ _ _ (h _ (b_X12_actPropose_26 C) (b_X12_actPropose_29 C) (b_X12_actPropose_47 C) (b_X12_actPropose_58 C) (b_X12_actPropose_74 C) (b_X12_actPropose_83 C)))
def w_X12_actRead_0 (M : CT) (G : Nat → PT) (Rp : RT) : PT := tIload 1 <| tCallS M jX12_isStore 1 <| tIf (fun x => x = 0) (G 14) <| tIload 2 <| tCallS M jX12_isCell 1 <| tIf (fun x => x ≠ 0) (G 17) <| G 14
def w_X12_actRead_14 (M : CT) (G : Nat → PT) (Rp : RT) : PT := tConst (-2) <| tIret Rp
def w_X12_actRead_17 (M : CT) (G : Nat → PT) (Rp : RT) : PT := tAload 0 <| tIload 1 <| tCallV M jX12_isLeader 12 27 1 <| tIf (fun x => x = 0) (G 57) <| tAload 0 <| tIload 1 <| tConst 11 <| tCallV M jX12_of 12 27 2 <| tConst 1 <| tIf2 (fun x y => x = y) (G 57) <| tAload 0 <| tIload 1 <| tAload 0 <| tIload 1 <| tConst 7 <| tCallV M jX12_of 12 27 2 <| tCallV M jX12_termAt 12 27 2 <| tAload 0 <| tIload 1 <| tConst 1 <| tCallV M jX12_of 12 27 2 <| tIf2 (fun x y => x = y) (G 60) <| G 57
def w_X12_actRead_57 (M : CT) (G : Nat → PT) (Rp : RT) : PT := tConst (-5) <| tIret Rp
def w_X12_actRead_60 (M : CT) (G : Nat → PT) (Rp : RT) : PT := tAload 0 <| tIload 1 <| tConst 11 <| tConst 1 <| tCallV M jX12_lays 12 27 3 <| tAload 0 <| tIload 1 <| tConst 12 <| tIload 2 <| tCallV M jX12_lays 12 27 3 <| tAload 0 <| tIload 1 <| tConst 13 <| tConst 0 <| tCallV M jX12_lays 12 27 3 <| tAload 0 <| tIload 1 <| tConst 15 <| tConst 1 <| tIload 1 <| tBin (fun x y => x <<< (y &&& 31)) <| tCallV M jX12_lays 12 27 3 <| tAload 0 <| tIload 1 <| tConst 14 <| tAload 0 <| tIload 1 <| tConst 14 <| tCallV M jX12_of 12 27 2 <| tConst 1 <| tBin (fun x y => x + y) <| tCallV M jX12_lays 12 27 3 <| tAload 0 <| tIload 1 <| tCallV M jX12_feedsAll 12 27 1 <| tAload 0 <| tIload 1 <| tCallV M jX12_answersRead 12 27 1 <| tAload 0 <| tIload 1 <| tConst 11 <| tCallV M jX12_of 12 27 2 <| tIret Rp
set_option maxRecDepth 20000 in
theorem b_X12_actRead_0 {Z : Zt} {d : Nat} {p : Program} {e : Env} {R : Room} {s : State} {m : MethodId} {args : Array Value} {below : List Frame} {meth : Method} {c : Code} {Rp : RT} (C : Cx Z d jX12_actRead RX12 p R s m args meth c) : Sd Z jX12_actRead p e R s m args below meth c (MQ below (QcS Z Rp) args s 0 0 (fun a => Z.2.2.1 < a)) 0 (w_X12_actRead_0 (MS Z d) (Gw Z 3 p e R s m args below meth c (MQ below (QcS Z Rp) args s 0 0 (fun a => Z.2.2.1 < a))) Rp) := by
  unfold w_X12_actRead_0
  refine s_iload_n (k := 1) C (by decide +kernel) ?_
  refine s_callS C (by decide +kernel) rfl w_6_208 w_6_209 w_1_13 w_6_210 (by decide +kernel) ?_
  refine s_if_eq (off := 10) (tgt := 14) C (by decide +kernel) (by decide) (fun _ _ _ _ _ _ h => h) ?_
  refine s_iload_n (k := 2) C (by decide +kernel) ?_
  refine s_callS C (by decide +kernel) rfl w_7_90 w_7_91 w_1_13 w_7_92 (by decide +kernel) ?_
  refine s_if_ne (off := 6) (tgt := 17) C (by decide +kernel) (by decide) (fun _ _ _ _ _ _ h => h) ?_
  exact (fun _ _ _ _ _ _ h => h)
set_option maxRecDepth 20000 in
theorem b_X12_actRead_14 {Z : Zt} {d : Nat} {p : Program} {e : Env} {R : Room} {s : State} {m : MethodId} {args : Array Value} {below : List Frame} {meth : Method} {c : Code} {Rp : RT} (C : Cx Z d jX12_actRead RX12 p R s m args meth c) : Sd Z jX12_actRead p e R s m args below meth c (MQ below (QcS Z Rp) args s 0 0 (fun a => Z.2.2.1 < a)) 14 (w_X12_actRead_14 (MS Z d) (Gw Z 3 p e R s m args below meth c (MQ below (QcS Z Rp) args s 0 0 (fun a => Z.2.2.1 < a))) Rp) := by
  unfold w_X12_actRead_14
  refine s_bipush (n := (-2)) C (by decide +kernel) (by decide) ?_
  exact s_iret C rfl (by decide +kernel)
set_option maxRecDepth 20000 in
theorem b_X12_actRead_17 {Z : Zt} {d : Nat} {p : Program} {e : Env} {R : Room} {s : State} {m : MethodId} {args : Array Value} {below : List Frame} {meth : Method} {c : Code} {Rp : RT} (C : Cx Z d jX12_actRead RX12 p R s m args meth c) : Sd Z jX12_actRead p e R s m args below meth c (MQ below (QcS Z Rp) args s 0 0 (fun a => Z.2.2.1 < a)) 17 (w_X12_actRead_17 (MS Z d) (Gw Z 3 p e R s m args below meth c (MQ below (QcS Z Rp) args s 0 0 (fun a => Z.2.2.1 < a))) Rp) := by
  unfold w_X12_actRead_17
  refine s_aload_n (k := 0) C (by decide +kernel) ?_
  refine s_iload_n (k := 1) C (by decide +kernel) ?_
  refine s_callV C rfl rfl (by decide +kernel) rfl w_6_236 w_6_238 w_p3_15 w_1_13 w_6_239 (by decide +kernel) ?_
  refine s_if_eq (off := 35) (tgt := 57) C (by decide +kernel) (by decide) (fun _ _ _ _ _ _ h => h) ?_
  refine s_aload_n (k := 0) C (by decide +kernel) ?_
  refine s_iload_n (k := 1) C (by decide +kernel) ?_
  refine s_bipush (n := 11) C (by decide +kernel) (by decide) ?_
  refine s_callV C rfl rfl (by decide +kernel) rfl w_6_220 w_6_222 w_p3_11 w_1_13 w_6_223 (by decide +kernel) ?_
  refine s_iconst (n := 1) C (by decide +kernel) (by decide) ?_
  refine s_icmp_eq (off := 24) (tgt := 57) C (by decide +kernel) (by decide) (fun _ _ _ _ _ _ h => h) ?_
  refine s_aload_n (k := 0) C (by decide +kernel) ?_
  refine s_iload_n (k := 1) C (by decide +kernel) ?_
  refine s_aload_n (k := 0) C (by decide +kernel) ?_
  refine s_iload_n (k := 1) C (by decide +kernel) ?_
  refine s_bipush (n := 7) C (by decide +kernel) (by decide) ?_
  refine s_callV C rfl rfl (by decide +kernel) rfl w_6_220 w_6_222 w_p3_11 w_1_13 w_6_223 (by decide +kernel) ?_
  refine s_callV C rfl rfl (by decide +kernel) rfl w_7_23 w_7_25 w_p4_5 w_1_13 w_7_26 (by decide +kernel) ?_
  refine s_aload_n (k := 0) C (by decide +kernel) ?_
  refine s_iload_n (k := 1) C (by decide +kernel) ?_
  refine s_iconst (n := 1) C (by decide +kernel) (by decide) ?_
  refine s_callV C rfl rfl (by decide +kernel) rfl w_6_220 w_6_222 w_p3_11 w_1_13 w_6_223 (by decide +kernel) ?_
  refine s_icmp_eq (off := 6) (tgt := 60) C (by decide +kernel) (by decide) (fun _ _ _ _ _ _ h => h) ?_
  exact (fun _ _ _ _ _ _ h => h)
set_option maxRecDepth 20000 in
theorem b_X12_actRead_57 {Z : Zt} {d : Nat} {p : Program} {e : Env} {R : Room} {s : State} {m : MethodId} {args : Array Value} {below : List Frame} {meth : Method} {c : Code} {Rp : RT} (C : Cx Z d jX12_actRead RX12 p R s m args meth c) : Sd Z jX12_actRead p e R s m args below meth c (MQ below (QcS Z Rp) args s 0 0 (fun a => Z.2.2.1 < a)) 57 (w_X12_actRead_57 (MS Z d) (Gw Z 3 p e R s m args below meth c (MQ below (QcS Z Rp) args s 0 0 (fun a => Z.2.2.1 < a))) Rp) := by
  unfold w_X12_actRead_57
  refine s_bipush (n := (-5)) C (by decide +kernel) (by decide) ?_
  exact s_iret C rfl (by decide +kernel)
set_option maxRecDepth 20000 in
theorem b_X12_actRead_60 {Z : Zt} {d : Nat} {p : Program} {e : Env} {R : Room} {s : State} {m : MethodId} {args : Array Value} {below : List Frame} {meth : Method} {c : Code} {Rp : RT} (C : Cx Z d jX12_actRead RX12 p R s m args meth c) : Sd Z jX12_actRead p e R s m args below meth c (MQ below (QcS Z Rp) args s 0 0 (fun a => Z.2.2.1 < a)) 60 (w_X12_actRead_60 (MS Z d) (Gw Z 3 p e R s m args below meth c (MQ below (QcS Z Rp) args s 0 0 (fun a => Z.2.2.1 < a))) Rp) := by
  unfold w_X12_actRead_60
  refine s_aload_n (k := 0) C (by decide +kernel) ?_
  refine s_iload_n (k := 1) C (by decide +kernel) ?_
  refine s_bipush (n := 11) C (by decide +kernel) (by decide) ?_
  refine s_iconst (n := 1) C (by decide +kernel) (by decide) ?_
  refine s_callV C rfl rfl (by decide +kernel) rfl w_6_82 w_6_84 w_p3_4 w_1_13 w_6_85 (by decide +kernel) ?_
  refine s_aload_n (k := 0) C (by decide +kernel) ?_
  refine s_iload_n (k := 1) C (by decide +kernel) ?_
  refine s_bipush (n := 12) C (by decide +kernel) (by decide) ?_
  refine s_iload_n (k := 2) C (by decide +kernel) ?_
  refine s_callV C rfl rfl (by decide +kernel) rfl w_6_82 w_6_84 w_p3_4 w_1_13 w_6_85 (by decide +kernel) ?_
  refine s_aload_n (k := 0) C (by decide +kernel) ?_
  refine s_iload_n (k := 1) C (by decide +kernel) ?_
  refine s_bipush (n := 13) C (by decide +kernel) (by decide) ?_
  refine s_iconst (n := 0) C (by decide +kernel) (by decide) ?_
  refine s_callV C rfl rfl (by decide +kernel) rfl w_6_82 w_6_84 w_p3_4 w_1_13 w_6_85 (by decide +kernel) ?_
  refine s_aload_n (k := 0) C (by decide +kernel) ?_
  refine s_iload_n (k := 1) C (by decide +kernel) ?_
  refine s_bipush (n := 15) C (by decide +kernel) (by decide) ?_
  refine s_iconst (n := 1) C (by decide +kernel) (by decide) ?_
  refine s_iload_n (k := 1) C (by decide +kernel) ?_
  refine s_ishl C (by decide +kernel) ?_
  refine s_callV C rfl rfl (by decide +kernel) rfl w_6_82 w_6_84 w_p3_4 w_1_13 w_6_85 (by decide +kernel) ?_
  refine s_aload_n (k := 0) C (by decide +kernel) ?_
  refine s_iload_n (k := 1) C (by decide +kernel) ?_
  refine s_bipush (n := 14) C (by decide +kernel) (by decide) ?_
  refine s_aload_n (k := 0) C (by decide +kernel) ?_
  refine s_iload_n (k := 1) C (by decide +kernel) ?_
  refine s_bipush (n := 14) C (by decide +kernel) (by decide) ?_
  refine s_callV C rfl rfl (by decide +kernel) rfl w_6_220 w_6_222 w_p3_11 w_1_13 w_6_223 (by decide +kernel) ?_
  refine s_iconst (n := 1) C (by decide +kernel) (by decide) ?_
  refine s_iadd C (by decide +kernel) ?_
  refine s_callV C rfl rfl (by decide +kernel) rfl w_6_82 w_6_84 w_p3_4 w_1_13 w_6_85 (by decide +kernel) ?_
  refine s_aload_n (k := 0) C (by decide +kernel) ?_
  refine s_iload_n (k := 1) C (by decide +kernel) ?_
  refine s_callV C rfl rfl (by decide +kernel) rfl w_7_47 w_7_49 w_p4_11 w_1_13 w_7_50 (by decide +kernel) ?_
  refine s_aload_n (k := 0) C (by decide +kernel) ?_
  refine s_iload_n (k := 1) C (by decide +kernel) ?_
  refine s_callV C rfl rfl (by decide +kernel) rfl w_7_108 w_7_110 w_p5_4 w_1_13 w_7_111 (by decide +kernel) ?_
  refine s_aload_n (k := 0) C (by decide +kernel) ?_
  refine s_iload_n (k := 1) C (by decide +kernel) ?_
  refine s_bipush (n := 11) C (by decide +kernel) (by decide) ?_
  refine s_callV C rfl rfl (by decide +kernel) rfl w_6_220 w_6_222 w_p3_11 w_1_13 w_6_223 (by decide +kernel) ?_
  exact s_iret C rfl (by decide +kernel)
theorem ms_X12_actRead {Z : Zt} {d : Nat} {S : Sh} {μ : Mi} {ρ : Mr} {Rp : RT} (a0 : Nat) (x1 : Int32) (x2 : Int32) (h : ∀ G : Nat → PT, (∀ (L st : List Value) (S : Sh) (q : Nat × Nat) (μ : Mi) (ρ : Mr), w_X12_actRead_14 (MS Z d) G Rp L st S q μ ρ → G 14 L st S q μ ρ) → (∀ (L st : List Value) (S : Sh) (q : Nat × Nat) (μ : Mi) (ρ : Mr), w_X12_actRead_17 (MS Z d) G Rp L st S q μ ρ → G 17 L st S q μ ρ) → (∀ (L st : List Value) (S : Sh) (q : Nat × Nat) (μ : Mi) (ρ : Mr), w_X12_actRead_57 (MS Z d) G Rp L st S q μ ρ → G 57 L st S q μ ρ) → (∀ (L st : List Value) (S : Sh) (q : Nat × Nat) (μ : Mi) (ρ : Mr), w_X12_actRead_60 (MS Z d) G Rp L st S q μ ρ → G 60 L st S q μ ρ) → w_X12_actRead_0 (MS Z d) G Rp [.ref a0, .int x1, .int x2] [] S (0, 0) μ ρ) : MS Z (d + 1) jX12_actRead [.ref a0, .int x1, .int x2] S μ ρ Rp :=
  MS_of [.ref a0, .int x1, .int x2] (by decide +kernel) rfl rfl (Nat.le_of_ble_eq_true rfl) rfl (fun p e R s m args below meth c C => b_X12_actRead_0 C _ _ _ _ _ _ (h _ (b_X12_actRead_14 C) (b_X12_actRead_17 C) (b_X12_actRead_57 C) (b_X12_actRead_60 C)))
def w_X12_actHand_0 (M : CT) (G : Nat → PT) (Rp : RT) : PT := tIload 1 <| tCallS M jX12_isStore 1 <| tIf (fun x => x = 0) (G 14) <| tIload 2 <| tCallS M jX12_isStore 1 <| tIf (fun x => x ≠ 0) (G 17) <| G 14
def w_X12_actHand_14 (M : CT) (G : Nat → PT) (Rp : RT) : PT := tConst (-2) <| tIret Rp
def w_X12_actHand_17 (M : CT) (G : Nat → PT) (Rp : RT) : PT := tIload 1 <| tIload 2 <| tIf2 (fun x y => x ≠ y) (G 25) <| tConst (-3) <| tIret Rp
def w_X12_actHand_25 (M : CT) (G : Nat → PT) (Rp : RT) : PT := tAload 0 <| tIload 1 <| tCallV M jX12_laysMembers 12 27 1 <| tAload 0 <| tIload 1 <| tCallV M jX12_isLeader 12 27 1 <| tIf (fun x => x = 0) (G 72) <| tAload 0 <| tGetI 12 27 8 <| tAload 0 <| tGetI 12 27 9 <| tBin (fun x y => x ||| y) <| tIload 2 <| tCallS M jX12_has 2 <| tIf (fun x => x = 0) (G 72) <| tAload 0 <| tIload 1 <| tConst 29 <| tIload 2 <| tBin (fun x y => x + y) <| tCallV M jX12_of 12 27 2 <| tAload 0 <| tIload 1 <| tConst 4 <| tCallV M jX12_of 12 27 2 <| tIf2 (fun x y => x = y) (G 75) <| G 72
def w_X12_actHand_72 (M : CT) (G : Nat → PT) (Rp : RT) : PT := tConst (-5) <| tIret Rp
def w_X12_actHand_75 (M : CT) (G : Nat → PT) (Rp : RT) : PT := tAload 0 <| tIload 1 <| tIload 2 <| tConst 6 <| tConst 0 <| tConst 0 <| tCallV M jX12_sends 12 27 5 <| tIstore 3 <| tAload 0 <| tGetR 12 27 1 <| tConst 4510 <| tAld 20 <| tIret Rp
set_option maxRecDepth 20000 in
theorem b_X12_actHand_0 {Z : Zt} {d : Nat} {p : Program} {e : Env} {R : Room} {s : State} {m : MethodId} {args : Array Value} {below : List Frame} {meth : Method} {c : Code} {Rp : RT} (C : Cx Z d jX12_actHand RX12 p R s m args meth c) : Sd Z jX12_actHand p e R s m args below meth c (MQ below (QcS Z Rp) args s 0 0 (fun a => Z.2.2.1 < a)) 0 (w_X12_actHand_0 (MS Z d) (Gw Z 4 p e R s m args below meth c (MQ below (QcS Z Rp) args s 0 0 (fun a => Z.2.2.1 < a))) Rp) := by
  unfold w_X12_actHand_0
  refine s_iload_n (k := 1) C (by decide +kernel) ?_
  refine s_callS C (by decide +kernel) rfl w_6_208 w_6_209 w_1_13 w_6_210 (by decide +kernel) ?_
  refine s_if_eq (off := 10) (tgt := 14) C (by decide +kernel) (by decide) (fun _ _ _ _ _ _ h => h) ?_
  refine s_iload_n (k := 2) C (by decide +kernel) ?_
  refine s_callS C (by decide +kernel) rfl w_6_208 w_6_209 w_1_13 w_6_210 (by decide +kernel) ?_
  refine s_if_ne (off := 6) (tgt := 17) C (by decide +kernel) (by decide) (fun _ _ _ _ _ _ h => h) ?_
  exact (fun _ _ _ _ _ _ h => h)
set_option maxRecDepth 20000 in
theorem b_X12_actHand_14 {Z : Zt} {d : Nat} {p : Program} {e : Env} {R : Room} {s : State} {m : MethodId} {args : Array Value} {below : List Frame} {meth : Method} {c : Code} {Rp : RT} (C : Cx Z d jX12_actHand RX12 p R s m args meth c) : Sd Z jX12_actHand p e R s m args below meth c (MQ below (QcS Z Rp) args s 0 0 (fun a => Z.2.2.1 < a)) 14 (w_X12_actHand_14 (MS Z d) (Gw Z 4 p e R s m args below meth c (MQ below (QcS Z Rp) args s 0 0 (fun a => Z.2.2.1 < a))) Rp) := by
  unfold w_X12_actHand_14
  refine s_bipush (n := (-2)) C (by decide +kernel) (by decide) ?_
  exact s_iret C rfl (by decide +kernel)
set_option maxRecDepth 20000 in
theorem b_X12_actHand_17 {Z : Zt} {d : Nat} {p : Program} {e : Env} {R : Room} {s : State} {m : MethodId} {args : Array Value} {below : List Frame} {meth : Method} {c : Code} {Rp : RT} (C : Cx Z d jX12_actHand RX12 p R s m args meth c) : Sd Z jX12_actHand p e R s m args below meth c (MQ below (QcS Z Rp) args s 0 0 (fun a => Z.2.2.1 < a)) 17 (w_X12_actHand_17 (MS Z d) (Gw Z 4 p e R s m args below meth c (MQ below (QcS Z Rp) args s 0 0 (fun a => Z.2.2.1 < a))) Rp) := by
  unfold w_X12_actHand_17
  refine s_iload_n (k := 1) C (by decide +kernel) ?_
  refine s_iload_n (k := 2) C (by decide +kernel) ?_
  refine s_icmp_ne (off := 6) (tgt := 25) C (by decide +kernel) (by decide) (fun _ _ _ _ _ _ h => h) ?_
  refine s_bipush (n := (-3)) C (by decide +kernel) (by decide) ?_
  exact s_iret C rfl (by decide +kernel)
set_option maxRecDepth 20000 in
theorem b_X12_actHand_25 {Z : Zt} {d : Nat} {p : Program} {e : Env} {R : Room} {s : State} {m : MethodId} {args : Array Value} {below : List Frame} {meth : Method} {c : Code} {Rp : RT} (C : Cx Z d jX12_actHand RX12 p R s m args meth c) : Sd Z jX12_actHand p e R s m args below meth c (MQ below (QcS Z Rp) args s 0 0 (fun a => Z.2.2.1 < a)) 25 (w_X12_actHand_25 (MS Z d) (Gw Z 4 p e R s m args below meth c (MQ below (QcS Z Rp) args s 0 0 (fun a => Z.2.2.1 < a))) Rp) := by
  unfold w_X12_actHand_25
  refine s_aload_n (k := 0) C (by decide +kernel) ?_
  refine s_iload_n (k := 1) C (by decide +kernel) ?_
  refine s_callV C rfl rfl (by decide +kernel) rfl w_6_216 w_6_218 w_p3_10 w_1_13 w_6_219 (by decide +kernel) ?_
  refine s_aload_n (k := 0) C (by decide +kernel) ?_
  refine s_iload_n (k := 1) C (by decide +kernel) ?_
  refine s_callV C rfl rfl (by decide +kernel) rfl w_6_236 w_6_238 w_p3_15 w_1_13 w_6_239 (by decide +kernel) ?_
  refine s_if_eq (off := 37) (tgt := 72) C (by decide +kernel) (by decide) (fun _ _ _ _ _ _ h => h) ?_
  refine s_aload_n (k := 0) C (by decide +kernel) ?_
  refine s_getI C w_6_95 (by decide +kernel) rfl ?_
  refine s_aload_n (k := 0) C (by decide +kernel) ?_
  refine s_getI C w_6_96 (by decide +kernel) rfl ?_
  refine s_ior C (by decide +kernel) ?_
  refine s_iload_n (k := 2) C (by decide +kernel) ?_
  refine s_callS C (by decide +kernel) rfl w_7_0 w_7_1 w_1_13 w_7_2 (by decide +kernel) ?_
  refine s_if_eq (off := 21) (tgt := 72) C (by decide +kernel) (by decide) (fun _ _ _ _ _ _ h => h) ?_
  refine s_aload_n (k := 0) C (by decide +kernel) ?_
  refine s_iload_n (k := 1) C (by decide +kernel) ?_
  refine s_bipush (n := 29) C (by decide +kernel) (by decide) ?_
  refine s_iload_n (k := 2) C (by decide +kernel) ?_
  refine s_iadd C (by decide +kernel) ?_
  refine s_callV C rfl rfl (by decide +kernel) rfl w_6_220 w_6_222 w_p3_11 w_1_13 w_6_223 (by decide +kernel) ?_
  refine s_aload_n (k := 0) C (by decide +kernel) ?_
  refine s_iload_n (k := 1) C (by decide +kernel) ?_
  refine s_iconst (n := 4) C (by decide +kernel) (by decide) ?_
  refine s_callV C rfl rfl (by decide +kernel) rfl w_6_220 w_6_222 w_p3_11 w_1_13 w_6_223 (by decide +kernel) ?_
  refine s_icmp_eq (off := 6) (tgt := 75) C (by decide +kernel) (by decide) (fun _ _ _ _ _ _ h => h) ?_
  exact (fun _ _ _ _ _ _ h => h)
set_option maxRecDepth 20000 in
theorem b_X12_actHand_72 {Z : Zt} {d : Nat} {p : Program} {e : Env} {R : Room} {s : State} {m : MethodId} {args : Array Value} {below : List Frame} {meth : Method} {c : Code} {Rp : RT} (C : Cx Z d jX12_actHand RX12 p R s m args meth c) : Sd Z jX12_actHand p e R s m args below meth c (MQ below (QcS Z Rp) args s 0 0 (fun a => Z.2.2.1 < a)) 72 (w_X12_actHand_72 (MS Z d) (Gw Z 4 p e R s m args below meth c (MQ below (QcS Z Rp) args s 0 0 (fun a => Z.2.2.1 < a))) Rp) := by
  unfold w_X12_actHand_72
  refine s_bipush (n := (-5)) C (by decide +kernel) (by decide) ?_
  exact s_iret C rfl (by decide +kernel)
set_option maxRecDepth 20000 in
theorem b_X12_actHand_75 {Z : Zt} {d : Nat} {p : Program} {e : Env} {R : Room} {s : State} {m : MethodId} {args : Array Value} {below : List Frame} {meth : Method} {c : Code} {Rp : RT} (C : Cx Z d jX12_actHand RX12 p R s m args meth c) : Sd Z jX12_actHand p e R s m args below meth c (MQ below (QcS Z Rp) args s 0 0 (fun a => Z.2.2.1 < a)) 75 (w_X12_actHand_75 (MS Z d) (Gw Z 4 p e R s m args below meth c (MQ below (QcS Z Rp) args s 0 0 (fun a => Z.2.2.1 < a))) Rp) := by
  unfold w_X12_actHand_75
  refine s_aload_n (k := 0) C (by decide +kernel) ?_
  refine s_iload_n (k := 1) C (by decide +kernel) ?_
  refine s_iload_n (k := 2) C (by decide +kernel) ?_
  refine s_bipush (n := 6) C (by decide +kernel) (by decide) ?_
  refine s_iconst (n := 0) C (by decide +kernel) (by decide) ?_
  refine s_iconst (n := 0) C (by decide +kernel) (by decide) ?_
  refine s_callV C rfl rfl (by decide +kernel) rfl w_7_27 w_7_29 w_p4_6 w_1_13 w_7_30 (by decide +kernel) ?_
  refine s_istore_n (k := 3) C (by decide +kernel) ?_
  refine s_aload_n (k := 0) C (by decide +kernel) ?_
  refine s_getR C w_6_88 (by decide +kernel) rfl ?_
  refine s_sipush (n := 4510) C (by decide +kernel) (by decide) ?_
  refine s_iald C (by decide +kernel) ?_
  exact s_iret C rfl (by decide +kernel)
theorem ms_X12_actHand {Z : Zt} {d : Nat} {S : Sh} {μ : Mi} {ρ : Mr} {Rp : RT} (a0 : Nat) (x1 : Int32) (x2 : Int32) (h : ∀ G : Nat → PT, (∀ (L st : List Value) (S : Sh) (q : Nat × Nat) (μ : Mi) (ρ : Mr), w_X12_actHand_14 (MS Z d) G Rp L st S q μ ρ → G 14 L st S q μ ρ) → (∀ (L st : List Value) (S : Sh) (q : Nat × Nat) (μ : Mi) (ρ : Mr), w_X12_actHand_17 (MS Z d) G Rp L st S q μ ρ → G 17 L st S q μ ρ) → (∀ (L st : List Value) (S : Sh) (q : Nat × Nat) (μ : Mi) (ρ : Mr), w_X12_actHand_25 (MS Z d) G Rp L st S q μ ρ → G 25 L st S q μ ρ) → (∀ (L st : List Value) (S : Sh) (q : Nat × Nat) (μ : Mi) (ρ : Mr), w_X12_actHand_72 (MS Z d) G Rp L st S q μ ρ → G 72 L st S q μ ρ) → (∀ (L st : List Value) (S : Sh) (q : Nat × Nat) (μ : Mi) (ρ : Mr), w_X12_actHand_75 (MS Z d) G Rp L st S q μ ρ → G 75 L st S q μ ρ) → w_X12_actHand_0 (MS Z d) G Rp [.ref a0, .int x1, .int x2, .null] [] S (0, 0) μ ρ) : MS Z (d + 1) jX12_actHand [.ref a0, .int x1, .int x2] S μ ρ Rp :=
  MS_of [.ref a0, .int x1, .int x2, .null] (by decide +kernel) rfl rfl (Nat.le_of_ble_eq_true rfl) rfl (fun p e R s m args below meth c C => b_X12_actHand_0 C _ _ _ _ _ _ (h _ (b_X12_actHand_14 C) (b_X12_actHand_17 C) (b_X12_actHand_25 C) (b_X12_actHand_72 C) (b_X12_actHand_75 C)))
def w_X12_actChange_0 (M : CT) (G : Nat → PT) (Rp : RT) : PT := tIload 1 <| tCallS M jX12_isStore 1 <| tIf (fun x => x ≠ 0) (G 10) <| tConst (-2) <| tIret Rp
def w_X12_actChange_10 (M : CT) (G : Nat → PT) (Rp : RT) : PT := tIload 2 <| tI2l <| tLconst 1 <| tLconst 31 <| tCallS M jX12_within 3 <| tIf (fun x => x ≠ 0) (G 25) <| tConst (-3) <| tIret Rp
def w_X12_actChange_25 (M : CT) (G : Nat → PT) (Rp : RT) : PT := tAload 0 <| tIload 1 <| tCallV M jX12_laysMembers 12 27 1 <| tAload 0 <| tIload 1 <| tCallV M jX12_isLeader 12 27 1 <| tIf (fun x => x = 0) (G 67) <| tAload 0 <| tGetI 12 27 9 <| tIf (fun x => x ≠ 0) (G 67) <| tAload 0 <| tGetI 12 27 11 <| tAload 0 <| tIload 1 <| tConst 7 <| tCallV M jX12_of 12 27 2 <| tIf2 (fun x y => y < x) (G 67) <| tAload 0 <| tGetI 12 27 8 <| tIload 2 <| tIf2 (fun x y => x ≠ y) (G 70) <| G 67
def w_X12_actChange_67 (M : CT) (G : Nat → PT) (Rp : RT) : PT := tConst (-5) <| tIret Rp
def w_X12_actChange_70 (M : CT) (G : Nat → PT) (Rp : RT) : PT := tAload 0 <| tIload 1 <| tConst 4 <| tCallV M jX12_of 12 27 2 <| tConst 100 <| tIf2 (fun x y => x < y) (G 86) <| tConst (-4) <| tGoto (G 97)
def w_X12_actChange_86 (M : CT) (G : Nat → PT) (Rp : RT) : PT := tAload 0 <| tIload 1 <| tConst 3 <| tAload 0 <| tGetI 12 27 8 <| tIload 2 <| tCallV M jX12_proposes 12 27 4 <| G 97
def w_X12_actChange_97 (M : CT) (G : Nat → PT) (Rp : RT) : PT := tIret Rp
set_option maxRecDepth 20000 in
theorem b_X12_actChange_0 {Z : Zt} {d : Nat} {p : Program} {e : Env} {R : Room} {s : State} {m : MethodId} {args : Array Value} {below : List Frame} {meth : Method} {c : Code} {Rp : RT} (C : Cx Z d jX12_actChange RX12 p R s m args meth c) : Sd Z jX12_actChange p e R s m args below meth c (MQ below (QcS Z Rp) args s 0 0 (fun a => Z.2.2.1 < a)) 0 (w_X12_actChange_0 (MS Z d) (Gw Z 3 p e R s m args below meth c (MQ below (QcS Z Rp) args s 0 0 (fun a => Z.2.2.1 < a))) Rp) := by
  unfold w_X12_actChange_0
  refine s_iload_n (k := 1) C (by decide +kernel) ?_
  refine s_callS C (by decide +kernel) rfl w_6_208 w_6_209 w_1_13 w_6_210 (by decide +kernel) ?_
  refine s_if_ne (off := 6) (tgt := 10) C (by decide +kernel) (by decide) (fun _ _ _ _ _ _ h => h) ?_
  refine s_bipush (n := (-2)) C (by decide +kernel) (by decide) ?_
  exact s_iret C rfl (by decide +kernel)
set_option maxRecDepth 20000 in
theorem b_X12_actChange_10 {Z : Zt} {d : Nat} {p : Program} {e : Env} {R : Room} {s : State} {m : MethodId} {args : Array Value} {below : List Frame} {meth : Method} {c : Code} {Rp : RT} (C : Cx Z d jX12_actChange RX12 p R s m args meth c) : Sd Z jX12_actChange p e R s m args below meth c (MQ below (QcS Z Rp) args s 0 0 (fun a => Z.2.2.1 < a)) 10 (w_X12_actChange_10 (MS Z d) (Gw Z 3 p e R s m args below meth c (MQ below (QcS Z Rp) args s 0 0 (fun a => Z.2.2.1 < a))) Rp) := by
  unfold w_X12_actChange_10
  refine s_iload_n (k := 2) C (by decide +kernel) ?_
  refine s_i2l C (by decide +kernel) ?_
  refine s_lconst (n := 1) C (by decide +kernel) (by decide) ?_
  refine s_ldc2 C w_6_174 (by decide +kernel) ?_
  refine s_callS C (by decide +kernel) rfl w_6_175 w_6_176 w_1_13 w_6_177 (by decide +kernel) ?_
  refine s_if_ne (off := 6) (tgt := 25) C (by decide +kernel) (by decide) (fun _ _ _ _ _ _ h => h) ?_
  refine s_bipush (n := (-3)) C (by decide +kernel) (by decide) ?_
  exact s_iret C rfl (by decide +kernel)
set_option maxRecDepth 20000 in
theorem b_X12_actChange_25 {Z : Zt} {d : Nat} {p : Program} {e : Env} {R : Room} {s : State} {m : MethodId} {args : Array Value} {below : List Frame} {meth : Method} {c : Code} {Rp : RT} (C : Cx Z d jX12_actChange RX12 p R s m args meth c) : Sd Z jX12_actChange p e R s m args below meth c (MQ below (QcS Z Rp) args s 0 0 (fun a => Z.2.2.1 < a)) 25 (w_X12_actChange_25 (MS Z d) (Gw Z 3 p e R s m args below meth c (MQ below (QcS Z Rp) args s 0 0 (fun a => Z.2.2.1 < a))) Rp) := by
  unfold w_X12_actChange_25
  refine s_aload_n (k := 0) C (by decide +kernel) ?_
  refine s_iload_n (k := 1) C (by decide +kernel) ?_
  refine s_callV C rfl rfl (by decide +kernel) rfl w_6_216 w_6_218 w_p3_10 w_1_13 w_6_219 (by decide +kernel) ?_
  refine s_aload_n (k := 0) C (by decide +kernel) ?_
  refine s_iload_n (k := 1) C (by decide +kernel) ?_
  refine s_callV C rfl rfl (by decide +kernel) rfl w_6_236 w_6_238 w_p3_15 w_1_13 w_6_239 (by decide +kernel) ?_
  refine s_if_eq (off := 32) (tgt := 67) C (by decide +kernel) (by decide) (fun _ _ _ _ _ _ h => h) ?_
  refine s_aload_n (k := 0) C (by decide +kernel) ?_
  refine s_getI C w_6_96 (by decide +kernel) rfl ?_
  refine s_if_ne (off := 25) (tgt := 67) C (by decide +kernel) (by decide) (fun _ _ _ _ _ _ h => h) ?_
  refine s_aload_n (k := 0) C (by decide +kernel) ?_
  refine s_getI C w_6_98 (by decide +kernel) rfl ?_
  refine s_aload_n (k := 0) C (by decide +kernel) ?_
  refine s_iload_n (k := 1) C (by decide +kernel) ?_
  refine s_bipush (n := 7) C (by decide +kernel) (by decide) ?_
  refine s_callV C rfl rfl (by decide +kernel) rfl w_6_220 w_6_222 w_p3_11 w_1_13 w_6_223 (by decide +kernel) ?_
  refine s_icmp_gt (off := 11) (tgt := 67) C (by decide +kernel) (by decide) (fun _ _ _ _ _ _ h => h) ?_
  refine s_aload_n (k := 0) C (by decide +kernel) ?_
  refine s_getI C w_6_95 (by decide +kernel) rfl ?_
  refine s_iload_n (k := 2) C (by decide +kernel) ?_
  refine s_icmp_ne (off := 6) (tgt := 70) C (by decide +kernel) (by decide) (fun _ _ _ _ _ _ h => h) ?_
  exact (fun _ _ _ _ _ _ h => h)
set_option maxRecDepth 20000 in
theorem b_X12_actChange_67 {Z : Zt} {d : Nat} {p : Program} {e : Env} {R : Room} {s : State} {m : MethodId} {args : Array Value} {below : List Frame} {meth : Method} {c : Code} {Rp : RT} (C : Cx Z d jX12_actChange RX12 p R s m args meth c) : Sd Z jX12_actChange p e R s m args below meth c (MQ below (QcS Z Rp) args s 0 0 (fun a => Z.2.2.1 < a)) 67 (w_X12_actChange_67 (MS Z d) (Gw Z 3 p e R s m args below meth c (MQ below (QcS Z Rp) args s 0 0 (fun a => Z.2.2.1 < a))) Rp) := by
  unfold w_X12_actChange_67
  refine s_bipush (n := (-5)) C (by decide +kernel) (by decide) ?_
  exact s_iret C rfl (by decide +kernel)
set_option maxRecDepth 20000 in
theorem b_X12_actChange_70 {Z : Zt} {d : Nat} {p : Program} {e : Env} {R : Room} {s : State} {m : MethodId} {args : Array Value} {below : List Frame} {meth : Method} {c : Code} {Rp : RT} (C : Cx Z d jX12_actChange RX12 p R s m args meth c) : Sd Z jX12_actChange p e R s m args below meth c (MQ below (QcS Z Rp) args s 0 0 (fun a => Z.2.2.1 < a)) 70 (w_X12_actChange_70 (MS Z d) (Gw Z 3 p e R s m args below meth c (MQ below (QcS Z Rp) args s 0 0 (fun a => Z.2.2.1 < a))) Rp) := by
  unfold w_X12_actChange_70
  refine s_aload_n (k := 0) C (by decide +kernel) ?_
  refine s_iload_n (k := 1) C (by decide +kernel) ?_
  refine s_iconst (n := 4) C (by decide +kernel) (by decide) ?_
  refine s_callV C rfl rfl (by decide +kernel) rfl w_6_220 w_6_222 w_p3_11 w_1_13 w_6_223 (by decide +kernel) ?_
  refine s_bipush (n := 100) C (by decide +kernel) (by decide) ?_
  refine s_icmp_lt (off := 8) (tgt := 86) C (by decide +kernel) (by decide) (fun _ _ _ _ _ _ h => h) ?_
  refine s_bipush (n := (-4)) C (by decide +kernel) (by decide) ?_
  exact s_goto (off := 14) (tgt := 97) C (by decide +kernel) (by decide) (fun _ _ _ _ _ _ h => h)
set_option maxRecDepth 20000 in
theorem b_X12_actChange_86 {Z : Zt} {d : Nat} {p : Program} {e : Env} {R : Room} {s : State} {m : MethodId} {args : Array Value} {below : List Frame} {meth : Method} {c : Code} {Rp : RT} (C : Cx Z d jX12_actChange RX12 p R s m args meth c) : Sd Z jX12_actChange p e R s m args below meth c (MQ below (QcS Z Rp) args s 0 0 (fun a => Z.2.2.1 < a)) 86 (w_X12_actChange_86 (MS Z d) (Gw Z 3 p e R s m args below meth c (MQ below (QcS Z Rp) args s 0 0 (fun a => Z.2.2.1 < a))) Rp) := by
  unfold w_X12_actChange_86
  refine s_aload_n (k := 0) C (by decide +kernel) ?_
  refine s_iload_n (k := 1) C (by decide +kernel) ?_
  refine s_iconst (n := 3) C (by decide +kernel) (by decide) ?_
  refine s_aload_n (k := 0) C (by decide +kernel) ?_
  refine s_getI C w_6_95 (by decide +kernel) rfl ?_
  refine s_iload_n (k := 2) C (by decide +kernel) ?_
  refine s_callV C rfl rfl (by decide +kernel) rfl w_7_96 w_7_98 w_p5_2 w_1_13 w_7_99 (by decide +kernel) ?_
  exact (fun _ _ _ _ _ _ h => h)
set_option maxRecDepth 20000 in
theorem b_X12_actChange_97 {Z : Zt} {d : Nat} {p : Program} {e : Env} {R : Room} {s : State} {m : MethodId} {args : Array Value} {below : List Frame} {meth : Method} {c : Code} {Rp : RT} (C : Cx Z d jX12_actChange RX12 p R s m args meth c) : Sd Z jX12_actChange p e R s m args below meth c (MQ below (QcS Z Rp) args s 0 0 (fun a => Z.2.2.1 < a)) 97 (w_X12_actChange_97 (MS Z d) (Gw Z 3 p e R s m args below meth c (MQ below (QcS Z Rp) args s 0 0 (fun a => Z.2.2.1 < a))) Rp) := by
  unfold w_X12_actChange_97
  exact s_iret C rfl (by decide +kernel)
theorem ms_X12_actChange {Z : Zt} {d : Nat} {S : Sh} {μ : Mi} {ρ : Mr} {Rp : RT} (a0 : Nat) (x1 : Int32) (x2 : Int32) (h : ∀ G : Nat → PT, (∀ (L st : List Value) (S : Sh) (q : Nat × Nat) (μ : Mi) (ρ : Mr), w_X12_actChange_10 (MS Z d) G Rp L st S q μ ρ → G 10 L st S q μ ρ) → (∀ (L st : List Value) (S : Sh) (q : Nat × Nat) (μ : Mi) (ρ : Mr), w_X12_actChange_25 (MS Z d) G Rp L st S q μ ρ → G 25 L st S q μ ρ) → (∀ (L st : List Value) (S : Sh) (q : Nat × Nat) (μ : Mi) (ρ : Mr), w_X12_actChange_67 (MS Z d) G Rp L st S q μ ρ → G 67 L st S q μ ρ) → (∀ (L st : List Value) (S : Sh) (q : Nat × Nat) (μ : Mi) (ρ : Mr), w_X12_actChange_70 (MS Z d) G Rp L st S q μ ρ → G 70 L st S q μ ρ) → (∀ (L st : List Value) (S : Sh) (q : Nat × Nat) (μ : Mi) (ρ : Mr), w_X12_actChange_86 (MS Z d) G Rp L st S q μ ρ → G 86 L st S q μ ρ) → (∀ (L st : List Value) (S : Sh) (q : Nat × Nat) (μ : Mi) (ρ : Mr), w_X12_actChange_97 (MS Z d) G Rp L st S q μ ρ → G 97 L st S q μ ρ) → w_X12_actChange_0 (MS Z d) G Rp [.ref a0, .int x1, .int x2] [] S (0, 0) μ ρ) : MS Z (d + 1) jX12_actChange [.ref a0, .int x1, .int x2] S μ ρ Rp :=
  MS_of [.ref a0, .int x1, .int x2] (by decide +kernel) rfl rfl (Nat.le_of_ble_eq_true rfl) rfl (fun p e R s m args below meth c C => b_X12_actChange_0 C _ _ _ _ _ _ (h _ (b_X12_actChange_10 C) (b_X12_actChange_25 C) (b_X12_actChange_67 C) (b_X12_actChange_70 C) (b_X12_actChange_86 C) (b_X12_actChange_97 C)))
def w_X12_actCompact_0 (M : CT) (G : Nat → PT) (Rp : RT) : PT := tIload 1 <| tCallS M jX12_isStore 1 <| tIf (fun x => x ≠ 0) (G 10) <| tConst (-2) <| tIret Rp
def w_X12_actCompact_10 (M : CT) (G : Nat → PT) (Rp : RT) : PT := tAload 0 <| tIload 1 <| tConst 7 <| tCallV M jX12_of 12 27 2 <| tIstore 2 <| tIload 2 <| tAload 0 <| tIload 1 <| tConst 5 <| tCallV M jX12_of 12 27 2 <| tBin (fun x y => x - y) <| tIstore 3 <| tAload 0 <| tIload 1 <| tCallV M jX12_isUp 12 27 1 <| tIf (fun x => x = 0) (G 39) <| tIload 3 <| tIf (fun x => x ≠ 0) (G 42) <| G 39
def w_X12_actCompact_39 (M : CT) (G : Nat → PT) (Rp : RT) : PT := tConst (-5) <| tIret Rp
def w_X12_actCompact_42 (M : CT) (G : Nat → PT) (Rp : RT) : PT := tAload 0 <| tIload 1 <| tIload 2 <| tCallV M jX12_laysMembersUpTo 12 27 2 <| tAload 0 <| tGetI 12 27 11 <| tIf (fun x => x ≠ 0) (G 69) <| tAload 0 <| tIload 1 <| tConst 9 <| tCallV M jX12_of 12 27 2 <| tIf (fun x => x ≠ 0) (G 69) <| tConst 1 <| tGoto (G 70)
def w_X12_actCompact_69 (M : CT) (G : Nat → PT) (Rp : RT) : PT := tConst 0 <| G 70
def w_X12_actCompact_70 (M : CT) (G : Nat → PT) (Rp : RT) : PT := tIstore 4 <| tAload 0 <| tIload 1 <| tConst 9 <| tIload 4 <| tIf (fun x => x = 0) (G 85) <| tConst 0 <| tGoto (G 89)
def w_X12_actCompact_85 (M : CT) (G : Nat → PT) (Rp : RT) : PT := tAload 0 <| tGetI 12 27 8 <| G 89
def w_X12_actCompact_89 (M : CT) (G : Nat → PT) (Rp : RT) : PT := tCallV M jX12_lays 12 27 3 <| tAload 0 <| tIload 1 <| tConst 10 <| tIload 4 <| tIf (fun x => x = 0) (G 105) <| tConst 0 <| tGoto (G 109)
def w_X12_actCompact_105 (M : CT) (G : Nat → PT) (Rp : RT) : PT := tAload 0 <| tGetI 12 27 9 <| G 109
def w_X12_actCompact_109 (M : CT) (G : Nat → PT) (Rp : RT) : PT := tCallV M jX12_lays 12 27 3 <| tAload 0 <| tIload 1 <| tConst 6 <| tAload 0 <| tIload 1 <| tIload 2 <| tCallV M jX12_termAt 12 27 2 <| tCallV M jX12_lays 12 27 3 <| tAload 0 <| tIload 1 <| tConst 5 <| tIload 2 <| tCallV M jX12_lays 12 27 3 <| tConst 0 <| tIstore 5 <| G 135
def w_X12_actCompact_135 (M : CT) (G : Nat → PT) (Rp : RT) : PT := tIload 5 <| tConst 4 <| tIf2 (fun x y => y ≤ x) (G 167) <| tAload 0 <| tIload 1 <| tConst 20 <| tIload 5 <| tBin (fun x y => x + y) <| tAload 0 <| tIload 1 <| tConst 16 <| tIload 5 <| tBin (fun x y => x + y) <| tCallV M jX12_of 12 27 2 <| tCallV M jX12_lays 12 27 3 <| tIinc 5 1 <| tGoto (G 135)
def w_X12_actCompact_167 (M : CT) (G : Nat → PT) (Rp : RT) : PT := tIload 3 <| tIret Rp
set_option maxRecDepth 20000 in
theorem b_X12_actCompact_0 {Z : Zt} {d : Nat} {p : Program} {e : Env} {R : Room} {s : State} {m : MethodId} {args : Array Value} {below : List Frame} {meth : Method} {c : Code} {Rp : RT} (C : Cx Z d jX12_actCompact RX12 p R s m args meth c) : Sd Z jX12_actCompact p e R s m args below meth c (MQ below (QcS Z Rp) args s 0 0 (fun a => Z.2.2.1 < a)) 0 (w_X12_actCompact_0 (MS Z d) (Gw Z 6 p e R s m args below meth c (MQ below (QcS Z Rp) args s 0 0 (fun a => Z.2.2.1 < a))) Rp) := by
  unfold w_X12_actCompact_0
  refine s_iload_n (k := 1) C (by decide +kernel) ?_
  refine s_callS C (by decide +kernel) rfl w_6_208 w_6_209 w_1_13 w_6_210 (by decide +kernel) ?_
  refine s_if_ne (off := 6) (tgt := 10) C (by decide +kernel) (by decide) (fun _ _ _ _ _ _ h => h) ?_
  refine s_bipush (n := (-2)) C (by decide +kernel) (by decide) ?_
  exact s_iret C rfl (by decide +kernel)
set_option maxRecDepth 20000 in
theorem b_X12_actCompact_10 {Z : Zt} {d : Nat} {p : Program} {e : Env} {R : Room} {s : State} {m : MethodId} {args : Array Value} {below : List Frame} {meth : Method} {c : Code} {Rp : RT} (C : Cx Z d jX12_actCompact RX12 p R s m args meth c) : Sd Z jX12_actCompact p e R s m args below meth c (MQ below (QcS Z Rp) args s 0 0 (fun a => Z.2.2.1 < a)) 10 (w_X12_actCompact_10 (MS Z d) (Gw Z 6 p e R s m args below meth c (MQ below (QcS Z Rp) args s 0 0 (fun a => Z.2.2.1 < a))) Rp) := by
  unfold w_X12_actCompact_10
  refine s_aload_n (k := 0) C (by decide +kernel) ?_
  refine s_iload_n (k := 1) C (by decide +kernel) ?_
  refine s_bipush (n := 7) C (by decide +kernel) (by decide) ?_
  refine s_callV C rfl rfl (by decide +kernel) rfl w_6_220 w_6_222 w_p3_11 w_1_13 w_6_223 (by decide +kernel) ?_
  refine s_istore_n (k := 2) C (by decide +kernel) ?_
  refine s_iload_n (k := 2) C (by decide +kernel) ?_
  refine s_aload_n (k := 0) C (by decide +kernel) ?_
  refine s_iload_n (k := 1) C (by decide +kernel) ?_
  refine s_iconst (n := 5) C (by decide +kernel) (by decide) ?_
  refine s_callV C rfl rfl (by decide +kernel) rfl w_6_220 w_6_222 w_p3_11 w_1_13 w_6_223 (by decide +kernel) ?_
  refine s_isub C (by decide +kernel) ?_
  refine s_istore_n (k := 3) C (by decide +kernel) ?_
  refine s_aload_n (k := 0) C (by decide +kernel) ?_
  refine s_iload_n (k := 1) C (by decide +kernel) ?_
  refine s_callV C rfl rfl (by decide +kernel) rfl w_6_232 w_6_234 w_p3_14 w_1_13 w_6_235 (by decide +kernel) ?_
  refine s_if_eq (off := 7) (tgt := 39) C (by decide +kernel) (by decide) (fun _ _ _ _ _ _ h => h) ?_
  refine s_iload_n (k := 3) C (by decide +kernel) ?_
  refine s_if_ne (off := 6) (tgt := 42) C (by decide +kernel) (by decide) (fun _ _ _ _ _ _ h => h) ?_
  exact (fun _ _ _ _ _ _ h => h)
set_option maxRecDepth 20000 in
theorem b_X12_actCompact_39 {Z : Zt} {d : Nat} {p : Program} {e : Env} {R : Room} {s : State} {m : MethodId} {args : Array Value} {below : List Frame} {meth : Method} {c : Code} {Rp : RT} (C : Cx Z d jX12_actCompact RX12 p R s m args meth c) : Sd Z jX12_actCompact p e R s m args below meth c (MQ below (QcS Z Rp) args s 0 0 (fun a => Z.2.2.1 < a)) 39 (w_X12_actCompact_39 (MS Z d) (Gw Z 6 p e R s m args below meth c (MQ below (QcS Z Rp) args s 0 0 (fun a => Z.2.2.1 < a))) Rp) := by
  unfold w_X12_actCompact_39
  refine s_bipush (n := (-5)) C (by decide +kernel) (by decide) ?_
  exact s_iret C rfl (by decide +kernel)
set_option maxRecDepth 20000 in
theorem b_X12_actCompact_42 {Z : Zt} {d : Nat} {p : Program} {e : Env} {R : Room} {s : State} {m : MethodId} {args : Array Value} {below : List Frame} {meth : Method} {c : Code} {Rp : RT} (C : Cx Z d jX12_actCompact RX12 p R s m args meth c) : Sd Z jX12_actCompact p e R s m args below meth c (MQ below (QcS Z Rp) args s 0 0 (fun a => Z.2.2.1 < a)) 42 (w_X12_actCompact_42 (MS Z d) (Gw Z 6 p e R s m args below meth c (MQ below (QcS Z Rp) args s 0 0 (fun a => Z.2.2.1 < a))) Rp) := by
  unfold w_X12_actCompact_42
  refine s_aload_n (k := 0) C (by decide +kernel) ?_
  refine s_iload_n (k := 1) C (by decide +kernel) ?_
  refine s_iload_n (k := 2) C (by decide +kernel) ?_
  refine s_callV C rfl rfl (by decide +kernel) rfl w_6_224 w_6_226 w_p3_12 w_1_13 w_6_227 (by decide +kernel) ?_
  refine s_aload_n (k := 0) C (by decide +kernel) ?_
  refine s_getI C w_6_98 (by decide +kernel) rfl ?_
  refine s_if_ne (off := 17) (tgt := 69) C (by decide +kernel) (by decide) (fun _ _ _ _ _ _ h => h) ?_
  refine s_aload_n (k := 0) C (by decide +kernel) ?_
  refine s_iload_n (k := 1) C (by decide +kernel) ?_
  refine s_bipush (n := 9) C (by decide +kernel) (by decide) ?_
  refine s_callV C rfl rfl (by decide +kernel) rfl w_6_220 w_6_222 w_p3_11 w_1_13 w_6_223 (by decide +kernel) ?_
  refine s_if_ne (off := 7) (tgt := 69) C (by decide +kernel) (by decide) (fun _ _ _ _ _ _ h => h) ?_
  refine s_iconst (n := 1) C (by decide +kernel) (by decide) ?_
  exact s_goto (off := 4) (tgt := 70) C (by decide +kernel) (by decide) (fun _ _ _ _ _ _ h => h)
set_option maxRecDepth 20000 in
theorem b_X12_actCompact_69 {Z : Zt} {d : Nat} {p : Program} {e : Env} {R : Room} {s : State} {m : MethodId} {args : Array Value} {below : List Frame} {meth : Method} {c : Code} {Rp : RT} (C : Cx Z d jX12_actCompact RX12 p R s m args meth c) : Sd Z jX12_actCompact p e R s m args below meth c (MQ below (QcS Z Rp) args s 0 0 (fun a => Z.2.2.1 < a)) 69 (w_X12_actCompact_69 (MS Z d) (Gw Z 6 p e R s m args below meth c (MQ below (QcS Z Rp) args s 0 0 (fun a => Z.2.2.1 < a))) Rp) := by
  unfold w_X12_actCompact_69
  refine s_iconst (n := 0) C (by decide +kernel) (by decide) ?_
  exact (fun _ _ _ _ _ _ h => h)
set_option maxRecDepth 20000 in
theorem b_X12_actCompact_70 {Z : Zt} {d : Nat} {p : Program} {e : Env} {R : Room} {s : State} {m : MethodId} {args : Array Value} {below : List Frame} {meth : Method} {c : Code} {Rp : RT} (C : Cx Z d jX12_actCompact RX12 p R s m args meth c) : Sd Z jX12_actCompact p e R s m args below meth c (MQ below (QcS Z Rp) args s 0 0 (fun a => Z.2.2.1 < a)) 70 (w_X12_actCompact_70 (MS Z d) (Gw Z 6 p e R s m args below meth c (MQ below (QcS Z Rp) args s 0 0 (fun a => Z.2.2.1 < a))) Rp) := by
  unfold w_X12_actCompact_70
  refine s_istore (k := 4) C (by decide +kernel) ?_
  refine s_aload_n (k := 0) C (by decide +kernel) ?_
  refine s_iload_n (k := 1) C (by decide +kernel) ?_
  refine s_bipush (n := 9) C (by decide +kernel) (by decide) ?_
  refine s_iload (k := 4) C (by decide +kernel) ?_
  refine s_if_eq (off := 7) (tgt := 85) C (by decide +kernel) (by decide) (fun _ _ _ _ _ _ h => h) ?_
  refine s_iconst (n := 0) C (by decide +kernel) (by decide) ?_
  exact s_goto (off := 7) (tgt := 89) C (by decide +kernel) (by decide) (fun _ _ _ _ _ _ h => h)
set_option maxRecDepth 20000 in
theorem b_X12_actCompact_85 {Z : Zt} {d : Nat} {p : Program} {e : Env} {R : Room} {s : State} {m : MethodId} {args : Array Value} {below : List Frame} {meth : Method} {c : Code} {Rp : RT} (C : Cx Z d jX12_actCompact RX12 p R s m args meth c) : Sd Z jX12_actCompact p e R s m args below meth c (MQ below (QcS Z Rp) args s 0 0 (fun a => Z.2.2.1 < a)) 85 (w_X12_actCompact_85 (MS Z d) (Gw Z 6 p e R s m args below meth c (MQ below (QcS Z Rp) args s 0 0 (fun a => Z.2.2.1 < a))) Rp) := by
  unfold w_X12_actCompact_85
  refine s_aload_n (k := 0) C (by decide +kernel) ?_
  refine s_getI C w_6_95 (by decide +kernel) rfl ?_
  exact (fun _ _ _ _ _ _ h => h)
set_option maxRecDepth 20000 in
theorem b_X12_actCompact_89 {Z : Zt} {d : Nat} {p : Program} {e : Env} {R : Room} {s : State} {m : MethodId} {args : Array Value} {below : List Frame} {meth : Method} {c : Code} {Rp : RT} (C : Cx Z d jX12_actCompact RX12 p R s m args meth c) : Sd Z jX12_actCompact p e R s m args below meth c (MQ below (QcS Z Rp) args s 0 0 (fun a => Z.2.2.1 < a)) 89 (w_X12_actCompact_89 (MS Z d) (Gw Z 6 p e R s m args below meth c (MQ below (QcS Z Rp) args s 0 0 (fun a => Z.2.2.1 < a))) Rp) := by
  unfold w_X12_actCompact_89
  refine s_callV C rfl rfl (by decide +kernel) rfl w_6_82 w_6_84 w_p3_4 w_1_13 w_6_85 (by decide +kernel) ?_
  refine s_aload_n (k := 0) C (by decide +kernel) ?_
  refine s_iload_n (k := 1) C (by decide +kernel) ?_
  refine s_bipush (n := 10) C (by decide +kernel) (by decide) ?_
  refine s_iload (k := 4) C (by decide +kernel) ?_
  refine s_if_eq (off := 7) (tgt := 105) C (by decide +kernel) (by decide) (fun _ _ _ _ _ _ h => h) ?_
  refine s_iconst (n := 0) C (by decide +kernel) (by decide) ?_
  exact s_goto (off := 7) (tgt := 109) C (by decide +kernel) (by decide) (fun _ _ _ _ _ _ h => h)
set_option maxRecDepth 20000 in
theorem b_X12_actCompact_105 {Z : Zt} {d : Nat} {p : Program} {e : Env} {R : Room} {s : State} {m : MethodId} {args : Array Value} {below : List Frame} {meth : Method} {c : Code} {Rp : RT} (C : Cx Z d jX12_actCompact RX12 p R s m args meth c) : Sd Z jX12_actCompact p e R s m args below meth c (MQ below (QcS Z Rp) args s 0 0 (fun a => Z.2.2.1 < a)) 105 (w_X12_actCompact_105 (MS Z d) (Gw Z 6 p e R s m args below meth c (MQ below (QcS Z Rp) args s 0 0 (fun a => Z.2.2.1 < a))) Rp) := by
  unfold w_X12_actCompact_105
  refine s_aload_n (k := 0) C (by decide +kernel) ?_
  refine s_getI C w_6_96 (by decide +kernel) rfl ?_
  exact (fun _ _ _ _ _ _ h => h)
set_option maxRecDepth 20000 in
theorem b_X12_actCompact_109 {Z : Zt} {d : Nat} {p : Program} {e : Env} {R : Room} {s : State} {m : MethodId} {args : Array Value} {below : List Frame} {meth : Method} {c : Code} {Rp : RT} (C : Cx Z d jX12_actCompact RX12 p R s m args meth c) : Sd Z jX12_actCompact p e R s m args below meth c (MQ below (QcS Z Rp) args s 0 0 (fun a => Z.2.2.1 < a)) 109 (w_X12_actCompact_109 (MS Z d) (Gw Z 6 p e R s m args below meth c (MQ below (QcS Z Rp) args s 0 0 (fun a => Z.2.2.1 < a))) Rp) := by
  unfold w_X12_actCompact_109
  refine s_callV C rfl rfl (by decide +kernel) rfl w_6_82 w_6_84 w_p3_4 w_1_13 w_6_85 (by decide +kernel) ?_
  refine s_aload_n (k := 0) C (by decide +kernel) ?_
  refine s_iload_n (k := 1) C (by decide +kernel) ?_
  refine s_bipush (n := 6) C (by decide +kernel) (by decide) ?_
  refine s_aload_n (k := 0) C (by decide +kernel) ?_
  refine s_iload_n (k := 1) C (by decide +kernel) ?_
  refine s_iload_n (k := 2) C (by decide +kernel) ?_
  refine s_callV C rfl rfl (by decide +kernel) rfl w_7_23 w_7_25 w_p4_5 w_1_13 w_7_26 (by decide +kernel) ?_
  refine s_callV C rfl rfl (by decide +kernel) rfl w_6_82 w_6_84 w_p3_4 w_1_13 w_6_85 (by decide +kernel) ?_
  refine s_aload_n (k := 0) C (by decide +kernel) ?_
  refine s_iload_n (k := 1) C (by decide +kernel) ?_
  refine s_iconst (n := 5) C (by decide +kernel) (by decide) ?_
  refine s_iload_n (k := 2) C (by decide +kernel) ?_
  refine s_callV C rfl rfl (by decide +kernel) rfl w_6_82 w_6_84 w_p3_4 w_1_13 w_6_85 (by decide +kernel) ?_
  refine s_iconst (n := 0) C (by decide +kernel) (by decide) ?_
  refine s_istore (k := 5) C (by decide +kernel) ?_
  exact (fun _ _ _ _ _ _ h => h)
set_option maxRecDepth 20000 in
theorem b_X12_actCompact_135 {Z : Zt} {d : Nat} {p : Program} {e : Env} {R : Room} {s : State} {m : MethodId} {args : Array Value} {below : List Frame} {meth : Method} {c : Code} {Rp : RT} (C : Cx Z d jX12_actCompact RX12 p R s m args meth c) : Sd Z jX12_actCompact p e R s m args below meth c (MQ below (QcS Z Rp) args s 0 0 (fun a => Z.2.2.1 < a)) 135 (w_X12_actCompact_135 (MS Z d) (Gw Z 6 p e R s m args below meth c (MQ below (QcS Z Rp) args s 0 0 (fun a => Z.2.2.1 < a))) Rp) := by
  unfold w_X12_actCompact_135
  refine s_iload (k := 5) C (by decide +kernel) ?_
  refine s_iconst (n := 4) C (by decide +kernel) (by decide) ?_
  refine s_icmp_ge (off := 29) (tgt := 167) C (by decide +kernel) (by decide) (fun _ _ _ _ _ _ h => h) ?_
  refine s_aload_n (k := 0) C (by decide +kernel) ?_
  refine s_iload_n (k := 1) C (by decide +kernel) ?_
  refine s_bipush (n := 20) C (by decide +kernel) (by decide) ?_
  refine s_iload (k := 5) C (by decide +kernel) ?_
  refine s_iadd C (by decide +kernel) ?_
  refine s_aload_n (k := 0) C (by decide +kernel) ?_
  refine s_iload_n (k := 1) C (by decide +kernel) ?_
  refine s_bipush (n := 16) C (by decide +kernel) (by decide) ?_
  refine s_iload (k := 5) C (by decide +kernel) ?_
  refine s_iadd C (by decide +kernel) ?_
  refine s_callV C rfl rfl (by decide +kernel) rfl w_6_220 w_6_222 w_p3_11 w_1_13 w_6_223 (by decide +kernel) ?_
  refine s_callV C rfl rfl (by decide +kernel) rfl w_6_82 w_6_84 w_p3_4 w_1_13 w_6_85 (by decide +kernel) ?_
  refine s_iinc (n := 1) C (by decide +kernel) (by decide) ?_
  exact s_goto (off := (-29)) (tgt := 135) C (by decide +kernel) (by decide) (fun _ _ _ _ _ _ h => h)
set_option maxRecDepth 20000 in
theorem b_X12_actCompact_167 {Z : Zt} {d : Nat} {p : Program} {e : Env} {R : Room} {s : State} {m : MethodId} {args : Array Value} {below : List Frame} {meth : Method} {c : Code} {Rp : RT} (C : Cx Z d jX12_actCompact RX12 p R s m args meth c) : Sd Z jX12_actCompact p e R s m args below meth c (MQ below (QcS Z Rp) args s 0 0 (fun a => Z.2.2.1 < a)) 167 (w_X12_actCompact_167 (MS Z d) (Gw Z 6 p e R s m args below meth c (MQ below (QcS Z Rp) args s 0 0 (fun a => Z.2.2.1 < a))) Rp) := by
  unfold w_X12_actCompact_167
  refine s_iload_n (k := 3) C (by decide +kernel) ?_
  exact s_iret C rfl (by decide +kernel)
theorem ms_X12_actCompact {Z : Zt} {d : Nat} {S : Sh} {μ : Mi} {ρ : Mr} {Rp : RT} (a0 : Nat) (x1 : Int32) (h : ∀ G : Nat → PT, (∀ (L st : List Value) (S : Sh) (q : Nat × Nat) (μ : Mi) (ρ : Mr), w_X12_actCompact_10 (MS Z d) G Rp L st S q μ ρ → G 10 L st S q μ ρ) → (∀ (L st : List Value) (S : Sh) (q : Nat × Nat) (μ : Mi) (ρ : Mr), w_X12_actCompact_39 (MS Z d) G Rp L st S q μ ρ → G 39 L st S q μ ρ) → (∀ (L st : List Value) (S : Sh) (q : Nat × Nat) (μ : Mi) (ρ : Mr), w_X12_actCompact_42 (MS Z d) G Rp L st S q μ ρ → G 42 L st S q μ ρ) → (∀ (L st : List Value) (S : Sh) (q : Nat × Nat) (μ : Mi) (ρ : Mr), w_X12_actCompact_69 (MS Z d) G Rp L st S q μ ρ → G 69 L st S q μ ρ) → (∀ (L st : List Value) (S : Sh) (q : Nat × Nat) (μ : Mi) (ρ : Mr), w_X12_actCompact_70 (MS Z d) G Rp L st S q μ ρ → G 70 L st S q μ ρ) → (∀ (L st : List Value) (S : Sh) (q : Nat × Nat) (μ : Mi) (ρ : Mr), w_X12_actCompact_85 (MS Z d) G Rp L st S q μ ρ → G 85 L st S q μ ρ) → (∀ (L st : List Value) (S : Sh) (q : Nat × Nat) (μ : Mi) (ρ : Mr), w_X12_actCompact_89 (MS Z d) G Rp L st S q μ ρ → G 89 L st S q μ ρ) → (∀ (L st : List Value) (S : Sh) (q : Nat × Nat) (μ : Mi) (ρ : Mr), w_X12_actCompact_105 (MS Z d) G Rp L st S q μ ρ → G 105 L st S q μ ρ) → (∀ (L st : List Value) (S : Sh) (q : Nat × Nat) (μ : Mi) (ρ : Mr), w_X12_actCompact_109 (MS Z d) G Rp L st S q μ ρ → G 109 L st S q μ ρ) → (∀ (L st : List Value) (S : Sh) (q : Nat × Nat) (μ : Mi) (ρ : Mr), w_X12_actCompact_135 (MS Z d) G Rp L st S q μ ρ → G 135 L st S q μ ρ) → (∀ (L st : List Value) (S : Sh) (q : Nat × Nat) (μ : Mi) (ρ : Mr), w_X12_actCompact_167 (MS Z d) G Rp L st S q μ ρ → G 167 L st S q μ ρ) → w_X12_actCompact_0 (MS Z d) G Rp [.ref a0, .int x1, .null, .null, .null, .null] [] S (0, 0) μ ρ) : MS Z (d + 1) jX12_actCompact [.ref a0, .int x1] S μ ρ Rp :=
  MS_of [.ref a0, .int x1, .null, .null, .null, .null] (by decide +kernel) rfl rfl (Nat.le_of_ble_eq_true rfl) rfl (fun p e R s m args below meth c C => b_X12_actCompact_0 C _ _ _ _ _ _ (h _ (b_X12_actCompact_10 C) (b_X12_actCompact_39 C) (b_X12_actCompact_42 C) (b_X12_actCompact_69 C) (b_X12_actCompact_70 C) (b_X12_actCompact_85 C) (b_X12_actCompact_89 C) (b_X12_actCompact_105 C) (b_X12_actCompact_109 C) (b_X12_actCompact_135 C) (b_X12_actCompact_167 C)))
def w_X12_actStop_0 (M : CT) (G : Nat → PT) (Rp : RT) : PT := tIload 1 <| tCallS M jX12_isStore 1 <| tIf (fun x => x ≠ 0) (G 10) <| tConst (-2) <| tIret Rp
def w_X12_actStop_10 (M : CT) (G : Nat → PT) (Rp : RT) : PT := tAload 0 <| tIload 1 <| tCallV M jX12_isUp 12 27 1 <| tIf (fun x => x ≠ 0) (G 21) <| tConst (-5) <| tIret Rp
def w_X12_actStop_21 (M : CT) (G : Nat → PT) (Rp : RT) : PT := tAload 0 <| tIload 1 <| tConst 3 <| tCallV M jX12_of 12 27 2 <| tIstore 2 <| tAload 0 <| tIload 1 <| tConst 0 <| tConst 0 <| tCallV M jX12_lays 12 27 3 <| tAload 0 <| tIload 1 <| tConst 0 <| tCallV M jX12_plays 12 27 2 <| tAload 0 <| tIload 1 <| tCallV M jX12_readsNothing 12 27 1 <| tAload 0 <| tIload 1 <| tConst 7 <| tAload 0 <| tIload 1 <| tConst 5 <| tCallV M jX12_of 12 27 2 <| tCallV M jX12_lays 12 27 3 <| tConst 0 <| tIstore 3 <| G 61
def w_X12_actStop_61 (M : CT) (G : Nat → PT) (Rp : RT) : PT := tIload 3 <| tConst 4 <| tIf2 (fun x y => y ≤ x) (G 90) <| tAload 0 <| tIload 1 <| tConst 16 <| tIload 3 <| tBin (fun x y => x + y) <| tAload 0 <| tIload 1 <| tConst 20 <| tIload 3 <| tBin (fun x y => x + y) <| tCallV M jX12_of 12 27 2 <| tCallV M jX12_lays 12 27 3 <| tIinc 3 1 <| tGoto (G 61)
def w_X12_actStop_90 (M : CT) (G : Nat → PT) (Rp : RT) : PT := tIload 2 <| tIret Rp
set_option maxRecDepth 20000 in
theorem b_X12_actStop_0 {Z : Zt} {d : Nat} {p : Program} {e : Env} {R : Room} {s : State} {m : MethodId} {args : Array Value} {below : List Frame} {meth : Method} {c : Code} {Rp : RT} (C : Cx Z d jX12_actStop RX12 p R s m args meth c) : Sd Z jX12_actStop p e R s m args below meth c (MQ below (QcS Z Rp) args s 0 0 (fun a => Z.2.2.1 < a)) 0 (w_X12_actStop_0 (MS Z d) (Gw Z 4 p e R s m args below meth c (MQ below (QcS Z Rp) args s 0 0 (fun a => Z.2.2.1 < a))) Rp) := by
  unfold w_X12_actStop_0
  refine s_iload_n (k := 1) C (by decide +kernel) ?_
  refine s_callS C (by decide +kernel) rfl w_6_208 w_6_209 w_1_13 w_6_210 (by decide +kernel) ?_
  refine s_if_ne (off := 6) (tgt := 10) C (by decide +kernel) (by decide) (fun _ _ _ _ _ _ h => h) ?_
  refine s_bipush (n := (-2)) C (by decide +kernel) (by decide) ?_
  exact s_iret C rfl (by decide +kernel)
set_option maxRecDepth 20000 in
theorem b_X12_actStop_10 {Z : Zt} {d : Nat} {p : Program} {e : Env} {R : Room} {s : State} {m : MethodId} {args : Array Value} {below : List Frame} {meth : Method} {c : Code} {Rp : RT} (C : Cx Z d jX12_actStop RX12 p R s m args meth c) : Sd Z jX12_actStop p e R s m args below meth c (MQ below (QcS Z Rp) args s 0 0 (fun a => Z.2.2.1 < a)) 10 (w_X12_actStop_10 (MS Z d) (Gw Z 4 p e R s m args below meth c (MQ below (QcS Z Rp) args s 0 0 (fun a => Z.2.2.1 < a))) Rp) := by
  unfold w_X12_actStop_10
  refine s_aload_n (k := 0) C (by decide +kernel) ?_
  refine s_iload_n (k := 1) C (by decide +kernel) ?_
  refine s_callV C rfl rfl (by decide +kernel) rfl w_6_232 w_6_234 w_p3_14 w_1_13 w_6_235 (by decide +kernel) ?_
  refine s_if_ne (off := 6) (tgt := 21) C (by decide +kernel) (by decide) (fun _ _ _ _ _ _ h => h) ?_
  refine s_bipush (n := (-5)) C (by decide +kernel) (by decide) ?_
  exact s_iret C rfl (by decide +kernel)
set_option maxRecDepth 20000 in
theorem b_X12_actStop_21 {Z : Zt} {d : Nat} {p : Program} {e : Env} {R : Room} {s : State} {m : MethodId} {args : Array Value} {below : List Frame} {meth : Method} {c : Code} {Rp : RT} (C : Cx Z d jX12_actStop RX12 p R s m args meth c) : Sd Z jX12_actStop p e R s m args below meth c (MQ below (QcS Z Rp) args s 0 0 (fun a => Z.2.2.1 < a)) 21 (w_X12_actStop_21 (MS Z d) (Gw Z 4 p e R s m args below meth c (MQ below (QcS Z Rp) args s 0 0 (fun a => Z.2.2.1 < a))) Rp) := by
  unfold w_X12_actStop_21
  refine s_aload_n (k := 0) C (by decide +kernel) ?_
  refine s_iload_n (k := 1) C (by decide +kernel) ?_
  refine s_iconst (n := 3) C (by decide +kernel) (by decide) ?_
  refine s_callV C rfl rfl (by decide +kernel) rfl w_6_220 w_6_222 w_p3_11 w_1_13 w_6_223 (by decide +kernel) ?_
  refine s_istore_n (k := 2) C (by decide +kernel) ?_
  refine s_aload_n (k := 0) C (by decide +kernel) ?_
  refine s_iload_n (k := 1) C (by decide +kernel) ?_
  refine s_iconst (n := 0) C (by decide +kernel) (by decide) ?_
  refine s_iconst (n := 0) C (by decide +kernel) (by decide) ?_
  refine s_callV C rfl rfl (by decide +kernel) rfl w_6_82 w_6_84 w_p3_4 w_1_13 w_6_85 (by decide +kernel) ?_
  refine s_aload_n (k := 0) C (by decide +kernel) ?_
  refine s_iload_n (k := 1) C (by decide +kernel) ?_
  refine s_iconst (n := 0) C (by decide +kernel) (by decide) ?_
  refine s_callV C rfl rfl (by decide +kernel) rfl w_7_11 w_7_13 w_p4_2 w_1_13 w_7_14 (by decide +kernel) ?_
  refine s_aload_n (k := 0) C (by decide +kernel) ?_
  refine s_iload_n (k := 1) C (by decide +kernel) ?_
  refine s_callV C rfl rfl (by decide +kernel) rfl w_7_15 w_7_17 w_p4_3 w_1_13 w_7_18 (by decide +kernel) ?_
  refine s_aload_n (k := 0) C (by decide +kernel) ?_
  refine s_iload_n (k := 1) C (by decide +kernel) ?_
  refine s_bipush (n := 7) C (by decide +kernel) (by decide) ?_
  refine s_aload_n (k := 0) C (by decide +kernel) ?_
  refine s_iload_n (k := 1) C (by decide +kernel) ?_
  refine s_iconst (n := 5) C (by decide +kernel) (by decide) ?_
  refine s_callV C rfl rfl (by decide +kernel) rfl w_6_220 w_6_222 w_p3_11 w_1_13 w_6_223 (by decide +kernel) ?_
  refine s_callV C rfl rfl (by decide +kernel) rfl w_6_82 w_6_84 w_p3_4 w_1_13 w_6_85 (by decide +kernel) ?_
  refine s_iconst (n := 0) C (by decide +kernel) (by decide) ?_
  refine s_istore_n (k := 3) C (by decide +kernel) ?_
  exact (fun _ _ _ _ _ _ h => h)
set_option maxRecDepth 20000 in
theorem b_X12_actStop_61 {Z : Zt} {d : Nat} {p : Program} {e : Env} {R : Room} {s : State} {m : MethodId} {args : Array Value} {below : List Frame} {meth : Method} {c : Code} {Rp : RT} (C : Cx Z d jX12_actStop RX12 p R s m args meth c) : Sd Z jX12_actStop p e R s m args below meth c (MQ below (QcS Z Rp) args s 0 0 (fun a => Z.2.2.1 < a)) 61 (w_X12_actStop_61 (MS Z d) (Gw Z 4 p e R s m args below meth c (MQ below (QcS Z Rp) args s 0 0 (fun a => Z.2.2.1 < a))) Rp) := by
  unfold w_X12_actStop_61
  refine s_iload_n (k := 3) C (by decide +kernel) ?_
  refine s_iconst (n := 4) C (by decide +kernel) (by decide) ?_
  refine s_icmp_ge (off := 27) (tgt := 90) C (by decide +kernel) (by decide) (fun _ _ _ _ _ _ h => h) ?_
  refine s_aload_n (k := 0) C (by decide +kernel) ?_
  refine s_iload_n (k := 1) C (by decide +kernel) ?_
  refine s_bipush (n := 16) C (by decide +kernel) (by decide) ?_
  refine s_iload_n (k := 3) C (by decide +kernel) ?_
  refine s_iadd C (by decide +kernel) ?_
  refine s_aload_n (k := 0) C (by decide +kernel) ?_
  refine s_iload_n (k := 1) C (by decide +kernel) ?_
  refine s_bipush (n := 20) C (by decide +kernel) (by decide) ?_
  refine s_iload_n (k := 3) C (by decide +kernel) ?_
  refine s_iadd C (by decide +kernel) ?_
  refine s_callV C rfl rfl (by decide +kernel) rfl w_6_220 w_6_222 w_p3_11 w_1_13 w_6_223 (by decide +kernel) ?_
  refine s_callV C rfl rfl (by decide +kernel) rfl w_6_82 w_6_84 w_p3_4 w_1_13 w_6_85 (by decide +kernel) ?_
  refine s_iinc (n := 1) C (by decide +kernel) (by decide) ?_
  exact s_goto (off := (-26)) (tgt := 61) C (by decide +kernel) (by decide) (fun _ _ _ _ _ _ h => h)
set_option maxRecDepth 20000 in
theorem b_X12_actStop_90 {Z : Zt} {d : Nat} {p : Program} {e : Env} {R : Room} {s : State} {m : MethodId} {args : Array Value} {below : List Frame} {meth : Method} {c : Code} {Rp : RT} (C : Cx Z d jX12_actStop RX12 p R s m args meth c) : Sd Z jX12_actStop p e R s m args below meth c (MQ below (QcS Z Rp) args s 0 0 (fun a => Z.2.2.1 < a)) 90 (w_X12_actStop_90 (MS Z d) (Gw Z 4 p e R s m args below meth c (MQ below (QcS Z Rp) args s 0 0 (fun a => Z.2.2.1 < a))) Rp) := by
  unfold w_X12_actStop_90
  refine s_iload_n (k := 2) C (by decide +kernel) ?_
  exact s_iret C rfl (by decide +kernel)
theorem ms_X12_actStop {Z : Zt} {d : Nat} {S : Sh} {μ : Mi} {ρ : Mr} {Rp : RT} (a0 : Nat) (x1 : Int32) (h : ∀ G : Nat → PT, (∀ (L st : List Value) (S : Sh) (q : Nat × Nat) (μ : Mi) (ρ : Mr), w_X12_actStop_10 (MS Z d) G Rp L st S q μ ρ → G 10 L st S q μ ρ) → (∀ (L st : List Value) (S : Sh) (q : Nat × Nat) (μ : Mi) (ρ : Mr), w_X12_actStop_21 (MS Z d) G Rp L st S q μ ρ → G 21 L st S q μ ρ) → (∀ (L st : List Value) (S : Sh) (q : Nat × Nat) (μ : Mi) (ρ : Mr), w_X12_actStop_61 (MS Z d) G Rp L st S q μ ρ → G 61 L st S q μ ρ) → (∀ (L st : List Value) (S : Sh) (q : Nat × Nat) (μ : Mi) (ρ : Mr), w_X12_actStop_90 (MS Z d) G Rp L st S q μ ρ → G 90 L st S q μ ρ) → w_X12_actStop_0 (MS Z d) G Rp [.ref a0, .int x1, .null, .null] [] S (0, 0) μ ρ) : MS Z (d + 1) jX12_actStop [.ref a0, .int x1] S μ ρ Rp :=
  MS_of [.ref a0, .int x1, .null, .null] (by decide +kernel) rfl rfl (Nat.le_of_ble_eq_true rfl) rfl (fun p e R s m args below meth c C => b_X12_actStop_0 C _ _ _ _ _ _ (h _ (b_X12_actStop_10 C) (b_X12_actStop_21 C) (b_X12_actStop_61 C) (b_X12_actStop_90 C)))
def w_X12_actStart_0 (M : CT) (G : Nat → PT) (Rp : RT) : PT := tIload 1 <| tCallS M jX12_isStore 1 <| tIf (fun x => x ≠ 0) (G 10) <| tConst (-2) <| tIret Rp
def w_X12_actStart_10 (M : CT) (G : Nat → PT) (Rp : RT) : PT := tAload 0 <| tIload 1 <| tCallV M jX12_isUp 12 27 1 <| tIf (fun x => x = 0) (G 21) <| tConst (-5) <| tIret Rp
def w_X12_actStart_21 (M : CT) (G : Nat → PT) (Rp : RT) : PT := tAload 0 <| tIload 1 <| tConst 0 <| tConst 1 <| tCallV M jX12_lays 12 27 3 <| tAload 0 <| tIload 1 <| tConst 4 <| tCallV M jX12_of 12 27 2 <| tIret Rp
set_option maxRecDepth 20000 in
theorem b_X12_actStart_0 {Z : Zt} {d : Nat} {p : Program} {e : Env} {R : Room} {s : State} {m : MethodId} {args : Array Value} {below : List Frame} {meth : Method} {c : Code} {Rp : RT} (C : Cx Z d jX12_actStart RX12 p R s m args meth c) : Sd Z jX12_actStart p e R s m args below meth c (MQ below (QcS Z Rp) args s 0 0 (fun a => Z.2.2.1 < a)) 0 (w_X12_actStart_0 (MS Z d) (Gw Z 2 p e R s m args below meth c (MQ below (QcS Z Rp) args s 0 0 (fun a => Z.2.2.1 < a))) Rp) := by
  unfold w_X12_actStart_0
  refine s_iload_n (k := 1) C (by decide +kernel) ?_
  refine s_callS C (by decide +kernel) rfl w_6_208 w_6_209 w_1_13 w_6_210 (by decide +kernel) ?_
  refine s_if_ne (off := 6) (tgt := 10) C (by decide +kernel) (by decide) (fun _ _ _ _ _ _ h => h) ?_
  refine s_bipush (n := (-2)) C (by decide +kernel) (by decide) ?_
  exact s_iret C rfl (by decide +kernel)
set_option maxRecDepth 20000 in
theorem b_X12_actStart_10 {Z : Zt} {d : Nat} {p : Program} {e : Env} {R : Room} {s : State} {m : MethodId} {args : Array Value} {below : List Frame} {meth : Method} {c : Code} {Rp : RT} (C : Cx Z d jX12_actStart RX12 p R s m args meth c) : Sd Z jX12_actStart p e R s m args below meth c (MQ below (QcS Z Rp) args s 0 0 (fun a => Z.2.2.1 < a)) 10 (w_X12_actStart_10 (MS Z d) (Gw Z 2 p e R s m args below meth c (MQ below (QcS Z Rp) args s 0 0 (fun a => Z.2.2.1 < a))) Rp) := by
  unfold w_X12_actStart_10
  refine s_aload_n (k := 0) C (by decide +kernel) ?_
  refine s_iload_n (k := 1) C (by decide +kernel) ?_
  refine s_callV C rfl rfl (by decide +kernel) rfl w_6_232 w_6_234 w_p3_14 w_1_13 w_6_235 (by decide +kernel) ?_
  refine s_if_eq (off := 6) (tgt := 21) C (by decide +kernel) (by decide) (fun _ _ _ _ _ _ h => h) ?_
  refine s_bipush (n := (-5)) C (by decide +kernel) (by decide) ?_
  exact s_iret C rfl (by decide +kernel)
set_option maxRecDepth 20000 in
theorem b_X12_actStart_21 {Z : Zt} {d : Nat} {p : Program} {e : Env} {R : Room} {s : State} {m : MethodId} {args : Array Value} {below : List Frame} {meth : Method} {c : Code} {Rp : RT} (C : Cx Z d jX12_actStart RX12 p R s m args meth c) : Sd Z jX12_actStart p e R s m args below meth c (MQ below (QcS Z Rp) args s 0 0 (fun a => Z.2.2.1 < a)) 21 (w_X12_actStart_21 (MS Z d) (Gw Z 2 p e R s m args below meth c (MQ below (QcS Z Rp) args s 0 0 (fun a => Z.2.2.1 < a))) Rp) := by
  unfold w_X12_actStart_21
  refine s_aload_n (k := 0) C (by decide +kernel) ?_
  refine s_iload_n (k := 1) C (by decide +kernel) ?_
  refine s_iconst (n := 0) C (by decide +kernel) (by decide) ?_
  refine s_iconst (n := 1) C (by decide +kernel) (by decide) ?_
  refine s_callV C rfl rfl (by decide +kernel) rfl w_6_82 w_6_84 w_p3_4 w_1_13 w_6_85 (by decide +kernel) ?_
  refine s_aload_n (k := 0) C (by decide +kernel) ?_
  refine s_iload_n (k := 1) C (by decide +kernel) ?_
  refine s_iconst (n := 4) C (by decide +kernel) (by decide) ?_
  refine s_callV C rfl rfl (by decide +kernel) rfl w_6_220 w_6_222 w_p3_11 w_1_13 w_6_223 (by decide +kernel) ?_
  exact s_iret C rfl (by decide +kernel)
theorem ms_X12_actStart {Z : Zt} {d : Nat} {S : Sh} {μ : Mi} {ρ : Mr} {Rp : RT} (a0 : Nat) (x1 : Int32) (h : ∀ G : Nat → PT, (∀ (L st : List Value) (S : Sh) (q : Nat × Nat) (μ : Mi) (ρ : Mr), w_X12_actStart_10 (MS Z d) G Rp L st S q μ ρ → G 10 L st S q μ ρ) → (∀ (L st : List Value) (S : Sh) (q : Nat × Nat) (μ : Mi) (ρ : Mr), w_X12_actStart_21 (MS Z d) G Rp L st S q μ ρ → G 21 L st S q μ ρ) → w_X12_actStart_0 (MS Z d) G Rp [.ref a0, .int x1] [] S (0, 0) μ ρ) : MS Z (d + 1) jX12_actStart [.ref a0, .int x1] S μ ρ Rp :=
  MS_of [.ref a0, .int x1] (by decide +kernel) rfl rfl (Nat.le_of_ble_eq_true rfl) rfl (fun p e R s m args below meth c C => b_X12_actStart_0 C _ _ _ _ _ _ (h _ (b_X12_actStart_10 C) (b_X12_actStart_21 C)))
def w_X12_actLink_0 (M : CT) (G : Nat → PT) (Rp : RT) : PT := tIload 1 <| tCallS M jX12_isStore 1 <| tIf (fun x => x = 0) (G 14) <| tIload 2 <| tCallS M jX12_isStore 1 <| tIf (fun x => x ≠ 0) (G 17) <| G 14
def w_X12_actLink_14 (M : CT) (G : Nat → PT) (Rp : RT) : PT := tConst (-2) <| tIret Rp
def w_X12_actLink_17 (M : CT) (G : Nat → PT) (Rp : RT) : PT := tIload 3 <| tI2l <| tLconst 0 <| tLconst 1 <| tCallS M jX12_within 3 <| tIf (fun x => x = 0) (G 32) <| tIload 1 <| tIload 2 <| tIf2 (fun x y => x ≠ y) (G 35) <| G 32
def w_X12_actLink_32 (M : CT) (G : Nat → PT) (Rp : RT) : PT := tConst (-3) <| tIret Rp
def w_X12_actLink_35 (M : CT) (G : Nat → PT) (Rp : RT) : PT := tAload 0 <| tGetR 12 27 1 <| tConst 4513 <| tAld 20 <| tIstore 4 <| tConst 1 <| tConst 5 <| tIload 1 <| tBin (fun x y => x * y) <| tIload 2 <| tBin (fun x y => x + y) <| tBin (fun x y => x <<< (y &&& 31)) <| tConst 1 <| tConst 5 <| tIload 2 <| tBin (fun x y => x * y) <| tIload 1 <| tBin (fun x y => x + y) <| tBin (fun x y => x <<< (y &&& 31)) <| tBin (fun x y => x ||| y) <| tIstore 5 <| tAload 0 <| tGetR 12 27 1 <| tConst 4513 <| tIload 3 <| tIf (fun x => x ≠ 0) (G 83) <| tIload 4 <| tIload 5 <| tConst (-1) <| tBin (fun x y => x ^^^ y) <| tBin (fun x y => x &&& y) <| tGoto (G 88)
def w_X12_actLink_83 (M : CT) (G : Nat → PT) (Rp : RT) : PT := tIload 4 <| tIload 5 <| tBin (fun x y => x ||| y) <| G 88
def w_X12_actLink_88 (M : CT) (G : Nat → PT) (Rp : RT) : PT := tIast <| tIload 4 <| tAload 0 <| tGetR 12 27 1 <| tConst 4513 <| tAld 20 <| tIf2 (fun x y => x ≠ y) (G 106) <| tConst 0 <| tGoto (G 107)
def w_X12_actLink_106 (M : CT) (G : Nat → PT) (Rp : RT) : PT := tConst 1 <| G 107
def w_X12_actLink_107 (M : CT) (G : Nat → PT) (Rp : RT) : PT := tIret Rp
set_option maxRecDepth 20000 in
theorem b_X12_actLink_0 {Z : Zt} {d : Nat} {p : Program} {e : Env} {R : Room} {s : State} {m : MethodId} {args : Array Value} {below : List Frame} {meth : Method} {c : Code} {Rp : RT} (C : Cx Z d jX12_actLink RX12 p R s m args meth c) : Sd Z jX12_actLink p e R s m args below meth c (MQ below (QcS Z Rp) args s 0 0 (fun a => Z.2.2.1 < a)) 0 (w_X12_actLink_0 (MS Z d) (Gw Z 6 p e R s m args below meth c (MQ below (QcS Z Rp) args s 0 0 (fun a => Z.2.2.1 < a))) Rp) := by
  unfold w_X12_actLink_0
  refine s_iload_n (k := 1) C (by decide +kernel) ?_
  refine s_callS C (by decide +kernel) rfl w_6_208 w_6_209 w_1_13 w_6_210 (by decide +kernel) ?_
  refine s_if_eq (off := 10) (tgt := 14) C (by decide +kernel) (by decide) (fun _ _ _ _ _ _ h => h) ?_
  refine s_iload_n (k := 2) C (by decide +kernel) ?_
  refine s_callS C (by decide +kernel) rfl w_6_208 w_6_209 w_1_13 w_6_210 (by decide +kernel) ?_
  refine s_if_ne (off := 6) (tgt := 17) C (by decide +kernel) (by decide) (fun _ _ _ _ _ _ h => h) ?_
  exact (fun _ _ _ _ _ _ h => h)
set_option maxRecDepth 20000 in
theorem b_X12_actLink_14 {Z : Zt} {d : Nat} {p : Program} {e : Env} {R : Room} {s : State} {m : MethodId} {args : Array Value} {below : List Frame} {meth : Method} {c : Code} {Rp : RT} (C : Cx Z d jX12_actLink RX12 p R s m args meth c) : Sd Z jX12_actLink p e R s m args below meth c (MQ below (QcS Z Rp) args s 0 0 (fun a => Z.2.2.1 < a)) 14 (w_X12_actLink_14 (MS Z d) (Gw Z 6 p e R s m args below meth c (MQ below (QcS Z Rp) args s 0 0 (fun a => Z.2.2.1 < a))) Rp) := by
  unfold w_X12_actLink_14
  refine s_bipush (n := (-2)) C (by decide +kernel) (by decide) ?_
  exact s_iret C rfl (by decide +kernel)
set_option maxRecDepth 20000 in
theorem b_X12_actLink_17 {Z : Zt} {d : Nat} {p : Program} {e : Env} {R : Room} {s : State} {m : MethodId} {args : Array Value} {below : List Frame} {meth : Method} {c : Code} {Rp : RT} (C : Cx Z d jX12_actLink RX12 p R s m args meth c) : Sd Z jX12_actLink p e R s m args below meth c (MQ below (QcS Z Rp) args s 0 0 (fun a => Z.2.2.1 < a)) 17 (w_X12_actLink_17 (MS Z d) (Gw Z 6 p e R s m args below meth c (MQ below (QcS Z Rp) args s 0 0 (fun a => Z.2.2.1 < a))) Rp) := by
  unfold w_X12_actLink_17
  refine s_iload_n (k := 3) C (by decide +kernel) ?_
  refine s_i2l C (by decide +kernel) ?_
  refine s_lconst (n := 0) C (by decide +kernel) (by decide) ?_
  refine s_lconst (n := 1) C (by decide +kernel) (by decide) ?_
  refine s_callS C (by decide +kernel) rfl w_6_175 w_6_176 w_1_13 w_6_177 (by decide +kernel) ?_
  refine s_if_eq (off := 8) (tgt := 32) C (by decide +kernel) (by decide) (fun _ _ _ _ _ _ h => h) ?_
  refine s_iload_n (k := 1) C (by decide +kernel) ?_
  refine s_iload_n (k := 2) C (by decide +kernel) ?_
  refine s_icmp_ne (off := 6) (tgt := 35) C (by decide +kernel) (by decide) (fun _ _ _ _ _ _ h => h) ?_
  exact (fun _ _ _ _ _ _ h => h)
set_option maxRecDepth 20000 in
theorem b_X12_actLink_32 {Z : Zt} {d : Nat} {p : Program} {e : Env} {R : Room} {s : State} {m : MethodId} {args : Array Value} {below : List Frame} {meth : Method} {c : Code} {Rp : RT} (C : Cx Z d jX12_actLink RX12 p R s m args meth c) : Sd Z jX12_actLink p e R s m args below meth c (MQ below (QcS Z Rp) args s 0 0 (fun a => Z.2.2.1 < a)) 32 (w_X12_actLink_32 (MS Z d) (Gw Z 6 p e R s m args below meth c (MQ below (QcS Z Rp) args s 0 0 (fun a => Z.2.2.1 < a))) Rp) := by
  unfold w_X12_actLink_32
  refine s_bipush (n := (-3)) C (by decide +kernel) (by decide) ?_
  exact s_iret C rfl (by decide +kernel)
set_option maxRecDepth 20000 in
theorem b_X12_actLink_35 {Z : Zt} {d : Nat} {p : Program} {e : Env} {R : Room} {s : State} {m : MethodId} {args : Array Value} {below : List Frame} {meth : Method} {c : Code} {Rp : RT} (C : Cx Z d jX12_actLink RX12 p R s m args meth c) : Sd Z jX12_actLink p e R s m args below meth c (MQ below (QcS Z Rp) args s 0 0 (fun a => Z.2.2.1 < a)) 35 (w_X12_actLink_35 (MS Z d) (Gw Z 6 p e R s m args below meth c (MQ below (QcS Z Rp) args s 0 0 (fun a => Z.2.2.1 < a))) Rp) := by
  unfold w_X12_actLink_35
  refine s_aload_n (k := 0) C (by decide +kernel) ?_
  refine s_getR C w_6_88 (by decide +kernel) rfl ?_
  refine s_sipush (n := 4513) C (by decide +kernel) (by decide) ?_
  refine s_iald C (by decide +kernel) ?_
  refine s_istore (k := 4) C (by decide +kernel) ?_
  refine s_iconst (n := 1) C (by decide +kernel) (by decide) ?_
  refine s_iconst (n := 5) C (by decide +kernel) (by decide) ?_
  refine s_iload_n (k := 1) C (by decide +kernel) ?_
  refine s_imul C (by decide +kernel) ?_
  refine s_iload_n (k := 2) C (by decide +kernel) ?_
  refine s_iadd C (by decide +kernel) ?_
  refine s_ishl C (by decide +kernel) ?_
  refine s_iconst (n := 1) C (by decide +kernel) (by decide) ?_
  refine s_iconst (n := 5) C (by decide +kernel) (by decide) ?_
  refine s_iload_n (k := 2) C (by decide +kernel) ?_
  refine s_imul C (by decide +kernel) ?_
  refine s_iload_n (k := 1) C (by decide +kernel) ?_
  refine s_iadd C (by decide +kernel) ?_
  refine s_ishl C (by decide +kernel) ?_
  refine s_ior C (by decide +kernel) ?_
  refine s_istore (k := 5) C (by decide +kernel) ?_
  refine s_aload_n (k := 0) C (by decide +kernel) ?_
  refine s_getR C w_6_88 (by decide +kernel) rfl ?_
  refine s_sipush (n := 4513) C (by decide +kernel) (by decide) ?_
  refine s_iload_n (k := 3) C (by decide +kernel) ?_
  refine s_if_ne (off := 13) (tgt := 83) C (by decide +kernel) (by decide) (fun _ _ _ _ _ _ h => h) ?_
  refine s_iload (k := 4) C (by decide +kernel) ?_
  refine s_iload (k := 5) C (by decide +kernel) ?_
  refine s_iconst (n := (-1)) C (by decide +kernel) (by decide) ?_
  refine s_ixor C (by decide +kernel) ?_
  refine s_iand C (by decide +kernel) ?_
  exact s_goto (off := 8) (tgt := 88) C (by decide +kernel) (by decide) (fun _ _ _ _ _ _ h => h)
set_option maxRecDepth 20000 in
theorem b_X12_actLink_83 {Z : Zt} {d : Nat} {p : Program} {e : Env} {R : Room} {s : State} {m : MethodId} {args : Array Value} {below : List Frame} {meth : Method} {c : Code} {Rp : RT} (C : Cx Z d jX12_actLink RX12 p R s m args meth c) : Sd Z jX12_actLink p e R s m args below meth c (MQ below (QcS Z Rp) args s 0 0 (fun a => Z.2.2.1 < a)) 83 (w_X12_actLink_83 (MS Z d) (Gw Z 6 p e R s m args below meth c (MQ below (QcS Z Rp) args s 0 0 (fun a => Z.2.2.1 < a))) Rp) := by
  unfold w_X12_actLink_83
  refine s_iload (k := 4) C (by decide +kernel) ?_
  refine s_iload (k := 5) C (by decide +kernel) ?_
  refine s_ior C (by decide +kernel) ?_
  exact (fun _ _ _ _ _ _ h => h)
set_option maxRecDepth 20000 in
theorem b_X12_actLink_88 {Z : Zt} {d : Nat} {p : Program} {e : Env} {R : Room} {s : State} {m : MethodId} {args : Array Value} {below : List Frame} {meth : Method} {c : Code} {Rp : RT} (C : Cx Z d jX12_actLink RX12 p R s m args meth c) : Sd Z jX12_actLink p e R s m args below meth c (MQ below (QcS Z Rp) args s 0 0 (fun a => Z.2.2.1 < a)) 88 (w_X12_actLink_88 (MS Z d) (Gw Z 6 p e R s m args below meth c (MQ below (QcS Z Rp) args s 0 0 (fun a => Z.2.2.1 < a))) Rp) := by
  unfold w_X12_actLink_88
  refine s_iast C (by decide +kernel) ?_
  refine s_iload (k := 4) C (by decide +kernel) ?_
  refine s_aload_n (k := 0) C (by decide +kernel) ?_
  refine s_getR C w_6_88 (by decide +kernel) rfl ?_
  refine s_sipush (n := 4513) C (by decide +kernel) (by decide) ?_
  refine s_iald C (by decide +kernel) ?_
  refine s_icmp_ne (off := 7) (tgt := 106) C (by decide +kernel) (by decide) (fun _ _ _ _ _ _ h => h) ?_
  refine s_iconst (n := 0) C (by decide +kernel) (by decide) ?_
  exact s_goto (off := 4) (tgt := 107) C (by decide +kernel) (by decide) (fun _ _ _ _ _ _ h => h)
set_option maxRecDepth 20000 in
theorem b_X12_actLink_106 {Z : Zt} {d : Nat} {p : Program} {e : Env} {R : Room} {s : State} {m : MethodId} {args : Array Value} {below : List Frame} {meth : Method} {c : Code} {Rp : RT} (C : Cx Z d jX12_actLink RX12 p R s m args meth c) : Sd Z jX12_actLink p e R s m args below meth c (MQ below (QcS Z Rp) args s 0 0 (fun a => Z.2.2.1 < a)) 106 (w_X12_actLink_106 (MS Z d) (Gw Z 6 p e R s m args below meth c (MQ below (QcS Z Rp) args s 0 0 (fun a => Z.2.2.1 < a))) Rp) := by
  unfold w_X12_actLink_106
  refine s_iconst (n := 1) C (by decide +kernel) (by decide) ?_
  exact (fun _ _ _ _ _ _ h => h)
set_option maxRecDepth 20000 in
theorem b_X12_actLink_107 {Z : Zt} {d : Nat} {p : Program} {e : Env} {R : Room} {s : State} {m : MethodId} {args : Array Value} {below : List Frame} {meth : Method} {c : Code} {Rp : RT} (C : Cx Z d jX12_actLink RX12 p R s m args meth c) : Sd Z jX12_actLink p e R s m args below meth c (MQ below (QcS Z Rp) args s 0 0 (fun a => Z.2.2.1 < a)) 107 (w_X12_actLink_107 (MS Z d) (Gw Z 6 p e R s m args below meth c (MQ below (QcS Z Rp) args s 0 0 (fun a => Z.2.2.1 < a))) Rp) := by
  unfold w_X12_actLink_107
  exact s_iret C rfl (by decide +kernel)
theorem ms_X12_actLink {Z : Zt} {d : Nat} {S : Sh} {μ : Mi} {ρ : Mr} {Rp : RT} (a0 : Nat) (x1 : Int32) (x2 : Int32) (x3 : Int32) (h : ∀ G : Nat → PT, (∀ (L st : List Value) (S : Sh) (q : Nat × Nat) (μ : Mi) (ρ : Mr), w_X12_actLink_14 (MS Z d) G Rp L st S q μ ρ → G 14 L st S q μ ρ) → (∀ (L st : List Value) (S : Sh) (q : Nat × Nat) (μ : Mi) (ρ : Mr), w_X12_actLink_17 (MS Z d) G Rp L st S q μ ρ → G 17 L st S q μ ρ) → (∀ (L st : List Value) (S : Sh) (q : Nat × Nat) (μ : Mi) (ρ : Mr), w_X12_actLink_32 (MS Z d) G Rp L st S q μ ρ → G 32 L st S q μ ρ) → (∀ (L st : List Value) (S : Sh) (q : Nat × Nat) (μ : Mi) (ρ : Mr), w_X12_actLink_35 (MS Z d) G Rp L st S q μ ρ → G 35 L st S q μ ρ) → (∀ (L st : List Value) (S : Sh) (q : Nat × Nat) (μ : Mi) (ρ : Mr), w_X12_actLink_83 (MS Z d) G Rp L st S q μ ρ → G 83 L st S q μ ρ) → (∀ (L st : List Value) (S : Sh) (q : Nat × Nat) (μ : Mi) (ρ : Mr), w_X12_actLink_88 (MS Z d) G Rp L st S q μ ρ → G 88 L st S q μ ρ) → (∀ (L st : List Value) (S : Sh) (q : Nat × Nat) (μ : Mi) (ρ : Mr), w_X12_actLink_106 (MS Z d) G Rp L st S q μ ρ → G 106 L st S q μ ρ) → (∀ (L st : List Value) (S : Sh) (q : Nat × Nat) (μ : Mi) (ρ : Mr), w_X12_actLink_107 (MS Z d) G Rp L st S q μ ρ → G 107 L st S q μ ρ) → w_X12_actLink_0 (MS Z d) G Rp [.ref a0, .int x1, .int x2, .int x3, .null, .null] [] S (0, 0) μ ρ) : MS Z (d + 1) jX12_actLink [.ref a0, .int x1, .int x2, .int x3] S μ ρ Rp :=
  MS_of [.ref a0, .int x1, .int x2, .int x3, .null, .null] (by decide +kernel) rfl rfl (Nat.le_of_ble_eq_true rfl) rfl (fun p e R s m args below meth c C => b_X12_actLink_0 C _ _ _ _ _ _ (h _ (b_X12_actLink_14 C) (b_X12_actLink_17 C) (b_X12_actLink_32 C) (b_X12_actLink_35 C) (b_X12_actLink_83 C) (b_X12_actLink_88 C) (b_X12_actLink_106 C) (b_X12_actLink_107 C)))
def w_X12_isMessage_0 (M : CT) (G : Nat → PT) (Rp : RT) : PT := tIload 1 <| tI2l <| tLconst 0 <| tAload 0 <| tGetR 12 27 1 <| tConst 4510 <| tAld 20 <| tConst 1 <| tBin (fun x y => x - y) <| tI2l <| tCallS M jX12_within 3 <| tZret Rp
set_option maxRecDepth 20000 in
theorem b_X12_isMessage_0 {Z : Zt} {d : Nat} {p : Program} {e : Env} {R : Room} {s : State} {m : MethodId} {args : Array Value} {below : List Frame} {meth : Method} {c : Code} {Rp : RT} (C : Cx Z d jX12_isMessage RX12 p R s m args meth c) : Sd Z jX12_isMessage p e R s m args below meth c (MQ below (QcS Z Rp) args s 0 0 (fun a => Z.2.2.1 < a)) 0 (w_X12_isMessage_0 (MS Z d) (Gw Z 2 p e R s m args below meth c (MQ below (QcS Z Rp) args s 0 0 (fun a => Z.2.2.1 < a))) Rp) := by
  unfold w_X12_isMessage_0
  refine s_iload_n (k := 1) C (by decide +kernel) ?_
  refine s_i2l C (by decide +kernel) ?_
  refine s_lconst (n := 0) C (by decide +kernel) (by decide) ?_
  refine s_aload_n (k := 0) C (by decide +kernel) ?_
  refine s_getR C w_6_88 (by decide +kernel) rfl ?_
  refine s_sipush (n := 4510) C (by decide +kernel) (by decide) ?_
  refine s_iald C (by decide +kernel) ?_
  refine s_iconst (n := 1) C (by decide +kernel) (by decide) ?_
  refine s_isub C (by decide +kernel) ?_
  refine s_i2l C (by decide +kernel) ?_
  refine s_callS C (by decide +kernel) rfl w_6_175 w_6_176 w_1_13 w_6_177 (by decide +kernel) ?_
  exact s_zret C rfl (by decide +kernel)
theorem ms_X12_isMessage {Z : Zt} {d : Nat} {S : Sh} {μ : Mi} {ρ : Mr} {Rp : RT} (a0 : Nat) (x1 : Int32) (h : ∀ G : Nat → PT, w_X12_isMessage_0 (MS Z d) G Rp [.ref a0, .int x1] [] S (0, 0) μ ρ) : MS Z (d + 1) jX12_isMessage [.ref a0, .int x1] S μ ρ Rp :=
  MS_of [.ref a0, .int x1] (by decide +kernel) rfl rfl (Nat.le_of_ble_eq_true rfl) rfl (fun p e R s m args below meth c C => b_X12_isMessage_0 C _ _ _ _ _ _ (h _ ))
def w_X12_actCome_0 (M : CT) (G : Nat → PT) (Rp : RT) : PT := tAload 0 <| tIload 1 <| tCallV M jX12_isMessage 12 27 1 <| tIf (fun x => x = 0) (G 16) <| tAload 0 <| tIload 1 <| tCallV M jX12_comes 12 27 1 <| tGoto (G 18)
def w_X12_actCome_16 (M : CT) (G : Nat → PT) (Rp : RT) : PT := tConst (-2) <| G 18
def w_X12_actCome_18 (M : CT) (G : Nat → PT) (Rp : RT) : PT := tIret Rp
set_option maxRecDepth 20000 in
theorem b_X12_actCome_0 {Z : Zt} {d : Nat} {p : Program} {e : Env} {R : Room} {s : State} {m : MethodId} {args : Array Value} {below : List Frame} {meth : Method} {c : Code} {Rp : RT} (C : Cx Z d jX12_actCome RX12 p R s m args meth c) : Sd Z jX12_actCome p e R s m args below meth c (MQ below (QcS Z Rp) args s 0 0 (fun a => Z.2.2.1 < a)) 0 (w_X12_actCome_0 (MS Z d) (Gw Z 2 p e R s m args below meth c (MQ below (QcS Z Rp) args s 0 0 (fun a => Z.2.2.1 < a))) Rp) := by
  unfold w_X12_actCome_0
  refine s_aload_n (k := 0) C (by decide +kernel) ?_
  refine s_iload_n (k := 1) C (by decide +kernel) ?_
  refine s_callV C rfl rfl (by decide +kernel) rfl w_7_168 w_7_170 w_p5_12 w_1_13 w_7_171 (by decide +kernel) ?_
  refine s_if_eq (off := 11) (tgt := 16) C (by decide +kernel) (by decide) (fun _ _ _ _ _ _ h => h) ?_
  refine s_aload_n (k := 0) C (by decide +kernel) ?_
  refine s_iload_n (k := 1) C (by decide +kernel) ?_
  refine s_callV C rfl rfl (by decide +kernel) rfl w_7_172 w_7_174 w_p5_13 w_1_13 w_7_175 (by decide +kernel) ?_
  exact s_goto (off := 5) (tgt := 18) C (by decide +kernel) (by decide) (fun _ _ _ _ _ _ h => h)
set_option maxRecDepth 20000 in
theorem b_X12_actCome_16 {Z : Zt} {d : Nat} {p : Program} {e : Env} {R : Room} {s : State} {m : MethodId} {args : Array Value} {below : List Frame} {meth : Method} {c : Code} {Rp : RT} (C : Cx Z d jX12_actCome RX12 p R s m args meth c) : Sd Z jX12_actCome p e R s m args below meth c (MQ below (QcS Z Rp) args s 0 0 (fun a => Z.2.2.1 < a)) 16 (w_X12_actCome_16 (MS Z d) (Gw Z 2 p e R s m args below meth c (MQ below (QcS Z Rp) args s 0 0 (fun a => Z.2.2.1 < a))) Rp) := by
  unfold w_X12_actCome_16
  refine s_bipush (n := (-2)) C (by decide +kernel) (by decide) ?_
  exact (fun _ _ _ _ _ _ h => h)
set_option maxRecDepth 20000 in
theorem b_X12_actCome_18 {Z : Zt} {d : Nat} {p : Program} {e : Env} {R : Room} {s : State} {m : MethodId} {args : Array Value} {below : List Frame} {meth : Method} {c : Code} {Rp : RT} (C : Cx Z d jX12_actCome RX12 p R s m args meth c) : Sd Z jX12_actCome p e R s m args below meth c (MQ below (QcS Z Rp) args s 0 0 (fun a => Z.2.2.1 < a)) 18 (w_X12_actCome_18 (MS Z d) (Gw Z 2 p e R s m args below meth c (MQ below (QcS Z Rp) args s 0 0 (fun a => Z.2.2.1 < a))) Rp) := by
  unfold w_X12_actCome_18
  exact s_iret C rfl (by decide +kernel)
theorem ms_X12_actCome {Z : Zt} {d : Nat} {S : Sh} {μ : Mi} {ρ : Mr} {Rp : RT} (a0 : Nat) (x1 : Int32) (h : ∀ G : Nat → PT, (∀ (L st : List Value) (S : Sh) (q : Nat × Nat) (μ : Mi) (ρ : Mr), w_X12_actCome_16 (MS Z d) G Rp L st S q μ ρ → G 16 L st S q μ ρ) → (∀ (L st : List Value) (S : Sh) (q : Nat × Nat) (μ : Mi) (ρ : Mr), w_X12_actCome_18 (MS Z d) G Rp L st S q μ ρ → G 18 L st S q μ ρ) → w_X12_actCome_0 (MS Z d) G Rp [.ref a0, .int x1] [] S (0, 0) μ ρ) : MS Z (d + 1) jX12_actCome [.ref a0, .int x1] S μ ρ Rp :=
  MS_of [.ref a0, .int x1] (by decide +kernel) rfl rfl (Nat.le_of_ble_eq_true rfl) rfl (fun p e R s m args below meth c C => b_X12_actCome_0 C _ _ _ _ _ _ (h _ (b_X12_actCome_16 C) (b_X12_actCome_18 C)))
def w_X12_actLose_0 (M : CT) (G : Nat → PT) (Rp : RT) : PT := tAload 0 <| tIload 1 <| tCallV M jX12_isMessage 12 27 1 <| tIf (fun x => x ≠ 0) (G 11) <| tConst (-2) <| tIret Rp
def w_X12_actLose_11 (M : CT) (G : Nat → PT) (Rp : RT) : PT := tAload 0 <| tIload 1 <| tCallV M jX12_goesOut 12 27 1 <| tAload 0 <| tGetR 12 27 1 <| tConst 4511 <| tDup2 <| tAld 20 <| tConst 1 <| tBin (fun x y => x + y) <| tIast <| tAload 0 <| tGetR 12 27 1 <| tConst 4510 <| tAld 20 <| tIret Rp
set_option maxRecDepth 20000 in
theorem b_X12_actLose_0 {Z : Zt} {d : Nat} {p : Program} {e : Env} {R : Room} {s : State} {m : MethodId} {args : Array Value} {below : List Frame} {meth : Method} {c : Code} {Rp : RT} (C : Cx Z d jX12_actLose RX12 p R s m args meth c) : Sd Z jX12_actLose p e R s m args below meth c (MQ below (QcS Z Rp) args s 0 0 (fun a => Z.2.2.1 < a)) 0 (w_X12_actLose_0 (MS Z d) (Gw Z 2 p e R s m args below meth c (MQ below (QcS Z Rp) args s 0 0 (fun a => Z.2.2.1 < a))) Rp) := by
  unfold w_X12_actLose_0
  refine s_aload_n (k := 0) C (by decide +kernel) ?_
  refine s_iload_n (k := 1) C (by decide +kernel) ?_
  refine s_callV C rfl rfl (by decide +kernel) rfl w_7_168 w_7_170 w_p5_12 w_1_13 w_7_171 (by decide +kernel) ?_
  refine s_if_ne (off := 6) (tgt := 11) C (by decide +kernel) (by decide) (fun _ _ _ _ _ _ h => h) ?_
  refine s_bipush (n := (-2)) C (by decide +kernel) (by decide) ?_
  exact s_iret C rfl (by decide +kernel)
set_option maxRecDepth 20000 in
theorem b_X12_actLose_11 {Z : Zt} {d : Nat} {p : Program} {e : Env} {R : Room} {s : State} {m : MethodId} {args : Array Value} {below : List Frame} {meth : Method} {c : Code} {Rp : RT} (C : Cx Z d jX12_actLose RX12 p R s m args meth c) : Sd Z jX12_actLose p e R s m args below meth c (MQ below (QcS Z Rp) args s 0 0 (fun a => Z.2.2.1 < a)) 11 (w_X12_actLose_11 (MS Z d) (Gw Z 2 p e R s m args below meth c (MQ below (QcS Z Rp) args s 0 0 (fun a => Z.2.2.1 < a))) Rp) := by
  unfold w_X12_actLose_11
  refine s_aload_n (k := 0) C (by decide +kernel) ?_
  refine s_iload_n (k := 1) C (by decide +kernel) ?_
  refine s_callV C rfl rfl (by decide +kernel) rfl w_7_176 w_7_178 w_p5_14 w_1_13 w_7_179 (by decide +kernel) ?_
  refine s_aload_n (k := 0) C (by decide +kernel) ?_
  refine s_getR C w_6_88 (by decide +kernel) rfl ?_
  refine s_sipush (n := 4511) C (by decide +kernel) (by decide) ?_
  refine s_dup2 C (by decide +kernel) ?_
  refine s_iald C (by decide +kernel) ?_
  refine s_iconst (n := 1) C (by decide +kernel) (by decide) ?_
  refine s_iadd C (by decide +kernel) ?_
  refine s_iast C (by decide +kernel) ?_
  refine s_aload_n (k := 0) C (by decide +kernel) ?_
  refine s_getR C w_6_88 (by decide +kernel) rfl ?_
  refine s_sipush (n := 4510) C (by decide +kernel) (by decide) ?_
  refine s_iald C (by decide +kernel) ?_
  exact s_iret C rfl (by decide +kernel)
theorem ms_X12_actLose {Z : Zt} {d : Nat} {S : Sh} {μ : Mi} {ρ : Mr} {Rp : RT} (a0 : Nat) (x1 : Int32) (h : ∀ G : Nat → PT, (∀ (L st : List Value) (S : Sh) (q : Nat × Nat) (μ : Mi) (ρ : Mr), w_X12_actLose_11 (MS Z d) G Rp L st S q μ ρ → G 11 L st S q μ ρ) → w_X12_actLose_0 (MS Z d) G Rp [.ref a0, .int x1] [] S (0, 0) μ ρ) : MS Z (d + 1) jX12_actLose [.ref a0, .int x1] S μ ρ Rp :=
  MS_of [.ref a0, .int x1] (by decide +kernel) rfl rfl (Nat.le_of_ble_eq_true rfl) rfl (fun p e R s m args below meth c C => b_X12_actLose_0 C _ _ _ _ _ _ (h _ (b_X12_actLose_11 C)))
def w_X12_actTwice_0 (M : CT) (G : Nat → PT) (Rp : RT) : PT := tAload 0 <| tIload 1 <| tCallV M jX12_isMessage 12 27 1 <| tIf (fun x => x ≠ 0) (G 11) <| tConst (-2) <| tIret Rp
def w_X12_actTwice_11 (M : CT) (G : Nat → PT) (Rp : RT) : PT := tAload 0 <| tGetR 12 27 1 <| tConst 4510 <| tAld 20 <| tConst 60 <| tIf2 (fun x y => x ≠ y) (G 27) <| tConst (-4) <| tIret Rp
def w_X12_actTwice_27 (M : CT) (G : Nat → PT) (Rp : RT) : PT := tAload 0 <| tGetR 12 27 1 <| tConst 2570 <| tConst 21 <| tIload 1 <| tBin (fun x y => x * y) <| tBin (fun x y => x + y) <| tAload 0 <| tGetR 12 27 1 <| tConst 2570 <| tConst 21 <| tAload 0 <| tGetR 12 27 1 <| tConst 4510 <| tAld 20 <| tBin (fun x y => x * y) <| tBin (fun x y => x + y) <| tConst 21 <| tCallS M jX12_copies 5 <| tAload 0 <| tGetR 12 27 1 <| tConst 4510 <| tDup2 <| tAld 20 <| tConst 1 <| tBin (fun x y => x + y) <| tIast <| tAload 0 <| tGetR 12 27 1 <| tConst 4510 <| tAld 20 <| tIret Rp
set_option maxRecDepth 20000 in
theorem b_X12_actTwice_0 {Z : Zt} {d : Nat} {p : Program} {e : Env} {R : Room} {s : State} {m : MethodId} {args : Array Value} {below : List Frame} {meth : Method} {c : Code} {Rp : RT} (C : Cx Z d jX12_actTwice RX12 p R s m args meth c) : Sd Z jX12_actTwice p e R s m args below meth c (MQ below (QcS Z Rp) args s 0 0 (fun a => Z.2.2.1 < a)) 0 (w_X12_actTwice_0 (MS Z d) (Gw Z 2 p e R s m args below meth c (MQ below (QcS Z Rp) args s 0 0 (fun a => Z.2.2.1 < a))) Rp) := by
  unfold w_X12_actTwice_0
  refine s_aload_n (k := 0) C (by decide +kernel) ?_
  refine s_iload_n (k := 1) C (by decide +kernel) ?_
  refine s_callV C rfl rfl (by decide +kernel) rfl w_7_168 w_7_170 w_p5_12 w_1_13 w_7_171 (by decide +kernel) ?_
  refine s_if_ne (off := 6) (tgt := 11) C (by decide +kernel) (by decide) (fun _ _ _ _ _ _ h => h) ?_
  refine s_bipush (n := (-2)) C (by decide +kernel) (by decide) ?_
  exact s_iret C rfl (by decide +kernel)
set_option maxRecDepth 20000 in
theorem b_X12_actTwice_11 {Z : Zt} {d : Nat} {p : Program} {e : Env} {R : Room} {s : State} {m : MethodId} {args : Array Value} {below : List Frame} {meth : Method} {c : Code} {Rp : RT} (C : Cx Z d jX12_actTwice RX12 p R s m args meth c) : Sd Z jX12_actTwice p e R s m args below meth c (MQ below (QcS Z Rp) args s 0 0 (fun a => Z.2.2.1 < a)) 11 (w_X12_actTwice_11 (MS Z d) (Gw Z 2 p e R s m args below meth c (MQ below (QcS Z Rp) args s 0 0 (fun a => Z.2.2.1 < a))) Rp) := by
  unfold w_X12_actTwice_11
  refine s_aload_n (k := 0) C (by decide +kernel) ?_
  refine s_getR C w_6_88 (by decide +kernel) rfl ?_
  refine s_sipush (n := 4510) C (by decide +kernel) (by decide) ?_
  refine s_iald C (by decide +kernel) ?_
  refine s_bipush (n := 60) C (by decide +kernel) (by decide) ?_
  refine s_icmp_ne (off := 6) (tgt := 27) C (by decide +kernel) (by decide) (fun _ _ _ _ _ _ h => h) ?_
  refine s_bipush (n := (-4)) C (by decide +kernel) (by decide) ?_
  exact s_iret C rfl (by decide +kernel)
set_option maxRecDepth 20000 in
theorem b_X12_actTwice_27 {Z : Zt} {d : Nat} {p : Program} {e : Env} {R : Room} {s : State} {m : MethodId} {args : Array Value} {below : List Frame} {meth : Method} {c : Code} {Rp : RT} (C : Cx Z d jX12_actTwice RX12 p R s m args meth c) : Sd Z jX12_actTwice p e R s m args below meth c (MQ below (QcS Z Rp) args s 0 0 (fun a => Z.2.2.1 < a)) 27 (w_X12_actTwice_27 (MS Z d) (Gw Z 2 p e R s m args below meth c (MQ below (QcS Z Rp) args s 0 0 (fun a => Z.2.2.1 < a))) Rp) := by
  unfold w_X12_actTwice_27
  refine s_aload_n (k := 0) C (by decide +kernel) ?_
  refine s_getR C w_6_88 (by decide +kernel) rfl ?_
  refine s_sipush (n := 2570) C (by decide +kernel) (by decide) ?_
  refine s_bipush (n := 21) C (by decide +kernel) (by decide) ?_
  refine s_iload_n (k := 1) C (by decide +kernel) ?_
  refine s_imul C (by decide +kernel) ?_
  refine s_iadd C (by decide +kernel) ?_
  refine s_aload_n (k := 0) C (by decide +kernel) ?_
  refine s_getR C w_6_88 (by decide +kernel) rfl ?_
  refine s_sipush (n := 2570) C (by decide +kernel) (by decide) ?_
  refine s_bipush (n := 21) C (by decide +kernel) (by decide) ?_
  refine s_aload_n (k := 0) C (by decide +kernel) ?_
  refine s_getR C w_6_88 (by decide +kernel) rfl ?_
  refine s_sipush (n := 4510) C (by decide +kernel) (by decide) ?_
  refine s_iald C (by decide +kernel) ?_
  refine s_imul C (by decide +kernel) ?_
  refine s_iadd C (by decide +kernel) ?_
  refine s_bipush (n := 21) C (by decide +kernel) (by decide) ?_
  refine s_callS C (by decide +kernel) rfl w_6_182 w_6_183 w_1_13 w_6_184 (by decide +kernel) ?_
  refine s_aload_n (k := 0) C (by decide +kernel) ?_
  refine s_getR C w_6_88 (by decide +kernel) rfl ?_
  refine s_sipush (n := 4510) C (by decide +kernel) (by decide) ?_
  refine s_dup2 C (by decide +kernel) ?_
  refine s_iald C (by decide +kernel) ?_
  refine s_iconst (n := 1) C (by decide +kernel) (by decide) ?_
  refine s_iadd C (by decide +kernel) ?_
  refine s_iast C (by decide +kernel) ?_
  refine s_aload_n (k := 0) C (by decide +kernel) ?_
  refine s_getR C w_6_88 (by decide +kernel) rfl ?_
  refine s_sipush (n := 4510) C (by decide +kernel) (by decide) ?_
  refine s_iald C (by decide +kernel) ?_
  exact s_iret C rfl (by decide +kernel)
theorem ms_X12_actTwice {Z : Zt} {d : Nat} {S : Sh} {μ : Mi} {ρ : Mr} {Rp : RT} (a0 : Nat) (x1 : Int32) (h : ∀ G : Nat → PT, (∀ (L st : List Value) (S : Sh) (q : Nat × Nat) (μ : Mi) (ρ : Mr), w_X12_actTwice_11 (MS Z d) G Rp L st S q μ ρ → G 11 L st S q μ ρ) → (∀ (L st : List Value) (S : Sh) (q : Nat × Nat) (μ : Mi) (ρ : Mr), w_X12_actTwice_27 (MS Z d) G Rp L st S q μ ρ → G 27 L st S q μ ρ) → w_X12_actTwice_0 (MS Z d) G Rp [.ref a0, .int x1] [] S (0, 0) μ ρ) : MS Z (d + 1) jX12_actTwice [.ref a0, .int x1] S μ ρ Rp :=
  MS_of [.ref a0, .int x1] (by decide +kernel) rfl rfl (Nat.le_of_ble_eq_true rfl) rfl (fun p e R s m args below meth c C => b_X12_actTwice_0 C _ _ _ _ _ _ (h _ (b_X12_actTwice_11 C) (b_X12_actTwice_27 C)))
def w_X12_actSettle_0 (M : CT) (G : Nat → PT) (Rp : RT) : PT := tIload 1 <| tI2l <| tLconst 1 <| tLconst 200 <| tCallS M jX12_within 3 <| tIf (fun x => x ≠ 0) (G 15) <| tConst (-3) <| tIret Rp
def w_X12_actSettle_15 (M : CT) (G : Nat → PT) (Rp : RT) : PT := tAload 0 <| tGetR 12 27 1 <| tConst 4510 <| tAld 20 <| tIf (fun x => x ≠ 0) (G 31) <| tConst (-5) <| tGoto (G 36)
def w_X12_actSettle_31 (M : CT) (G : Nat → PT) (Rp : RT) : PT := tAload 0 <| tIload 1 <| tCallV M jX12_settles 12 27 1 <| G 36
def w_X12_actSettle_36 (M : CT) (G : Nat → PT) (Rp : RT) : PT := tIret Rp
set_option maxRecDepth 20000 in
theorem b_X12_actSettle_0 {Z : Zt} {d : Nat} {p : Program} {e : Env} {R : Room} {s : State} {m : MethodId} {args : Array Value} {below : List Frame} {meth : Method} {c : Code} {Rp : RT} (C : Cx Z d jX12_actSettle RX12 p R s m args meth c) : Sd Z jX12_actSettle p e R s m args below meth c (MQ below (QcS Z Rp) args s 0 0 (fun a => Z.2.2.1 < a)) 0 (w_X12_actSettle_0 (MS Z d) (Gw Z 2 p e R s m args below meth c (MQ below (QcS Z Rp) args s 0 0 (fun a => Z.2.2.1 < a))) Rp) := by
  unfold w_X12_actSettle_0
  refine s_iload_n (k := 1) C (by decide +kernel) ?_
  refine s_i2l C (by decide +kernel) ?_
  refine s_lconst (n := 1) C (by decide +kernel) (by decide) ?_
  refine s_ldc2 C w_8_20 (by decide +kernel) ?_
  refine s_callS C (by decide +kernel) rfl w_6_175 w_6_176 w_1_13 w_6_177 (by decide +kernel) ?_
  refine s_if_ne (off := 6) (tgt := 15) C (by decide +kernel) (by decide) (fun _ _ _ _ _ _ h => h) ?_
  refine s_bipush (n := (-3)) C (by decide +kernel) (by decide) ?_
  exact s_iret C rfl (by decide +kernel)
set_option maxRecDepth 20000 in
theorem b_X12_actSettle_15 {Z : Zt} {d : Nat} {p : Program} {e : Env} {R : Room} {s : State} {m : MethodId} {args : Array Value} {below : List Frame} {meth : Method} {c : Code} {Rp : RT} (C : Cx Z d jX12_actSettle RX12 p R s m args meth c) : Sd Z jX12_actSettle p e R s m args below meth c (MQ below (QcS Z Rp) args s 0 0 (fun a => Z.2.2.1 < a)) 15 (w_X12_actSettle_15 (MS Z d) (Gw Z 2 p e R s m args below meth c (MQ below (QcS Z Rp) args s 0 0 (fun a => Z.2.2.1 < a))) Rp) := by
  unfold w_X12_actSettle_15
  refine s_aload_n (k := 0) C (by decide +kernel) ?_
  refine s_getR C w_6_88 (by decide +kernel) rfl ?_
  refine s_sipush (n := 4510) C (by decide +kernel) (by decide) ?_
  refine s_iald C (by decide +kernel) ?_
  refine s_if_ne (off := 8) (tgt := 31) C (by decide +kernel) (by decide) (fun _ _ _ _ _ _ h => h) ?_
  refine s_bipush (n := (-5)) C (by decide +kernel) (by decide) ?_
  exact s_goto (off := 8) (tgt := 36) C (by decide +kernel) (by decide) (fun _ _ _ _ _ _ h => h)
set_option maxRecDepth 20000 in
theorem b_X12_actSettle_31 {Z : Zt} {d : Nat} {p : Program} {e : Env} {R : Room} {s : State} {m : MethodId} {args : Array Value} {below : List Frame} {meth : Method} {c : Code} {Rp : RT} (C : Cx Z d jX12_actSettle RX12 p R s m args meth c) : Sd Z jX12_actSettle p e R s m args below meth c (MQ below (QcS Z Rp) args s 0 0 (fun a => Z.2.2.1 < a)) 31 (w_X12_actSettle_31 (MS Z d) (Gw Z 2 p e R s m args below meth c (MQ below (QcS Z Rp) args s 0 0 (fun a => Z.2.2.1 < a))) Rp) := by
  unfold w_X12_actSettle_31
  refine s_aload_n (k := 0) C (by decide +kernel) ?_
  refine s_iload_n (k := 1) C (by decide +kernel) ?_
  refine s_callV C rfl rfl (by decide +kernel) rfl w_8_21 w_8_23 w_p7_0 w_1_13 w_8_24 (by decide +kernel) ?_
  exact (fun _ _ _ _ _ _ h => h)
set_option maxRecDepth 20000 in
theorem b_X12_actSettle_36 {Z : Zt} {d : Nat} {p : Program} {e : Env} {R : Room} {s : State} {m : MethodId} {args : Array Value} {below : List Frame} {meth : Method} {c : Code} {Rp : RT} (C : Cx Z d jX12_actSettle RX12 p R s m args meth c) : Sd Z jX12_actSettle p e R s m args below meth c (MQ below (QcS Z Rp) args s 0 0 (fun a => Z.2.2.1 < a)) 36 (w_X12_actSettle_36 (MS Z d) (Gw Z 2 p e R s m args below meth c (MQ below (QcS Z Rp) args s 0 0 (fun a => Z.2.2.1 < a))) Rp) := by
  unfold w_X12_actSettle_36
  exact s_iret C rfl (by decide +kernel)
theorem ms_X12_actSettle {Z : Zt} {d : Nat} {S : Sh} {μ : Mi} {ρ : Mr} {Rp : RT} (a0 : Nat) (x1 : Int32) (h : ∀ G : Nat → PT, (∀ (L st : List Value) (S : Sh) (q : Nat × Nat) (μ : Mi) (ρ : Mr), w_X12_actSettle_15 (MS Z d) G Rp L st S q μ ρ → G 15 L st S q μ ρ) → (∀ (L st : List Value) (S : Sh) (q : Nat × Nat) (μ : Mi) (ρ : Mr), w_X12_actSettle_31 (MS Z d) G Rp L st S q μ ρ → G 31 L st S q μ ρ) → (∀ (L st : List Value) (S : Sh) (q : Nat × Nat) (μ : Mi) (ρ : Mr), w_X12_actSettle_36 (MS Z d) G Rp L st S q μ ρ → G 36 L st S q μ ρ) → w_X12_actSettle_0 (MS Z d) G Rp [.ref a0, .int x1] [] S (0, 0) μ ρ) : MS Z (d + 1) jX12_actSettle [.ref a0, .int x1] S μ ρ Rp :=
  MS_of [.ref a0, .int x1] (by decide +kernel) rfl rfl (Nat.le_of_ble_eq_true rfl) rfl (fun p e R s m args below meth c C => b_X12_actSettle_0 C _ _ _ _ _ _ (h _ (b_X12_actSettle_15 C) (b_X12_actSettle_31 C) (b_X12_actSettle_36 C)))
def w_X12_actCareful_0 (M : CT) (G : Nat → PT) (Rp : RT) : PT := tIload 1 <| tI2l <| tLconst 0 <| tLconst 1 <| tCallS M jX12_within 3 <| tIf (fun x => x ≠ 0) (G 13) <| tConst (-3) <| tIret Rp
def w_X12_actCareful_13 (M : CT) (G : Nat → PT) (Rp : RT) : PT := tAload 0 <| tGetR 12 27 1 <| tConst 4515 <| tAld 20 <| tIstore 2 <| tAload 0 <| tGetR 12 27 1 <| tConst 4515 <| tIload 1 <| tIast <| tIload 2 <| tIret Rp
set_option maxRecDepth 20000 in
theorem b_X12_actCareful_0 {Z : Zt} {d : Nat} {p : Program} {e : Env} {R : Room} {s : State} {m : MethodId} {args : Array Value} {below : List Frame} {meth : Method} {c : Code} {Rp : RT} (C : Cx Z d jX12_actCareful RX12 p R s m args meth c) : Sd Z jX12_actCareful p e R s m args below meth c (MQ below (QcS Z Rp) args s 0 0 (fun a => Z.2.2.1 < a)) 0 (w_X12_actCareful_0 (MS Z d) (Gw Z 3 p e R s m args below meth c (MQ below (QcS Z Rp) args s 0 0 (fun a => Z.2.2.1 < a))) Rp) := by
  unfold w_X12_actCareful_0
  refine s_iload_n (k := 1) C (by decide +kernel) ?_
  refine s_i2l C (by decide +kernel) ?_
  refine s_lconst (n := 0) C (by decide +kernel) (by decide) ?_
  refine s_lconst (n := 1) C (by decide +kernel) (by decide) ?_
  refine s_callS C (by decide +kernel) rfl w_6_175 w_6_176 w_1_13 w_6_177 (by decide +kernel) ?_
  refine s_if_ne (off := 6) (tgt := 13) C (by decide +kernel) (by decide) (fun _ _ _ _ _ _ h => h) ?_
  refine s_bipush (n := (-3)) C (by decide +kernel) (by decide) ?_
  exact s_iret C rfl (by decide +kernel)
set_option maxRecDepth 20000 in
theorem b_X12_actCareful_13 {Z : Zt} {d : Nat} {p : Program} {e : Env} {R : Room} {s : State} {m : MethodId} {args : Array Value} {below : List Frame} {meth : Method} {c : Code} {Rp : RT} (C : Cx Z d jX12_actCareful RX12 p R s m args meth c) : Sd Z jX12_actCareful p e R s m args below meth c (MQ below (QcS Z Rp) args s 0 0 (fun a => Z.2.2.1 < a)) 13 (w_X12_actCareful_13 (MS Z d) (Gw Z 3 p e R s m args below meth c (MQ below (QcS Z Rp) args s 0 0 (fun a => Z.2.2.1 < a))) Rp) := by
  unfold w_X12_actCareful_13
  refine s_aload_n (k := 0) C (by decide +kernel) ?_
  refine s_getR C w_6_88 (by decide +kernel) rfl ?_
  refine s_sipush (n := 4515) C (by decide +kernel) (by decide) ?_
  refine s_iald C (by decide +kernel) ?_
  refine s_istore_n (k := 2) C (by decide +kernel) ?_
  refine s_aload_n (k := 0) C (by decide +kernel) ?_
  refine s_getR C w_6_88 (by decide +kernel) rfl ?_
  refine s_sipush (n := 4515) C (by decide +kernel) (by decide) ?_
  refine s_iload_n (k := 1) C (by decide +kernel) ?_
  refine s_iast C (by decide +kernel) ?_
  refine s_iload_n (k := 2) C (by decide +kernel) ?_
  exact s_iret C rfl (by decide +kernel)
theorem ms_X12_actCareful {Z : Zt} {d : Nat} {S : Sh} {μ : Mi} {ρ : Mr} {Rp : RT} (a0 : Nat) (x1 : Int32) (h : ∀ G : Nat → PT, (∀ (L st : List Value) (S : Sh) (q : Nat × Nat) (μ : Mi) (ρ : Mr), w_X12_actCareful_13 (MS Z d) G Rp L st S q μ ρ → G 13 L st S q μ ρ) → w_X12_actCareful_0 (MS Z d) G Rp [.ref a0, .int x1, .null] [] S (0, 0) μ ρ) : MS Z (d + 1) jX12_actCareful [.ref a0, .int x1] S μ ρ Rp :=
  MS_of [.ref a0, .int x1, .null] (by decide +kernel) rfl rfl (Nat.le_of_ble_eq_true rfl) rfl (fun p e R s m args below meth c C => b_X12_actCareful_0 C _ _ _ _ _ _ (h _ (b_X12_actCareful_13 C)))
def w_X12_begin_0 (M : CT) (G : Nat → PT) (Rp : RT) : PT := tAload 0 <| tConst 0 <| tPutI 12 27 0 <| tIload 1 <| tI2l <| tLconst 1 <| tLconst 31 <| tCallS M jX12_within 3 <| tIf (fun x => x ≠ 0) (G 20) <| tConst (-3) <| tIret Rp
def w_X12_begin_20 (M : CT) (G : Nat → PT) (Rp : RT) : PT := tAload 0 <| tCallV M jX12_begins 12 27 0 <| tAload 0 <| tIload 1 <| tCallV M jX12_laysAll 12 27 1 <| tAload 0 <| tIload 1 <| tCallS M jX12_bits 1 <| tCallV M jX12_ends 12 27 1 <| tIret Rp
set_option maxRecDepth 20000 in
theorem b_X12_begin_0 {Z : Zt} {d : Nat} {p : Program} {e : Env} {R : Room} {s : State} {m : MethodId} {args : Array Value} {below : List Frame} {meth : Method} {c : Code} {Rp : RT} (C : Cx Z d jX12_begin RX12 p R s m args meth c) : Sd Z jX12_begin p e R s m args below meth c (MQ below (QcS Z Rp) args s 0 0 (fun a => Z.2.2.1 < a)) 0 (w_X12_begin_0 (MS Z d) (Gw Z 2 p e R s m args below meth c (MQ below (QcS Z Rp) args s 0 0 (fun a => Z.2.2.1 < a))) Rp) := by
  unfold w_X12_begin_0
  refine s_aload_n (k := 0) C (by decide +kernel) ?_
  refine s_iconst (n := 0) C (by decide +kernel) (by decide) ?_
  refine s_putI C w_6_87 (by decide +kernel) rfl (Or.inl rfl) ?_
  refine s_iload_n (k := 1) C (by decide +kernel) ?_
  refine s_i2l C (by decide +kernel) ?_
  refine s_lconst (n := 1) C (by decide +kernel) (by decide) ?_
  refine s_ldc2 C w_6_174 (by decide +kernel) ?_
  refine s_callS C (by decide +kernel) rfl w_6_175 w_6_176 w_1_13 w_6_177 (by decide +kernel) ?_
  refine s_if_ne (off := 6) (tgt := 20) C (by decide +kernel) (by decide) (fun _ _ _ _ _ _ h => h) ?_
  refine s_bipush (n := (-3)) C (by decide +kernel) (by decide) ?_
  exact s_iret C rfl (by decide +kernel)
set_option maxRecDepth 20000 in
theorem b_X12_begin_20 {Z : Zt} {d : Nat} {p : Program} {e : Env} {R : Room} {s : State} {m : MethodId} {args : Array Value} {below : List Frame} {meth : Method} {c : Code} {Rp : RT} (C : Cx Z d jX12_begin RX12 p R s m args meth c) : Sd Z jX12_begin p e R s m args below meth c (MQ below (QcS Z Rp) args s 0 0 (fun a => Z.2.2.1 < a)) 20 (w_X12_begin_20 (MS Z d) (Gw Z 2 p e R s m args below meth c (MQ below (QcS Z Rp) args s 0 0 (fun a => Z.2.2.1 < a))) Rp) := by
  unfold w_X12_begin_20
  refine s_aload_n (k := 0) C (by decide +kernel) ?_
  refine s_callV C rfl rfl (by decide +kernel) rfl w_6_178 w_6_180 w_p3_5 w_1_13 w_6_181 (by decide +kernel) ?_
  refine s_aload_n (k := 0) C (by decide +kernel) ?_
  refine s_iload_n (k := 1) C (by decide +kernel) ?_
  refine s_callV C rfl rfl (by decide +kernel) rfl w_6_78 w_6_80 w_p3_3 w_1_13 w_6_81 (by decide +kernel) ?_
  refine s_aload_n (k := 0) C (by decide +kernel) ?_
  refine s_iload_n (k := 1) C (by decide +kernel) ?_
  refine s_callS C (by decide +kernel) rfl w_6_185 w_6_186 w_1_13 w_6_187 (by decide +kernel) ?_
  refine s_callV C rfl rfl (by decide +kernel) rfl w_6_188 w_6_190 w_p3_6 w_1_13 w_6_191 (by decide +kernel) ?_
  exact s_iret C rfl (by decide +kernel)
theorem ms_X12_begin {Z : Zt} {d : Nat} {S : Sh} {μ : Mi} {ρ : Mr} {Rp : RT} (a0 : Nat) (x1 : Int32) (h : ∀ G : Nat → PT, (∀ (L st : List Value) (S : Sh) (q : Nat × Nat) (μ : Mi) (ρ : Mr), w_X12_begin_20 (MS Z d) G Rp L st S q μ ρ → G 20 L st S q μ ρ) → w_X12_begin_0 (MS Z d) G Rp [.ref a0, .int x1] [] S (0, 0) μ ρ) : MS Z (d + 1) jX12_begin [.ref a0, .int x1] S μ ρ Rp :=
  MS_of [.ref a0, .int x1] (by decide +kernel) rfl rfl (Nat.le_of_ble_eq_true rfl) rfl (fun p e R s m args below meth c C => b_X12_begin_0 C _ _ _ _ _ _ (h _ (b_X12_begin_20 C)))
def w_X12_careful_0 (M : CT) (G : Nat → PT) (Rp : RT) : PT := tAload 0 <| tConst 0 <| tPutI 12 27 0 <| tAload 0 <| tCallV M jX12_begins 12 27 0 <| tAload 0 <| tAload 0 <| tIload 1 <| tCallV M jX12_actCareful 12 27 1 <| tCallV M jX12_ends 12 27 1 <| tIret Rp
set_option maxRecDepth 20000 in
theorem b_X12_careful_0 {Z : Zt} {d : Nat} {p : Program} {e : Env} {R : Room} {s : State} {m : MethodId} {args : Array Value} {below : List Frame} {meth : Method} {c : Code} {Rp : RT} (C : Cx Z d jX12_careful RX12 p R s m args meth c) : Sd Z jX12_careful p e R s m args below meth c (MQ below (QcS Z Rp) args s 0 0 (fun a => Z.2.2.1 < a)) 0 (w_X12_careful_0 (MS Z d) (Gw Z 2 p e R s m args below meth c (MQ below (QcS Z Rp) args s 0 0 (fun a => Z.2.2.1 < a))) Rp) := by
  unfold w_X12_careful_0
  refine s_aload_n (k := 0) C (by decide +kernel) ?_
  refine s_iconst (n := 0) C (by decide +kernel) (by decide) ?_
  refine s_putI C w_6_87 (by decide +kernel) rfl (Or.inl rfl) ?_
  refine s_aload_n (k := 0) C (by decide +kernel) ?_
  refine s_callV C rfl rfl (by decide +kernel) rfl w_6_178 w_6_180 w_p3_5 w_1_13 w_6_181 (by decide +kernel) ?_
  refine s_aload_n (k := 0) C (by decide +kernel) ?_
  refine s_aload_n (k := 0) C (by decide +kernel) ?_
  refine s_iload_n (k := 1) C (by decide +kernel) ?_
  refine s_callV C rfl rfl (by decide +kernel) rfl w_6_196 w_6_198 w_p3_7 w_1_13 w_6_199 (by decide +kernel) ?_
  refine s_callV C rfl rfl (by decide +kernel) rfl w_6_188 w_6_190 w_p3_6 w_1_13 w_6_191 (by decide +kernel) ?_
  exact s_iret C rfl (by decide +kernel)
theorem ms_X12_careful {Z : Zt} {d : Nat} {S : Sh} {μ : Mi} {ρ : Mr} {Rp : RT} (a0 : Nat) (x1 : Int32) (h : ∀ G : Nat → PT, w_X12_careful_0 (MS Z d) G Rp [.ref a0, .int x1] [] S (0, 0) μ ρ) : MS Z (d + 1) jX12_careful [.ref a0, .int x1] S μ ρ Rp :=
  MS_of [.ref a0, .int x1] (by decide +kernel) rfl rfl (Nat.le_of_ble_eq_true rfl) rfl (fun p e R s m args below meth c C => b_X12_careful_0 C _ _ _ _ _ _ (h _ ))
def w_X12_timeout_0 (M : CT) (G : Nat → PT) (Rp : RT) : PT := tAload 0 <| tConst 0 <| tPutI 12 27 0 <| tAload 0 <| tCallV M jX12_begins 12 27 0 <| tAload 0 <| tAload 0 <| tIload 1 <| tCallV M jX12_actTimeout 12 27 1 <| tCallV M jX12_ends 12 27 1 <| tIret Rp
set_option maxRecDepth 20000 in
theorem b_X12_timeout_0 {Z : Zt} {d : Nat} {p : Program} {e : Env} {R : Room} {s : State} {m : MethodId} {args : Array Value} {below : List Frame} {meth : Method} {c : Code} {Rp : RT} (C : Cx Z d jX12_timeout RX12 p R s m args meth c) : Sd Z jX12_timeout p e R s m args below meth c (MQ below (QcS Z Rp) args s 0 0 (fun a => Z.2.2.1 < a)) 0 (w_X12_timeout_0 (MS Z d) (Gw Z 2 p e R s m args below meth c (MQ below (QcS Z Rp) args s 0 0 (fun a => Z.2.2.1 < a))) Rp) := by
  unfold w_X12_timeout_0
  refine s_aload_n (k := 0) C (by decide +kernel) ?_
  refine s_iconst (n := 0) C (by decide +kernel) (by decide) ?_
  refine s_putI C w_6_87 (by decide +kernel) rfl (Or.inl rfl) ?_
  refine s_aload_n (k := 0) C (by decide +kernel) ?_
  refine s_callV C rfl rfl (by decide +kernel) rfl w_6_178 w_6_180 w_p3_5 w_1_13 w_6_181 (by decide +kernel) ?_
  refine s_aload_n (k := 0) C (by decide +kernel) ?_
  refine s_aload_n (k := 0) C (by decide +kernel) ?_
  refine s_iload_n (k := 1) C (by decide +kernel) ?_
  refine s_callV C rfl rfl (by decide +kernel) rfl w_6_204 w_6_206 w_p3_8 w_1_13 w_6_207 (by decide +kernel) ?_
  refine s_callV C rfl rfl (by decide +kernel) rfl w_6_188 w_6_190 w_p3_6 w_1_13 w_6_191 (by decide +kernel) ?_
  exact s_iret C rfl (by decide +kernel)
theorem ms_X12_timeout {Z : Zt} {d : Nat} {S : Sh} {μ : Mi} {ρ : Mr} {Rp : RT} (a0 : Nat) (x1 : Int32) (h : ∀ G : Nat → PT, w_X12_timeout_0 (MS Z d) G Rp [.ref a0, .int x1] [] S (0, 0) μ ρ) : MS Z (d + 1) jX12_timeout [.ref a0, .int x1] S μ ρ Rp :=
  MS_of [.ref a0, .int x1] (by decide +kernel) rfl rfl (Nat.le_of_ble_eq_true rfl) rfl (fun p e R s m args below meth c C => b_X12_timeout_0 C _ _ _ _ _ _ (h _ ))
def w_X12_beat_0 (M : CT) (G : Nat → PT) (Rp : RT) : PT := tAload 0 <| tConst 0 <| tPutI 12 27 0 <| tAload 0 <| tCallV M jX12_begins 12 27 0 <| tAload 0 <| tAload 0 <| tIload 1 <| tCallV M jX12_actBeat 12 27 1 <| tCallV M jX12_ends 12 27 1 <| tIret Rp
set_option maxRecDepth 20000 in
theorem b_X12_beat_0 {Z : Zt} {d : Nat} {p : Program} {e : Env} {R : Room} {s : State} {m : MethodId} {args : Array Value} {below : List Frame} {meth : Method} {c : Code} {Rp : RT} (C : Cx Z d jX12_beat RX12 p R s m args meth c) : Sd Z jX12_beat p e R s m args below meth c (MQ below (QcS Z Rp) args s 0 0 (fun a => Z.2.2.1 < a)) 0 (w_X12_beat_0 (MS Z d) (Gw Z 2 p e R s m args below meth c (MQ below (QcS Z Rp) args s 0 0 (fun a => Z.2.2.1 < a))) Rp) := by
  unfold w_X12_beat_0
  refine s_aload_n (k := 0) C (by decide +kernel) ?_
  refine s_iconst (n := 0) C (by decide +kernel) (by decide) ?_
  refine s_putI C w_6_87 (by decide +kernel) rfl (Or.inl rfl) ?_
  refine s_aload_n (k := 0) C (by decide +kernel) ?_
  refine s_callV C rfl rfl (by decide +kernel) rfl w_6_178 w_6_180 w_p3_5 w_1_13 w_6_181 (by decide +kernel) ?_
  refine s_aload_n (k := 0) C (by decide +kernel) ?_
  refine s_aload_n (k := 0) C (by decide +kernel) ?_
  refine s_iload_n (k := 1) C (by decide +kernel) ?_
  refine s_callV C rfl rfl (by decide +kernel) rfl w_7_77 w_7_79 w_p5_0 w_1_13 w_7_80 (by decide +kernel) ?_
  refine s_callV C rfl rfl (by decide +kernel) rfl w_6_188 w_6_190 w_p3_6 w_1_13 w_6_191 (by decide +kernel) ?_
  exact s_iret C rfl (by decide +kernel)
theorem ms_X12_beat {Z : Zt} {d : Nat} {S : Sh} {μ : Mi} {ρ : Mr} {Rp : RT} (a0 : Nat) (x1 : Int32) (h : ∀ G : Nat → PT, w_X12_beat_0 (MS Z d) G Rp [.ref a0, .int x1] [] S (0, 0) μ ρ) : MS Z (d + 1) jX12_beat [.ref a0, .int x1] S μ ρ Rp :=
  MS_of [.ref a0, .int x1] (by decide +kernel) rfl rfl (Nat.le_of_ble_eq_true rfl) rfl (fun p e R s m args below meth c C => b_X12_beat_0 C _ _ _ _ _ _ (h _ ))
def w_X12_propose_0 (M : CT) (G : Nat → PT) (Rp : RT) : PT := tAload 0 <| tConst 0 <| tPutI 12 27 0 <| tAload 0 <| tCallV M jX12_begins 12 27 0 <| tAload 0 <| tAload 0 <| tIload 1 <| tIload 2 <| tIload 3 <| tIload 4 <| tCallV M jX12_actPropose 12 27 4 <| tCallV M jX12_ends 12 27 1 <| tIret Rp
set_option maxRecDepth 20000 in
theorem b_X12_propose_0 {Z : Zt} {d : Nat} {p : Program} {e : Env} {R : Room} {s : State} {m : MethodId} {args : Array Value} {below : List Frame} {meth : Method} {c : Code} {Rp : RT} (C : Cx Z d jX12_propose RX12 p R s m args meth c) : Sd Z jX12_propose p e R s m args below meth c (MQ below (QcS Z Rp) args s 0 0 (fun a => Z.2.2.1 < a)) 0 (w_X12_propose_0 (MS Z d) (Gw Z 5 p e R s m args below meth c (MQ below (QcS Z Rp) args s 0 0 (fun a => Z.2.2.1 < a))) Rp) := by
  unfold w_X12_propose_0
  refine s_aload_n (k := 0) C (by decide +kernel) ?_
  refine s_iconst (n := 0) C (by decide +kernel) (by decide) ?_
  refine s_putI C w_6_87 (by decide +kernel) rfl (Or.inl rfl) ?_
  refine s_aload_n (k := 0) C (by decide +kernel) ?_
  refine s_callV C rfl rfl (by decide +kernel) rfl w_6_178 w_6_180 w_p3_5 w_1_13 w_6_181 (by decide +kernel) ?_
  refine s_aload_n (k := 0) C (by decide +kernel) ?_
  refine s_aload_n (k := 0) C (by decide +kernel) ?_
  refine s_iload_n (k := 1) C (by decide +kernel) ?_
  refine s_iload_n (k := 2) C (by decide +kernel) ?_
  refine s_iload_n (k := 3) C (by decide +kernel) ?_
  refine s_iload (k := 4) C (by decide +kernel) ?_
  refine s_callV C rfl rfl (by decide +kernel) rfl w_7_85 w_7_87 w_p5_1 w_1_13 w_7_88 (by decide +kernel) ?_
  refine s_callV C rfl rfl (by decide +kernel) rfl w_6_188 w_6_190 w_p3_6 w_1_13 w_6_191 (by decide +kernel) ?_
  exact s_iret C rfl (by decide +kernel)
theorem ms_X12_propose {Z : Zt} {d : Nat} {S : Sh} {μ : Mi} {ρ : Mr} {Rp : RT} (a0 : Nat) (x1 : Int32) (x2 : Int32) (x3 : Int32) (x4 : Int32) (h : ∀ G : Nat → PT, w_X12_propose_0 (MS Z d) G Rp [.ref a0, .int x1, .int x2, .int x3, .int x4] [] S (0, 0) μ ρ) : MS Z (d + 1) jX12_propose [.ref a0, .int x1, .int x2, .int x3, .int x4] S μ ρ Rp :=
  MS_of [.ref a0, .int x1, .int x2, .int x3, .int x4] (by decide +kernel) rfl rfl (Nat.le_of_ble_eq_true rfl) rfl (fun p e R s m args below meth c C => b_X12_propose_0 C _ _ _ _ _ _ (h _ ))
def w_X12_read_0 (M : CT) (G : Nat → PT) (Rp : RT) : PT := tAload 0 <| tConst 0 <| tPutI 12 27 0 <| tAload 0 <| tCallV M jX12_begins 12 27 0 <| tAload 0 <| tAload 0 <| tIload 1 <| tIload 2 <| tCallV M jX12_actRead 12 27 2 <| tCallV M jX12_ends 12 27 1 <| tIret Rp
set_option maxRecDepth 20000 in
theorem b_X12_read_0 {Z : Zt} {d : Nat} {p : Program} {e : Env} {R : Room} {s : State} {m : MethodId} {args : Array Value} {below : List Frame} {meth : Method} {c : Code} {Rp : RT} (C : Cx Z d jX12_read RX12 p R s m args meth c) : Sd Z jX12_read p e R s m args below meth c (MQ below (QcS Z Rp) args s 0 0 (fun a => Z.2.2.1 < a)) 0 (w_X12_read_0 (MS Z d) (Gw Z 3 p e R s m args below meth c (MQ below (QcS Z Rp) args s 0 0 (fun a => Z.2.2.1 < a))) Rp) := by
  unfold w_X12_read_0
  refine s_aload_n (k := 0) C (by decide +kernel) ?_
  refine s_iconst (n := 0) C (by decide +kernel) (by decide) ?_
  refine s_putI C w_6_87 (by decide +kernel) rfl (Or.inl rfl) ?_
  refine s_aload_n (k := 0) C (by decide +kernel) ?_
  refine s_callV C rfl rfl (by decide +kernel) rfl w_6_178 w_6_180 w_p3_5 w_1_13 w_6_181 (by decide +kernel) ?_
  refine s_aload_n (k := 0) C (by decide +kernel) ?_
  refine s_aload_n (k := 0) C (by decide +kernel) ?_
  refine s_iload_n (k := 1) C (by decide +kernel) ?_
  refine s_iload_n (k := 2) C (by decide +kernel) ?_
  refine s_callV C rfl rfl (by decide +kernel) rfl w_7_104 w_7_106 w_p5_3 w_1_13 w_7_107 (by decide +kernel) ?_
  refine s_callV C rfl rfl (by decide +kernel) rfl w_6_188 w_6_190 w_p3_6 w_1_13 w_6_191 (by decide +kernel) ?_
  exact s_iret C rfl (by decide +kernel)
theorem ms_X12_read {Z : Zt} {d : Nat} {S : Sh} {μ : Mi} {ρ : Mr} {Rp : RT} (a0 : Nat) (x1 : Int32) (x2 : Int32) (h : ∀ G : Nat → PT, w_X12_read_0 (MS Z d) G Rp [.ref a0, .int x1, .int x2] [] S (0, 0) μ ρ) : MS Z (d + 1) jX12_read [.ref a0, .int x1, .int x2] S μ ρ Rp :=
  MS_of [.ref a0, .int x1, .int x2] (by decide +kernel) rfl rfl (Nat.le_of_ble_eq_true rfl) rfl (fun p e R s m args below meth c C => b_X12_read_0 C _ _ _ _ _ _ (h _ ))
def w_X12_hand_0 (M : CT) (G : Nat → PT) (Rp : RT) : PT := tAload 0 <| tConst 0 <| tPutI 12 27 0 <| tAload 0 <| tCallV M jX12_begins 12 27 0 <| tAload 0 <| tAload 0 <| tIload 1 <| tIload 2 <| tCallV M jX12_actHand 12 27 2 <| tCallV M jX12_ends 12 27 1 <| tIret Rp
set_option maxRecDepth 20000 in
theorem b_X12_hand_0 {Z : Zt} {d : Nat} {p : Program} {e : Env} {R : Room} {s : State} {m : MethodId} {args : Array Value} {below : List Frame} {meth : Method} {c : Code} {Rp : RT} (C : Cx Z d jX12_hand RX12 p R s m args meth c) : Sd Z jX12_hand p e R s m args below meth c (MQ below (QcS Z Rp) args s 0 0 (fun a => Z.2.2.1 < a)) 0 (w_X12_hand_0 (MS Z d) (Gw Z 3 p e R s m args below meth c (MQ below (QcS Z Rp) args s 0 0 (fun a => Z.2.2.1 < a))) Rp) := by
  unfold w_X12_hand_0
  refine s_aload_n (k := 0) C (by decide +kernel) ?_
  refine s_iconst (n := 0) C (by decide +kernel) (by decide) ?_
  refine s_putI C w_6_87 (by decide +kernel) rfl (Or.inl rfl) ?_
  refine s_aload_n (k := 0) C (by decide +kernel) ?_
  refine s_callV C rfl rfl (by decide +kernel) rfl w_6_178 w_6_180 w_p3_5 w_1_13 w_6_181 (by decide +kernel) ?_
  refine s_aload_n (k := 0) C (by decide +kernel) ?_
  refine s_aload_n (k := 0) C (by decide +kernel) ?_
  refine s_iload_n (k := 1) C (by decide +kernel) ?_
  refine s_iload_n (k := 2) C (by decide +kernel) ?_
  refine s_callV C rfl rfl (by decide +kernel) rfl w_7_116 w_7_118 w_p5_5 w_1_13 w_7_119 (by decide +kernel) ?_
  refine s_callV C rfl rfl (by decide +kernel) rfl w_6_188 w_6_190 w_p3_6 w_1_13 w_6_191 (by decide +kernel) ?_
  exact s_iret C rfl (by decide +kernel)
theorem ms_X12_hand {Z : Zt} {d : Nat} {S : Sh} {μ : Mi} {ρ : Mr} {Rp : RT} (a0 : Nat) (x1 : Int32) (x2 : Int32) (h : ∀ G : Nat → PT, w_X12_hand_0 (MS Z d) G Rp [.ref a0, .int x1, .int x2] [] S (0, 0) μ ρ) : MS Z (d + 1) jX12_hand [.ref a0, .int x1, .int x2] S μ ρ Rp :=
  MS_of [.ref a0, .int x1, .int x2] (by decide +kernel) rfl rfl (Nat.le_of_ble_eq_true rfl) rfl (fun p e R s m args below meth c C => b_X12_hand_0 C _ _ _ _ _ _ (h _ ))
def w_X12_change_0 (M : CT) (G : Nat → PT) (Rp : RT) : PT := tAload 0 <| tConst 0 <| tPutI 12 27 0 <| tAload 0 <| tCallV M jX12_begins 12 27 0 <| tAload 0 <| tAload 0 <| tIload 1 <| tIload 2 <| tCallV M jX12_actChange 12 27 2 <| tCallV M jX12_ends 12 27 1 <| tIret Rp
set_option maxRecDepth 20000 in
theorem b_X12_change_0 {Z : Zt} {d : Nat} {p : Program} {e : Env} {R : Room} {s : State} {m : MethodId} {args : Array Value} {below : List Frame} {meth : Method} {c : Code} {Rp : RT} (C : Cx Z d jX12_change RX12 p R s m args meth c) : Sd Z jX12_change p e R s m args below meth c (MQ below (QcS Z Rp) args s 0 0 (fun a => Z.2.2.1 < a)) 0 (w_X12_change_0 (MS Z d) (Gw Z 3 p e R s m args below meth c (MQ below (QcS Z Rp) args s 0 0 (fun a => Z.2.2.1 < a))) Rp) := by
  unfold w_X12_change_0
  refine s_aload_n (k := 0) C (by decide +kernel) ?_
  refine s_iconst (n := 0) C (by decide +kernel) (by decide) ?_
  refine s_putI C w_6_87 (by decide +kernel) rfl (Or.inl rfl) ?_
  refine s_aload_n (k := 0) C (by decide +kernel) ?_
  refine s_callV C rfl rfl (by decide +kernel) rfl w_6_178 w_6_180 w_p3_5 w_1_13 w_6_181 (by decide +kernel) ?_
  refine s_aload_n (k := 0) C (by decide +kernel) ?_
  refine s_aload_n (k := 0) C (by decide +kernel) ?_
  refine s_iload_n (k := 1) C (by decide +kernel) ?_
  refine s_iload_n (k := 2) C (by decide +kernel) ?_
  refine s_callV C rfl rfl (by decide +kernel) rfl w_7_124 w_7_126 w_p5_6 w_1_13 w_7_127 (by decide +kernel) ?_
  refine s_callV C rfl rfl (by decide +kernel) rfl w_6_188 w_6_190 w_p3_6 w_1_13 w_6_191 (by decide +kernel) ?_
  exact s_iret C rfl (by decide +kernel)
theorem ms_X12_change {Z : Zt} {d : Nat} {S : Sh} {μ : Mi} {ρ : Mr} {Rp : RT} (a0 : Nat) (x1 : Int32) (x2 : Int32) (h : ∀ G : Nat → PT, w_X12_change_0 (MS Z d) G Rp [.ref a0, .int x1, .int x2] [] S (0, 0) μ ρ) : MS Z (d + 1) jX12_change [.ref a0, .int x1, .int x2] S μ ρ Rp :=
  MS_of [.ref a0, .int x1, .int x2] (by decide +kernel) rfl rfl (Nat.le_of_ble_eq_true rfl) rfl (fun p e R s m args below meth c C => b_X12_change_0 C _ _ _ _ _ _ (h _ ))
def w_X12_compact_0 (M : CT) (G : Nat → PT) (Rp : RT) : PT := tAload 0 <| tConst 0 <| tPutI 12 27 0 <| tAload 0 <| tCallV M jX12_begins 12 27 0 <| tAload 0 <| tAload 0 <| tIload 1 <| tCallV M jX12_actCompact 12 27 1 <| tCallV M jX12_ends 12 27 1 <| tIret Rp
set_option maxRecDepth 20000 in
theorem b_X12_compact_0 {Z : Zt} {d : Nat} {p : Program} {e : Env} {R : Room} {s : State} {m : MethodId} {args : Array Value} {below : List Frame} {meth : Method} {c : Code} {Rp : RT} (C : Cx Z d jX12_compact RX12 p R s m args meth c) : Sd Z jX12_compact p e R s m args below meth c (MQ below (QcS Z Rp) args s 0 0 (fun a => Z.2.2.1 < a)) 0 (w_X12_compact_0 (MS Z d) (Gw Z 2 p e R s m args below meth c (MQ below (QcS Z Rp) args s 0 0 (fun a => Z.2.2.1 < a))) Rp) := by
  unfold w_X12_compact_0
  refine s_aload_n (k := 0) C (by decide +kernel) ?_
  refine s_iconst (n := 0) C (by decide +kernel) (by decide) ?_
  refine s_putI C w_6_87 (by decide +kernel) rfl (Or.inl rfl) ?_
  refine s_aload_n (k := 0) C (by decide +kernel) ?_
  refine s_callV C rfl rfl (by decide +kernel) rfl w_6_178 w_6_180 w_p3_5 w_1_13 w_6_181 (by decide +kernel) ?_
  refine s_aload_n (k := 0) C (by decide +kernel) ?_
  refine s_aload_n (k := 0) C (by decide +kernel) ?_
  refine s_iload_n (k := 1) C (by decide +kernel) ?_
  refine s_callV C rfl rfl (by decide +kernel) rfl w_7_132 w_7_134 w_p5_7 w_1_13 w_7_135 (by decide +kernel) ?_
  refine s_callV C rfl rfl (by decide +kernel) rfl w_6_188 w_6_190 w_p3_6 w_1_13 w_6_191 (by decide +kernel) ?_
  exact s_iret C rfl (by decide +kernel)
theorem ms_X12_compact {Z : Zt} {d : Nat} {S : Sh} {μ : Mi} {ρ : Mr} {Rp : RT} (a0 : Nat) (x1 : Int32) (h : ∀ G : Nat → PT, w_X12_compact_0 (MS Z d) G Rp [.ref a0, .int x1] [] S (0, 0) μ ρ) : MS Z (d + 1) jX12_compact [.ref a0, .int x1] S μ ρ Rp :=
  MS_of [.ref a0, .int x1] (by decide +kernel) rfl rfl (Nat.le_of_ble_eq_true rfl) rfl (fun p e R s m args below meth c C => b_X12_compact_0 C _ _ _ _ _ _ (h _ ))
def w_X12_stop_0 (M : CT) (G : Nat → PT) (Rp : RT) : PT := tAload 0 <| tConst 0 <| tPutI 12 27 0 <| tAload 0 <| tCallV M jX12_begins 12 27 0 <| tAload 0 <| tAload 0 <| tIload 1 <| tCallV M jX12_actStop 12 27 1 <| tCallV M jX12_ends 12 27 1 <| tIret Rp
set_option maxRecDepth 20000 in
theorem b_X12_stop_0 {Z : Zt} {d : Nat} {p : Program} {e : Env} {R : Room} {s : State} {m : MethodId} {args : Array Value} {below : List Frame} {meth : Method} {c : Code} {Rp : RT} (C : Cx Z d jX12_stop RX12 p R s m args meth c) : Sd Z jX12_stop p e R s m args below meth c (MQ below (QcS Z Rp) args s 0 0 (fun a => Z.2.2.1 < a)) 0 (w_X12_stop_0 (MS Z d) (Gw Z 2 p e R s m args below meth c (MQ below (QcS Z Rp) args s 0 0 (fun a => Z.2.2.1 < a))) Rp) := by
  unfold w_X12_stop_0
  refine s_aload_n (k := 0) C (by decide +kernel) ?_
  refine s_iconst (n := 0) C (by decide +kernel) (by decide) ?_
  refine s_putI C w_6_87 (by decide +kernel) rfl (Or.inl rfl) ?_
  refine s_aload_n (k := 0) C (by decide +kernel) ?_
  refine s_callV C rfl rfl (by decide +kernel) rfl w_6_178 w_6_180 w_p3_5 w_1_13 w_6_181 (by decide +kernel) ?_
  refine s_aload_n (k := 0) C (by decide +kernel) ?_
  refine s_aload_n (k := 0) C (by decide +kernel) ?_
  refine s_iload_n (k := 1) C (by decide +kernel) ?_
  refine s_callV C rfl rfl (by decide +kernel) rfl w_7_140 w_7_142 w_p5_8 w_1_13 w_7_143 (by decide +kernel) ?_
  refine s_callV C rfl rfl (by decide +kernel) rfl w_6_188 w_6_190 w_p3_6 w_1_13 w_6_191 (by decide +kernel) ?_
  exact s_iret C rfl (by decide +kernel)
theorem ms_X12_stop {Z : Zt} {d : Nat} {S : Sh} {μ : Mi} {ρ : Mr} {Rp : RT} (a0 : Nat) (x1 : Int32) (h : ∀ G : Nat → PT, w_X12_stop_0 (MS Z d) G Rp [.ref a0, .int x1] [] S (0, 0) μ ρ) : MS Z (d + 1) jX12_stop [.ref a0, .int x1] S μ ρ Rp :=
  MS_of [.ref a0, .int x1] (by decide +kernel) rfl rfl (Nat.le_of_ble_eq_true rfl) rfl (fun p e R s m args below meth c C => b_X12_stop_0 C _ _ _ _ _ _ (h _ ))
def w_X12_start_0 (M : CT) (G : Nat → PT) (Rp : RT) : PT := tAload 0 <| tConst 0 <| tPutI 12 27 0 <| tAload 0 <| tCallV M jX12_begins 12 27 0 <| tAload 0 <| tAload 0 <| tIload 1 <| tCallV M jX12_actStart 12 27 1 <| tCallV M jX12_ends 12 27 1 <| tIret Rp
set_option maxRecDepth 20000 in
theorem b_X12_start_0 {Z : Zt} {d : Nat} {p : Program} {e : Env} {R : Room} {s : State} {m : MethodId} {args : Array Value} {below : List Frame} {meth : Method} {c : Code} {Rp : RT} (C : Cx Z d jX12_start RX12 p R s m args meth c) : Sd Z jX12_start p e R s m args below meth c (MQ below (QcS Z Rp) args s 0 0 (fun a => Z.2.2.1 < a)) 0 (w_X12_start_0 (MS Z d) (Gw Z 2 p e R s m args below meth c (MQ below (QcS Z Rp) args s 0 0 (fun a => Z.2.2.1 < a))) Rp) := by
  unfold w_X12_start_0
  refine s_aload_n (k := 0) C (by decide +kernel) ?_
  refine s_iconst (n := 0) C (by decide +kernel) (by decide) ?_
  refine s_putI C w_6_87 (by decide +kernel) rfl (Or.inl rfl) ?_
  refine s_aload_n (k := 0) C (by decide +kernel) ?_
  refine s_callV C rfl rfl (by decide +kernel) rfl w_6_178 w_6_180 w_p3_5 w_1_13 w_6_181 (by decide +kernel) ?_
  refine s_aload_n (k := 0) C (by decide +kernel) ?_
  refine s_aload_n (k := 0) C (by decide +kernel) ?_
  refine s_iload_n (k := 1) C (by decide +kernel) ?_
  refine s_callV C rfl rfl (by decide +kernel) rfl w_7_148 w_7_150 w_p5_9 w_1_13 w_7_151 (by decide +kernel) ?_
  refine s_callV C rfl rfl (by decide +kernel) rfl w_6_188 w_6_190 w_p3_6 w_1_13 w_6_191 (by decide +kernel) ?_
  exact s_iret C rfl (by decide +kernel)
theorem ms_X12_start {Z : Zt} {d : Nat} {S : Sh} {μ : Mi} {ρ : Mr} {Rp : RT} (a0 : Nat) (x1 : Int32) (h : ∀ G : Nat → PT, w_X12_start_0 (MS Z d) G Rp [.ref a0, .int x1] [] S (0, 0) μ ρ) : MS Z (d + 1) jX12_start [.ref a0, .int x1] S μ ρ Rp :=
  MS_of [.ref a0, .int x1] (by decide +kernel) rfl rfl (Nat.le_of_ble_eq_true rfl) rfl (fun p e R s m args below meth c C => b_X12_start_0 C _ _ _ _ _ _ (h _ ))
def w_X12_link_0 (M : CT) (G : Nat → PT) (Rp : RT) : PT := tAload 0 <| tConst 0 <| tPutI 12 27 0 <| tAload 0 <| tCallV M jX12_begins 12 27 0 <| tAload 0 <| tAload 0 <| tIload 1 <| tIload 2 <| tIload 3 <| tCallV M jX12_actLink 12 27 3 <| tCallV M jX12_ends 12 27 1 <| tIret Rp
set_option maxRecDepth 20000 in
theorem b_X12_link_0 {Z : Zt} {d : Nat} {p : Program} {e : Env} {R : Room} {s : State} {m : MethodId} {args : Array Value} {below : List Frame} {meth : Method} {c : Code} {Rp : RT} (C : Cx Z d jX12_link RX12 p R s m args meth c) : Sd Z jX12_link p e R s m args below meth c (MQ below (QcS Z Rp) args s 0 0 (fun a => Z.2.2.1 < a)) 0 (w_X12_link_0 (MS Z d) (Gw Z 4 p e R s m args below meth c (MQ below (QcS Z Rp) args s 0 0 (fun a => Z.2.2.1 < a))) Rp) := by
  unfold w_X12_link_0
  refine s_aload_n (k := 0) C (by decide +kernel) ?_
  refine s_iconst (n := 0) C (by decide +kernel) (by decide) ?_
  refine s_putI C w_6_87 (by decide +kernel) rfl (Or.inl rfl) ?_
  refine s_aload_n (k := 0) C (by decide +kernel) ?_
  refine s_callV C rfl rfl (by decide +kernel) rfl w_6_178 w_6_180 w_p3_5 w_1_13 w_6_181 (by decide +kernel) ?_
  refine s_aload_n (k := 0) C (by decide +kernel) ?_
  refine s_aload_n (k := 0) C (by decide +kernel) ?_
  refine s_iload_n (k := 1) C (by decide +kernel) ?_
  refine s_iload_n (k := 2) C (by decide +kernel) ?_
  refine s_iload_n (k := 3) C (by decide +kernel) ?_
  refine s_callV C rfl rfl (by decide +kernel) rfl w_7_156 w_7_158 w_p5_10 w_1_13 w_7_159 (by decide +kernel) ?_
  refine s_callV C rfl rfl (by decide +kernel) rfl w_6_188 w_6_190 w_p3_6 w_1_13 w_6_191 (by decide +kernel) ?_
  exact s_iret C rfl (by decide +kernel)
theorem ms_X12_link {Z : Zt} {d : Nat} {S : Sh} {μ : Mi} {ρ : Mr} {Rp : RT} (a0 : Nat) (x1 : Int32) (x2 : Int32) (x3 : Int32) (h : ∀ G : Nat → PT, w_X12_link_0 (MS Z d) G Rp [.ref a0, .int x1, .int x2, .int x3] [] S (0, 0) μ ρ) : MS Z (d + 1) jX12_link [.ref a0, .int x1, .int x2, .int x3] S μ ρ Rp :=
  MS_of [.ref a0, .int x1, .int x2, .int x3] (by decide +kernel) rfl rfl (Nat.le_of_ble_eq_true rfl) rfl (fun p e R s m args below meth c C => b_X12_link_0 C _ _ _ _ _ _ (h _ ))
def w_X12_come_0 (M : CT) (G : Nat → PT) (Rp : RT) : PT := tAload 0 <| tConst 0 <| tPutI 12 27 0 <| tAload 0 <| tCallV M jX12_begins 12 27 0 <| tAload 0 <| tAload 0 <| tIload 1 <| tCallV M jX12_actCome 12 27 1 <| tCallV M jX12_ends 12 27 1 <| tIret Rp
set_option maxRecDepth 20000 in
theorem b_X12_come_0 {Z : Zt} {d : Nat} {p : Program} {e : Env} {R : Room} {s : State} {m : MethodId} {args : Array Value} {below : List Frame} {meth : Method} {c : Code} {Rp : RT} (C : Cx Z d jX12_come RX12 p R s m args meth c) : Sd Z jX12_come p e R s m args below meth c (MQ below (QcS Z Rp) args s 0 0 (fun a => Z.2.2.1 < a)) 0 (w_X12_come_0 (MS Z d) (Gw Z 2 p e R s m args below meth c (MQ below (QcS Z Rp) args s 0 0 (fun a => Z.2.2.1 < a))) Rp) := by
  unfold w_X12_come_0
  refine s_aload_n (k := 0) C (by decide +kernel) ?_
  refine s_iconst (n := 0) C (by decide +kernel) (by decide) ?_
  refine s_putI C w_6_87 (by decide +kernel) rfl (Or.inl rfl) ?_
  refine s_aload_n (k := 0) C (by decide +kernel) ?_
  refine s_callV C rfl rfl (by decide +kernel) rfl w_6_178 w_6_180 w_p3_5 w_1_13 w_6_181 (by decide +kernel) ?_
  refine s_aload_n (k := 0) C (by decide +kernel) ?_
  refine s_aload_n (k := 0) C (by decide +kernel) ?_
  refine s_iload_n (k := 1) C (by decide +kernel) ?_
  refine s_callV C rfl rfl (by decide +kernel) rfl w_7_164 w_7_166 w_p5_11 w_1_13 w_7_167 (by decide +kernel) ?_
  refine s_callV C rfl rfl (by decide +kernel) rfl w_6_188 w_6_190 w_p3_6 w_1_13 w_6_191 (by decide +kernel) ?_
  exact s_iret C rfl (by decide +kernel)
theorem ms_X12_come {Z : Zt} {d : Nat} {S : Sh} {μ : Mi} {ρ : Mr} {Rp : RT} (a0 : Nat) (x1 : Int32) (h : ∀ G : Nat → PT, w_X12_come_0 (MS Z d) G Rp [.ref a0, .int x1] [] S (0, 0) μ ρ) : MS Z (d + 1) jX12_come [.ref a0, .int x1] S μ ρ Rp :=
  MS_of [.ref a0, .int x1] (by decide +kernel) rfl rfl (Nat.le_of_ble_eq_true rfl) rfl (fun p e R s m args below meth c C => b_X12_come_0 C _ _ _ _ _ _ (h _ ))
def w_X12_lose_0 (M : CT) (G : Nat → PT) (Rp : RT) : PT := tAload 0 <| tConst 0 <| tPutI 12 27 0 <| tAload 0 <| tCallV M jX12_begins 12 27 0 <| tAload 0 <| tAload 0 <| tIload 1 <| tCallV M jX12_actLose 12 27 1 <| tCallV M jX12_ends 12 27 1 <| tIret Rp
set_option maxRecDepth 20000 in
theorem b_X12_lose_0 {Z : Zt} {d : Nat} {p : Program} {e : Env} {R : Room} {s : State} {m : MethodId} {args : Array Value} {below : List Frame} {meth : Method} {c : Code} {Rp : RT} (C : Cx Z d jX12_lose RX12 p R s m args meth c) : Sd Z jX12_lose p e R s m args below meth c (MQ below (QcS Z Rp) args s 0 0 (fun a => Z.2.2.1 < a)) 0 (w_X12_lose_0 (MS Z d) (Gw Z 2 p e R s m args below meth c (MQ below (QcS Z Rp) args s 0 0 (fun a => Z.2.2.1 < a))) Rp) := by
  unfold w_X12_lose_0
  refine s_aload_n (k := 0) C (by decide +kernel) ?_
  refine s_iconst (n := 0) C (by decide +kernel) (by decide) ?_
  refine s_putI C w_6_87 (by decide +kernel) rfl (Or.inl rfl) ?_
  refine s_aload_n (k := 0) C (by decide +kernel) ?_
  refine s_callV C rfl rfl (by decide +kernel) rfl w_6_178 w_6_180 w_p3_5 w_1_13 w_6_181 (by decide +kernel) ?_
  refine s_aload_n (k := 0) C (by decide +kernel) ?_
  refine s_aload_n (k := 0) C (by decide +kernel) ?_
  refine s_iload_n (k := 1) C (by decide +kernel) ?_
  refine s_callV C rfl rfl (by decide +kernel) rfl w_8_0 w_8_2 w_p6_13 w_1_13 w_8_3 (by decide +kernel) ?_
  refine s_callV C rfl rfl (by decide +kernel) rfl w_6_188 w_6_190 w_p3_6 w_1_13 w_6_191 (by decide +kernel) ?_
  exact s_iret C rfl (by decide +kernel)
theorem ms_X12_lose {Z : Zt} {d : Nat} {S : Sh} {μ : Mi} {ρ : Mr} {Rp : RT} (a0 : Nat) (x1 : Int32) (h : ∀ G : Nat → PT, w_X12_lose_0 (MS Z d) G Rp [.ref a0, .int x1] [] S (0, 0) μ ρ) : MS Z (d + 1) jX12_lose [.ref a0, .int x1] S μ ρ Rp :=
  MS_of [.ref a0, .int x1] (by decide +kernel) rfl rfl (Nat.le_of_ble_eq_true rfl) rfl (fun p e R s m args below meth c C => b_X12_lose_0 C _ _ _ _ _ _ (h _ ))
def w_X12_twice_0 (M : CT) (G : Nat → PT) (Rp : RT) : PT := tAload 0 <| tConst 0 <| tPutI 12 27 0 <| tAload 0 <| tCallV M jX12_begins 12 27 0 <| tAload 0 <| tAload 0 <| tIload 1 <| tCallV M jX12_actTwice 12 27 1 <| tCallV M jX12_ends 12 27 1 <| tIret Rp
set_option maxRecDepth 20000 in
theorem b_X12_twice_0 {Z : Zt} {d : Nat} {p : Program} {e : Env} {R : Room} {s : State} {m : MethodId} {args : Array Value} {below : List Frame} {meth : Method} {c : Code} {Rp : RT} (C : Cx Z d jX12_twice RX12 p R s m args meth c) : Sd Z jX12_twice p e R s m args below meth c (MQ below (QcS Z Rp) args s 0 0 (fun a => Z.2.2.1 < a)) 0 (w_X12_twice_0 (MS Z d) (Gw Z 2 p e R s m args below meth c (MQ below (QcS Z Rp) args s 0 0 (fun a => Z.2.2.1 < a))) Rp) := by
  unfold w_X12_twice_0
  refine s_aload_n (k := 0) C (by decide +kernel) ?_
  refine s_iconst (n := 0) C (by decide +kernel) (by decide) ?_
  refine s_putI C w_6_87 (by decide +kernel) rfl (Or.inl rfl) ?_
  refine s_aload_n (k := 0) C (by decide +kernel) ?_
  refine s_callV C rfl rfl (by decide +kernel) rfl w_6_178 w_6_180 w_p3_5 w_1_13 w_6_181 (by decide +kernel) ?_
  refine s_aload_n (k := 0) C (by decide +kernel) ?_
  refine s_aload_n (k := 0) C (by decide +kernel) ?_
  refine s_iload_n (k := 1) C (by decide +kernel) ?_
  refine s_callV C rfl rfl (by decide +kernel) rfl w_8_8 w_8_10 w_p6_14 w_1_13 w_8_11 (by decide +kernel) ?_
  refine s_callV C rfl rfl (by decide +kernel) rfl w_6_188 w_6_190 w_p3_6 w_1_13 w_6_191 (by decide +kernel) ?_
  exact s_iret C rfl (by decide +kernel)
theorem ms_X12_twice {Z : Zt} {d : Nat} {S : Sh} {μ : Mi} {ρ : Mr} {Rp : RT} (a0 : Nat) (x1 : Int32) (h : ∀ G : Nat → PT, w_X12_twice_0 (MS Z d) G Rp [.ref a0, .int x1] [] S (0, 0) μ ρ) : MS Z (d + 1) jX12_twice [.ref a0, .int x1] S μ ρ Rp :=
  MS_of [.ref a0, .int x1] (by decide +kernel) rfl rfl (Nat.le_of_ble_eq_true rfl) rfl (fun p e R s m args below meth c C => b_X12_twice_0 C _ _ _ _ _ _ (h _ ))
def w_X12_settle_0 (M : CT) (G : Nat → PT) (Rp : RT) : PT := tAload 0 <| tConst 0 <| tPutI 12 27 0 <| tAload 0 <| tCallV M jX12_begins 12 27 0 <| tAload 0 <| tAload 0 <| tIload 1 <| tCallV M jX12_actSettle 12 27 1 <| tCallV M jX12_ends 12 27 1 <| tIret Rp
set_option maxRecDepth 20000 in
theorem b_X12_settle_0 {Z : Zt} {d : Nat} {p : Program} {e : Env} {R : Room} {s : State} {m : MethodId} {args : Array Value} {below : List Frame} {meth : Method} {c : Code} {Rp : RT} (C : Cx Z d jX12_settle RX12 p R s m args meth c) : Sd Z jX12_settle p e R s m args below meth c (MQ below (QcS Z Rp) args s 0 0 (fun a => Z.2.2.1 < a)) 0 (w_X12_settle_0 (MS Z d) (Gw Z 2 p e R s m args below meth c (MQ below (QcS Z Rp) args s 0 0 (fun a => Z.2.2.1 < a))) Rp) := by
  unfold w_X12_settle_0
  refine s_aload_n (k := 0) C (by decide +kernel) ?_
  refine s_iconst (n := 0) C (by decide +kernel) (by decide) ?_
  refine s_putI C w_6_87 (by decide +kernel) rfl (Or.inl rfl) ?_
  refine s_aload_n (k := 0) C (by decide +kernel) ?_
  refine s_callV C rfl rfl (by decide +kernel) rfl w_6_178 w_6_180 w_p3_5 w_1_13 w_6_181 (by decide +kernel) ?_
  refine s_aload_n (k := 0) C (by decide +kernel) ?_
  refine s_aload_n (k := 0) C (by decide +kernel) ?_
  refine s_iload_n (k := 1) C (by decide +kernel) ?_
  refine s_callV C rfl rfl (by decide +kernel) rfl w_8_16 w_8_18 w_p6_15 w_1_13 w_8_19 (by decide +kernel) ?_
  refine s_callV C rfl rfl (by decide +kernel) rfl w_6_188 w_6_190 w_p3_6 w_1_13 w_6_191 (by decide +kernel) ?_
  exact s_iret C rfl (by decide +kernel)
theorem ms_X12_settle {Z : Zt} {d : Nat} {S : Sh} {μ : Mi} {ρ : Mr} {Rp : RT} (a0 : Nat) (x1 : Int32) (h : ∀ G : Nat → PT, w_X12_settle_0 (MS Z d) G Rp [.ref a0, .int x1] [] S (0, 0) μ ρ) : MS Z (d + 1) jX12_settle [.ref a0, .int x1] S μ ρ Rp :=
  MS_of [.ref a0, .int x1] (by decide +kernel) rfl rfl (Nat.le_of_ble_eq_true rfl) rfl (fun p e R s m args below meth c C => b_X12_settle_0 C _ _ _ _ _ _ (h _ ))
def w_X12_feed_0 (M : CT) (G : Nat → PT) (Rp : RT) : PT := tAload 0 <| tConst 0 <| tPutI 12 27 0 <| tAload 0 <| tGetI 12 27 14 <| tConst 20 <| tBin (fun x y => x + y) <| tConst 300 <| tIf2 (fun x y => x ≤ y) (G 21) <| tConst (-4) <| tIret Rp
def w_X12_feed_21 (M : CT) (G : Nat → PT) (Rp : RT) : PT := tConst 0 <| tIstore 6 <| G 24
def w_X12_feed_24 (M : CT) (G : Nat → PT) (Rp : RT) : PT := tIload 6 <| tConst 20 <| tIf2 (fun x y => y ≤ x) (G 118) <| tIload 6 <| tConst 4 <| tIf2 (fun x y => y ≤ x) (G 41) <| tIload 1 <| tGoto (G 77)
def w_X12_feed_41 (M : CT) (G : Nat → PT) (Rp : RT) : PT := tIload 6 <| tConst 8 <| tIf2 (fun x y => y ≤ x) (G 52) <| tIload 2 <| tGoto (G 77)
def w_X12_feed_52 (M : CT) (G : Nat → PT) (Rp : RT) : PT := tIload 6 <| tConst 12 <| tIf2 (fun x y => y ≤ x) (G 63) <| tIload 3 <| tGoto (G 77)
def w_X12_feed_63 (M : CT) (G : Nat → PT) (Rp : RT) : PT := tIload 6 <| tConst 16 <| tIf2 (fun x y => y ≤ x) (G 75) <| tIload 4 <| tGoto (G 77)
def w_X12_feed_75 (M : CT) (G : Nat → PT) (Rp : RT) : PT := tIload 5 <| G 77
def w_X12_feed_77 (M : CT) (G : Nat → PT) (Rp : RT) : PT := tIstore 7 <| tAload 0 <| tGetR 12 27 13 <| tAload 0 <| tGetI 12 27 14 <| tIload 7 <| tConst 24 <| tConst 8 <| tIload 6 <| tConst 4 <| tRem <| tBin (fun x y => x * y) <| tBin (fun x y => x - y) <| tBin (fun x y => x >>> (y &&& 31)) <| tUn (fun x => x.toInt8.toInt32) <| tBast <| tAload 0 <| tDup <| tGetI 12 27 14 <| tConst 1 <| tBin (fun x y => x + y) <| tPutI 12 27 14 <| tIinc 6 1 <| tGoto (G 24)
def w_X12_feed_118 (M : CT) (G : Nat → PT) (Rp : RT) : PT := tAload 0 <| tGetI 12 27 14 <| tIret Rp
set_option maxRecDepth 20000 in
theorem b_X12_feed_0 {Z : Zt} {d : Nat} {p : Program} {e : Env} {R : Room} {s : State} {m : MethodId} {args : Array Value} {below : List Frame} {meth : Method} {c : Code} {Rp : RT} (C : Cx Z d jX12_feed RX12 p R s m args meth c) : Sd Z jX12_feed p e R s m args below meth c (MQ below (QcS Z Rp) args s 0 0 (fun a => Z.2.2.1 < a)) 0 (w_X12_feed_0 (MS Z d) (Gw Z 8 p e R s m args below meth c (MQ below (QcS Z Rp) args s 0 0 (fun a => Z.2.2.1 < a))) Rp) := by
  unfold w_X12_feed_0
  refine s_aload_n (k := 0) C (by decide +kernel) ?_
  refine s_iconst (n := 0) C (by decide +kernel) (by decide) ?_
  refine s_putI C w_6_87 (by decide +kernel) rfl (Or.inl rfl) ?_
  refine s_aload_n (k := 0) C (by decide +kernel) ?_
  refine s_getI C w_6_101 (by decide +kernel) rfl ?_
  refine s_bipush (n := 20) C (by decide +kernel) (by decide) ?_
  refine s_iadd C (by decide +kernel) ?_
  refine s_sipush (n := 300) C (by decide +kernel) (by decide) ?_
  refine s_icmp_le (off := 6) (tgt := 21) C (by decide +kernel) (by decide) (fun _ _ _ _ _ _ h => h) ?_
  refine s_bipush (n := (-4)) C (by decide +kernel) (by decide) ?_
  exact s_iret C rfl (by decide +kernel)
set_option maxRecDepth 20000 in
theorem b_X12_feed_21 {Z : Zt} {d : Nat} {p : Program} {e : Env} {R : Room} {s : State} {m : MethodId} {args : Array Value} {below : List Frame} {meth : Method} {c : Code} {Rp : RT} (C : Cx Z d jX12_feed RX12 p R s m args meth c) : Sd Z jX12_feed p e R s m args below meth c (MQ below (QcS Z Rp) args s 0 0 (fun a => Z.2.2.1 < a)) 21 (w_X12_feed_21 (MS Z d) (Gw Z 8 p e R s m args below meth c (MQ below (QcS Z Rp) args s 0 0 (fun a => Z.2.2.1 < a))) Rp) := by
  unfold w_X12_feed_21
  refine s_iconst (n := 0) C (by decide +kernel) (by decide) ?_
  refine s_istore (k := 6) C (by decide +kernel) ?_
  exact (fun _ _ _ _ _ _ h => h)
set_option maxRecDepth 20000 in
theorem b_X12_feed_24 {Z : Zt} {d : Nat} {p : Program} {e : Env} {R : Room} {s : State} {m : MethodId} {args : Array Value} {below : List Frame} {meth : Method} {c : Code} {Rp : RT} (C : Cx Z d jX12_feed RX12 p R s m args meth c) : Sd Z jX12_feed p e R s m args below meth c (MQ below (QcS Z Rp) args s 0 0 (fun a => Z.2.2.1 < a)) 24 (w_X12_feed_24 (MS Z d) (Gw Z 8 p e R s m args below meth c (MQ below (QcS Z Rp) args s 0 0 (fun a => Z.2.2.1 < a))) Rp) := by
  unfold w_X12_feed_24
  refine s_iload (k := 6) C (by decide +kernel) ?_
  refine s_bipush (n := 20) C (by decide +kernel) (by decide) ?_
  refine s_icmp_ge (off := 90) (tgt := 118) C (by decide +kernel) (by decide) (fun _ _ _ _ _ _ h => h) ?_
  refine s_iload (k := 6) C (by decide +kernel) ?_
  refine s_iconst (n := 4) C (by decide +kernel) (by decide) ?_
  refine s_icmp_ge (off := 7) (tgt := 41) C (by decide +kernel) (by decide) (fun _ _ _ _ _ _ h => h) ?_
  refine s_iload_n (k := 1) C (by decide +kernel) ?_
  exact s_goto (off := 39) (tgt := 77) C (by decide +kernel) (by decide) (fun _ _ _ _ _ _ h => h)
set_option maxRecDepth 20000 in
theorem b_X12_feed_41 {Z : Zt} {d : Nat} {p : Program} {e : Env} {R : Room} {s : State} {m : MethodId} {args : Array Value} {below : List Frame} {meth : Method} {c : Code} {Rp : RT} (C : Cx Z d jX12_feed RX12 p R s m args meth c) : Sd Z jX12_feed p e R s m args below meth c (MQ below (QcS Z Rp) args s 0 0 (fun a => Z.2.2.1 < a)) 41 (w_X12_feed_41 (MS Z d) (Gw Z 8 p e R s m args below meth c (MQ below (QcS Z Rp) args s 0 0 (fun a => Z.2.2.1 < a))) Rp) := by
  unfold w_X12_feed_41
  refine s_iload (k := 6) C (by decide +kernel) ?_
  refine s_bipush (n := 8) C (by decide +kernel) (by decide) ?_
  refine s_icmp_ge (off := 7) (tgt := 52) C (by decide +kernel) (by decide) (fun _ _ _ _ _ _ h => h) ?_
  refine s_iload_n (k := 2) C (by decide +kernel) ?_
  exact s_goto (off := 28) (tgt := 77) C (by decide +kernel) (by decide) (fun _ _ _ _ _ _ h => h)
set_option maxRecDepth 20000 in
theorem b_X12_feed_52 {Z : Zt} {d : Nat} {p : Program} {e : Env} {R : Room} {s : State} {m : MethodId} {args : Array Value} {below : List Frame} {meth : Method} {c : Code} {Rp : RT} (C : Cx Z d jX12_feed RX12 p R s m args meth c) : Sd Z jX12_feed p e R s m args below meth c (MQ below (QcS Z Rp) args s 0 0 (fun a => Z.2.2.1 < a)) 52 (w_X12_feed_52 (MS Z d) (Gw Z 8 p e R s m args below meth c (MQ below (QcS Z Rp) args s 0 0 (fun a => Z.2.2.1 < a))) Rp) := by
  unfold w_X12_feed_52
  refine s_iload (k := 6) C (by decide +kernel) ?_
  refine s_bipush (n := 12) C (by decide +kernel) (by decide) ?_
  refine s_icmp_ge (off := 7) (tgt := 63) C (by decide +kernel) (by decide) (fun _ _ _ _ _ _ h => h) ?_
  refine s_iload_n (k := 3) C (by decide +kernel) ?_
  exact s_goto (off := 17) (tgt := 77) C (by decide +kernel) (by decide) (fun _ _ _ _ _ _ h => h)
set_option maxRecDepth 20000 in
theorem b_X12_feed_63 {Z : Zt} {d : Nat} {p : Program} {e : Env} {R : Room} {s : State} {m : MethodId} {args : Array Value} {below : List Frame} {meth : Method} {c : Code} {Rp : RT} (C : Cx Z d jX12_feed RX12 p R s m args meth c) : Sd Z jX12_feed p e R s m args below meth c (MQ below (QcS Z Rp) args s 0 0 (fun a => Z.2.2.1 < a)) 63 (w_X12_feed_63 (MS Z d) (Gw Z 8 p e R s m args below meth c (MQ below (QcS Z Rp) args s 0 0 (fun a => Z.2.2.1 < a))) Rp) := by
  unfold w_X12_feed_63
  refine s_iload (k := 6) C (by decide +kernel) ?_
  refine s_bipush (n := 16) C (by decide +kernel) (by decide) ?_
  refine s_icmp_ge (off := 8) (tgt := 75) C (by decide +kernel) (by decide) (fun _ _ _ _ _ _ h => h) ?_
  refine s_iload (k := 4) C (by decide +kernel) ?_
  exact s_goto (off := 5) (tgt := 77) C (by decide +kernel) (by decide) (fun _ _ _ _ _ _ h => h)
set_option maxRecDepth 20000 in
theorem b_X12_feed_75 {Z : Zt} {d : Nat} {p : Program} {e : Env} {R : Room} {s : State} {m : MethodId} {args : Array Value} {below : List Frame} {meth : Method} {c : Code} {Rp : RT} (C : Cx Z d jX12_feed RX12 p R s m args meth c) : Sd Z jX12_feed p e R s m args below meth c (MQ below (QcS Z Rp) args s 0 0 (fun a => Z.2.2.1 < a)) 75 (w_X12_feed_75 (MS Z d) (Gw Z 8 p e R s m args below meth c (MQ below (QcS Z Rp) args s 0 0 (fun a => Z.2.2.1 < a))) Rp) := by
  unfold w_X12_feed_75
  refine s_iload (k := 5) C (by decide +kernel) ?_
  exact (fun _ _ _ _ _ _ h => h)
set_option maxRecDepth 20000 in
theorem b_X12_feed_77 {Z : Zt} {d : Nat} {p : Program} {e : Env} {R : Room} {s : State} {m : MethodId} {args : Array Value} {below : List Frame} {meth : Method} {c : Code} {Rp : RT} (C : Cx Z d jX12_feed RX12 p R s m args meth c) : Sd Z jX12_feed p e R s m args below meth c (MQ below (QcS Z Rp) args s 0 0 (fun a => Z.2.2.1 < a)) 77 (w_X12_feed_77 (MS Z d) (Gw Z 8 p e R s m args below meth c (MQ below (QcS Z Rp) args s 0 0 (fun a => Z.2.2.1 < a))) Rp) := by
  unfold w_X12_feed_77
  refine s_istore (k := 7) C (by decide +kernel) ?_
  refine s_aload_n (k := 0) C (by decide +kernel) ?_
  refine s_getR C w_6_100 (by decide +kernel) rfl ?_
  refine s_aload_n (k := 0) C (by decide +kernel) ?_
  refine s_getI C w_6_101 (by decide +kernel) rfl ?_
  refine s_iload (k := 7) C (by decide +kernel) ?_
  refine s_bipush (n := 24) C (by decide +kernel) (by decide) ?_
  refine s_bipush (n := 8) C (by decide +kernel) (by decide) ?_
  refine s_iload (k := 6) C (by decide +kernel) ?_
  refine s_iconst (n := 4) C (by decide +kernel) (by decide) ?_
  refine s_irem C (by decide +kernel) ?_
  refine s_imul C (by decide +kernel) ?_
  refine s_isub C (by decide +kernel) ?_
  refine s_ishr C (by decide +kernel) ?_
  refine s_i2b C (by decide +kernel) ?_
  refine s_bast C (by decide +kernel) ?_
  refine s_aload_n (k := 0) C (by decide +kernel) ?_
  refine s_dup C (by decide +kernel) ?_
  refine s_getI C w_6_101 (by decide +kernel) rfl ?_
  refine s_iconst (n := 1) C (by decide +kernel) (by decide) ?_
  refine s_iadd C (by decide +kernel) ?_
  refine s_putI C w_6_101 (by decide +kernel) rfl (Or.inl rfl) ?_
  refine s_iinc (n := 1) C (by decide +kernel) (by decide) ?_
  exact s_goto (off := (-91)) (tgt := 24) C (by decide +kernel) (by decide) (fun _ _ _ _ _ _ h => h)
set_option maxRecDepth 20000 in
theorem b_X12_feed_118 {Z : Zt} {d : Nat} {p : Program} {e : Env} {R : Room} {s : State} {m : MethodId} {args : Array Value} {below : List Frame} {meth : Method} {c : Code} {Rp : RT} (C : Cx Z d jX12_feed RX12 p R s m args meth c) : Sd Z jX12_feed p e R s m args below meth c (MQ below (QcS Z Rp) args s 0 0 (fun a => Z.2.2.1 < a)) 118 (w_X12_feed_118 (MS Z d) (Gw Z 8 p e R s m args below meth c (MQ below (QcS Z Rp) args s 0 0 (fun a => Z.2.2.1 < a))) Rp) := by
  unfold w_X12_feed_118
  refine s_aload_n (k := 0) C (by decide +kernel) ?_
  refine s_getI C w_6_101 (by decide +kernel) rfl ?_
  exact s_iret C rfl (by decide +kernel)
theorem ms_X12_feed {Z : Zt} {d : Nat} {S : Sh} {μ : Mi} {ρ : Mr} {Rp : RT} (a0 : Nat) (x1 : Int32) (x2 : Int32) (x3 : Int32) (x4 : Int32) (x5 : Int32) (h : ∀ G : Nat → PT, (∀ (L st : List Value) (S : Sh) (q : Nat × Nat) (μ : Mi) (ρ : Mr), w_X12_feed_21 (MS Z d) G Rp L st S q μ ρ → G 21 L st S q μ ρ) → (∀ (L st : List Value) (S : Sh) (q : Nat × Nat) (μ : Mi) (ρ : Mr), w_X12_feed_24 (MS Z d) G Rp L st S q μ ρ → G 24 L st S q μ ρ) → (∀ (L st : List Value) (S : Sh) (q : Nat × Nat) (μ : Mi) (ρ : Mr), w_X12_feed_41 (MS Z d) G Rp L st S q μ ρ → G 41 L st S q μ ρ) → (∀ (L st : List Value) (S : Sh) (q : Nat × Nat) (μ : Mi) (ρ : Mr), w_X12_feed_52 (MS Z d) G Rp L st S q μ ρ → G 52 L st S q μ ρ) → (∀ (L st : List Value) (S : Sh) (q : Nat × Nat) (μ : Mi) (ρ : Mr), w_X12_feed_63 (MS Z d) G Rp L st S q μ ρ → G 63 L st S q μ ρ) → (∀ (L st : List Value) (S : Sh) (q : Nat × Nat) (μ : Mi) (ρ : Mr), w_X12_feed_75 (MS Z d) G Rp L st S q μ ρ → G 75 L st S q μ ρ) → (∀ (L st : List Value) (S : Sh) (q : Nat × Nat) (μ : Mi) (ρ : Mr), w_X12_feed_77 (MS Z d) G Rp L st S q μ ρ → G 77 L st S q μ ρ) → (∀ (L st : List Value) (S : Sh) (q : Nat × Nat) (μ : Mi) (ρ : Mr), w_X12_feed_118 (MS Z d) G Rp L st S q μ ρ → G 118 L st S q μ ρ) → w_X12_feed_0 (MS Z d) G Rp [.ref a0, .int x1, .int x2, .int x3, .int x4, .int x5, .null, .null] [] S (0, 0) μ ρ) : MS Z (d + 1) jX12_feed [.ref a0, .int x1, .int x2, .int x3, .int x4, .int x5] S μ ρ Rp :=
  MS_of [.ref a0, .int x1, .int x2, .int x3, .int x4, .int x5, .null, .null] (by decide +kernel) rfl rfl (Nat.le_of_ble_eq_true rfl) rfl (fun p e R s m args below meth c C => b_X12_feed_0 C _ _ _ _ _ _ (h _ (b_X12_feed_21 C) (b_X12_feed_24 C) (b_X12_feed_41 C) (b_X12_feed_52 C) (b_X12_feed_63 C) (b_X12_feed_75 C) (b_X12_feed_77 C) (b_X12_feed_118 C)))
def w_X12_see_0 (M : CT) (G : Nat → PT) (Rp : RT) : PT := tAload 0 <| tGetI 12 27 16 <| tAload 0 <| tGetI 12 27 15 <| tIf2 (fun x y => y ≤ x) (G 27) <| tAload 0 <| tGetR 12 27 13 <| tAload 0 <| tGetI 12 27 16 <| tAld 21 <| tConst 255 <| tBin (fun x y => x &&& y) <| tGoto (G 28)
def w_X12_see_27 (M : CT) (G : Nat → PT) (Rp : RT) : PT := tConst (-1) <| G 28
def w_X12_see_28 (M : CT) (G : Nat → PT) (Rp : RT) : PT := tIret Rp
set_option maxRecDepth 20000 in
theorem b_X12_see_0 {Z : Zt} {d : Nat} {p : Program} {e : Env} {R : Room} {s : State} {m : MethodId} {args : Array Value} {below : List Frame} {meth : Method} {c : Code} {Rp : RT} (C : Cx Z d jX12_see RX12 p R s m args meth c) : Sd Z jX12_see p e R s m args below meth c (MQ below (QcS Z Rp) args s 0 0 (fun a => Z.2.2.1 < a)) 0 (w_X12_see_0 (MS Z d) (Gw Z 1 p e R s m args below meth c (MQ below (QcS Z Rp) args s 0 0 (fun a => Z.2.2.1 < a))) Rp) := by
  unfold w_X12_see_0
  refine s_aload_n (k := 0) C (by decide +kernel) ?_
  refine s_getI C w_6_103 (by decide +kernel) rfl ?_
  refine s_aload_n (k := 0) C (by decide +kernel) ?_
  refine s_getI C w_6_102 (by decide +kernel) rfl ?_
  refine s_icmp_ge (off := 19) (tgt := 27) C (by decide +kernel) (by decide) (fun _ _ _ _ _ _ h => h) ?_
  refine s_aload_n (k := 0) C (by decide +kernel) ?_
  refine s_getR C w_6_100 (by decide +kernel) rfl ?_
  refine s_aload_n (k := 0) C (by decide +kernel) ?_
  refine s_getI C w_6_103 (by decide +kernel) rfl ?_
  refine s_bald C (by decide +kernel) ?_
  refine s_sipush (n := 255) C (by decide +kernel) (by decide) ?_
  refine s_iand C (by decide +kernel) ?_
  exact s_goto (off := 4) (tgt := 28) C (by decide +kernel) (by decide) (fun _ _ _ _ _ _ h => h)
set_option maxRecDepth 20000 in
theorem b_X12_see_27 {Z : Zt} {d : Nat} {p : Program} {e : Env} {R : Room} {s : State} {m : MethodId} {args : Array Value} {below : List Frame} {meth : Method} {c : Code} {Rp : RT} (C : Cx Z d jX12_see RX12 p R s m args meth c) : Sd Z jX12_see p e R s m args below meth c (MQ below (QcS Z Rp) args s 0 0 (fun a => Z.2.2.1 < a)) 27 (w_X12_see_27 (MS Z d) (Gw Z 1 p e R s m args below meth c (MQ below (QcS Z Rp) args s 0 0 (fun a => Z.2.2.1 < a))) Rp) := by
  unfold w_X12_see_27
  refine s_iconst (n := (-1)) C (by decide +kernel) (by decide) ?_
  exact (fun _ _ _ _ _ _ h => h)
set_option maxRecDepth 20000 in
theorem b_X12_see_28 {Z : Zt} {d : Nat} {p : Program} {e : Env} {R : Room} {s : State} {m : MethodId} {args : Array Value} {below : List Frame} {meth : Method} {c : Code} {Rp : RT} (C : Cx Z d jX12_see RX12 p R s m args meth c) : Sd Z jX12_see p e R s m args below meth c (MQ below (QcS Z Rp) args s 0 0 (fun a => Z.2.2.1 < a)) 28 (w_X12_see_28 (MS Z d) (Gw Z 1 p e R s m args below meth c (MQ below (QcS Z Rp) args s 0 0 (fun a => Z.2.2.1 < a))) Rp) := by
  unfold w_X12_see_28
  exact s_iret C rfl (by decide +kernel)
theorem ms_X12_see {Z : Zt} {d : Nat} {S : Sh} {μ : Mi} {ρ : Mr} {Rp : RT} (a0 : Nat) (h : ∀ G : Nat → PT, (∀ (L st : List Value) (S : Sh) (q : Nat × Nat) (μ : Mi) (ρ : Mr), w_X12_see_27 (MS Z d) G Rp L st S q μ ρ → G 27 L st S q μ ρ) → (∀ (L st : List Value) (S : Sh) (q : Nat × Nat) (μ : Mi) (ρ : Mr), w_X12_see_28 (MS Z d) G Rp L st S q μ ρ → G 28 L st S q μ ρ) → w_X12_see_0 (MS Z d) G Rp [.ref a0] [] S (0, 0) μ ρ) : MS Z (d + 1) jX12_see [.ref a0] S μ ρ Rp :=
  MS_of [.ref a0] (by decide +kernel) rfl rfl (Nat.le_of_ble_eq_true rfl) rfl (fun p e R s m args below meth c C => b_X12_see_0 C _ _ _ _ _ _ (h _ (b_X12_see_27 C) (b_X12_see_28 C)))
def w_X12_blanks_0 (M : CT) (G : Nat → PT) (Rp : RT) : PT := tAload 0 <| tCallV M jX12_see 12 27 0 <| tConst 32 <| tIf2 (fun x y => x ≠ y) (G 22) <| tAload 0 <| tDup <| tGetI 12 27 16 <| tConst 1 <| tBin (fun x y => x + y) <| tPutI 12 27 16 <| tGoto (G 0)
def w_X12_blanks_22 (M : CT) (G : Nat → PT) (Rp : RT) : PT := tVret Rp
set_option maxRecDepth 20000 in
theorem b_X12_blanks_0 {Z : Zt} {d : Nat} {p : Program} {e : Env} {R : Room} {s : State} {m : MethodId} {args : Array Value} {below : List Frame} {meth : Method} {c : Code} {Rp : RT} (C : Cx Z d jX12_blanks RX12 p R s m args meth c) : Sd Z jX12_blanks p e R s m args below meth c (MQ below (QcS Z Rp) args s 0 0 (fun a => Z.2.2.1 < a)) 0 (w_X12_blanks_0 (MS Z d) (Gw Z 1 p e R s m args below meth c (MQ below (QcS Z Rp) args s 0 0 (fun a => Z.2.2.1 < a))) Rp) := by
  unfold w_X12_blanks_0
  refine s_aload_n (k := 0) C (by decide +kernel) ?_
  refine s_callV C rfl rfl (by decide +kernel) rfl w_8_41 w_8_43 w_p7_3 w_1_13 w_8_44 (by decide +kernel) ?_
  refine s_bipush (n := 32) C (by decide +kernel) (by decide) ?_
  refine s_icmp_ne (off := 16) (tgt := 22) C (by decide +kernel) (by decide) (fun _ _ _ _ _ _ h => h) ?_
  refine s_aload_n (k := 0) C (by decide +kernel) ?_
  refine s_dup C (by decide +kernel) ?_
  refine s_getI C w_6_103 (by decide +kernel) rfl ?_
  refine s_iconst (n := 1) C (by decide +kernel) (by decide) ?_
  refine s_iadd C (by decide +kernel) ?_
  refine s_putI C w_6_103 (by decide +kernel) rfl (Or.inl rfl) ?_
  exact s_goto (off := (-19)) (tgt := 0) C (by decide +kernel) (by decide) (fun _ _ _ _ _ _ h => h)
set_option maxRecDepth 20000 in
theorem b_X12_blanks_22 {Z : Zt} {d : Nat} {p : Program} {e : Env} {R : Room} {s : State} {m : MethodId} {args : Array Value} {below : List Frame} {meth : Method} {c : Code} {Rp : RT} (C : Cx Z d jX12_blanks RX12 p R s m args meth c) : Sd Z jX12_blanks p e R s m args below meth c (MQ below (QcS Z Rp) args s 0 0 (fun a => Z.2.2.1 < a)) 22 (w_X12_blanks_22 (MS Z d) (Gw Z 1 p e R s m args below meth c (MQ below (QcS Z Rp) args s 0 0 (fun a => Z.2.2.1 < a))) Rp) := by
  unfold w_X12_blanks_22
  exact s_vret C rfl (by decide +kernel)
theorem ms_X12_blanks {Z : Zt} {d : Nat} {S : Sh} {μ : Mi} {ρ : Mr} {Rp : RT} (a0 : Nat) (h : ∀ G : Nat → PT, (∀ (L st : List Value) (S : Sh) (q : Nat × Nat) (μ : Mi) (ρ : Mr), w_X12_blanks_0 (MS Z d) G Rp L st S q μ ρ → G 0 L st S q μ ρ) → (∀ (L st : List Value) (S : Sh) (q : Nat × Nat) (μ : Mi) (ρ : Mr), w_X12_blanks_22 (MS Z d) G Rp L st S q μ ρ → G 22 L st S q μ ρ) → w_X12_blanks_0 (MS Z d) G Rp [.ref a0] [] S (0, 0) μ ρ) : MS Z (d + 1) jX12_blanks [.ref a0] S μ ρ Rp :=
  MS_of [.ref a0] (by decide +kernel) rfl rfl (Nat.le_of_ble_eq_true rfl) rfl (fun p e R s m args below meth c C => b_X12_blanks_0 C _ _ _ _ _ _ (h _ (b_X12_blanks_0 C) (b_X12_blanks_22 C)))
def w_X12_fails_0 (M : CT) (G : Nat → PT) (Rp : RT) : PT := tAload 0 <| tGetI 12 27 17 <| tIf (fun x => x = 0) (G 8) <| tVret Rp
def w_X12_fails_8 (M : CT) (G : Nat → PT) (Rp : RT) : PT := tAload 0 <| tIload 1 <| tPutI 12 27 17 <| tAload 0 <| tIload 2 <| tPutI 12 27 18 <| tVret Rp
set_option maxRecDepth 20000 in
theorem b_X12_fails_0 {Z : Zt} {d : Nat} {p : Program} {e : Env} {R : Room} {s : State} {m : MethodId} {args : Array Value} {below : List Frame} {meth : Method} {c : Code} {Rp : RT} (C : Cx Z d jX12_fails RX12 p R s m args meth c) : Sd Z jX12_fails p e R s m args below meth c (MQ below (QcS Z Rp) args s 0 0 (fun a => Z.2.2.1 < a)) 0 (w_X12_fails_0 (MS Z d) (Gw Z 3 p e R s m args below meth c (MQ below (QcS Z Rp) args s 0 0 (fun a => Z.2.2.1 < a))) Rp) := by
  unfold w_X12_fails_0
  refine s_aload_n (k := 0) C (by decide +kernel) ?_
  refine s_getI C w_6_104 (by decide +kernel) rfl ?_
  refine s_if_eq (off := 4) (tgt := 8) C (by decide +kernel) (by decide) (fun _ _ _ _ _ _ h => h) ?_
  exact s_vret C rfl (by decide +kernel)
set_option maxRecDepth 20000 in
theorem b_X12_fails_8 {Z : Zt} {d : Nat} {p : Program} {e : Env} {R : Room} {s : State} {m : MethodId} {args : Array Value} {below : List Frame} {meth : Method} {c : Code} {Rp : RT} (C : Cx Z d jX12_fails RX12 p R s m args meth c) : Sd Z jX12_fails p e R s m args below meth c (MQ below (QcS Z Rp) args s 0 0 (fun a => Z.2.2.1 < a)) 8 (w_X12_fails_8 (MS Z d) (Gw Z 3 p e R s m args below meth c (MQ below (QcS Z Rp) args s 0 0 (fun a => Z.2.2.1 < a))) Rp) := by
  unfold w_X12_fails_8
  refine s_aload_n (k := 0) C (by decide +kernel) ?_
  refine s_iload_n (k := 1) C (by decide +kernel) ?_
  refine s_putI C w_6_104 (by decide +kernel) rfl (Or.inl rfl) ?_
  refine s_aload_n (k := 0) C (by decide +kernel) ?_
  refine s_iload_n (k := 2) C (by decide +kernel) ?_
  refine s_putI C w_6_105 (by decide +kernel) rfl (Or.inl rfl) ?_
  exact s_vret C rfl (by decide +kernel)
theorem ms_X12_fails {Z : Zt} {d : Nat} {S : Sh} {μ : Mi} {ρ : Mr} {Rp : RT} (a0 : Nat) (x1 : Int32) (x2 : Int32) (h : ∀ G : Nat → PT, (∀ (L st : List Value) (S : Sh) (q : Nat × Nat) (μ : Mi) (ρ : Mr), w_X12_fails_8 (MS Z d) G Rp L st S q μ ρ → G 8 L st S q μ ρ) → w_X12_fails_0 (MS Z d) G Rp [.ref a0, .int x1, .int x2] [] S (0, 0) μ ρ) : MS Z (d + 1) jX12_fails [.ref a0, .int x1, .int x2] S μ ρ Rp :=
  MS_of [.ref a0, .int x1, .int x2] (by decide +kernel) rfl rfl (Nat.le_of_ble_eq_true rfl) rfl (fun p e R s m args below meth c C => b_X12_fails_0 C _ _ _ _ _ _ (h _ (b_X12_fails_8 C)))
def w_X12_wordFrom_0 (M : CT) (G : Nat → PT) (Rp : RT) : PT := tConst 0 <| tIstore 2 <| tConst 0 <| tIstore 3 <| G 4
def w_X12_wordFrom_4 (M : CT) (G : Nat → PT) (Rp : RT) : PT := tIload 3 <| tConst 17 <| tIf2 (fun x y => y < x) (G 116) <| tIload 2 <| tIstore 4 <| G 13
def w_X12_wordFrom_13 (M : CT) (G : Nat → PT) (Rp : RT) : PT := tAload 0 <| tGetR 12 27 22 <| tIload 2 <| tAld 21 <| tIf (fun x => x = 0) (G 28) <| tIinc 2 1 <| tGoto (G 13)
def w_X12_wordFrom_28 (M : CT) (G : Nat → PT) (Rp : RT) : PT := tIload 2 <| tIload 4 <| tBin (fun x y => x - y) <| tAload 0 <| tGetI 12 27 16 <| tIload 1 <| tBin (fun x y => x - y) <| tIf2 (fun x y => x ≠ y) (G 45) <| tConst 1 <| tGoto (G 46)
def w_X12_wordFrom_45 (M : CT) (G : Nat → PT) (Rp : RT) : PT := tConst 0 <| G 46
def w_X12_wordFrom_46 (M : CT) (G : Nat → PT) (Rp : RT) : PT := tIstore 5 <| tConst 0 <| tIstore 6 <| G 51
def w_X12_wordFrom_51 (M : CT) (G : Nat → PT) (Rp : RT) : PT := tIload 6 <| tIload 2 <| tIload 4 <| tBin (fun x y => x - y) <| tIf2 (fun x y => y ≤ x) (G 100) <| tIload 5 <| tIf (fun x => x = 0) (G 100) <| tAload 0 <| tGetR 12 27 22 <| tIload 4 <| tIload 6 <| tBin (fun x y => x + y) <| tAld 21 <| tAload 0 <| tGetR 12 27 13 <| tIload 1 <| tIload 6 <| tBin (fun x y => x + y) <| tAld 21 <| tIf2 (fun x y => x ≠ y) (G 91) <| tConst 1 <| tGoto (G 92)
def w_X12_wordFrom_91 (M : CT) (G : Nat → PT) (Rp : RT) : PT := tConst 0 <| G 92
def w_X12_wordFrom_92 (M : CT) (G : Nat → PT) (Rp : RT) : PT := tIstore 5 <| tIinc 6 1 <| tGoto (G 51)
def w_X12_wordFrom_100 (M : CT) (G : Nat → PT) (Rp : RT) : PT := tIload 5 <| tIf (fun x => x = 0) (G 107) <| tIload 3 <| tIret Rp
def w_X12_wordFrom_107 (M : CT) (G : Nat → PT) (Rp : RT) : PT := tIinc 2 1 <| tIinc 3 1 <| tGoto (G 4)
def w_X12_wordFrom_116 (M : CT) (G : Nat → PT) (Rp : RT) : PT := tConst (-1) <| tIret Rp
set_option maxRecDepth 20000 in
theorem b_X12_wordFrom_0 {Z : Zt} {d : Nat} {p : Program} {e : Env} {R : Room} {s : State} {m : MethodId} {args : Array Value} {below : List Frame} {meth : Method} {c : Code} {Rp : RT} (C : Cx Z d jX12_wordFrom RX12 p R s m args meth c) : Sd Z jX12_wordFrom p e R s m args below meth c (MQ below (QcS Z Rp) args s 0 0 (fun a => Z.2.2.1 < a)) 0 (w_X12_wordFrom_0 (MS Z d) (Gw Z 7 p e R s m args below meth c (MQ below (QcS Z Rp) args s 0 0 (fun a => Z.2.2.1 < a))) Rp) := by
  unfold w_X12_wordFrom_0
  refine s_iconst (n := 0) C (by decide +kernel) (by decide) ?_
  refine s_istore_n (k := 2) C (by decide +kernel) ?_
  refine s_iconst (n := 0) C (by decide +kernel) (by decide) ?_
  refine s_istore_n (k := 3) C (by decide +kernel) ?_
  exact (fun _ _ _ _ _ _ h => h)
set_option maxRecDepth 20000 in
theorem b_X12_wordFrom_4 {Z : Zt} {d : Nat} {p : Program} {e : Env} {R : Room} {s : State} {m : MethodId} {args : Array Value} {below : List Frame} {meth : Method} {c : Code} {Rp : RT} (C : Cx Z d jX12_wordFrom RX12 p R s m args meth c) : Sd Z jX12_wordFrom p e R s m args below meth c (MQ below (QcS Z Rp) args s 0 0 (fun a => Z.2.2.1 < a)) 4 (w_X12_wordFrom_4 (MS Z d) (Gw Z 7 p e R s m args below meth c (MQ below (QcS Z Rp) args s 0 0 (fun a => Z.2.2.1 < a))) Rp) := by
  unfold w_X12_wordFrom_4
  refine s_iload_n (k := 3) C (by decide +kernel) ?_
  refine s_bipush (n := 17) C (by decide +kernel) (by decide) ?_
  refine s_icmp_gt (off := 109) (tgt := 116) C (by decide +kernel) (by decide) (fun _ _ _ _ _ _ h => h) ?_
  refine s_iload_n (k := 2) C (by decide +kernel) ?_
  refine s_istore (k := 4) C (by decide +kernel) ?_
  exact (fun _ _ _ _ _ _ h => h)
set_option maxRecDepth 20000 in
theorem b_X12_wordFrom_13 {Z : Zt} {d : Nat} {p : Program} {e : Env} {R : Room} {s : State} {m : MethodId} {args : Array Value} {below : List Frame} {meth : Method} {c : Code} {Rp : RT} (C : Cx Z d jX12_wordFrom RX12 p R s m args meth c) : Sd Z jX12_wordFrom p e R s m args below meth c (MQ below (QcS Z Rp) args s 0 0 (fun a => Z.2.2.1 < a)) 13 (w_X12_wordFrom_13 (MS Z d) (Gw Z 7 p e R s m args below meth c (MQ below (QcS Z Rp) args s 0 0 (fun a => Z.2.2.1 < a))) Rp) := by
  unfold w_X12_wordFrom_13
  refine s_aload_n (k := 0) C (by decide +kernel) ?_
  refine s_getR C w_6_109 (by decide +kernel) rfl ?_
  refine s_iload_n (k := 2) C (by decide +kernel) ?_
  refine s_bald C (by decide +kernel) ?_
  refine s_if_eq (off := 9) (tgt := 28) C (by decide +kernel) (by decide) (fun _ _ _ _ _ _ h => h) ?_
  refine s_iinc (n := 1) C (by decide +kernel) (by decide) ?_
  exact s_goto (off := (-12)) (tgt := 13) C (by decide +kernel) (by decide) (fun _ _ _ _ _ _ h => h)
set_option maxRecDepth 20000 in
theorem b_X12_wordFrom_28 {Z : Zt} {d : Nat} {p : Program} {e : Env} {R : Room} {s : State} {m : MethodId} {args : Array Value} {below : List Frame} {meth : Method} {c : Code} {Rp : RT} (C : Cx Z d jX12_wordFrom RX12 p R s m args meth c) : Sd Z jX12_wordFrom p e R s m args below meth c (MQ below (QcS Z Rp) args s 0 0 (fun a => Z.2.2.1 < a)) 28 (w_X12_wordFrom_28 (MS Z d) (Gw Z 7 p e R s m args below meth c (MQ below (QcS Z Rp) args s 0 0 (fun a => Z.2.2.1 < a))) Rp) := by
  unfold w_X12_wordFrom_28
  refine s_iload_n (k := 2) C (by decide +kernel) ?_
  refine s_iload (k := 4) C (by decide +kernel) ?_
  refine s_isub C (by decide +kernel) ?_
  refine s_aload_n (k := 0) C (by decide +kernel) ?_
  refine s_getI C w_6_103 (by decide +kernel) rfl ?_
  refine s_iload_n (k := 1) C (by decide +kernel) ?_
  refine s_isub C (by decide +kernel) ?_
  refine s_icmp_ne (off := 7) (tgt := 45) C (by decide +kernel) (by decide) (fun _ _ _ _ _ _ h => h) ?_
  refine s_iconst (n := 1) C (by decide +kernel) (by decide) ?_
  exact s_goto (off := 4) (tgt := 46) C (by decide +kernel) (by decide) (fun _ _ _ _ _ _ h => h)
set_option maxRecDepth 20000 in
theorem b_X12_wordFrom_45 {Z : Zt} {d : Nat} {p : Program} {e : Env} {R : Room} {s : State} {m : MethodId} {args : Array Value} {below : List Frame} {meth : Method} {c : Code} {Rp : RT} (C : Cx Z d jX12_wordFrom RX12 p R s m args meth c) : Sd Z jX12_wordFrom p e R s m args below meth c (MQ below (QcS Z Rp) args s 0 0 (fun a => Z.2.2.1 < a)) 45 (w_X12_wordFrom_45 (MS Z d) (Gw Z 7 p e R s m args below meth c (MQ below (QcS Z Rp) args s 0 0 (fun a => Z.2.2.1 < a))) Rp) := by
  unfold w_X12_wordFrom_45
  refine s_iconst (n := 0) C (by decide +kernel) (by decide) ?_
  exact (fun _ _ _ _ _ _ h => h)
set_option maxRecDepth 20000 in
theorem b_X12_wordFrom_46 {Z : Zt} {d : Nat} {p : Program} {e : Env} {R : Room} {s : State} {m : MethodId} {args : Array Value} {below : List Frame} {meth : Method} {c : Code} {Rp : RT} (C : Cx Z d jX12_wordFrom RX12 p R s m args meth c) : Sd Z jX12_wordFrom p e R s m args below meth c (MQ below (QcS Z Rp) args s 0 0 (fun a => Z.2.2.1 < a)) 46 (w_X12_wordFrom_46 (MS Z d) (Gw Z 7 p e R s m args below meth c (MQ below (QcS Z Rp) args s 0 0 (fun a => Z.2.2.1 < a))) Rp) := by
  unfold w_X12_wordFrom_46
  refine s_istore (k := 5) C (by decide +kernel) ?_
  refine s_iconst (n := 0) C (by decide +kernel) (by decide) ?_
  refine s_istore (k := 6) C (by decide +kernel) ?_
  exact (fun _ _ _ _ _ _ h => h)
set_option maxRecDepth 20000 in
theorem b_X12_wordFrom_51 {Z : Zt} {d : Nat} {p : Program} {e : Env} {R : Room} {s : State} {m : MethodId} {args : Array Value} {below : List Frame} {meth : Method} {c : Code} {Rp : RT} (C : Cx Z d jX12_wordFrom RX12 p R s m args meth c) : Sd Z jX12_wordFrom p e R s m args below meth c (MQ below (QcS Z Rp) args s 0 0 (fun a => Z.2.2.1 < a)) 51 (w_X12_wordFrom_51 (MS Z d) (Gw Z 7 p e R s m args below meth c (MQ below (QcS Z Rp) args s 0 0 (fun a => Z.2.2.1 < a))) Rp) := by
  unfold w_X12_wordFrom_51
  refine s_iload (k := 6) C (by decide +kernel) ?_
  refine s_iload_n (k := 2) C (by decide +kernel) ?_
  refine s_iload (k := 4) C (by decide +kernel) ?_
  refine s_isub C (by decide +kernel) ?_
  refine s_icmp_ge (off := 43) (tgt := 100) C (by decide +kernel) (by decide) (fun _ _ _ _ _ _ h => h) ?_
  refine s_iload (k := 5) C (by decide +kernel) ?_
  refine s_if_eq (off := 38) (tgt := 100) C (by decide +kernel) (by decide) (fun _ _ _ _ _ _ h => h) ?_
  refine s_aload_n (k := 0) C (by decide +kernel) ?_
  refine s_getR C w_6_109 (by decide +kernel) rfl ?_
  refine s_iload (k := 4) C (by decide +kernel) ?_
  refine s_iload (k := 6) C (by decide +kernel) ?_
  refine s_iadd C (by decide +kernel) ?_
  refine s_bald C (by decide +kernel) ?_
  refine s_aload_n (k := 0) C (by decide +kernel) ?_
  refine s_getR C w_6_100 (by decide +kernel) rfl ?_
  refine s_iload_n (k := 1) C (by decide +kernel) ?_
  refine s_iload (k := 6) C (by decide +kernel) ?_
  refine s_iadd C (by decide +kernel) ?_
  refine s_bald C (by decide +kernel) ?_
  refine s_icmp_ne (off := 7) (tgt := 91) C (by decide +kernel) (by decide) (fun _ _ _ _ _ _ h => h) ?_
  refine s_iconst (n := 1) C (by decide +kernel) (by decide) ?_
  exact s_goto (off := 4) (tgt := 92) C (by decide +kernel) (by decide) (fun _ _ _ _ _ _ h => h)
set_option maxRecDepth 20000 in
theorem b_X12_wordFrom_91 {Z : Zt} {d : Nat} {p : Program} {e : Env} {R : Room} {s : State} {m : MethodId} {args : Array Value} {below : List Frame} {meth : Method} {c : Code} {Rp : RT} (C : Cx Z d jX12_wordFrom RX12 p R s m args meth c) : Sd Z jX12_wordFrom p e R s m args below meth c (MQ below (QcS Z Rp) args s 0 0 (fun a => Z.2.2.1 < a)) 91 (w_X12_wordFrom_91 (MS Z d) (Gw Z 7 p e R s m args below meth c (MQ below (QcS Z Rp) args s 0 0 (fun a => Z.2.2.1 < a))) Rp) := by
  unfold w_X12_wordFrom_91
  refine s_iconst (n := 0) C (by decide +kernel) (by decide) ?_
  exact (fun _ _ _ _ _ _ h => h)
set_option maxRecDepth 20000 in
theorem b_X12_wordFrom_92 {Z : Zt} {d : Nat} {p : Program} {e : Env} {R : Room} {s : State} {m : MethodId} {args : Array Value} {below : List Frame} {meth : Method} {c : Code} {Rp : RT} (C : Cx Z d jX12_wordFrom RX12 p R s m args meth c) : Sd Z jX12_wordFrom p e R s m args below meth c (MQ below (QcS Z Rp) args s 0 0 (fun a => Z.2.2.1 < a)) 92 (w_X12_wordFrom_92 (MS Z d) (Gw Z 7 p e R s m args below meth c (MQ below (QcS Z Rp) args s 0 0 (fun a => Z.2.2.1 < a))) Rp) := by
  unfold w_X12_wordFrom_92
  refine s_istore (k := 5) C (by decide +kernel) ?_
  refine s_iinc (n := 1) C (by decide +kernel) (by decide) ?_
  exact s_goto (off := (-46)) (tgt := 51) C (by decide +kernel) (by decide) (fun _ _ _ _ _ _ h => h)
set_option maxRecDepth 20000 in
theorem b_X12_wordFrom_100 {Z : Zt} {d : Nat} {p : Program} {e : Env} {R : Room} {s : State} {m : MethodId} {args : Array Value} {below : List Frame} {meth : Method} {c : Code} {Rp : RT} (C : Cx Z d jX12_wordFrom RX12 p R s m args meth c) : Sd Z jX12_wordFrom p e R s m args below meth c (MQ below (QcS Z Rp) args s 0 0 (fun a => Z.2.2.1 < a)) 100 (w_X12_wordFrom_100 (MS Z d) (Gw Z 7 p e R s m args below meth c (MQ below (QcS Z Rp) args s 0 0 (fun a => Z.2.2.1 < a))) Rp) := by
  unfold w_X12_wordFrom_100
  refine s_iload (k := 5) C (by decide +kernel) ?_
  refine s_if_eq (off := 5) (tgt := 107) C (by decide +kernel) (by decide) (fun _ _ _ _ _ _ h => h) ?_
  refine s_iload_n (k := 3) C (by decide +kernel) ?_
  exact s_iret C rfl (by decide +kernel)
set_option maxRecDepth 20000 in
theorem b_X12_wordFrom_107 {Z : Zt} {d : Nat} {p : Program} {e : Env} {R : Room} {s : State} {m : MethodId} {args : Array Value} {below : List Frame} {meth : Method} {c : Code} {Rp : RT} (C : Cx Z d jX12_wordFrom RX12 p R s m args meth c) : Sd Z jX12_wordFrom p e R s m args below meth c (MQ below (QcS Z Rp) args s 0 0 (fun a => Z.2.2.1 < a)) 107 (w_X12_wordFrom_107 (MS Z d) (Gw Z 7 p e R s m args below meth c (MQ below (QcS Z Rp) args s 0 0 (fun a => Z.2.2.1 < a))) Rp) := by
  unfold w_X12_wordFrom_107
  refine s_iinc (n := 1) C (by decide +kernel) (by decide) ?_
  refine s_iinc (n := 1) C (by decide +kernel) (by decide) ?_
  exact s_goto (off := (-109)) (tgt := 4) C (by decide +kernel) (by decide) (fun _ _ _ _ _ _ h => h)
set_option maxRecDepth 20000 in
theorem b_X12_wordFrom_116 {Z : Zt} {d : Nat} {p : Program} {e : Env} {R : Room} {s : State} {m : MethodId} {args : Array Value} {below : List Frame} {meth : Method} {c : Code} {Rp : RT} (C : Cx Z d jX12_wordFrom RX12 p R s m args meth c) : Sd Z jX12_wordFrom p e R s m args below meth c (MQ below (QcS Z Rp) args s 0 0 (fun a => Z.2.2.1 < a)) 116 (w_X12_wordFrom_116 (MS Z d) (Gw Z 7 p e R s m args below meth c (MQ below (QcS Z Rp) args s 0 0 (fun a => Z.2.2.1 < a))) Rp) := by
  unfold w_X12_wordFrom_116
  refine s_iconst (n := (-1)) C (by decide +kernel) (by decide) ?_
  exact s_iret C rfl (by decide +kernel)
theorem ms_X12_wordFrom {Z : Zt} {d : Nat} {S : Sh} {μ : Mi} {ρ : Mr} {Rp : RT} (a0 : Nat) (x1 : Int32) (h : ∀ G : Nat → PT, (∀ (L st : List Value) (S : Sh) (q : Nat × Nat) (μ : Mi) (ρ : Mr), w_X12_wordFrom_4 (MS Z d) G Rp L st S q μ ρ → G 4 L st S q μ ρ) → (∀ (L st : List Value) (S : Sh) (q : Nat × Nat) (μ : Mi) (ρ : Mr), w_X12_wordFrom_13 (MS Z d) G Rp L st S q μ ρ → G 13 L st S q μ ρ) → (∀ (L st : List Value) (S : Sh) (q : Nat × Nat) (μ : Mi) (ρ : Mr), w_X12_wordFrom_28 (MS Z d) G Rp L st S q μ ρ → G 28 L st S q μ ρ) → (∀ (L st : List Value) (S : Sh) (q : Nat × Nat) (μ : Mi) (ρ : Mr), w_X12_wordFrom_45 (MS Z d) G Rp L st S q μ ρ → G 45 L st S q μ ρ) → (∀ (L st : List Value) (S : Sh) (q : Nat × Nat) (μ : Mi) (ρ : Mr), w_X12_wordFrom_46 (MS Z d) G Rp L st S q μ ρ → G 46 L st S q μ ρ) → (∀ (L st : List Value) (S : Sh) (q : Nat × Nat) (μ : Mi) (ρ : Mr), w_X12_wordFrom_51 (MS Z d) G Rp L st S q μ ρ → G 51 L st S q μ ρ) → (∀ (L st : List Value) (S : Sh) (q : Nat × Nat) (μ : Mi) (ρ : Mr), w_X12_wordFrom_91 (MS Z d) G Rp L st S q μ ρ → G 91 L st S q μ ρ) → (∀ (L st : List Value) (S : Sh) (q : Nat × Nat) (μ : Mi) (ρ : Mr), w_X12_wordFrom_92 (MS Z d) G Rp L st S q μ ρ → G 92 L st S q μ ρ) → (∀ (L st : List Value) (S : Sh) (q : Nat × Nat) (μ : Mi) (ρ : Mr), w_X12_wordFrom_100 (MS Z d) G Rp L st S q μ ρ → G 100 L st S q μ ρ) → (∀ (L st : List Value) (S : Sh) (q : Nat × Nat) (μ : Mi) (ρ : Mr), w_X12_wordFrom_107 (MS Z d) G Rp L st S q μ ρ → G 107 L st S q μ ρ) → (∀ (L st : List Value) (S : Sh) (q : Nat × Nat) (μ : Mi) (ρ : Mr), w_X12_wordFrom_116 (MS Z d) G Rp L st S q μ ρ → G 116 L st S q μ ρ) → w_X12_wordFrom_0 (MS Z d) G Rp [.ref a0, .int x1, .null, .null, .null, .null, .null] [] S (0, 0) μ ρ) : MS Z (d + 1) jX12_wordFrom [.ref a0, .int x1] S μ ρ Rp :=
  MS_of [.ref a0, .int x1, .null, .null, .null, .null, .null] (by decide +kernel) rfl rfl (Nat.le_of_ble_eq_true rfl) rfl (fun p e R s m args below meth c C => b_X12_wordFrom_0 C _ _ _ _ _ _ (h _ (b_X12_wordFrom_4 C) (b_X12_wordFrom_13 C) (b_X12_wordFrom_28 C) (b_X12_wordFrom_45 C) (b_X12_wordFrom_46 C) (b_X12_wordFrom_51 C) (b_X12_wordFrom_91 C) (b_X12_wordFrom_92 C) (b_X12_wordFrom_100 C) (b_X12_wordFrom_107 C) (b_X12_wordFrom_116 C)))
def w_X12_numbersOf_0 (M : CT) (G : Nat → PT) (Rp : RT) : PT := tIload 0 <| tConst 2 <| tIf2 (fun x y => x = y) (G 10) <| tIload 0 <| tConst 3 <| tIf2 (fun x y => x ≠ y) (G 12) <| G 10
def w_X12_numbersOf_10 (M : CT) (G : Nat → PT) (Rp : RT) : PT := tConst 3 <| tIret Rp
def w_X12_numbersOf_12 (M : CT) (G : Nat → PT) (Rp : RT) : PT := tIload 0 <| tConst 4 <| tIf2 (fun x y => x = y) (G 40) <| tIload 0 <| tConst 5 <| tIf2 (fun x y => x = y) (G 40) <| tIload 0 <| tConst 6 <| tIf2 (fun x y => x = y) (G 40) <| tIload 0 <| tConst 10 <| tIf2 (fun x y => x = y) (G 40) <| tIload 0 <| tConst 11 <| tIf2 (fun x y => x ≠ y) (G 44) <| G 40
def w_X12_numbersOf_40 (M : CT) (G : Nat → PT) (Rp : RT) : PT := tConst 2 <| tGoto (G 45)
def w_X12_numbersOf_44 (M : CT) (G : Nat → PT) (Rp : RT) : PT := tConst 1 <| G 45
def w_X12_numbersOf_45 (M : CT) (G : Nat → PT) (Rp : RT) : PT := tIret Rp
set_option maxRecDepth 20000 in
theorem b_X12_numbersOf_0 {Z : Zt} {d : Nat} {p : Program} {e : Env} {R : Room} {s : State} {m : MethodId} {args : Array Value} {below : List Frame} {meth : Method} {c : Code} {Rp : RT} (C : Cx Z d jX12_numbersOf RX12 p R s m args meth c) : Sd Z jX12_numbersOf p e R s m args below meth c (MQ below (QcS Z Rp) args s 0 0 (fun a => Z.2.2.1 < a)) 0 (w_X12_numbersOf_0 (MS Z d) (Gw Z 1 p e R s m args below meth c (MQ below (QcS Z Rp) args s 0 0 (fun a => Z.2.2.1 < a))) Rp) := by
  unfold w_X12_numbersOf_0
  refine s_iload_n (k := 0) C (by decide +kernel) ?_
  refine s_iconst (n := 2) C (by decide +kernel) (by decide) ?_
  refine s_icmp_eq (off := 8) (tgt := 10) C (by decide +kernel) (by decide) (fun _ _ _ _ _ _ h => h) ?_
  refine s_iload_n (k := 0) C (by decide +kernel) ?_
  refine s_iconst (n := 3) C (by decide +kernel) (by decide) ?_
  refine s_icmp_ne (off := 5) (tgt := 12) C (by decide +kernel) (by decide) (fun _ _ _ _ _ _ h => h) ?_
  exact (fun _ _ _ _ _ _ h => h)
set_option maxRecDepth 20000 in
theorem b_X12_numbersOf_10 {Z : Zt} {d : Nat} {p : Program} {e : Env} {R : Room} {s : State} {m : MethodId} {args : Array Value} {below : List Frame} {meth : Method} {c : Code} {Rp : RT} (C : Cx Z d jX12_numbersOf RX12 p R s m args meth c) : Sd Z jX12_numbersOf p e R s m args below meth c (MQ below (QcS Z Rp) args s 0 0 (fun a => Z.2.2.1 < a)) 10 (w_X12_numbersOf_10 (MS Z d) (Gw Z 1 p e R s m args below meth c (MQ below (QcS Z Rp) args s 0 0 (fun a => Z.2.2.1 < a))) Rp) := by
  unfold w_X12_numbersOf_10
  refine s_iconst (n := 3) C (by decide +kernel) (by decide) ?_
  exact s_iret C rfl (by decide +kernel)
set_option maxRecDepth 20000 in
theorem b_X12_numbersOf_12 {Z : Zt} {d : Nat} {p : Program} {e : Env} {R : Room} {s : State} {m : MethodId} {args : Array Value} {below : List Frame} {meth : Method} {c : Code} {Rp : RT} (C : Cx Z d jX12_numbersOf RX12 p R s m args meth c) : Sd Z jX12_numbersOf p e R s m args below meth c (MQ below (QcS Z Rp) args s 0 0 (fun a => Z.2.2.1 < a)) 12 (w_X12_numbersOf_12 (MS Z d) (Gw Z 1 p e R s m args below meth c (MQ below (QcS Z Rp) args s 0 0 (fun a => Z.2.2.1 < a))) Rp) := by
  unfold w_X12_numbersOf_12
  refine s_iload_n (k := 0) C (by decide +kernel) ?_
  refine s_iconst (n := 4) C (by decide +kernel) (by decide) ?_
  refine s_icmp_eq (off := 26) (tgt := 40) C (by decide +kernel) (by decide) (fun _ _ _ _ _ _ h => h) ?_
  refine s_iload_n (k := 0) C (by decide +kernel) ?_
  refine s_iconst (n := 5) C (by decide +kernel) (by decide) ?_
  refine s_icmp_eq (off := 21) (tgt := 40) C (by decide +kernel) (by decide) (fun _ _ _ _ _ _ h => h) ?_
  refine s_iload_n (k := 0) C (by decide +kernel) ?_
  refine s_bipush (n := 6) C (by decide +kernel) (by decide) ?_
  refine s_icmp_eq (off := 15) (tgt := 40) C (by decide +kernel) (by decide) (fun _ _ _ _ _ _ h => h) ?_
  refine s_iload_n (k := 0) C (by decide +kernel) ?_
  refine s_bipush (n := 10) C (by decide +kernel) (by decide) ?_
  refine s_icmp_eq (off := 9) (tgt := 40) C (by decide +kernel) (by decide) (fun _ _ _ _ _ _ h => h) ?_
  refine s_iload_n (k := 0) C (by decide +kernel) ?_
  refine s_bipush (n := 11) C (by decide +kernel) (by decide) ?_
  refine s_icmp_ne (off := 7) (tgt := 44) C (by decide +kernel) (by decide) (fun _ _ _ _ _ _ h => h) ?_
  exact (fun _ _ _ _ _ _ h => h)
set_option maxRecDepth 20000 in
theorem b_X12_numbersOf_40 {Z : Zt} {d : Nat} {p : Program} {e : Env} {R : Room} {s : State} {m : MethodId} {args : Array Value} {below : List Frame} {meth : Method} {c : Code} {Rp : RT} (C : Cx Z d jX12_numbersOf RX12 p R s m args meth c) : Sd Z jX12_numbersOf p e R s m args below meth c (MQ below (QcS Z Rp) args s 0 0 (fun a => Z.2.2.1 < a)) 40 (w_X12_numbersOf_40 (MS Z d) (Gw Z 1 p e R s m args below meth c (MQ below (QcS Z Rp) args s 0 0 (fun a => Z.2.2.1 < a))) Rp) := by
  unfold w_X12_numbersOf_40
  refine s_iconst (n := 2) C (by decide +kernel) (by decide) ?_
  exact s_goto (off := 4) (tgt := 45) C (by decide +kernel) (by decide) (fun _ _ _ _ _ _ h => h)
set_option maxRecDepth 20000 in
theorem b_X12_numbersOf_44 {Z : Zt} {d : Nat} {p : Program} {e : Env} {R : Room} {s : State} {m : MethodId} {args : Array Value} {below : List Frame} {meth : Method} {c : Code} {Rp : RT} (C : Cx Z d jX12_numbersOf RX12 p R s m args meth c) : Sd Z jX12_numbersOf p e R s m args below meth c (MQ below (QcS Z Rp) args s 0 0 (fun a => Z.2.2.1 < a)) 44 (w_X12_numbersOf_44 (MS Z d) (Gw Z 1 p e R s m args below meth c (MQ below (QcS Z Rp) args s 0 0 (fun a => Z.2.2.1 < a))) Rp) := by
  unfold w_X12_numbersOf_44
  refine s_iconst (n := 1) C (by decide +kernel) (by decide) ?_
  exact (fun _ _ _ _ _ _ h => h)
set_option maxRecDepth 20000 in
theorem b_X12_numbersOf_45 {Z : Zt} {d : Nat} {p : Program} {e : Env} {R : Room} {s : State} {m : MethodId} {args : Array Value} {below : List Frame} {meth : Method} {c : Code} {Rp : RT} (C : Cx Z d jX12_numbersOf RX12 p R s m args meth c) : Sd Z jX12_numbersOf p e R s m args below meth c (MQ below (QcS Z Rp) args s 0 0 (fun a => Z.2.2.1 < a)) 45 (w_X12_numbersOf_45 (MS Z d) (Gw Z 1 p e R s m args below meth c (MQ below (QcS Z Rp) args s 0 0 (fun a => Z.2.2.1 < a))) Rp) := by
  unfold w_X12_numbersOf_45
  exact s_iret C rfl (by decide +kernel)
theorem ms_X12_numbersOf {Z : Zt} {d : Nat} {S : Sh} {μ : Mi} {ρ : Mr} {Rp : RT} (x1 : Int32) (h : ∀ G : Nat → PT, (∀ (L st : List Value) (S : Sh) (q : Nat × Nat) (μ : Mi) (ρ : Mr), w_X12_numbersOf_10 (MS Z d) G Rp L st S q μ ρ → G 10 L st S q μ ρ) → (∀ (L st : List Value) (S : Sh) (q : Nat × Nat) (μ : Mi) (ρ : Mr), w_X12_numbersOf_12 (MS Z d) G Rp L st S q μ ρ → G 12 L st S q μ ρ) → (∀ (L st : List Value) (S : Sh) (q : Nat × Nat) (μ : Mi) (ρ : Mr), w_X12_numbersOf_40 (MS Z d) G Rp L st S q μ ρ → G 40 L st S q μ ρ) → (∀ (L st : List Value) (S : Sh) (q : Nat × Nat) (μ : Mi) (ρ : Mr), w_X12_numbersOf_44 (MS Z d) G Rp L st S q μ ρ → G 44 L st S q μ ρ) → (∀ (L st : List Value) (S : Sh) (q : Nat × Nat) (μ : Mi) (ρ : Mr), w_X12_numbersOf_45 (MS Z d) G Rp L st S q μ ρ → G 45 L st S q μ ρ) → w_X12_numbersOf_0 (MS Z d) G Rp [.int x1] [] S (0, 0) μ ρ) : MS Z (d + 1) jX12_numbersOf [.int x1] S μ ρ Rp :=
  MS_of [.int x1] (by decide +kernel) rfl rfl (Nat.le_of_ble_eq_true rfl) rfl (fun p e R s m args below meth c C => b_X12_numbersOf_0 C _ _ _ _ _ _ (h _ (b_X12_numbersOf_10 C) (b_X12_numbersOf_12 C) (b_X12_numbersOf_40 C) (b_X12_numbersOf_44 C) (b_X12_numbersOf_45 C)))
def w_X12_word_0 (M : CT) (G : Nat → PT) (Rp : RT) : PT := tAload 0 <| tCallV M jX12_blanks 12 27 0 <| tAload 0 <| tAload 0 <| tGetI 12 27 16 <| tPutI 12 27 23 <| G 12
def w_X12_word_12 (M : CT) (G : Nat → PT) (Rp : RT) : PT := tAload 0 <| tCallV M jX12_see 12 27 0 <| tI2l <| tLconst 97 <| tLconst 122 <| tCallS M jX12_within 3 <| tIf (fun x => x = 0) (G 42) <| tAload 0 <| tDup <| tGetI 12 27 16 <| tConst 1 <| tBin (fun x y => x + y) <| tPutI 12 27 16 <| tGoto (G 12)
def w_X12_word_42 (M : CT) (G : Nat → PT) (Rp : RT) : PT := tAload 0 <| tAload 0 <| tGetI 12 27 23 <| tCallV M jX12_wordFrom 12 27 1 <| tIstore 1 <| tIload 1 <| tConst (-1) <| tIf2 (fun x y => x ≠ y) (G 65) <| tAload 0 <| tConst 1 <| tAload 0 <| tGetI 12 27 23 <| tCallV M jX12_fails 12 27 2 <| G 65
def w_X12_word_65 (M : CT) (G : Nat → PT) (Rp : RT) : PT := tIload 1 <| tIret Rp
set_option maxRecDepth 20000 in
theorem b_X12_word_0 {Z : Zt} {d : Nat} {p : Program} {e : Env} {R : Room} {s : State} {m : MethodId} {args : Array Value} {below : List Frame} {meth : Method} {c : Code} {Rp : RT} (C : Cx Z d jX12_word RX12 p R s m args meth c) : Sd Z jX12_word p e R s m args below meth c (MQ below (QcS Z Rp) args s 0 0 (fun a => Z.2.2.1 < a)) 0 (w_X12_word_0 (MS Z d) (Gw Z 2 p e R s m args below meth c (MQ below (QcS Z Rp) args s 0 0 (fun a => Z.2.2.1 < a))) Rp) := by
  unfold w_X12_word_0
  refine s_aload_n (k := 0) C (by decide +kernel) ?_
  refine s_callV C rfl rfl (by decide +kernel) rfl w_8_37 w_8_39 w_p7_2 w_1_13 w_8_40 (by decide +kernel) ?_
  refine s_aload_n (k := 0) C (by decide +kernel) ?_
  refine s_aload_n (k := 0) C (by decide +kernel) ?_
  refine s_getI C w_6_103 (by decide +kernel) rfl ?_
  refine s_putI C w_6_110 (by decide +kernel) rfl (Or.inl rfl) ?_
  exact (fun _ _ _ _ _ _ h => h)
set_option maxRecDepth 20000 in
theorem b_X12_word_12 {Z : Zt} {d : Nat} {p : Program} {e : Env} {R : Room} {s : State} {m : MethodId} {args : Array Value} {below : List Frame} {meth : Method} {c : Code} {Rp : RT} (C : Cx Z d jX12_word RX12 p R s m args meth c) : Sd Z jX12_word p e R s m args below meth c (MQ below (QcS Z Rp) args s 0 0 (fun a => Z.2.2.1 < a)) 12 (w_X12_word_12 (MS Z d) (Gw Z 2 p e R s m args below meth c (MQ below (QcS Z Rp) args s 0 0 (fun a => Z.2.2.1 < a))) Rp) := by
  unfold w_X12_word_12
  refine s_aload_n (k := 0) C (by decide +kernel) ?_
  refine s_callV C rfl rfl (by decide +kernel) rfl w_8_41 w_8_43 w_p7_3 w_1_13 w_8_44 (by decide +kernel) ?_
  refine s_i2l C (by decide +kernel) ?_
  refine s_ldc2 C w_8_45 (by decide +kernel) ?_
  refine s_ldc2 C w_8_46 (by decide +kernel) ?_
  refine s_callS C (by decide +kernel) rfl w_6_175 w_6_176 w_1_13 w_6_177 (by decide +kernel) ?_
  refine s_if_eq (off := 16) (tgt := 42) C (by decide +kernel) (by decide) (fun _ _ _ _ _ _ h => h) ?_
  refine s_aload_n (k := 0) C (by decide +kernel) ?_
  refine s_dup C (by decide +kernel) ?_
  refine s_getI C w_6_103 (by decide +kernel) rfl ?_
  refine s_iconst (n := 1) C (by decide +kernel) (by decide) ?_
  refine s_iadd C (by decide +kernel) ?_
  refine s_putI C w_6_103 (by decide +kernel) rfl (Or.inl rfl) ?_
  exact s_goto (off := (-27)) (tgt := 12) C (by decide +kernel) (by decide) (fun _ _ _ _ _ _ h => h)
set_option maxRecDepth 20000 in
theorem b_X12_word_42 {Z : Zt} {d : Nat} {p : Program} {e : Env} {R : Room} {s : State} {m : MethodId} {args : Array Value} {below : List Frame} {meth : Method} {c : Code} {Rp : RT} (C : Cx Z d jX12_word RX12 p R s m args meth c) : Sd Z jX12_word p e R s m args below meth c (MQ below (QcS Z Rp) args s 0 0 (fun a => Z.2.2.1 < a)) 42 (w_X12_word_42 (MS Z d) (Gw Z 2 p e R s m args below meth c (MQ below (QcS Z Rp) args s 0 0 (fun a => Z.2.2.1 < a))) Rp) := by
  unfold w_X12_word_42
  refine s_aload_n (k := 0) C (by decide +kernel) ?_
  refine s_aload_n (k := 0) C (by decide +kernel) ?_
  refine s_getI C w_6_110 (by decide +kernel) rfl ?_
  refine s_callV C rfl rfl (by decide +kernel) rfl w_8_51 w_8_53 w_p7_5 w_1_13 w_8_54 (by decide +kernel) ?_
  refine s_istore_n (k := 1) C (by decide +kernel) ?_
  refine s_iload_n (k := 1) C (by decide +kernel) ?_
  refine s_iconst (n := (-1)) C (by decide +kernel) (by decide) ?_
  refine s_icmp_ne (off := 12) (tgt := 65) C (by decide +kernel) (by decide) (fun _ _ _ _ _ _ h => h) ?_
  refine s_aload_n (k := 0) C (by decide +kernel) ?_
  refine s_iconst (n := 1) C (by decide +kernel) (by decide) ?_
  refine s_aload_n (k := 0) C (by decide +kernel) ?_
  refine s_getI C w_6_110 (by decide +kernel) rfl ?_
  refine s_callV C rfl rfl (by decide +kernel) rfl w_8_55 w_8_57 w_p7_6 w_1_13 w_8_58 (by decide +kernel) ?_
  exact (fun _ _ _ _ _ _ h => h)
set_option maxRecDepth 20000 in
theorem b_X12_word_65 {Z : Zt} {d : Nat} {p : Program} {e : Env} {R : Room} {s : State} {m : MethodId} {args : Array Value} {below : List Frame} {meth : Method} {c : Code} {Rp : RT} (C : Cx Z d jX12_word RX12 p R s m args meth c) : Sd Z jX12_word p e R s m args below meth c (MQ below (QcS Z Rp) args s 0 0 (fun a => Z.2.2.1 < a)) 65 (w_X12_word_65 (MS Z d) (Gw Z 2 p e R s m args below meth c (MQ below (QcS Z Rp) args s 0 0 (fun a => Z.2.2.1 < a))) Rp) := by
  unfold w_X12_word_65
  refine s_iload_n (k := 1) C (by decide +kernel) ?_
  exact s_iret C rfl (by decide +kernel)
theorem ms_X12_word {Z : Zt} {d : Nat} {S : Sh} {μ : Mi} {ρ : Mr} {Rp : RT} (a0 : Nat) (h : ∀ G : Nat → PT, (∀ (L st : List Value) (S : Sh) (q : Nat × Nat) (μ : Mi) (ρ : Mr), w_X12_word_12 (MS Z d) G Rp L st S q μ ρ → G 12 L st S q μ ρ) → (∀ (L st : List Value) (S : Sh) (q : Nat × Nat) (μ : Mi) (ρ : Mr), w_X12_word_42 (MS Z d) G Rp L st S q μ ρ → G 42 L st S q μ ρ) → (∀ (L st : List Value) (S : Sh) (q : Nat × Nat) (μ : Mi) (ρ : Mr), w_X12_word_65 (MS Z d) G Rp L st S q μ ρ → G 65 L st S q μ ρ) → w_X12_word_0 (MS Z d) G Rp [.ref a0, .null] [] S (0, 0) μ ρ) : MS Z (d + 1) jX12_word [.ref a0] S μ ρ Rp :=
  MS_of [.ref a0, .null] (by decide +kernel) rfl rfl (Nat.le_of_ble_eq_true rfl) rfl (fun p e R s m args below meth c C => b_X12_word_0 C _ _ _ _ _ _ (h _ (b_X12_word_12 C) (b_X12_word_42 C) (b_X12_word_65 C)))
def w_X12_number_0 (M : CT) (G : Nat → PT) (Rp : RT) : PT := tAload 0 <| tCallV M jX12_blanks 12 27 0 <| tIload 1 <| tIf (fun x => x = 0) (G 21) <| tAload 0 <| tCallV M jX12_see 12 27 0 <| tConst 45 <| tIf2 (fun x y => x ≠ y) (G 21) <| tConst 1 <| tGoto (G 22)
def w_X12_number_21 (M : CT) (G : Nat → PT) (Rp : RT) : PT := tConst 0 <| G 22
def w_X12_number_22 (M : CT) (G : Nat → PT) (Rp : RT) : PT := tIstore 2 <| tIload 2 <| tIf (fun x => x = 0) (G 37) <| tAload 0 <| tDup <| tGetI 12 27 16 <| tConst 1 <| tBin (fun x y => x + y) <| tPutI 12 27 16 <| G 37
def w_X12_number_37 (M : CT) (G : Nat → PT) (Rp : RT) : PT := tAload 0 <| tGetI 12 27 16 <| tIstore 3 <| tConst 0 <| tIstore 4 <| G 45
def w_X12_number_45 (M : CT) (G : Nat → PT) (Rp : RT) : PT := tAload 0 <| tCallV M jX12_see 12 27 0 <| tI2l <| tLconst 48 <| tLconst 57 <| tCallS M jX12_within 3 <| tIf (fun x => x = 0) (G 103) <| tIload 4 <| tConst 999 <| tIf2 (fun x y => x ≤ y) (G 75) <| tIload 4 <| tGoto (G 88)
def w_X12_number_75 (M : CT) (G : Nat → PT) (Rp : RT) : PT := tConst 10 <| tIload 4 <| tBin (fun x y => x * y) <| tAload 0 <| tCallV M jX12_see 12 27 0 <| tBin (fun x y => x + y) <| tConst 48 <| tBin (fun x y => x - y) <| G 88
def w_X12_number_88 (M : CT) (G : Nat → PT) (Rp : RT) : PT := tIstore 4 <| tAload 0 <| tDup <| tGetI 12 27 16 <| tConst 1 <| tBin (fun x y => x + y) <| tPutI 12 27 16 <| tGoto (G 45)
def w_X12_number_103 (M : CT) (G : Nat → PT) (Rp : RT) : PT := tAload 0 <| tGetI 12 27 16 <| tIload 3 <| tIf2 (fun x y => x ≠ y) (G 117) <| tAload 0 <| tConst 1 <| tIload 3 <| tCallV M jX12_fails 12 27 2 <| G 117
def w_X12_number_117 (M : CT) (G : Nat → PT) (Rp : RT) : PT := tAload 0 <| tGetI 12 27 16 <| tIload 3 <| tConst 3 <| tBin (fun x y => x + y) <| tIf2 (fun x y => x ≤ y) (G 133) <| tAload 0 <| tConst 2 <| tIload 3 <| tCallV M jX12_fails 12 27 2 <| G 133
def w_X12_number_133 (M : CT) (G : Nat → PT) (Rp : RT) : PT := tAload 0 <| tIload 3 <| tPutI 12 27 25 <| tIload 2 <| tIf (fun x => x = 0) (G 148) <| tIload 4 <| tUn (fun x => -x) <| tGoto (G 150)
def w_X12_number_148 (M : CT) (G : Nat → PT) (Rp : RT) : PT := tIload 4 <| G 150
def w_X12_number_150 (M : CT) (G : Nat → PT) (Rp : RT) : PT := tIret Rp
set_option maxRecDepth 20000 in
theorem b_X12_number_0 {Z : Zt} {d : Nat} {p : Program} {e : Env} {R : Room} {s : State} {m : MethodId} {args : Array Value} {below : List Frame} {meth : Method} {c : Code} {Rp : RT} (C : Cx Z d jX12_number RX12 p R s m args meth c) : Sd Z jX12_number p e R s m args below meth c (MQ below (QcS Z Rp) args s 0 0 (fun a => Z.2.2.1 < a)) 0 (w_X12_number_0 (MS Z d) (Gw Z 5 p e R s m args below meth c (MQ below (QcS Z Rp) args s 0 0 (fun a => Z.2.2.1 < a))) Rp) := by
  unfold w_X12_number_0
  refine s_aload_n (k := 0) C (by decide +kernel) ?_
  refine s_callV C rfl rfl (by decide +kernel) rfl w_8_37 w_8_39 w_p7_2 w_1_13 w_8_40 (by decide +kernel) ?_
  refine s_iload_n (k := 1) C (by decide +kernel) ?_
  refine s_if_eq (off := 16) (tgt := 21) C (by decide +kernel) (by decide) (fun _ _ _ _ _ _ h => h) ?_
  refine s_aload_n (k := 0) C (by decide +kernel) ?_
  refine s_callV C rfl rfl (by decide +kernel) rfl w_8_41 w_8_43 w_p7_3 w_1_13 w_8_44 (by decide +kernel) ?_
  refine s_bipush (n := 45) C (by decide +kernel) (by decide) ?_
  refine s_icmp_ne (off := 7) (tgt := 21) C (by decide +kernel) (by decide) (fun _ _ _ _ _ _ h => h) ?_
  refine s_iconst (n := 1) C (by decide +kernel) (by decide) ?_
  exact s_goto (off := 4) (tgt := 22) C (by decide +kernel) (by decide) (fun _ _ _ _ _ _ h => h)
set_option maxRecDepth 20000 in
theorem b_X12_number_21 {Z : Zt} {d : Nat} {p : Program} {e : Env} {R : Room} {s : State} {m : MethodId} {args : Array Value} {below : List Frame} {meth : Method} {c : Code} {Rp : RT} (C : Cx Z d jX12_number RX12 p R s m args meth c) : Sd Z jX12_number p e R s m args below meth c (MQ below (QcS Z Rp) args s 0 0 (fun a => Z.2.2.1 < a)) 21 (w_X12_number_21 (MS Z d) (Gw Z 5 p e R s m args below meth c (MQ below (QcS Z Rp) args s 0 0 (fun a => Z.2.2.1 < a))) Rp) := by
  unfold w_X12_number_21
  refine s_iconst (n := 0) C (by decide +kernel) (by decide) ?_
  exact (fun _ _ _ _ _ _ h => h)
set_option maxRecDepth 20000 in
theorem b_X12_number_22 {Z : Zt} {d : Nat} {p : Program} {e : Env} {R : Room} {s : State} {m : MethodId} {args : Array Value} {below : List Frame} {meth : Method} {c : Code} {Rp : RT} (C : Cx Z d jX12_number RX12 p R s m args meth c) : Sd Z jX12_number p e R s m args below meth c (MQ below (QcS Z Rp) args s 0 0 (fun a => Z.2.2.1 < a)) 22 (w_X12_number_22 (MS Z d) (Gw Z 5 p e R s m args below meth c (MQ below (QcS Z Rp) args s 0 0 (fun a => Z.2.2.1 < a))) Rp) := by
  unfold w_X12_number_22
  refine s_istore_n (k := 2) C (by decide +kernel) ?_
  refine s_iload_n (k := 2) C (by decide +kernel) ?_
  refine s_if_eq (off := 13) (tgt := 37) C (by decide +kernel) (by decide) (fun _ _ _ _ _ _ h => h) ?_
  refine s_aload_n (k := 0) C (by decide +kernel) ?_
  refine s_dup C (by decide +kernel) ?_
  refine s_getI C w_6_103 (by decide +kernel) rfl ?_
  refine s_iconst (n := 1) C (by decide +kernel) (by decide) ?_
  refine s_iadd C (by decide +kernel) ?_
  refine s_putI C w_6_103 (by decide +kernel) rfl (Or.inl rfl) ?_
  exact (fun _ _ _ _ _ _ h => h)
set_option maxRecDepth 20000 in
theorem b_X12_number_37 {Z : Zt} {d : Nat} {p : Program} {e : Env} {R : Room} {s : State} {m : MethodId} {args : Array Value} {below : List Frame} {meth : Method} {c : Code} {Rp : RT} (C : Cx Z d jX12_number RX12 p R s m args meth c) : Sd Z jX12_number p e R s m args below meth c (MQ below (QcS Z Rp) args s 0 0 (fun a => Z.2.2.1 < a)) 37 (w_X12_number_37 (MS Z d) (Gw Z 5 p e R s m args below meth c (MQ below (QcS Z Rp) args s 0 0 (fun a => Z.2.2.1 < a))) Rp) := by
  unfold w_X12_number_37
  refine s_aload_n (k := 0) C (by decide +kernel) ?_
  refine s_getI C w_6_103 (by decide +kernel) rfl ?_
  refine s_istore_n (k := 3) C (by decide +kernel) ?_
  refine s_iconst (n := 0) C (by decide +kernel) (by decide) ?_
  refine s_istore (k := 4) C (by decide +kernel) ?_
  exact (fun _ _ _ _ _ _ h => h)
set_option maxRecDepth 20000 in
theorem b_X12_number_45 {Z : Zt} {d : Nat} {p : Program} {e : Env} {R : Room} {s : State} {m : MethodId} {args : Array Value} {below : List Frame} {meth : Method} {c : Code} {Rp : RT} (C : Cx Z d jX12_number RX12 p R s m args meth c) : Sd Z jX12_number p e R s m args below meth c (MQ below (QcS Z Rp) args s 0 0 (fun a => Z.2.2.1 < a)) 45 (w_X12_number_45 (MS Z d) (Gw Z 5 p e R s m args below meth c (MQ below (QcS Z Rp) args s 0 0 (fun a => Z.2.2.1 < a))) Rp) := by
  unfold w_X12_number_45
  refine s_aload_n (k := 0) C (by decide +kernel) ?_
  refine s_callV C rfl rfl (by decide +kernel) rfl w_8_41 w_8_43 w_p7_3 w_1_13 w_8_44 (by decide +kernel) ?_
  refine s_i2l C (by decide +kernel) ?_
  refine s_ldc2 C w_8_67 (by decide +kernel) ?_
  refine s_ldc2 C w_8_68 (by decide +kernel) ?_
  refine s_callS C (by decide +kernel) rfl w_6_175 w_6_176 w_1_13 w_6_177 (by decide +kernel) ?_
  refine s_if_eq (off := 44) (tgt := 103) C (by decide +kernel) (by decide) (fun _ _ _ _ _ _ h => h) ?_
  refine s_iload (k := 4) C (by decide +kernel) ?_
  refine s_sipush (n := 999) C (by decide +kernel) (by decide) ?_
  refine s_icmp_le (off := 8) (tgt := 75) C (by decide +kernel) (by decide) (fun _ _ _ _ _ _ h => h) ?_
  refine s_iload (k := 4) C (by decide +kernel) ?_
  exact s_goto (off := 16) (tgt := 88) C (by decide +kernel) (by decide) (fun _ _ _ _ _ _ h => h)
set_option maxRecDepth 20000 in
theorem b_X12_number_75 {Z : Zt} {d : Nat} {p : Program} {e : Env} {R : Room} {s : State} {m : MethodId} {args : Array Value} {below : List Frame} {meth : Method} {c : Code} {Rp : RT} (C : Cx Z d jX12_number RX12 p R s m args meth c) : Sd Z jX12_number p e R s m args below meth c (MQ below (QcS Z Rp) args s 0 0 (fun a => Z.2.2.1 < a)) 75 (w_X12_number_75 (MS Z d) (Gw Z 5 p e R s m args below meth c (MQ below (QcS Z Rp) args s 0 0 (fun a => Z.2.2.1 < a))) Rp) := by
  unfold w_X12_number_75
  refine s_bipush (n := 10) C (by decide +kernel) (by decide) ?_
  refine s_iload (k := 4) C (by decide +kernel) ?_
  refine s_imul C (by decide +kernel) ?_
  refine s_aload_n (k := 0) C (by decide +kernel) ?_
  refine s_callV C rfl rfl (by decide +kernel) rfl w_8_41 w_8_43 w_p7_3 w_1_13 w_8_44 (by decide +kernel) ?_
  refine s_iadd C (by decide +kernel) ?_
  refine s_bipush (n := 48) C (by decide +kernel) (by decide) ?_
  refine s_isub C (by decide +kernel) ?_
  exact (fun _ _ _ _ _ _ h => h)
set_option maxRecDepth 20000 in
theorem b_X12_number_88 {Z : Zt} {d : Nat} {p : Program} {e : Env} {R : Room} {s : State} {m : MethodId} {args : Array Value} {below : List Frame} {meth : Method} {c : Code} {Rp : RT} (C : Cx Z d jX12_number RX12 p R s m args meth c) : Sd Z jX12_number p e R s m args below meth c (MQ below (QcS Z Rp) args s 0 0 (fun a => Z.2.2.1 < a)) 88 (w_X12_number_88 (MS Z d) (Gw Z 5 p e R s m args below meth c (MQ below (QcS Z Rp) args s 0 0 (fun a => Z.2.2.1 < a))) Rp) := by
  unfold w_X12_number_88
  refine s_istore (k := 4) C (by decide +kernel) ?_
  refine s_aload_n (k := 0) C (by decide +kernel) ?_
  refine s_dup C (by decide +kernel) ?_
  refine s_getI C w_6_103 (by decide +kernel) rfl ?_
  refine s_iconst (n := 1) C (by decide +kernel) (by decide) ?_
  refine s_iadd C (by decide +kernel) ?_
  refine s_putI C w_6_103 (by decide +kernel) rfl (Or.inl rfl) ?_
  exact s_goto (off := (-55)) (tgt := 45) C (by decide +kernel) (by decide) (fun _ _ _ _ _ _ h => h)
set_option maxRecDepth 20000 in
theorem b_X12_number_103 {Z : Zt} {d : Nat} {p : Program} {e : Env} {R : Room} {s : State} {m : MethodId} {args : Array Value} {below : List Frame} {meth : Method} {c : Code} {Rp : RT} (C : Cx Z d jX12_number RX12 p R s m args meth c) : Sd Z jX12_number p e R s m args below meth c (MQ below (QcS Z Rp) args s 0 0 (fun a => Z.2.2.1 < a)) 103 (w_X12_number_103 (MS Z d) (Gw Z 5 p e R s m args below meth c (MQ below (QcS Z Rp) args s 0 0 (fun a => Z.2.2.1 < a))) Rp) := by
  unfold w_X12_number_103
  refine s_aload_n (k := 0) C (by decide +kernel) ?_
  refine s_getI C w_6_103 (by decide +kernel) rfl ?_
  refine s_iload_n (k := 3) C (by decide +kernel) ?_
  refine s_icmp_ne (off := 9) (tgt := 117) C (by decide +kernel) (by decide) (fun _ _ _ _ _ _ h => h) ?_
  refine s_aload_n (k := 0) C (by decide +kernel) ?_
  refine s_iconst (n := 1) C (by decide +kernel) (by decide) ?_
  refine s_iload_n (k := 3) C (by decide +kernel) ?_
  refine s_callV C rfl rfl (by decide +kernel) rfl w_8_55 w_8_57 w_p7_6 w_1_13 w_8_58 (by decide +kernel) ?_
  exact (fun _ _ _ _ _ _ h => h)
set_option maxRecDepth 20000 in
theorem b_X12_number_117 {Z : Zt} {d : Nat} {p : Program} {e : Env} {R : Room} {s : State} {m : MethodId} {args : Array Value} {below : List Frame} {meth : Method} {c : Code} {Rp : RT} (C : Cx Z d jX12_number RX12 p R s m args meth c) : Sd Z jX12_number p e R s m args below meth c (MQ below (QcS Z Rp) args s 0 0 (fun a => Z.2.2.1 < a)) 117 (w_X12_number_117 (MS Z d) (Gw Z 5 p e R s m args below meth c (MQ below (QcS Z Rp) args s 0 0 (fun a => Z.2.2.1 < a))) Rp) := by
  unfold w_X12_number_117
  refine s_aload_n (k := 0) C (by decide +kernel) ?_
  refine s_getI C w_6_103 (by decide +kernel) rfl ?_
  refine s_iload_n (k := 3) C (by decide +kernel) ?_
  refine s_iconst (n := 3) C (by decide +kernel) (by decide) ?_
  refine s_iadd C (by decide +kernel) ?_
  refine s_icmp_le (off := 9) (tgt := 133) C (by decide +kernel) (by decide) (fun _ _ _ _ _ _ h => h) ?_
  refine s_aload_n (k := 0) C (by decide +kernel) ?_
  refine s_iconst (n := 2) C (by decide +kernel) (by decide) ?_
  refine s_iload_n (k := 3) C (by decide +kernel) ?_
  refine s_callV C rfl rfl (by decide +kernel) rfl w_8_55 w_8_57 w_p7_6 w_1_13 w_8_58 (by decide +kernel) ?_
  exact (fun _ _ _ _ _ _ h => h)
set_option maxRecDepth 20000 in
theorem b_X12_number_133 {Z : Zt} {d : Nat} {p : Program} {e : Env} {R : Room} {s : State} {m : MethodId} {args : Array Value} {below : List Frame} {meth : Method} {c : Code} {Rp : RT} (C : Cx Z d jX12_number RX12 p R s m args meth c) : Sd Z jX12_number p e R s m args below meth c (MQ below (QcS Z Rp) args s 0 0 (fun a => Z.2.2.1 < a)) 133 (w_X12_number_133 (MS Z d) (Gw Z 5 p e R s m args below meth c (MQ below (QcS Z Rp) args s 0 0 (fun a => Z.2.2.1 < a))) Rp) := by
  unfold w_X12_number_133
  refine s_aload_n (k := 0) C (by decide +kernel) ?_
  refine s_iload_n (k := 3) C (by decide +kernel) ?_
  refine s_putI C w_6_112 (by decide +kernel) rfl (Or.inl rfl) ?_
  refine s_iload_n (k := 2) C (by decide +kernel) ?_
  refine s_if_eq (off := 9) (tgt := 148) C (by decide +kernel) (by decide) (fun _ _ _ _ _ _ h => h) ?_
  refine s_iload (k := 4) C (by decide +kernel) ?_
  refine s_ineg C (by decide +kernel) ?_
  exact s_goto (off := 5) (tgt := 150) C (by decide +kernel) (by decide) (fun _ _ _ _ _ _ h => h)
set_option maxRecDepth 20000 in
theorem b_X12_number_148 {Z : Zt} {d : Nat} {p : Program} {e : Env} {R : Room} {s : State} {m : MethodId} {args : Array Value} {below : List Frame} {meth : Method} {c : Code} {Rp : RT} (C : Cx Z d jX12_number RX12 p R s m args meth c) : Sd Z jX12_number p e R s m args below meth c (MQ below (QcS Z Rp) args s 0 0 (fun a => Z.2.2.1 < a)) 148 (w_X12_number_148 (MS Z d) (Gw Z 5 p e R s m args below meth c (MQ below (QcS Z Rp) args s 0 0 (fun a => Z.2.2.1 < a))) Rp) := by
  unfold w_X12_number_148
  refine s_iload (k := 4) C (by decide +kernel) ?_
  exact (fun _ _ _ _ _ _ h => h)
set_option maxRecDepth 20000 in
theorem b_X12_number_150 {Z : Zt} {d : Nat} {p : Program} {e : Env} {R : Room} {s : State} {m : MethodId} {args : Array Value} {below : List Frame} {meth : Method} {c : Code} {Rp : RT} (C : Cx Z d jX12_number RX12 p R s m args meth c) : Sd Z jX12_number p e R s m args below meth c (MQ below (QcS Z Rp) args s 0 0 (fun a => Z.2.2.1 < a)) 150 (w_X12_number_150 (MS Z d) (Gw Z 5 p e R s m args below meth c (MQ below (QcS Z Rp) args s 0 0 (fun a => Z.2.2.1 < a))) Rp) := by
  unfold w_X12_number_150
  exact s_iret C rfl (by decide +kernel)
theorem ms_X12_number {Z : Zt} {d : Nat} {S : Sh} {μ : Mi} {ρ : Mr} {Rp : RT} (a0 : Nat) (x1 : Int32) (h : ∀ G : Nat → PT, (∀ (L st : List Value) (S : Sh) (q : Nat × Nat) (μ : Mi) (ρ : Mr), w_X12_number_21 (MS Z d) G Rp L st S q μ ρ → G 21 L st S q μ ρ) → (∀ (L st : List Value) (S : Sh) (q : Nat × Nat) (μ : Mi) (ρ : Mr), w_X12_number_22 (MS Z d) G Rp L st S q μ ρ → G 22 L st S q μ ρ) → (∀ (L st : List Value) (S : Sh) (q : Nat × Nat) (μ : Mi) (ρ : Mr), w_X12_number_37 (MS Z d) G Rp L st S q μ ρ → G 37 L st S q μ ρ) → (∀ (L st : List Value) (S : Sh) (q : Nat × Nat) (μ : Mi) (ρ : Mr), w_X12_number_45 (MS Z d) G Rp L st S q μ ρ → G 45 L st S q μ ρ) → (∀ (L st : List Value) (S : Sh) (q : Nat × Nat) (μ : Mi) (ρ : Mr), w_X12_number_75 (MS Z d) G Rp L st S q μ ρ → G 75 L st S q μ ρ) → (∀ (L st : List Value) (S : Sh) (q : Nat × Nat) (μ : Mi) (ρ : Mr), w_X12_number_88 (MS Z d) G Rp L st S q μ ρ → G 88 L st S q μ ρ) → (∀ (L st : List Value) (S : Sh) (q : Nat × Nat) (μ : Mi) (ρ : Mr), w_X12_number_103 (MS Z d) G Rp L st S q μ ρ → G 103 L st S q μ ρ) → (∀ (L st : List Value) (S : Sh) (q : Nat × Nat) (μ : Mi) (ρ : Mr), w_X12_number_117 (MS Z d) G Rp L st S q μ ρ → G 117 L st S q μ ρ) → (∀ (L st : List Value) (S : Sh) (q : Nat × Nat) (μ : Mi) (ρ : Mr), w_X12_number_133 (MS Z d) G Rp L st S q μ ρ → G 133 L st S q μ ρ) → (∀ (L st : List Value) (S : Sh) (q : Nat × Nat) (μ : Mi) (ρ : Mr), w_X12_number_148 (MS Z d) G Rp L st S q μ ρ → G 148 L st S q μ ρ) → (∀ (L st : List Value) (S : Sh) (q : Nat × Nat) (μ : Mi) (ρ : Mr), w_X12_number_150 (MS Z d) G Rp L st S q μ ρ → G 150 L st S q μ ρ) → w_X12_number_0 (MS Z d) G Rp [.ref a0, .int x1, .null, .null, .null] [] S (0, 0) μ ρ) : MS Z (d + 1) jX12_number [.ref a0, .int x1] S μ ρ Rp :=
  MS_of [.ref a0, .int x1, .null, .null, .null] (by decide +kernel) rfl rfl (Nat.le_of_ble_eq_true rfl) rfl (fun p e R s m args below meth c C => b_X12_number_0 C _ _ _ _ _ _ (h _ (b_X12_number_21 C) (b_X12_number_22 C) (b_X12_number_37 C) (b_X12_number_45 C) (b_X12_number_75 C) (b_X12_number_88 C) (b_X12_number_103 C) (b_X12_number_117 C) (b_X12_number_133 C) (b_X12_number_148 C) (b_X12_number_150 C)))
def w_X12_sign_0 (M : CT) (G : Nat → PT) (Rp : RT) : PT := tAload 0 <| tCallV M jX12_blanks 12 27 0 <| tAload 0 <| tCallV M jX12_see 12 27 0 <| tIload 1 <| tIf2 (fun x y => x = y) (G 21) <| tAload 0 <| tConst 1 <| tAload 0 <| tGetI 12 27 16 <| tCallV M jX12_fails 12 27 2 <| G 21
def w_X12_sign_21 (M : CT) (G : Nat → PT) (Rp : RT) : PT := tAload 0 <| tDup <| tGetI 12 27 16 <| tConst 1 <| tBin (fun x y => x + y) <| tPutI 12 27 16 <| tVret Rp
set_option maxRecDepth 20000 in
theorem b_X12_sign_0 {Z : Zt} {d : Nat} {p : Program} {e : Env} {R : Room} {s : State} {m : MethodId} {args : Array Value} {below : List Frame} {meth : Method} {c : Code} {Rp : RT} (C : Cx Z d jX12_sign RX12 p R s m args meth c) : Sd Z jX12_sign p e R s m args below meth c (MQ below (QcS Z Rp) args s 0 0 (fun a => Z.2.2.1 < a)) 0 (w_X12_sign_0 (MS Z d) (Gw Z 2 p e R s m args below meth c (MQ below (QcS Z Rp) args s 0 0 (fun a => Z.2.2.1 < a))) Rp) := by
  unfold w_X12_sign_0
  refine s_aload_n (k := 0) C (by decide +kernel) ?_
  refine s_callV C rfl rfl (by decide +kernel) rfl w_8_37 w_8_39 w_p7_2 w_1_13 w_8_40 (by decide +kernel) ?_
  refine s_aload_n (k := 0) C (by decide +kernel) ?_
  refine s_callV C rfl rfl (by decide +kernel) rfl w_8_41 w_8_43 w_p7_3 w_1_13 w_8_44 (by decide +kernel) ?_
  refine s_iload_n (k := 1) C (by decide +kernel) ?_
  refine s_icmp_eq (off := 12) (tgt := 21) C (by decide +kernel) (by decide) (fun _ _ _ _ _ _ h => h) ?_
  refine s_aload_n (k := 0) C (by decide +kernel) ?_
  refine s_iconst (n := 1) C (by decide +kernel) (by decide) ?_
  refine s_aload_n (k := 0) C (by decide +kernel) ?_
  refine s_getI C w_6_103 (by decide +kernel) rfl ?_
  refine s_callV C rfl rfl (by decide +kernel) rfl w_8_55 w_8_57 w_p7_6 w_1_13 w_8_58 (by decide +kernel) ?_
  exact (fun _ _ _ _ _ _ h => h)
set_option maxRecDepth 20000 in
theorem b_X12_sign_21 {Z : Zt} {d : Nat} {p : Program} {e : Env} {R : Room} {s : State} {m : MethodId} {args : Array Value} {below : List Frame} {meth : Method} {c : Code} {Rp : RT} (C : Cx Z d jX12_sign RX12 p R s m args meth c) : Sd Z jX12_sign p e R s m args below meth c (MQ below (QcS Z Rp) args s 0 0 (fun a => Z.2.2.1 < a)) 21 (w_X12_sign_21 (MS Z d) (Gw Z 2 p e R s m args below meth c (MQ below (QcS Z Rp) args s 0 0 (fun a => Z.2.2.1 < a))) Rp) := by
  unfold w_X12_sign_21
  refine s_aload_n (k := 0) C (by decide +kernel) ?_
  refine s_dup C (by decide +kernel) ?_
  refine s_getI C w_6_103 (by decide +kernel) rfl ?_
  refine s_iconst (n := 1) C (by decide +kernel) (by decide) ?_
  refine s_iadd C (by decide +kernel) ?_
  refine s_putI C w_6_103 (by decide +kernel) rfl (Or.inl rfl) ?_
  exact s_vret C rfl (by decide +kernel)
theorem ms_X12_sign {Z : Zt} {d : Nat} {S : Sh} {μ : Mi} {ρ : Mr} {Rp : RT} (a0 : Nat) (x1 : Int32) (h : ∀ G : Nat → PT, (∀ (L st : List Value) (S : Sh) (q : Nat × Nat) (μ : Mi) (ρ : Mr), w_X12_sign_21 (MS Z d) G Rp L st S q μ ρ → G 21 L st S q μ ρ) → w_X12_sign_0 (MS Z d) G Rp [.ref a0, .int x1] [] S (0, 0) μ ρ) : MS Z (d + 1) jX12_sign [.ref a0, .int x1] S μ ρ Rp :=
  MS_of [.ref a0, .int x1] (by decide +kernel) rfl rfl (Nat.le_of_ble_eq_true rfl) rfl (fun p e R s m args below meth c C => b_X12_sign_0 C _ _ _ _ _ _ (h _ (b_X12_sign_21 C)))
def w_X12_acts_0 (M : CT) (G : Nat → PT) (Rp : RT) : PT := tAload 0 <| tCallV M jX12_blanks 12 27 0 <| G 4
def w_X12_acts_4 (M : CT) (G : Nat → PT) (Rp : RT) : PT := tAload 0 <| tGetI 12 27 17 <| tIf (fun x => x ≠ 0) (G 129) <| tAload 0 <| tGetI 12 27 26 <| tIf (fun x => x ≠ 0) (G 129) <| tAload 0 <| tCallV M jX12_see 12 27 0 <| tI2l <| tLconst 97 <| tLconst 122 <| tCallS M jX12_within 3 <| tIf (fun x => x = 0) (G 129) <| tAload 0 <| tCallV M jX12_word 12 27 0 <| tIstore 3 <| tAload 0 <| tGetI 12 27 17 <| tIf (fun x => x = 0) (G 48) <| tVret Rp
def w_X12_acts_48 (M : CT) (G : Nat → PT) (Rp : RT) : PT := tIload 3 <| tConst 17 <| tIf2 (fun x y => x ≠ y) (G 63) <| tAload 0 <| tIload 1 <| tIload 2 <| tCallV M jX12_times 12 27 2 <| tGoto (G 122)
def w_X12_acts_63 (M : CT) (G : Nat → PT) (Rp : RT) : PT := tIload 3 <| tCallS M jX12_numbersOf 1 <| tIstore 4 <| tConst 0 <| tIstore 5 <| G 72
def w_X12_acts_72 (M : CT) (G : Nat → PT) (Rp : RT) : PT := tIload 5 <| tIload 4 <| tIf2 (fun x y => y ≤ x) (G 107) <| tAload 0 <| tGetR 12 27 24 <| tIload 5 <| tAload 0 <| tIload 5 <| tConst 2 <| tIf2 (fun x y => x ≠ y) (G 96) <| tConst 1 <| tGoto (G 97)
def w_X12_acts_96 (M : CT) (G : Nat → PT) (Rp : RT) : PT := tConst 0 <| G 97
def w_X12_acts_97 (M : CT) (G : Nat → PT) (Rp : RT) : PT := tCallV M jX12_number 12 27 1 <| tIast <| tIinc 5 1 <| tGoto (G 72)
def w_X12_acts_107 (M : CT) (G : Nat → PT) (Rp : RT) : PT := tAload 0 <| tConst 59 <| tCallV M jX12_sign 12 27 1 <| tIload 2 <| tIf (fun x => x = 0) (G 122) <| tAload 0 <| tIload 3 <| tCallV M jX12_act 12 27 1 <| G 122
def w_X12_acts_122 (M : CT) (G : Nat → PT) (Rp : RT) : PT := tAload 0 <| tCallV M jX12_blanks 12 27 0 <| tGoto (G 4)
def w_X12_acts_129 (M : CT) (G : Nat → PT) (Rp : RT) : PT := tVret Rp
set_option maxRecDepth 20000 in
theorem b_X12_acts_0 {Z : Zt} {d : Nat} {p : Program} {e : Env} {R : Room} {s : State} {m : MethodId} {args : Array Value} {below : List Frame} {meth : Method} {c : Code} {Rp : RT} (C : Cx Z d jX12_acts RX12 p R s m args meth c) : Sd Z jX12_acts p e R s m args below meth c (MQ below (QcS Z Rp) args s 0 0 (fun a => Z.2.2.1 < a)) 0 (w_X12_acts_0 (MS Z d) (Gw Z 6 p e R s m args below meth c (MQ below (QcS Z Rp) args s 0 0 (fun a => Z.2.2.1 < a))) Rp) := by
  unfold w_X12_acts_0
  refine s_aload_n (k := 0) C (by decide +kernel) ?_
  refine s_callV C rfl rfl (by decide +kernel) rfl w_8_37 w_8_39 w_p7_2 w_1_13 w_8_40 (by decide +kernel) ?_
  exact (fun _ _ _ _ _ _ h => h)
set_option maxRecDepth 20000 in
theorem b_X12_acts_4 {Z : Zt} {d : Nat} {p : Program} {e : Env} {R : Room} {s : State} {m : MethodId} {args : Array Value} {below : List Frame} {meth : Method} {c : Code} {Rp : RT} (C : Cx Z d jX12_acts RX12 p R s m args meth c) : Sd Z jX12_acts p e R s m args below meth c (MQ below (QcS Z Rp) args s 0 0 (fun a => Z.2.2.1 < a)) 4 (w_X12_acts_4 (MS Z d) (Gw Z 6 p e R s m args below meth c (MQ below (QcS Z Rp) args s 0 0 (fun a => Z.2.2.1 < a))) Rp) := by
  unfold w_X12_acts_4
  refine s_aload_n (k := 0) C (by decide +kernel) ?_
  refine s_getI C w_6_104 (by decide +kernel) rfl ?_
  refine s_if_ne (off := 121) (tgt := 129) C (by decide +kernel) (by decide) (fun _ _ _ _ _ _ h => h) ?_
  refine s_aload_n (k := 0) C (by decide +kernel) ?_
  refine s_getI C w_6_113 (by decide +kernel) rfl ?_
  refine s_if_ne (off := 114) (tgt := 129) C (by decide +kernel) (by decide) (fun _ _ _ _ _ _ h => h) ?_
  refine s_aload_n (k := 0) C (by decide +kernel) ?_
  refine s_callV C rfl rfl (by decide +kernel) rfl w_8_41 w_8_43 w_p7_3 w_1_13 w_8_44 (by decide +kernel) ?_
  refine s_i2l C (by decide +kernel) ?_
  refine s_ldc2 C w_8_45 (by decide +kernel) ?_
  refine s_ldc2 C w_8_46 (by decide +kernel) ?_
  refine s_callS C (by decide +kernel) rfl w_6_175 w_6_176 w_1_13 w_6_177 (by decide +kernel) ?_
  refine s_if_eq (off := 97) (tgt := 129) C (by decide +kernel) (by decide) (fun _ _ _ _ _ _ h => h) ?_
  refine s_aload_n (k := 0) C (by decide +kernel) ?_
  refine s_callV C rfl rfl (by decide +kernel) rfl w_8_47 w_8_49 w_p7_4 w_1_13 w_8_50 (by decide +kernel) ?_
  refine s_istore_n (k := 3) C (by decide +kernel) ?_
  refine s_aload_n (k := 0) C (by decide +kernel) ?_
  refine s_getI C w_6_104 (by decide +kernel) rfl ?_
  refine s_if_eq (off := 4) (tgt := 48) C (by decide +kernel) (by decide) (fun _ _ _ _ _ _ h => h) ?_
  exact s_vret C rfl (by decide +kernel)
set_option maxRecDepth 20000 in
theorem b_X12_acts_48 {Z : Zt} {d : Nat} {p : Program} {e : Env} {R : Room} {s : State} {m : MethodId} {args : Array Value} {below : List Frame} {meth : Method} {c : Code} {Rp : RT} (C : Cx Z d jX12_acts RX12 p R s m args meth c) : Sd Z jX12_acts p e R s m args below meth c (MQ below (QcS Z Rp) args s 0 0 (fun a => Z.2.2.1 < a)) 48 (w_X12_acts_48 (MS Z d) (Gw Z 6 p e R s m args below meth c (MQ below (QcS Z Rp) args s 0 0 (fun a => Z.2.2.1 < a))) Rp) := by
  unfold w_X12_acts_48
  refine s_iload_n (k := 3) C (by decide +kernel) ?_
  refine s_bipush (n := 17) C (by decide +kernel) (by decide) ?_
  refine s_icmp_ne (off := 12) (tgt := 63) C (by decide +kernel) (by decide) (fun _ _ _ _ _ _ h => h) ?_
  refine s_aload_n (k := 0) C (by decide +kernel) ?_
  refine s_iload_n (k := 1) C (by decide +kernel) ?_
  refine s_iload_n (k := 2) C (by decide +kernel) ?_
  refine s_callV C rfl rfl (by decide +kernel) rfl w_8_59 w_8_61 w_p7_7 w_1_13 w_8_62 (by decide +kernel) ?_
  exact s_goto (off := 62) (tgt := 122) C (by decide +kernel) (by decide) (fun _ _ _ _ _ _ h => h)
set_option maxRecDepth 20000 in
theorem b_X12_acts_63 {Z : Zt} {d : Nat} {p : Program} {e : Env} {R : Room} {s : State} {m : MethodId} {args : Array Value} {below : List Frame} {meth : Method} {c : Code} {Rp : RT} (C : Cx Z d jX12_acts RX12 p R s m args meth c) : Sd Z jX12_acts p e R s m args below meth c (MQ below (QcS Z Rp) args s 0 0 (fun a => Z.2.2.1 < a)) 63 (w_X12_acts_63 (MS Z d) (Gw Z 6 p e R s m args below meth c (MQ below (QcS Z Rp) args s 0 0 (fun a => Z.2.2.1 < a))) Rp) := by
  unfold w_X12_acts_63
  refine s_iload_n (k := 3) C (by decide +kernel) ?_
  refine s_callS C (by decide +kernel) rfl w_8_74 w_8_75 w_1_13 w_8_76 (by decide +kernel) ?_
  refine s_istore (k := 4) C (by decide +kernel) ?_
  refine s_iconst (n := 0) C (by decide +kernel) (by decide) ?_
  refine s_istore (k := 5) C (by decide +kernel) ?_
  exact (fun _ _ _ _ _ _ h => h)
set_option maxRecDepth 20000 in
theorem b_X12_acts_72 {Z : Zt} {d : Nat} {p : Program} {e : Env} {R : Room} {s : State} {m : MethodId} {args : Array Value} {below : List Frame} {meth : Method} {c : Code} {Rp : RT} (C : Cx Z d jX12_acts RX12 p R s m args meth c) : Sd Z jX12_acts p e R s m args below meth c (MQ below (QcS Z Rp) args s 0 0 (fun a => Z.2.2.1 < a)) 72 (w_X12_acts_72 (MS Z d) (Gw Z 6 p e R s m args below meth c (MQ below (QcS Z Rp) args s 0 0 (fun a => Z.2.2.1 < a))) Rp) := by
  unfold w_X12_acts_72
  refine s_iload (k := 5) C (by decide +kernel) ?_
  refine s_iload (k := 4) C (by decide +kernel) ?_
  refine s_icmp_ge (off := 31) (tgt := 107) C (by decide +kernel) (by decide) (fun _ _ _ _ _ _ h => h) ?_
  refine s_aload_n (k := 0) C (by decide +kernel) ?_
  refine s_getR C w_6_111 (by decide +kernel) rfl ?_
  refine s_iload (k := 5) C (by decide +kernel) ?_
  refine s_aload_n (k := 0) C (by decide +kernel) ?_
  refine s_iload (k := 5) C (by decide +kernel) ?_
  refine s_iconst (n := 2) C (by decide +kernel) (by decide) ?_
  refine s_icmp_ne (off := 7) (tgt := 96) C (by decide +kernel) (by decide) (fun _ _ _ _ _ _ h => h) ?_
  refine s_iconst (n := 1) C (by decide +kernel) (by decide) ?_
  exact s_goto (off := 4) (tgt := 97) C (by decide +kernel) (by decide) (fun _ _ _ _ _ _ h => h)
set_option maxRecDepth 20000 in
theorem b_X12_acts_96 {Z : Zt} {d : Nat} {p : Program} {e : Env} {R : Room} {s : State} {m : MethodId} {args : Array Value} {below : List Frame} {meth : Method} {c : Code} {Rp : RT} (C : Cx Z d jX12_acts RX12 p R s m args meth c) : Sd Z jX12_acts p e R s m args below meth c (MQ below (QcS Z Rp) args s 0 0 (fun a => Z.2.2.1 < a)) 96 (w_X12_acts_96 (MS Z d) (Gw Z 6 p e R s m args below meth c (MQ below (QcS Z Rp) args s 0 0 (fun a => Z.2.2.1 < a))) Rp) := by
  unfold w_X12_acts_96
  refine s_iconst (n := 0) C (by decide +kernel) (by decide) ?_
  exact (fun _ _ _ _ _ _ h => h)
set_option maxRecDepth 20000 in
theorem b_X12_acts_97 {Z : Zt} {d : Nat} {p : Program} {e : Env} {R : Room} {s : State} {m : MethodId} {args : Array Value} {below : List Frame} {meth : Method} {c : Code} {Rp : RT} (C : Cx Z d jX12_acts RX12 p R s m args meth c) : Sd Z jX12_acts p e R s m args below meth c (MQ below (QcS Z Rp) args s 0 0 (fun a => Z.2.2.1 < a)) 97 (w_X12_acts_97 (MS Z d) (Gw Z 6 p e R s m args below meth c (MQ below (QcS Z Rp) args s 0 0 (fun a => Z.2.2.1 < a))) Rp) := by
  unfold w_X12_acts_97
  refine s_callV C rfl rfl (by decide +kernel) rfl w_8_63 w_8_65 w_p7_8 w_1_13 w_8_66 (by decide +kernel) ?_
  refine s_iast C (by decide +kernel) ?_
  refine s_iinc (n := 1) C (by decide +kernel) (by decide) ?_
  exact s_goto (off := (-32)) (tgt := 72) C (by decide +kernel) (by decide) (fun _ _ _ _ _ _ h => h)
set_option maxRecDepth 20000 in
theorem b_X12_acts_107 {Z : Zt} {d : Nat} {p : Program} {e : Env} {R : Room} {s : State} {m : MethodId} {args : Array Value} {below : List Frame} {meth : Method} {c : Code} {Rp : RT} (C : Cx Z d jX12_acts RX12 p R s m args meth c) : Sd Z jX12_acts p e R s m args below meth c (MQ below (QcS Z Rp) args s 0 0 (fun a => Z.2.2.1 < a)) 107 (w_X12_acts_107 (MS Z d) (Gw Z 6 p e R s m args below meth c (MQ below (QcS Z Rp) args s 0 0 (fun a => Z.2.2.1 < a))) Rp) := by
  unfold w_X12_acts_107
  refine s_aload_n (k := 0) C (by decide +kernel) ?_
  refine s_bipush (n := 59) C (by decide +kernel) (by decide) ?_
  refine s_callV C rfl rfl (by decide +kernel) rfl w_8_70 w_8_72 w_p7_9 w_1_13 w_8_73 (by decide +kernel) ?_
  refine s_iload_n (k := 2) C (by decide +kernel) ?_
  refine s_if_eq (off := 8) (tgt := 122) C (by decide +kernel) (by decide) (fun _ _ _ _ _ _ h => h) ?_
  refine s_aload_n (k := 0) C (by decide +kernel) ?_
  refine s_iload_n (k := 3) C (by decide +kernel) ?_
  refine s_callV C rfl rfl (by decide +kernel) rfl w_8_77 w_8_79 w_p7_10 w_1_13 w_8_80 (by decide +kernel) ?_
  exact (fun _ _ _ _ _ _ h => h)
set_option maxRecDepth 20000 in
theorem b_X12_acts_122 {Z : Zt} {d : Nat} {p : Program} {e : Env} {R : Room} {s : State} {m : MethodId} {args : Array Value} {below : List Frame} {meth : Method} {c : Code} {Rp : RT} (C : Cx Z d jX12_acts RX12 p R s m args meth c) : Sd Z jX12_acts p e R s m args below meth c (MQ below (QcS Z Rp) args s 0 0 (fun a => Z.2.2.1 < a)) 122 (w_X12_acts_122 (MS Z d) (Gw Z 6 p e R s m args below meth c (MQ below (QcS Z Rp) args s 0 0 (fun a => Z.2.2.1 < a))) Rp) := by
  unfold w_X12_acts_122
  refine s_aload_n (k := 0) C (by decide +kernel) ?_
  refine s_callV C rfl rfl (by decide +kernel) rfl w_8_37 w_8_39 w_p7_2 w_1_13 w_8_40 (by decide +kernel) ?_
  exact s_goto (off := (-122)) (tgt := 4) C (by decide +kernel) (by decide) (fun _ _ _ _ _ _ h => h)
set_option maxRecDepth 20000 in
theorem b_X12_acts_129 {Z : Zt} {d : Nat} {p : Program} {e : Env} {R : Room} {s : State} {m : MethodId} {args : Array Value} {below : List Frame} {meth : Method} {c : Code} {Rp : RT} (C : Cx Z d jX12_acts RX12 p R s m args meth c) : Sd Z jX12_acts p e R s m args below meth c (MQ below (QcS Z Rp) args s 0 0 (fun a => Z.2.2.1 < a)) 129 (w_X12_acts_129 (MS Z d) (Gw Z 6 p e R s m args below meth c (MQ below (QcS Z Rp) args s 0 0 (fun a => Z.2.2.1 < a))) Rp) := by
  unfold w_X12_acts_129
  exact s_vret C rfl (by decide +kernel)
theorem ms_X12_acts {Z : Zt} {d : Nat} {S : Sh} {μ : Mi} {ρ : Mr} {Rp : RT} (a0 : Nat) (x1 : Int32) (x2 : Int32) (h : ∀ G : Nat → PT, (∀ (L st : List Value) (S : Sh) (q : Nat × Nat) (μ : Mi) (ρ : Mr), w_X12_acts_4 (MS Z d) G Rp L st S q μ ρ → G 4 L st S q μ ρ) → (∀ (L st : List Value) (S : Sh) (q : Nat × Nat) (μ : Mi) (ρ : Mr), w_X12_acts_48 (MS Z d) G Rp L st S q μ ρ → G 48 L st S q μ ρ) → (∀ (L st : List Value) (S : Sh) (q : Nat × Nat) (μ : Mi) (ρ : Mr), w_X12_acts_63 (MS Z d) G Rp L st S q μ ρ → G 63 L st S q μ ρ) → (∀ (L st : List Value) (S : Sh) (q : Nat × Nat) (μ : Mi) (ρ : Mr), w_X12_acts_72 (MS Z d) G Rp L st S q μ ρ → G 72 L st S q μ ρ) → (∀ (L st : List Value) (S : Sh) (q : Nat × Nat) (μ : Mi) (ρ : Mr), w_X12_acts_96 (MS Z d) G Rp L st S q μ ρ → G 96 L st S q μ ρ) → (∀ (L st : List Value) (S : Sh) (q : Nat × Nat) (μ : Mi) (ρ : Mr), w_X12_acts_97 (MS Z d) G Rp L st S q μ ρ → G 97 L st S q μ ρ) → (∀ (L st : List Value) (S : Sh) (q : Nat × Nat) (μ : Mi) (ρ : Mr), w_X12_acts_107 (MS Z d) G Rp L st S q μ ρ → G 107 L st S q μ ρ) → (∀ (L st : List Value) (S : Sh) (q : Nat × Nat) (μ : Mi) (ρ : Mr), w_X12_acts_122 (MS Z d) G Rp L st S q μ ρ → G 122 L st S q μ ρ) → (∀ (L st : List Value) (S : Sh) (q : Nat × Nat) (μ : Mi) (ρ : Mr), w_X12_acts_129 (MS Z d) G Rp L st S q μ ρ → G 129 L st S q μ ρ) → w_X12_acts_0 (MS Z d) G Rp [.ref a0, .int x1, .int x2, .null, .null, .null] [] S (0, 0) μ ρ) : MS Z (d + 1) jX12_acts [.ref a0, .int x1, .int x2] S μ ρ Rp :=
  MS_of [.ref a0, .int x1, .int x2, .null, .null, .null] (by decide +kernel) rfl rfl (Nat.le_of_ble_eq_true rfl) rfl (fun p e R s m args below meth c C => b_X12_acts_0 C _ _ _ _ _ _ (h _ (b_X12_acts_4 C) (b_X12_acts_48 C) (b_X12_acts_63 C) (b_X12_acts_72 C) (b_X12_acts_96 C) (b_X12_acts_97 C) (b_X12_acts_107 C) (b_X12_acts_122 C) (b_X12_acts_129 C)))
def w_X12_times_0 (M : CT) (G : Nat → PT) (Rp : RT) : PT := tAload 0 <| tConst 0 <| tCallV M jX12_number 12 27 1 <| tIstore 3 <| tAload 0 <| tGetI 12 27 17 <| tIf (fun x => x ≠ 0) (G 34) <| tIload 3 <| tI2l <| tLconst 1 <| tLconst 50 <| tCallS M jX12_within 3 <| tIf (fun x => x ≠ 0) (G 34) <| tAload 0 <| tConst 2 <| tAload 0 <| tGetI 12 27 25 <| tCallV M jX12_fails 12 27 2 <| G 34
def w_X12_times_34 (M : CT) (G : Nat → PT) (Rp : RT) : PT := tAload 0 <| tCallV M jX12_blanks 12 27 0 <| tAload 0 <| tCallV M jX12_see 12 27 0 <| tConst 123 <| tIf2 (fun x y => x ≠ y) (G 61) <| tIload 1 <| tConst 3 <| tIf2 (fun x y => x ≠ y) (G 61) <| tAload 0 <| tConst 3 <| tAload 0 <| tGetI 12 27 16 <| tCallV M jX12_fails 12 27 2 <| G 61
def w_X12_times_61 (M : CT) (G : Nat → PT) (Rp : RT) : PT := tAload 0 <| tConst 123 <| tCallV M jX12_sign 12 27 1 <| tAload 0 <| tGetI 12 27 16 <| tIstore 4 <| tConst 0 <| tIstore 5 <| G 76
def w_X12_times_76 (M : CT) (G : Nat → PT) (Rp : RT) : PT := tIload 5 <| tIload 2 <| tIf (fun x => x = 0) (G 86) <| tIload 3 <| tGoto (G 87)
def w_X12_times_86 (M : CT) (G : Nat → PT) (Rp : RT) : PT := tConst 1 <| G 87
def w_X12_times_87 (M : CT) (G : Nat → PT) (Rp : RT) : PT := tIf2 (fun x y => y ≤ x) (G 144) <| tAload 0 <| tGetI 12 27 17 <| tIf (fun x => x ≠ 0) (G 144) <| tAload 0 <| tGetI 12 27 26 <| tIf (fun x => x ≠ 0) (G 144) <| tAload 0 <| tIload 4 <| tPutI 12 27 16 <| tAload 0 <| tIload 1 <| tConst 1 <| tBin (fun x y => x + y) <| tIload 2 <| tCallV M jX12_acts 12 27 2 <| tAload 0 <| tGetI 12 27 26 <| tIf (fun x => x ≠ 0) (G 138) <| tAload 0 <| tGetI 12 27 17 <| tIf (fun x => x ≠ 0) (G 138) <| tAload 0 <| tConst 125 <| tCallV M jX12_sign 12 27 1 <| G 138
def w_X12_times_138 (M : CT) (G : Nat → PT) (Rp : RT) : PT := tIinc 5 1 <| tGoto (G 76)
def w_X12_times_144 (M : CT) (G : Nat → PT) (Rp : RT) : PT := tVret Rp
set_option maxRecDepth 20000 in
theorem b_X12_times_0 {Z : Zt} {d : Nat} {p : Program} {e : Env} {R : Room} {s : State} {m : MethodId} {args : Array Value} {below : List Frame} {meth : Method} {c : Code} {Rp : RT} (C : Cx Z d jX12_times RX12 p R s m args meth c) : Sd Z jX12_times p e R s m args below meth c (MQ below (QcS Z Rp) args s 0 0 (fun a => Z.2.2.1 < a)) 0 (w_X12_times_0 (MS Z d) (Gw Z 6 p e R s m args below meth c (MQ below (QcS Z Rp) args s 0 0 (fun a => Z.2.2.1 < a))) Rp) := by
  unfold w_X12_times_0
  refine s_aload_n (k := 0) C (by decide +kernel) ?_
  refine s_iconst (n := 0) C (by decide +kernel) (by decide) ?_
  refine s_callV C rfl rfl (by decide +kernel) rfl w_8_63 w_8_65 w_p7_8 w_1_13 w_8_66 (by decide +kernel) ?_
  refine s_istore_n (k := 3) C (by decide +kernel) ?_
  refine s_aload_n (k := 0) C (by decide +kernel) ?_
  refine s_getI C w_6_104 (by decide +kernel) rfl ?_
  refine s_if_ne (off := 24) (tgt := 34) C (by decide +kernel) (by decide) (fun _ _ _ _ _ _ h => h) ?_
  refine s_iload_n (k := 3) C (by decide +kernel) ?_
  refine s_i2l C (by decide +kernel) ?_
  refine s_lconst (n := 1) C (by decide +kernel) (by decide) ?_
  refine s_ldc2 C w_8_69 (by decide +kernel) ?_
  refine s_callS C (by decide +kernel) rfl w_6_175 w_6_176 w_1_13 w_6_177 (by decide +kernel) ?_
  refine s_if_ne (off := 12) (tgt := 34) C (by decide +kernel) (by decide) (fun _ _ _ _ _ _ h => h) ?_
  refine s_aload_n (k := 0) C (by decide +kernel) ?_
  refine s_iconst (n := 2) C (by decide +kernel) (by decide) ?_
  refine s_aload_n (k := 0) C (by decide +kernel) ?_
  refine s_getI C w_6_112 (by decide +kernel) rfl ?_
  refine s_callV C rfl rfl (by decide +kernel) rfl w_8_55 w_8_57 w_p7_6 w_1_13 w_8_58 (by decide +kernel) ?_
  exact (fun _ _ _ _ _ _ h => h)
set_option maxRecDepth 20000 in
theorem b_X12_times_34 {Z : Zt} {d : Nat} {p : Program} {e : Env} {R : Room} {s : State} {m : MethodId} {args : Array Value} {below : List Frame} {meth : Method} {c : Code} {Rp : RT} (C : Cx Z d jX12_times RX12 p R s m args meth c) : Sd Z jX12_times p e R s m args below meth c (MQ below (QcS Z Rp) args s 0 0 (fun a => Z.2.2.1 < a)) 34 (w_X12_times_34 (MS Z d) (Gw Z 6 p e R s m args below meth c (MQ below (QcS Z Rp) args s 0 0 (fun a => Z.2.2.1 < a))) Rp) := by
  unfold w_X12_times_34
  refine s_aload_n (k := 0) C (by decide +kernel) ?_
  refine s_callV C rfl rfl (by decide +kernel) rfl w_8_37 w_8_39 w_p7_2 w_1_13 w_8_40 (by decide +kernel) ?_
  refine s_aload_n (k := 0) C (by decide +kernel) ?_
  refine s_callV C rfl rfl (by decide +kernel) rfl w_8_41 w_8_43 w_p7_3 w_1_13 w_8_44 (by decide +kernel) ?_
  refine s_bipush (n := 123) C (by decide +kernel) (by decide) ?_
  refine s_icmp_ne (off := 17) (tgt := 61) C (by decide +kernel) (by decide) (fun _ _ _ _ _ _ h => h) ?_
  refine s_iload_n (k := 1) C (by decide +kernel) ?_
  refine s_iconst (n := 3) C (by decide +kernel) (by decide) ?_
  refine s_icmp_ne (off := 12) (tgt := 61) C (by decide +kernel) (by decide) (fun _ _ _ _ _ _ h => h) ?_
  refine s_aload_n (k := 0) C (by decide +kernel) ?_
  refine s_iconst (n := 3) C (by decide +kernel) (by decide) ?_
  refine s_aload_n (k := 0) C (by decide +kernel) ?_
  refine s_getI C w_6_103 (by decide +kernel) rfl ?_
  refine s_callV C rfl rfl (by decide +kernel) rfl w_8_55 w_8_57 w_p7_6 w_1_13 w_8_58 (by decide +kernel) ?_
  exact (fun _ _ _ _ _ _ h => h)
set_option maxRecDepth 20000 in
theorem b_X12_times_61 {Z : Zt} {d : Nat} {p : Program} {e : Env} {R : Room} {s : State} {m : MethodId} {args : Array Value} {below : List Frame} {meth : Method} {c : Code} {Rp : RT} (C : Cx Z d jX12_times RX12 p R s m args meth c) : Sd Z jX12_times p e R s m args below meth c (MQ below (QcS Z Rp) args s 0 0 (fun a => Z.2.2.1 < a)) 61 (w_X12_times_61 (MS Z d) (Gw Z 6 p e R s m args below meth c (MQ below (QcS Z Rp) args s 0 0 (fun a => Z.2.2.1 < a))) Rp) := by
  unfold w_X12_times_61
  refine s_aload_n (k := 0) C (by decide +kernel) ?_
  refine s_bipush (n := 123) C (by decide +kernel) (by decide) ?_
  refine s_callV C rfl rfl (by decide +kernel) rfl w_8_70 w_8_72 w_p7_9 w_1_13 w_8_73 (by decide +kernel) ?_
  refine s_aload_n (k := 0) C (by decide +kernel) ?_
  refine s_getI C w_6_103 (by decide +kernel) rfl ?_
  refine s_istore (k := 4) C (by decide +kernel) ?_
  refine s_iconst (n := 0) C (by decide +kernel) (by decide) ?_
  refine s_istore (k := 5) C (by decide +kernel) ?_
  exact (fun _ _ _ _ _ _ h => h)
set_option maxRecDepth 20000 in
theorem b_X12_times_76 {Z : Zt} {d : Nat} {p : Program} {e : Env} {R : Room} {s : State} {m : MethodId} {args : Array Value} {below : List Frame} {meth : Method} {c : Code} {Rp : RT} (C : Cx Z d jX12_times RX12 p R s m args meth c) : Sd Z jX12_times p e R s m args below meth c (MQ below (QcS Z Rp) args s 0 0 (fun a => Z.2.2.1 < a)) 76 (w_X12_times_76 (MS Z d) (Gw Z 6 p e R s m args below meth c (MQ below (QcS Z Rp) args s 0 0 (fun a => Z.2.2.1 < a))) Rp) := by
  unfold w_X12_times_76
  refine s_iload (k := 5) C (by decide +kernel) ?_
  refine s_iload_n (k := 2) C (by decide +kernel) ?_
  refine s_if_eq (off := 7) (tgt := 86) C (by decide +kernel) (by decide) (fun _ _ _ _ _ _ h => h) ?_
  refine s_iload_n (k := 3) C (by decide +kernel) ?_
  exact s_goto (off := 4) (tgt := 87) C (by decide +kernel) (by decide) (fun _ _ _ _ _ _ h => h)
set_option maxRecDepth 20000 in
theorem b_X12_times_86 {Z : Zt} {d : Nat} {p : Program} {e : Env} {R : Room} {s : State} {m : MethodId} {args : Array Value} {below : List Frame} {meth : Method} {c : Code} {Rp : RT} (C : Cx Z d jX12_times RX12 p R s m args meth c) : Sd Z jX12_times p e R s m args below meth c (MQ below (QcS Z Rp) args s 0 0 (fun a => Z.2.2.1 < a)) 86 (w_X12_times_86 (MS Z d) (Gw Z 6 p e R s m args below meth c (MQ below (QcS Z Rp) args s 0 0 (fun a => Z.2.2.1 < a))) Rp) := by
  unfold w_X12_times_86
  refine s_iconst (n := 1) C (by decide +kernel) (by decide) ?_
  exact (fun _ _ _ _ _ _ h => h)
set_option maxRecDepth 20000 in
theorem b_X12_times_87 {Z : Zt} {d : Nat} {p : Program} {e : Env} {R : Room} {s : State} {m : MethodId} {args : Array Value} {below : List Frame} {meth : Method} {c : Code} {Rp : RT} (C : Cx Z d jX12_times RX12 p R s m args meth c) : Sd Z jX12_times p e R s m args below meth c (MQ below (QcS Z Rp) args s 0 0 (fun a => Z.2.2.1 < a)) 87 (w_X12_times_87 (MS Z d) (Gw Z 6 p e R s m args below meth c (MQ below (QcS Z Rp) args s 0 0 (fun a => Z.2.2.1 < a))) Rp) := by
  unfold w_X12_times_87
  refine s_icmp_ge (off := 57) (tgt := 144) C (by decide +kernel) (by decide) (fun _ _ _ _ _ _ h => h) ?_
  refine s_aload_n (k := 0) C (by decide +kernel) ?_
  refine s_getI C w_6_104 (by decide +kernel) rfl ?_
  refine s_if_ne (off := 50) (tgt := 144) C (by decide +kernel) (by decide) (fun _ _ _ _ _ _ h => h) ?_
  refine s_aload_n (k := 0) C (by decide +kernel) ?_
  refine s_getI C w_6_113 (by decide +kernel) rfl ?_
  refine s_if_ne (off := 43) (tgt := 144) C (by decide +kernel) (by decide) (fun _ _ _ _ _ _ h => h) ?_
  refine s_aload_n (k := 0) C (by decide +kernel) ?_
  refine s_iload (k := 4) C (by decide +kernel) ?_
  refine s_putI C w_6_103 (by decide +kernel) rfl (Or.inl rfl) ?_
  refine s_aload_n (k := 0) C (by decide +kernel) ?_
  refine s_iload_n (k := 1) C (by decide +kernel) ?_
  refine s_iconst (n := 1) C (by decide +kernel) (by decide) ?_
  refine s_iadd C (by decide +kernel) ?_
  refine s_iload_n (k := 2) C (by decide +kernel) ?_
  refine s_callV C rfl rfl (by decide +kernel) rfl w_8_33 w_8_35 w_p7_1 w_1_13 w_8_36 (by decide +kernel) ?_
  refine s_aload_n (k := 0) C (by decide +kernel) ?_
  refine s_getI C w_6_113 (by decide +kernel) rfl ?_
  refine s_if_ne (off := 16) (tgt := 138) C (by decide +kernel) (by decide) (fun _ _ _ _ _ _ h => h) ?_
  refine s_aload_n (k := 0) C (by decide +kernel) ?_
  refine s_getI C w_6_104 (by decide +kernel) rfl ?_
  refine s_if_ne (off := 9) (tgt := 138) C (by decide +kernel) (by decide) (fun _ _ _ _ _ _ h => h) ?_
  refine s_aload_n (k := 0) C (by decide +kernel) ?_
  refine s_bipush (n := 125) C (by decide +kernel) (by decide) ?_
  refine s_callV C rfl rfl (by decide +kernel) rfl w_8_70 w_8_72 w_p7_9 w_1_13 w_8_73 (by decide +kernel) ?_
  exact (fun _ _ _ _ _ _ h => h)
set_option maxRecDepth 20000 in
theorem b_X12_times_138 {Z : Zt} {d : Nat} {p : Program} {e : Env} {R : Room} {s : State} {m : MethodId} {args : Array Value} {below : List Frame} {meth : Method} {c : Code} {Rp : RT} (C : Cx Z d jX12_times RX12 p R s m args meth c) : Sd Z jX12_times p e R s m args below meth c (MQ below (QcS Z Rp) args s 0 0 (fun a => Z.2.2.1 < a)) 138 (w_X12_times_138 (MS Z d) (Gw Z 6 p e R s m args below meth c (MQ below (QcS Z Rp) args s 0 0 (fun a => Z.2.2.1 < a))) Rp) := by
  unfold w_X12_times_138
  refine s_iinc (n := 1) C (by decide +kernel) (by decide) ?_
  exact s_goto (off := (-65)) (tgt := 76) C (by decide +kernel) (by decide) (fun _ _ _ _ _ _ h => h)
set_option maxRecDepth 20000 in
theorem b_X12_times_144 {Z : Zt} {d : Nat} {p : Program} {e : Env} {R : Room} {s : State} {m : MethodId} {args : Array Value} {below : List Frame} {meth : Method} {c : Code} {Rp : RT} (C : Cx Z d jX12_times RX12 p R s m args meth c) : Sd Z jX12_times p e R s m args below meth c (MQ below (QcS Z Rp) args s 0 0 (fun a => Z.2.2.1 < a)) 144 (w_X12_times_144 (MS Z d) (Gw Z 6 p e R s m args below meth c (MQ below (QcS Z Rp) args s 0 0 (fun a => Z.2.2.1 < a))) Rp) := by
  unfold w_X12_times_144
  exact s_vret C rfl (by decide +kernel)
theorem ms_X12_times {Z : Zt} {d : Nat} {S : Sh} {μ : Mi} {ρ : Mr} {Rp : RT} (a0 : Nat) (x1 : Int32) (x2 : Int32) (h : ∀ G : Nat → PT, (∀ (L st : List Value) (S : Sh) (q : Nat × Nat) (μ : Mi) (ρ : Mr), w_X12_times_34 (MS Z d) G Rp L st S q μ ρ → G 34 L st S q μ ρ) → (∀ (L st : List Value) (S : Sh) (q : Nat × Nat) (μ : Mi) (ρ : Mr), w_X12_times_61 (MS Z d) G Rp L st S q μ ρ → G 61 L st S q μ ρ) → (∀ (L st : List Value) (S : Sh) (q : Nat × Nat) (μ : Mi) (ρ : Mr), w_X12_times_76 (MS Z d) G Rp L st S q μ ρ → G 76 L st S q μ ρ) → (∀ (L st : List Value) (S : Sh) (q : Nat × Nat) (μ : Mi) (ρ : Mr), w_X12_times_86 (MS Z d) G Rp L st S q μ ρ → G 86 L st S q μ ρ) → (∀ (L st : List Value) (S : Sh) (q : Nat × Nat) (μ : Mi) (ρ : Mr), w_X12_times_87 (MS Z d) G Rp L st S q μ ρ → G 87 L st S q μ ρ) → (∀ (L st : List Value) (S : Sh) (q : Nat × Nat) (μ : Mi) (ρ : Mr), w_X12_times_138 (MS Z d) G Rp L st S q μ ρ → G 138 L st S q μ ρ) → (∀ (L st : List Value) (S : Sh) (q : Nat × Nat) (μ : Mi) (ρ : Mr), w_X12_times_144 (MS Z d) G Rp L st S q μ ρ → G 144 L st S q μ ρ) → w_X12_times_0 (MS Z d) G Rp [.ref a0, .int x1, .int x2, .null, .null, .null] [] S (0, 0) μ ρ) : MS Z (d + 1) jX12_times [.ref a0, .int x1, .int x2] S μ ρ Rp :=
  MS_of [.ref a0, .int x1, .int x2, .null, .null, .null] (by decide +kernel) rfl rfl (Nat.le_of_ble_eq_true rfl) rfl (fun p e R s m args below meth c C => b_X12_times_0 C _ _ _ _ _ _ (h _ (b_X12_times_34 C) (b_X12_times_61 C) (b_X12_times_76 C) (b_X12_times_86 C) (b_X12_times_87 C) (b_X12_times_138 C) (b_X12_times_144 C)))
def w_X12_does__0 (M : CT) (G : Nat → PT) (Rp : RT) : PT := tAload 0 <| tGetR 12 27 24 <| tConst 0 <| tAld 20 <| tIstore 2 <| tAload 0 <| tGetR 12 27 24 <| tConst 1 <| tAld 20 <| tIstore 3 <| tIload 1 <| tSw [(0, G 92), (1, G 98), (2, G 104), (3, G 118), (4, G 132), (5, G 139), (6, G 146), (7, G 153), (8, G 159), (9, G 165), (10, G 171), (11, G 179), (12, G 187), (13, G 193), (14, G 199), (15, G 205)] (G 211)
def w_X12_does__92 (M : CT) (G : Nat → PT) (Rp : RT) : PT := tAload 0 <| tIload 2 <| tCallV M jX12_actTimeout 12 27 1 <| tIret Rp
def w_X12_does__98 (M : CT) (G : Nat → PT) (Rp : RT) : PT := tAload 0 <| tIload 2 <| tCallV M jX12_actBeat 12 27 1 <| tIret Rp
def w_X12_does__104 (M : CT) (G : Nat → PT) (Rp : RT) : PT := tAload 0 <| tIload 2 <| tConst 1 <| tIload 3 <| tAload 0 <| tGetR 12 27 24 <| tConst 2 <| tAld 20 <| tCallV M jX12_actPropose 12 27 4 <| tIret Rp
def w_X12_does__118 (M : CT) (G : Nat → PT) (Rp : RT) : PT := tAload 0 <| tIload 2 <| tConst 2 <| tIload 3 <| tAload 0 <| tGetR 12 27 24 <| tConst 2 <| tAld 20 <| tCallV M jX12_actPropose 12 27 4 <| tIret Rp
def w_X12_does__132 (M : CT) (G : Nat → PT) (Rp : RT) : PT := tAload 0 <| tIload 2 <| tIload 3 <| tCallV M jX12_actRead 12 27 2 <| tIret Rp
def w_X12_does__139 (M : CT) (G : Nat → PT) (Rp : RT) : PT := tAload 0 <| tIload 2 <| tIload 3 <| tCallV M jX12_actHand 12 27 2 <| tIret Rp
def w_X12_does__146 (M : CT) (G : Nat → PT) (Rp : RT) : PT := tAload 0 <| tIload 2 <| tIload 3 <| tCallV M jX12_actChange 12 27 2 <| tIret Rp
def w_X12_does__153 (M : CT) (G : Nat → PT) (Rp : RT) : PT := tAload 0 <| tIload 2 <| tCallV M jX12_actCompact 12 27 1 <| tIret Rp
def w_X12_does__159 (M : CT) (G : Nat → PT) (Rp : RT) : PT := tAload 0 <| tIload 2 <| tCallV M jX12_actStop 12 27 1 <| tIret Rp
def w_X12_does__165 (M : CT) (G : Nat → PT) (Rp : RT) : PT := tAload 0 <| tIload 2 <| tCallV M jX12_actStart 12 27 1 <| tIret Rp
def w_X12_does__171 (M : CT) (G : Nat → PT) (Rp : RT) : PT := tAload 0 <| tIload 2 <| tIload 3 <| tConst 0 <| tCallV M jX12_actLink 12 27 3 <| tIret Rp
def w_X12_does__179 (M : CT) (G : Nat → PT) (Rp : RT) : PT := tAload 0 <| tIload 2 <| tIload 3 <| tConst 1 <| tCallV M jX12_actLink 12 27 3 <| tIret Rp
def w_X12_does__187 (M : CT) (G : Nat → PT) (Rp : RT) : PT := tAload 0 <| tIload 2 <| tCallV M jX12_actCome 12 27 1 <| tIret Rp
def w_X12_does__193 (M : CT) (G : Nat → PT) (Rp : RT) : PT := tAload 0 <| tIload 2 <| tCallV M jX12_actLose 12 27 1 <| tIret Rp
def w_X12_does__199 (M : CT) (G : Nat → PT) (Rp : RT) : PT := tAload 0 <| tIload 2 <| tCallV M jX12_actTwice 12 27 1 <| tIret Rp
def w_X12_does__205 (M : CT) (G : Nat → PT) (Rp : RT) : PT := tAload 0 <| tIload 2 <| tCallV M jX12_actSettle 12 27 1 <| tIret Rp
def w_X12_does__211 (M : CT) (G : Nat → PT) (Rp : RT) : PT := tAload 0 <| tIload 2 <| tCallV M jX12_actCareful 12 27 1 <| tIret Rp
set_option maxRecDepth 20000 in
theorem b_X12_does__0 {Z : Zt} {d : Nat} {p : Program} {e : Env} {R : Room} {s : State} {m : MethodId} {args : Array Value} {below : List Frame} {meth : Method} {c : Code} {Rp : RT} (C : Cx Z d jX12_does_ RX12 p R s m args meth c) : Sd Z jX12_does_ p e R s m args below meth c (MQ below (QcS Z Rp) args s 0 0 (fun a => Z.2.2.1 < a)) 0 (w_X12_does__0 (MS Z d) (Gw Z 4 p e R s m args below meth c (MQ below (QcS Z Rp) args s 0 0 (fun a => Z.2.2.1 < a))) Rp) := by
  unfold w_X12_does__0
  refine s_aload_n (k := 0) C (by decide +kernel) ?_
  refine s_getR C w_6_111 (by decide +kernel) rfl ?_
  refine s_iconst (n := 0) C (by decide +kernel) (by decide) ?_
  refine s_iald C (by decide +kernel) ?_
  refine s_istore_n (k := 2) C (by decide +kernel) ?_
  refine s_aload_n (k := 0) C (by decide +kernel) ?_
  refine s_getR C w_6_111 (by decide +kernel) rfl ?_
  refine s_iconst (n := 1) C (by decide +kernel) (by decide) ?_
  refine s_iald C (by decide +kernel) ?_
  refine s_istore_n (k := 3) C (by decide +kernel) ?_
  refine s_iload_n (k := 1) C (by decide +kernel) ?_
  refine s_tsw (df := 196) (lo := 0) (hi := 15) (offs := #[77, 83, 89, 103, 117, 124, 131, 138, 144, 150, 156, 164, 172, 178, 184, 190]) (len := 77) (tgt := 211) C (by decide +kernel) (by decide) (fun _ _ _ _ _ _ h => h) (fun i r h => ?_) (fun x h => tsw_out 16 x (fun q hq => ?_))
  · match i, h with
    | 0, h => cases h; dsimp only; exact ⟨by decide, by decide, 77, 92, by rfl, by decide, (fun _ _ _ _ _ _ h => h)⟩
    | 1, h => cases h; dsimp only; exact ⟨by decide, by decide, 83, 98, by rfl, by decide, (fun _ _ _ _ _ _ h => h)⟩
    | 2, h => cases h; dsimp only; exact ⟨by decide, by decide, 89, 104, by rfl, by decide, (fun _ _ _ _ _ _ h => h)⟩
    | 3, h => cases h; dsimp only; exact ⟨by decide, by decide, 103, 118, by rfl, by decide, (fun _ _ _ _ _ _ h => h)⟩
    | 4, h => cases h; dsimp only; exact ⟨by decide, by decide, 117, 132, by rfl, by decide, (fun _ _ _ _ _ _ h => h)⟩
    | 5, h => cases h; dsimp only; exact ⟨by decide, by decide, 124, 139, by rfl, by decide, (fun _ _ _ _ _ _ h => h)⟩
    | 6, h => cases h; dsimp only; exact ⟨by decide, by decide, 131, 146, by rfl, by decide, (fun _ _ _ _ _ _ h => h)⟩
    | 7, h => cases h; dsimp only; exact ⟨by decide, by decide, 138, 153, by rfl, by decide, (fun _ _ _ _ _ _ h => h)⟩
    | 8, h => cases h; dsimp only; exact ⟨by decide, by decide, 144, 159, by rfl, by decide, (fun _ _ _ _ _ _ h => h)⟩
    | 9, h => cases h; dsimp only; exact ⟨by decide, by decide, 150, 165, by rfl, by decide, (fun _ _ _ _ _ _ h => h)⟩
    | 10, h => cases h; dsimp only; exact ⟨by decide, by decide, 156, 171, by rfl, by decide, (fun _ _ _ _ _ _ h => h)⟩
    | 11, h => cases h; dsimp only; exact ⟨by decide, by decide, 164, 179, by rfl, by decide, (fun _ _ _ _ _ _ h => h)⟩
    | 12, h => cases h; dsimp only; exact ⟨by decide, by decide, 172, 187, by rfl, by decide, (fun _ _ _ _ _ _ h => h)⟩
    | 13, h => cases h; dsimp only; exact ⟨by decide, by decide, 178, 193, by rfl, by decide, (fun _ _ _ _ _ _ h => h)⟩
    | 14, h => cases h; dsimp only; exact ⟨by decide, by decide, 184, 199, by rfl, by decide, (fun _ _ _ _ _ _ h => h)⟩
    | 15, h => cases h; dsimp only; exact ⟨by decide, by decide, 190, 205, by rfl, by decide, (fun _ _ _ _ _ _ h => h)⟩
    | q + 16, h => simp at h
  · match q, hq with
    | 0, _ => exact h _ (List.mem_of_getElem? (i := 0) rfl)
    | 1, _ => exact h _ (List.mem_of_getElem? (i := 1) rfl)
    | 2, _ => exact h _ (List.mem_of_getElem? (i := 2) rfl)
    | 3, _ => exact h _ (List.mem_of_getElem? (i := 3) rfl)
    | 4, _ => exact h _ (List.mem_of_getElem? (i := 4) rfl)
    | 5, _ => exact h _ (List.mem_of_getElem? (i := 5) rfl)
    | 6, _ => exact h _ (List.mem_of_getElem? (i := 6) rfl)
    | 7, _ => exact h _ (List.mem_of_getElem? (i := 7) rfl)
    | 8, _ => exact h _ (List.mem_of_getElem? (i := 8) rfl)
    | 9, _ => exact h _ (List.mem_of_getElem? (i := 9) rfl)
    | 10, _ => exact h _ (List.mem_of_getElem? (i := 10) rfl)
    | 11, _ => exact h _ (List.mem_of_getElem? (i := 11) rfl)
    | 12, _ => exact h _ (List.mem_of_getElem? (i := 12) rfl)
    | 13, _ => exact h _ (List.mem_of_getElem? (i := 13) rfl)
    | 14, _ => exact h _ (List.mem_of_getElem? (i := 14) rfl)
    | 15, _ => exact h _ (List.mem_of_getElem? (i := 15) rfl)
    | q + 16, hq => exact absurd hq (by omega)
set_option maxRecDepth 20000 in
theorem b_X12_does__92 {Z : Zt} {d : Nat} {p : Program} {e : Env} {R : Room} {s : State} {m : MethodId} {args : Array Value} {below : List Frame} {meth : Method} {c : Code} {Rp : RT} (C : Cx Z d jX12_does_ RX12 p R s m args meth c) : Sd Z jX12_does_ p e R s m args below meth c (MQ below (QcS Z Rp) args s 0 0 (fun a => Z.2.2.1 < a)) 92 (w_X12_does__92 (MS Z d) (Gw Z 4 p e R s m args below meth c (MQ below (QcS Z Rp) args s 0 0 (fun a => Z.2.2.1 < a))) Rp) := by
  unfold w_X12_does__92
  refine s_aload_n (k := 0) C (by decide +kernel) ?_
  refine s_iload_n (k := 2) C (by decide +kernel) ?_
  refine s_callV C rfl rfl (by decide +kernel) rfl w_6_204 w_6_206 w_p3_8 w_1_13 w_6_207 (by decide +kernel) ?_
  exact s_iret C rfl (by decide +kernel)
set_option maxRecDepth 20000 in
theorem b_X12_does__98 {Z : Zt} {d : Nat} {p : Program} {e : Env} {R : Room} {s : State} {m : MethodId} {args : Array Value} {below : List Frame} {meth : Method} {c : Code} {Rp : RT} (C : Cx Z d jX12_does_ RX12 p R s m args meth c) : Sd Z jX12_does_ p e R s m args below meth c (MQ below (QcS Z Rp) args s 0 0 (fun a => Z.2.2.1 < a)) 98 (w_X12_does__98 (MS Z d) (Gw Z 4 p e R s m args below meth c (MQ below (QcS Z Rp) args s 0 0 (fun a => Z.2.2.1 < a))) Rp) := by
  unfold w_X12_does__98
  refine s_aload_n (k := 0) C (by decide +kernel) ?_
  refine s_iload_n (k := 2) C (by decide +kernel) ?_
  refine s_callV C rfl rfl (by decide +kernel) rfl w_7_77 w_7_79 w_p5_0 w_1_13 w_7_80 (by decide +kernel) ?_
  exact s_iret C rfl (by decide +kernel)
set_option maxRecDepth 20000 in
theorem b_X12_does__104 {Z : Zt} {d : Nat} {p : Program} {e : Env} {R : Room} {s : State} {m : MethodId} {args : Array Value} {below : List Frame} {meth : Method} {c : Code} {Rp : RT} (C : Cx Z d jX12_does_ RX12 p R s m args meth c) : Sd Z jX12_does_ p e R s m args below meth c (MQ below (QcS Z Rp) args s 0 0 (fun a => Z.2.2.1 < a)) 104 (w_X12_does__104 (MS Z d) (Gw Z 4 p e R s m args below meth c (MQ below (QcS Z Rp) args s 0 0 (fun a => Z.2.2.1 < a))) Rp) := by
  unfold w_X12_does__104
  refine s_aload_n (k := 0) C (by decide +kernel) ?_
  refine s_iload_n (k := 2) C (by decide +kernel) ?_
  refine s_iconst (n := 1) C (by decide +kernel) (by decide) ?_
  refine s_iload_n (k := 3) C (by decide +kernel) ?_
  refine s_aload_n (k := 0) C (by decide +kernel) ?_
  refine s_getR C w_6_111 (by decide +kernel) rfl ?_
  refine s_iconst (n := 2) C (by decide +kernel) (by decide) ?_
  refine s_iald C (by decide +kernel) ?_
  refine s_callV C rfl rfl (by decide +kernel) rfl w_7_85 w_7_87 w_p5_1 w_1_13 w_7_88 (by decide +kernel) ?_
  exact s_iret C rfl (by decide +kernel)
set_option maxRecDepth 20000 in
theorem b_X12_does__118 {Z : Zt} {d : Nat} {p : Program} {e : Env} {R : Room} {s : State} {m : MethodId} {args : Array Value} {below : List Frame} {meth : Method} {c : Code} {Rp : RT} (C : Cx Z d jX12_does_ RX12 p R s m args meth c) : Sd Z jX12_does_ p e R s m args below meth c (MQ below (QcS Z Rp) args s 0 0 (fun a => Z.2.2.1 < a)) 118 (w_X12_does__118 (MS Z d) (Gw Z 4 p e R s m args below meth c (MQ below (QcS Z Rp) args s 0 0 (fun a => Z.2.2.1 < a))) Rp) := by
  unfold w_X12_does__118
  refine s_aload_n (k := 0) C (by decide +kernel) ?_
  refine s_iload_n (k := 2) C (by decide +kernel) ?_
  refine s_iconst (n := 2) C (by decide +kernel) (by decide) ?_
  refine s_iload_n (k := 3) C (by decide +kernel) ?_
  refine s_aload_n (k := 0) C (by decide +kernel) ?_
  refine s_getR C w_6_111 (by decide +kernel) rfl ?_
  refine s_iconst (n := 2) C (by decide +kernel) (by decide) ?_
  refine s_iald C (by decide +kernel) ?_
  refine s_callV C rfl rfl (by decide +kernel) rfl w_7_85 w_7_87 w_p5_1 w_1_13 w_7_88 (by decide +kernel) ?_
  exact s_iret C rfl (by decide +kernel)
set_option maxRecDepth 20000 in
theorem b_X12_does__132 {Z : Zt} {d : Nat} {p : Program} {e : Env} {R : Room} {s : State} {m : MethodId} {args : Array Value} {below : List Frame} {meth : Method} {c : Code} {Rp : RT} (C : Cx Z d jX12_does_ RX12 p R s m args meth c) : Sd Z jX12_does_ p e R s m args below meth c (MQ below (QcS Z Rp) args s 0 0 (fun a => Z.2.2.1 < a)) 132 (w_X12_does__132 (MS Z d) (Gw Z 4 p e R s m args below meth c (MQ below (QcS Z Rp) args s 0 0 (fun a => Z.2.2.1 < a))) Rp) := by
  unfold w_X12_does__132
  refine s_aload_n (k := 0) C (by decide +kernel) ?_
  refine s_iload_n (k := 2) C (by decide +kernel) ?_
  refine s_iload_n (k := 3) C (by decide +kernel) ?_
  refine s_callV C rfl rfl (by decide +kernel) rfl w_7_104 w_7_106 w_p5_3 w_1_13 w_7_107 (by decide +kernel) ?_
  exact s_iret C rfl (by decide +kernel)
set_option maxRecDepth 20000 in
theorem b_X12_does__139 {Z : Zt} {d : Nat} {p : Program} {e : Env} {R : Room} {s : State} {m : MethodId} {args : Array Value} {below : List Frame} {meth : Method} {c : Code} {Rp : RT} (C : Cx Z d jX12_does_ RX12 p R s m args meth c) : Sd Z jX12_does_ p e R s m args below meth c (MQ below (QcS Z Rp) args s 0 0 (fun a => Z.2.2.1 < a)) 139 (w_X12_does__139 (MS Z d) (Gw Z 4 p e R s m args below meth c (MQ below (QcS Z Rp) args s 0 0 (fun a => Z.2.2.1 < a))) Rp) := by
  unfold w_X12_does__139
  refine s_aload_n (k := 0) C (by decide +kernel) ?_
  refine s_iload_n (k := 2) C (by decide +kernel) ?_
  refine s_iload_n (k := 3) C (by decide +kernel) ?_
  refine s_callV C rfl rfl (by decide +kernel) rfl w_7_116 w_7_118 w_p5_5 w_1_13 w_7_119 (by decide +kernel) ?_
  exact s_iret C rfl (by decide +kernel)
set_option maxRecDepth 20000 in
theorem b_X12_does__146 {Z : Zt} {d : Nat} {p : Program} {e : Env} {R : Room} {s : State} {m : MethodId} {args : Array Value} {below : List Frame} {meth : Method} {c : Code} {Rp : RT} (C : Cx Z d jX12_does_ RX12 p R s m args meth c) : Sd Z jX12_does_ p e R s m args below meth c (MQ below (QcS Z Rp) args s 0 0 (fun a => Z.2.2.1 < a)) 146 (w_X12_does__146 (MS Z d) (Gw Z 4 p e R s m args below meth c (MQ below (QcS Z Rp) args s 0 0 (fun a => Z.2.2.1 < a))) Rp) := by
  unfold w_X12_does__146
  refine s_aload_n (k := 0) C (by decide +kernel) ?_
  refine s_iload_n (k := 2) C (by decide +kernel) ?_
  refine s_iload_n (k := 3) C (by decide +kernel) ?_
  refine s_callV C rfl rfl (by decide +kernel) rfl w_7_124 w_7_126 w_p5_6 w_1_13 w_7_127 (by decide +kernel) ?_
  exact s_iret C rfl (by decide +kernel)
set_option maxRecDepth 20000 in
theorem b_X12_does__153 {Z : Zt} {d : Nat} {p : Program} {e : Env} {R : Room} {s : State} {m : MethodId} {args : Array Value} {below : List Frame} {meth : Method} {c : Code} {Rp : RT} (C : Cx Z d jX12_does_ RX12 p R s m args meth c) : Sd Z jX12_does_ p e R s m args below meth c (MQ below (QcS Z Rp) args s 0 0 (fun a => Z.2.2.1 < a)) 153 (w_X12_does__153 (MS Z d) (Gw Z 4 p e R s m args below meth c (MQ below (QcS Z Rp) args s 0 0 (fun a => Z.2.2.1 < a))) Rp) := by
  unfold w_X12_does__153
  refine s_aload_n (k := 0) C (by decide +kernel) ?_
  refine s_iload_n (k := 2) C (by decide +kernel) ?_
  refine s_callV C rfl rfl (by decide +kernel) rfl w_7_132 w_7_134 w_p5_7 w_1_13 w_7_135 (by decide +kernel) ?_
  exact s_iret C rfl (by decide +kernel)
set_option maxRecDepth 20000 in
theorem b_X12_does__159 {Z : Zt} {d : Nat} {p : Program} {e : Env} {R : Room} {s : State} {m : MethodId} {args : Array Value} {below : List Frame} {meth : Method} {c : Code} {Rp : RT} (C : Cx Z d jX12_does_ RX12 p R s m args meth c) : Sd Z jX12_does_ p e R s m args below meth c (MQ below (QcS Z Rp) args s 0 0 (fun a => Z.2.2.1 < a)) 159 (w_X12_does__159 (MS Z d) (Gw Z 4 p e R s m args below meth c (MQ below (QcS Z Rp) args s 0 0 (fun a => Z.2.2.1 < a))) Rp) := by
  unfold w_X12_does__159
  refine s_aload_n (k := 0) C (by decide +kernel) ?_
  refine s_iload_n (k := 2) C (by decide +kernel) ?_
  refine s_callV C rfl rfl (by decide +kernel) rfl w_7_140 w_7_142 w_p5_8 w_1_13 w_7_143 (by decide +kernel) ?_
  exact s_iret C rfl (by decide +kernel)
set_option maxRecDepth 20000 in
theorem b_X12_does__165 {Z : Zt} {d : Nat} {p : Program} {e : Env} {R : Room} {s : State} {m : MethodId} {args : Array Value} {below : List Frame} {meth : Method} {c : Code} {Rp : RT} (C : Cx Z d jX12_does_ RX12 p R s m args meth c) : Sd Z jX12_does_ p e R s m args below meth c (MQ below (QcS Z Rp) args s 0 0 (fun a => Z.2.2.1 < a)) 165 (w_X12_does__165 (MS Z d) (Gw Z 4 p e R s m args below meth c (MQ below (QcS Z Rp) args s 0 0 (fun a => Z.2.2.1 < a))) Rp) := by
  unfold w_X12_does__165
  refine s_aload_n (k := 0) C (by decide +kernel) ?_
  refine s_iload_n (k := 2) C (by decide +kernel) ?_
  refine s_callV C rfl rfl (by decide +kernel) rfl w_7_148 w_7_150 w_p5_9 w_1_13 w_7_151 (by decide +kernel) ?_
  exact s_iret C rfl (by decide +kernel)
set_option maxRecDepth 20000 in
theorem b_X12_does__171 {Z : Zt} {d : Nat} {p : Program} {e : Env} {R : Room} {s : State} {m : MethodId} {args : Array Value} {below : List Frame} {meth : Method} {c : Code} {Rp : RT} (C : Cx Z d jX12_does_ RX12 p R s m args meth c) : Sd Z jX12_does_ p e R s m args below meth c (MQ below (QcS Z Rp) args s 0 0 (fun a => Z.2.2.1 < a)) 171 (w_X12_does__171 (MS Z d) (Gw Z 4 p e R s m args below meth c (MQ below (QcS Z Rp) args s 0 0 (fun a => Z.2.2.1 < a))) Rp) := by
  unfold w_X12_does__171
  refine s_aload_n (k := 0) C (by decide +kernel) ?_
  refine s_iload_n (k := 2) C (by decide +kernel) ?_
  refine s_iload_n (k := 3) C (by decide +kernel) ?_
  refine s_iconst (n := 0) C (by decide +kernel) (by decide) ?_
  refine s_callV C rfl rfl (by decide +kernel) rfl w_7_156 w_7_158 w_p5_10 w_1_13 w_7_159 (by decide +kernel) ?_
  exact s_iret C rfl (by decide +kernel)
set_option maxRecDepth 20000 in
theorem b_X12_does__179 {Z : Zt} {d : Nat} {p : Program} {e : Env} {R : Room} {s : State} {m : MethodId} {args : Array Value} {below : List Frame} {meth : Method} {c : Code} {Rp : RT} (C : Cx Z d jX12_does_ RX12 p R s m args meth c) : Sd Z jX12_does_ p e R s m args below meth c (MQ below (QcS Z Rp) args s 0 0 (fun a => Z.2.2.1 < a)) 179 (w_X12_does__179 (MS Z d) (Gw Z 4 p e R s m args below meth c (MQ below (QcS Z Rp) args s 0 0 (fun a => Z.2.2.1 < a))) Rp) := by
  unfold w_X12_does__179
  refine s_aload_n (k := 0) C (by decide +kernel) ?_
  refine s_iload_n (k := 2) C (by decide +kernel) ?_
  refine s_iload_n (k := 3) C (by decide +kernel) ?_
  refine s_iconst (n := 1) C (by decide +kernel) (by decide) ?_
  refine s_callV C rfl rfl (by decide +kernel) rfl w_7_156 w_7_158 w_p5_10 w_1_13 w_7_159 (by decide +kernel) ?_
  exact s_iret C rfl (by decide +kernel)
set_option maxRecDepth 20000 in
theorem b_X12_does__187 {Z : Zt} {d : Nat} {p : Program} {e : Env} {R : Room} {s : State} {m : MethodId} {args : Array Value} {below : List Frame} {meth : Method} {c : Code} {Rp : RT} (C : Cx Z d jX12_does_ RX12 p R s m args meth c) : Sd Z jX12_does_ p e R s m args below meth c (MQ below (QcS Z Rp) args s 0 0 (fun a => Z.2.2.1 < a)) 187 (w_X12_does__187 (MS Z d) (Gw Z 4 p e R s m args below meth c (MQ below (QcS Z Rp) args s 0 0 (fun a => Z.2.2.1 < a))) Rp) := by
  unfold w_X12_does__187
  refine s_aload_n (k := 0) C (by decide +kernel) ?_
  refine s_iload_n (k := 2) C (by decide +kernel) ?_
  refine s_callV C rfl rfl (by decide +kernel) rfl w_7_164 w_7_166 w_p5_11 w_1_13 w_7_167 (by decide +kernel) ?_
  exact s_iret C rfl (by decide +kernel)
set_option maxRecDepth 20000 in
theorem b_X12_does__193 {Z : Zt} {d : Nat} {p : Program} {e : Env} {R : Room} {s : State} {m : MethodId} {args : Array Value} {below : List Frame} {meth : Method} {c : Code} {Rp : RT} (C : Cx Z d jX12_does_ RX12 p R s m args meth c) : Sd Z jX12_does_ p e R s m args below meth c (MQ below (QcS Z Rp) args s 0 0 (fun a => Z.2.2.1 < a)) 193 (w_X12_does__193 (MS Z d) (Gw Z 4 p e R s m args below meth c (MQ below (QcS Z Rp) args s 0 0 (fun a => Z.2.2.1 < a))) Rp) := by
  unfold w_X12_does__193
  refine s_aload_n (k := 0) C (by decide +kernel) ?_
  refine s_iload_n (k := 2) C (by decide +kernel) ?_
  refine s_callV C rfl rfl (by decide +kernel) rfl w_8_0 w_8_2 w_p6_13 w_1_13 w_8_3 (by decide +kernel) ?_
  exact s_iret C rfl (by decide +kernel)
set_option maxRecDepth 20000 in
theorem b_X12_does__199 {Z : Zt} {d : Nat} {p : Program} {e : Env} {R : Room} {s : State} {m : MethodId} {args : Array Value} {below : List Frame} {meth : Method} {c : Code} {Rp : RT} (C : Cx Z d jX12_does_ RX12 p R s m args meth c) : Sd Z jX12_does_ p e R s m args below meth c (MQ below (QcS Z Rp) args s 0 0 (fun a => Z.2.2.1 < a)) 199 (w_X12_does__199 (MS Z d) (Gw Z 4 p e R s m args below meth c (MQ below (QcS Z Rp) args s 0 0 (fun a => Z.2.2.1 < a))) Rp) := by
  unfold w_X12_does__199
  refine s_aload_n (k := 0) C (by decide +kernel) ?_
  refine s_iload_n (k := 2) C (by decide +kernel) ?_
  refine s_callV C rfl rfl (by decide +kernel) rfl w_8_8 w_8_10 w_p6_14 w_1_13 w_8_11 (by decide +kernel) ?_
  exact s_iret C rfl (by decide +kernel)
set_option maxRecDepth 20000 in
theorem b_X12_does__205 {Z : Zt} {d : Nat} {p : Program} {e : Env} {R : Room} {s : State} {m : MethodId} {args : Array Value} {below : List Frame} {meth : Method} {c : Code} {Rp : RT} (C : Cx Z d jX12_does_ RX12 p R s m args meth c) : Sd Z jX12_does_ p e R s m args below meth c (MQ below (QcS Z Rp) args s 0 0 (fun a => Z.2.2.1 < a)) 205 (w_X12_does__205 (MS Z d) (Gw Z 4 p e R s m args below meth c (MQ below (QcS Z Rp) args s 0 0 (fun a => Z.2.2.1 < a))) Rp) := by
  unfold w_X12_does__205
  refine s_aload_n (k := 0) C (by decide +kernel) ?_
  refine s_iload_n (k := 2) C (by decide +kernel) ?_
  refine s_callV C rfl rfl (by decide +kernel) rfl w_8_16 w_8_18 w_p6_15 w_1_13 w_8_19 (by decide +kernel) ?_
  exact s_iret C rfl (by decide +kernel)
set_option maxRecDepth 20000 in
theorem b_X12_does__211 {Z : Zt} {d : Nat} {p : Program} {e : Env} {R : Room} {s : State} {m : MethodId} {args : Array Value} {below : List Frame} {meth : Method} {c : Code} {Rp : RT} (C : Cx Z d jX12_does_ RX12 p R s m args meth c) : Sd Z jX12_does_ p e R s m args below meth c (MQ below (QcS Z Rp) args s 0 0 (fun a => Z.2.2.1 < a)) 211 (w_X12_does__211 (MS Z d) (Gw Z 4 p e R s m args below meth c (MQ below (QcS Z Rp) args s 0 0 (fun a => Z.2.2.1 < a))) Rp) := by
  unfold w_X12_does__211
  refine s_aload_n (k := 0) C (by decide +kernel) ?_
  refine s_iload_n (k := 2) C (by decide +kernel) ?_
  refine s_callV C rfl rfl (by decide +kernel) rfl w_6_196 w_6_198 w_p3_7 w_1_13 w_6_199 (by decide +kernel) ?_
  exact s_iret C rfl (by decide +kernel)
theorem ms_X12_does_ {Z : Zt} {d : Nat} {S : Sh} {μ : Mi} {ρ : Mr} {Rp : RT} (a0 : Nat) (x1 : Int32) (h : ∀ G : Nat → PT, (∀ (L st : List Value) (S : Sh) (q : Nat × Nat) (μ : Mi) (ρ : Mr), w_X12_does__92 (MS Z d) G Rp L st S q μ ρ → G 92 L st S q μ ρ) → (∀ (L st : List Value) (S : Sh) (q : Nat × Nat) (μ : Mi) (ρ : Mr), w_X12_does__98 (MS Z d) G Rp L st S q μ ρ → G 98 L st S q μ ρ) → (∀ (L st : List Value) (S : Sh) (q : Nat × Nat) (μ : Mi) (ρ : Mr), w_X12_does__104 (MS Z d) G Rp L st S q μ ρ → G 104 L st S q μ ρ) → (∀ (L st : List Value) (S : Sh) (q : Nat × Nat) (μ : Mi) (ρ : Mr), w_X12_does__118 (MS Z d) G Rp L st S q μ ρ → G 118 L st S q μ ρ) → (∀ (L st : List Value) (S : Sh) (q : Nat × Nat) (μ : Mi) (ρ : Mr), w_X12_does__132 (MS Z d) G Rp L st S q μ ρ → G 132 L st S q μ ρ) → (∀ (L st : List Value) (S : Sh) (q : Nat × Nat) (μ : Mi) (ρ : Mr), w_X12_does__139 (MS Z d) G Rp L st S q μ ρ → G 139 L st S q μ ρ) → (∀ (L st : List Value) (S : Sh) (q : Nat × Nat) (μ : Mi) (ρ : Mr), w_X12_does__146 (MS Z d) G Rp L st S q μ ρ → G 146 L st S q μ ρ) → (∀ (L st : List Value) (S : Sh) (q : Nat × Nat) (μ : Mi) (ρ : Mr), w_X12_does__153 (MS Z d) G Rp L st S q μ ρ → G 153 L st S q μ ρ) → (∀ (L st : List Value) (S : Sh) (q : Nat × Nat) (μ : Mi) (ρ : Mr), w_X12_does__159 (MS Z d) G Rp L st S q μ ρ → G 159 L st S q μ ρ) → (∀ (L st : List Value) (S : Sh) (q : Nat × Nat) (μ : Mi) (ρ : Mr), w_X12_does__165 (MS Z d) G Rp L st S q μ ρ → G 165 L st S q μ ρ) → (∀ (L st : List Value) (S : Sh) (q : Nat × Nat) (μ : Mi) (ρ : Mr), w_X12_does__171 (MS Z d) G Rp L st S q μ ρ → G 171 L st S q μ ρ) → (∀ (L st : List Value) (S : Sh) (q : Nat × Nat) (μ : Mi) (ρ : Mr), w_X12_does__179 (MS Z d) G Rp L st S q μ ρ → G 179 L st S q μ ρ) → (∀ (L st : List Value) (S : Sh) (q : Nat × Nat) (μ : Mi) (ρ : Mr), w_X12_does__187 (MS Z d) G Rp L st S q μ ρ → G 187 L st S q μ ρ) → (∀ (L st : List Value) (S : Sh) (q : Nat × Nat) (μ : Mi) (ρ : Mr), w_X12_does__193 (MS Z d) G Rp L st S q μ ρ → G 193 L st S q μ ρ) → (∀ (L st : List Value) (S : Sh) (q : Nat × Nat) (μ : Mi) (ρ : Mr), w_X12_does__199 (MS Z d) G Rp L st S q μ ρ → G 199 L st S q μ ρ) → (∀ (L st : List Value) (S : Sh) (q : Nat × Nat) (μ : Mi) (ρ : Mr), w_X12_does__205 (MS Z d) G Rp L st S q μ ρ → G 205 L st S q μ ρ) → (∀ (L st : List Value) (S : Sh) (q : Nat × Nat) (μ : Mi) (ρ : Mr), w_X12_does__211 (MS Z d) G Rp L st S q μ ρ → G 211 L st S q μ ρ) → w_X12_does__0 (MS Z d) G Rp [.ref a0, .int x1, .null, .null] [] S (0, 0) μ ρ) : MS Z (d + 1) jX12_does_ [.ref a0, .int x1] S μ ρ Rp :=
  MS_of [.ref a0, .int x1, .null, .null] (by decide +kernel) rfl rfl (Nat.le_of_ble_eq_true rfl) rfl (fun p e R s m args below meth c C => b_X12_does__0 C _ _ _ _ _ _ (h _ (b_X12_does__92 C) (b_X12_does__98 C) (b_X12_does__104 C) (b_X12_does__118 C) (b_X12_does__132 C) (b_X12_does__139 C) (b_X12_does__146 C) (b_X12_does__153 C) (b_X12_does__159 C) (b_X12_does__165 C) (b_X12_does__171 C) (b_X12_does__179 C) (b_X12_does__187 C) (b_X12_does__193 C) (b_X12_does__199 C) (b_X12_does__205 C) (b_X12_does__211 C)))
def w_X12_act_0 (M : CT) (G : Nat → PT) (Rp : RT) : PT := tAload 0 <| tIload 1 <| tCallV M jX12_does_ 12 27 1 <| tIstore 2 <| tIload 2 <| tIf (fun x => 0 ≤ x) (G 29) <| tAload 0 <| tIload 2 <| tPutI 12 27 19 <| tAload 0 <| tAload 0 <| tGetI 12 27 23 <| tPutI 12 27 20 <| tAload 0 <| tConst 1 <| tPutZ 12 27 26 <| tVret Rp
def w_X12_act_29 (M : CT) (G : Nat → PT) (Rp : RT) : PT := tAload 0 <| tDup <| tGetI 12 27 21 <| tConst 1 <| tBin (fun x y => x + y) <| tPutI 12 27 21 <| tAload 0 <| tAload 0 <| tGetI 12 27 21 <| tConst 400 <| tIf2 (fun x y => x ≠ y) (G 54) <| tConst 1 <| tGoto (G 55)
def w_X12_act_54 (M : CT) (G : Nat → PT) (Rp : RT) : PT := tConst 0 <| G 55
def w_X12_act_55 (M : CT) (G : Nat → PT) (Rp : RT) : PT := tPutZ 12 27 26 <| tVret Rp
set_option maxRecDepth 20000 in
theorem b_X12_act_0 {Z : Zt} {d : Nat} {p : Program} {e : Env} {R : Room} {s : State} {m : MethodId} {args : Array Value} {below : List Frame} {meth : Method} {c : Code} {Rp : RT} (C : Cx Z d jX12_act RX12 p R s m args meth c) : Sd Z jX12_act p e R s m args below meth c (MQ below (QcS Z Rp) args s 0 0 (fun a => Z.2.2.1 < a)) 0 (w_X12_act_0 (MS Z d) (Gw Z 3 p e R s m args below meth c (MQ below (QcS Z Rp) args s 0 0 (fun a => Z.2.2.1 < a))) Rp) := by
  unfold w_X12_act_0
  refine s_aload_n (k := 0) C (by decide +kernel) ?_
  refine s_iload_n (k := 1) C (by decide +kernel) ?_
  refine s_callV C rfl rfl (by decide +kernel) rfl w_8_81 w_8_83 w_p7_11 w_1_13 w_8_84 (by decide +kernel) ?_
  refine s_istore_n (k := 2) C (by decide +kernel) ?_
  refine s_iload_n (k := 2) C (by decide +kernel) ?_
  refine s_if_ge (off := 22) (tgt := 29) C (by decide +kernel) (by decide) (fun _ _ _ _ _ _ h => h) ?_
  refine s_aload_n (k := 0) C (by decide +kernel) ?_
  refine s_iload_n (k := 2) C (by decide +kernel) ?_
  refine s_putI C w_6_106 (by decide +kernel) rfl (Or.inl rfl) ?_
  refine s_aload_n (k := 0) C (by decide +kernel) ?_
  refine s_aload_n (k := 0) C (by decide +kernel) ?_
  refine s_getI C w_6_110 (by decide +kernel) rfl ?_
  refine s_putI C w_6_107 (by decide +kernel) rfl (Or.inl rfl) ?_
  refine s_aload_n (k := 0) C (by decide +kernel) ?_
  refine s_iconst (n := 1) C (by decide +kernel) (by decide) ?_
  refine s_putZ C w_6_113 (by decide +kernel) rfl (Or.inl rfl) ?_
  exact s_vret C rfl (by decide +kernel)
set_option maxRecDepth 20000 in
theorem b_X12_act_29 {Z : Zt} {d : Nat} {p : Program} {e : Env} {R : Room} {s : State} {m : MethodId} {args : Array Value} {below : List Frame} {meth : Method} {c : Code} {Rp : RT} (C : Cx Z d jX12_act RX12 p R s m args meth c) : Sd Z jX12_act p e R s m args below meth c (MQ below (QcS Z Rp) args s 0 0 (fun a => Z.2.2.1 < a)) 29 (w_X12_act_29 (MS Z d) (Gw Z 3 p e R s m args below meth c (MQ below (QcS Z Rp) args s 0 0 (fun a => Z.2.2.1 < a))) Rp) := by
  unfold w_X12_act_29
  refine s_aload_n (k := 0) C (by decide +kernel) ?_
  refine s_dup C (by decide +kernel) ?_
  refine s_getI C w_6_108 (by decide +kernel) rfl ?_
  refine s_iconst (n := 1) C (by decide +kernel) (by decide) ?_
  refine s_iadd C (by decide +kernel) ?_
  refine s_putI C w_6_108 (by decide +kernel) rfl (Or.inl rfl) ?_
  refine s_aload_n (k := 0) C (by decide +kernel) ?_
  refine s_aload_n (k := 0) C (by decide +kernel) ?_
  refine s_getI C w_6_108 (by decide +kernel) rfl ?_
  refine s_sipush (n := 400) C (by decide +kernel) (by decide) ?_
  refine s_icmp_ne (off := 7) (tgt := 54) C (by decide +kernel) (by decide) (fun _ _ _ _ _ _ h => h) ?_
  refine s_iconst (n := 1) C (by decide +kernel) (by decide) ?_
  exact s_goto (off := 4) (tgt := 55) C (by decide +kernel) (by decide) (fun _ _ _ _ _ _ h => h)
set_option maxRecDepth 20000 in
theorem b_X12_act_54 {Z : Zt} {d : Nat} {p : Program} {e : Env} {R : Room} {s : State} {m : MethodId} {args : Array Value} {below : List Frame} {meth : Method} {c : Code} {Rp : RT} (C : Cx Z d jX12_act RX12 p R s m args meth c) : Sd Z jX12_act p e R s m args below meth c (MQ below (QcS Z Rp) args s 0 0 (fun a => Z.2.2.1 < a)) 54 (w_X12_act_54 (MS Z d) (Gw Z 3 p e R s m args below meth c (MQ below (QcS Z Rp) args s 0 0 (fun a => Z.2.2.1 < a))) Rp) := by
  unfold w_X12_act_54
  refine s_iconst (n := 0) C (by decide +kernel) (by decide) ?_
  exact (fun _ _ _ _ _ _ h => h)
set_option maxRecDepth 20000 in
theorem b_X12_act_55 {Z : Zt} {d : Nat} {p : Program} {e : Env} {R : Room} {s : State} {m : MethodId} {args : Array Value} {below : List Frame} {meth : Method} {c : Code} {Rp : RT} (C : Cx Z d jX12_act RX12 p R s m args meth c) : Sd Z jX12_act p e R s m args below meth c (MQ below (QcS Z Rp) args s 0 0 (fun a => Z.2.2.1 < a)) 55 (w_X12_act_55 (MS Z d) (Gw Z 3 p e R s m args below meth c (MQ below (QcS Z Rp) args s 0 0 (fun a => Z.2.2.1 < a))) Rp) := by
  unfold w_X12_act_55
  refine s_putZ C w_6_113 (by decide +kernel) rfl (Or.inl rfl) ?_
  exact s_vret C rfl (by decide +kernel)
theorem ms_X12_act {Z : Zt} {d : Nat} {S : Sh} {μ : Mi} {ρ : Mr} {Rp : RT} (a0 : Nat) (x1 : Int32) (h : ∀ G : Nat → PT, (∀ (L st : List Value) (S : Sh) (q : Nat × Nat) (μ : Mi) (ρ : Mr), w_X12_act_29 (MS Z d) G Rp L st S q μ ρ → G 29 L st S q μ ρ) → (∀ (L st : List Value) (S : Sh) (q : Nat × Nat) (μ : Mi) (ρ : Mr), w_X12_act_54 (MS Z d) G Rp L st S q μ ρ → G 54 L st S q μ ρ) → (∀ (L st : List Value) (S : Sh) (q : Nat × Nat) (μ : Mi) (ρ : Mr), w_X12_act_55 (MS Z d) G Rp L st S q μ ρ → G 55 L st S q μ ρ) → w_X12_act_0 (MS Z d) G Rp [.ref a0, .int x1, .null] [] S (0, 0) μ ρ) : MS Z (d + 1) jX12_act [.ref a0, .int x1] S μ ρ Rp :=
  MS_of [.ref a0, .int x1, .null] (by decide +kernel) rfl rfl (Nat.le_of_ble_eq_true rfl) rfl (fun p e R s m args below meth c C => b_X12_act_0 C _ _ _ _ _ _ (h _ (b_X12_act_29 C) (b_X12_act_54 C) (b_X12_act_55 C)))
def w_X12_script_0 (M : CT) (G : Nat → PT) (Rp : RT) : PT := tAload 0 <| tConst 0 <| tPutI 12 27 0 <| tIload 1 <| tI2l <| tLconst 0 <| tAload 0 <| tGetI 12 27 14 <| tI2l <| tCallS M jX12_within 3 <| tIf (fun x => x ≠ 0) (G 22) <| tConst (-3) <| tIret Rp
def w_X12_script_22 (M : CT) (G : Nat → PT) (Rp : RT) : PT := tAload 0 <| tConst 0 <| tPutI 12 27 14 <| tAload 0 <| tIload 1 <| tPutI 12 27 15 <| tAload 0 <| tConst 0 <| tPutI 12 27 16 <| tAload 0 <| tConst 0 <| tPutI 12 27 17 <| tAload 0 <| tConst (-1) <| tPutI 12 27 18 <| tAload 0 <| tConst 0 <| tPutZ 12 27 26 <| tAload 0 <| tConst 0 <| tConst 0 <| tCallV M jX12_acts 12 27 2 <| tAload 0 <| tGetI 12 27 17 <| tIf (fun x => x ≠ 0) (G 85) <| tAload 0 <| tGetI 12 27 16 <| tAload 0 <| tGetI 12 27 15 <| tIf2 (fun x y => y ≤ x) (G 85) <| tAload 0 <| tConst 1 <| tAload 0 <| tGetI 12 27 16 <| tCallV M jX12_fails 12 27 2 <| G 85
def w_X12_script_85 (M : CT) (G : Nat → PT) (Rp : RT) : PT := tAload 0 <| tGetI 12 27 17 <| tIf (fun x => x = 0) (G 100) <| tConst (-30) <| tAload 0 <| tGetI 12 27 17 <| tBin (fun x y => x - y) <| tIret Rp
def w_X12_script_100 (M : CT) (G : Nat → PT) (Rp : RT) : PT := tAload 0 <| tConst 0 <| tPutI 12 27 16 <| tAload 0 <| tConst 0 <| tPutI 12 27 21 <| tAload 0 <| tConst 0 <| tPutI 12 27 19 <| tAload 0 <| tConst (-1) <| tPutI 12 27 20 <| tAload 0 <| tCallV M jX12_begins 12 27 0 <| tAload 0 <| tConst 0 <| tConst 1 <| tCallV M jX12_acts 12 27 2 <| tAload 0 <| tGetI 12 27 21 <| tIf (fun x => x ≠ 0) (G 141) <| tConst 0 <| tGoto (G 149)
def w_X12_script_141 (M : CT) (G : Nat → PT) (Rp : RT) : PT := tAload 0 <| tAload 0 <| tGetI 12 27 21 <| tCallV M jX12_ends 12 27 1 <| G 149
def w_X12_script_149 (M : CT) (G : Nat → PT) (Rp : RT) : PT := tIret Rp
set_option maxRecDepth 20000 in
theorem b_X12_script_0 {Z : Zt} {d : Nat} {p : Program} {e : Env} {R : Room} {s : State} {m : MethodId} {args : Array Value} {below : List Frame} {meth : Method} {c : Code} {Rp : RT} (C : Cx Z d jX12_script RX12 p R s m args meth c) : Sd Z jX12_script p e R s m args below meth c (MQ below (QcS Z Rp) args s 0 0 (fun a => Z.2.2.1 < a)) 0 (w_X12_script_0 (MS Z d) (Gw Z 2 p e R s m args below meth c (MQ below (QcS Z Rp) args s 0 0 (fun a => Z.2.2.1 < a))) Rp) := by
  unfold w_X12_script_0
  refine s_aload_n (k := 0) C (by decide +kernel) ?_
  refine s_iconst (n := 0) C (by decide +kernel) (by decide) ?_
  refine s_putI C w_6_87 (by decide +kernel) rfl (Or.inl rfl) ?_
  refine s_iload_n (k := 1) C (by decide +kernel) ?_
  refine s_i2l C (by decide +kernel) ?_
  refine s_lconst (n := 0) C (by decide +kernel) (by decide) ?_
  refine s_aload_n (k := 0) C (by decide +kernel) ?_
  refine s_getI C w_6_101 (by decide +kernel) rfl ?_
  refine s_i2l C (by decide +kernel) ?_
  refine s_callS C (by decide +kernel) rfl w_6_175 w_6_176 w_1_13 w_6_177 (by decide +kernel) ?_
  refine s_if_ne (off := 6) (tgt := 22) C (by decide +kernel) (by decide) (fun _ _ _ _ _ _ h => h) ?_
  refine s_bipush (n := (-3)) C (by decide +kernel) (by decide) ?_
  exact s_iret C rfl (by decide +kernel)
set_option maxRecDepth 20000 in
theorem b_X12_script_22 {Z : Zt} {d : Nat} {p : Program} {e : Env} {R : Room} {s : State} {m : MethodId} {args : Array Value} {below : List Frame} {meth : Method} {c : Code} {Rp : RT} (C : Cx Z d jX12_script RX12 p R s m args meth c) : Sd Z jX12_script p e R s m args below meth c (MQ below (QcS Z Rp) args s 0 0 (fun a => Z.2.2.1 < a)) 22 (w_X12_script_22 (MS Z d) (Gw Z 2 p e R s m args below meth c (MQ below (QcS Z Rp) args s 0 0 (fun a => Z.2.2.1 < a))) Rp) := by
  unfold w_X12_script_22
  refine s_aload_n (k := 0) C (by decide +kernel) ?_
  refine s_iconst (n := 0) C (by decide +kernel) (by decide) ?_
  refine s_putI C w_6_101 (by decide +kernel) rfl (Or.inl rfl) ?_
  refine s_aload_n (k := 0) C (by decide +kernel) ?_
  refine s_iload_n (k := 1) C (by decide +kernel) ?_
  refine s_putI C w_6_102 (by decide +kernel) rfl (Or.inl rfl) ?_
  refine s_aload_n (k := 0) C (by decide +kernel) ?_
  refine s_iconst (n := 0) C (by decide +kernel) (by decide) ?_
  refine s_putI C w_6_103 (by decide +kernel) rfl (Or.inl rfl) ?_
  refine s_aload_n (k := 0) C (by decide +kernel) ?_
  refine s_iconst (n := 0) C (by decide +kernel) (by decide) ?_
  refine s_putI C w_6_104 (by decide +kernel) rfl (Or.inl rfl) ?_
  refine s_aload_n (k := 0) C (by decide +kernel) ?_
  refine s_iconst (n := (-1)) C (by decide +kernel) (by decide) ?_
  refine s_putI C w_6_105 (by decide +kernel) rfl (Or.inl rfl) ?_
  refine s_aload_n (k := 0) C (by decide +kernel) ?_
  refine s_iconst (n := 0) C (by decide +kernel) (by decide) ?_
  refine s_putZ C w_6_113 (by decide +kernel) rfl (Or.inl rfl) ?_
  refine s_aload_n (k := 0) C (by decide +kernel) ?_
  refine s_iconst (n := 0) C (by decide +kernel) (by decide) ?_
  refine s_iconst (n := 0) C (by decide +kernel) (by decide) ?_
  refine s_callV C rfl rfl (by decide +kernel) rfl w_8_33 w_8_35 w_p7_1 w_1_13 w_8_36 (by decide +kernel) ?_
  refine s_aload_n (k := 0) C (by decide +kernel) ?_
  refine s_getI C w_6_104 (by decide +kernel) rfl ?_
  refine s_if_ne (off := 23) (tgt := 85) C (by decide +kernel) (by decide) (fun _ _ _ _ _ _ h => h) ?_
  refine s_aload_n (k := 0) C (by decide +kernel) ?_
  refine s_getI C w_6_103 (by decide +kernel) rfl ?_
  refine s_aload_n (k := 0) C (by decide +kernel) ?_
  refine s_getI C w_6_102 (by decide +kernel) rfl ?_
  refine s_icmp_ge (off := 12) (tgt := 85) C (by decide +kernel) (by decide) (fun _ _ _ _ _ _ h => h) ?_
  refine s_aload_n (k := 0) C (by decide +kernel) ?_
  refine s_iconst (n := 1) C (by decide +kernel) (by decide) ?_
  refine s_aload_n (k := 0) C (by decide +kernel) ?_
  refine s_getI C w_6_103 (by decide +kernel) rfl ?_
  refine s_callV C rfl rfl (by decide +kernel) rfl w_8_55 w_8_57 w_p7_6 w_1_13 w_8_58 (by decide +kernel) ?_
  exact (fun _ _ _ _ _ _ h => h)
set_option maxRecDepth 20000 in
theorem b_X12_script_85 {Z : Zt} {d : Nat} {p : Program} {e : Env} {R : Room} {s : State} {m : MethodId} {args : Array Value} {below : List Frame} {meth : Method} {c : Code} {Rp : RT} (C : Cx Z d jX12_script RX12 p R s m args meth c) : Sd Z jX12_script p e R s m args below meth c (MQ below (QcS Z Rp) args s 0 0 (fun a => Z.2.2.1 < a)) 85 (w_X12_script_85 (MS Z d) (Gw Z 2 p e R s m args below meth c (MQ below (QcS Z Rp) args s 0 0 (fun a => Z.2.2.1 < a))) Rp) := by
  unfold w_X12_script_85
  refine s_aload_n (k := 0) C (by decide +kernel) ?_
  refine s_getI C w_6_104 (by decide +kernel) rfl ?_
  refine s_if_eq (off := 11) (tgt := 100) C (by decide +kernel) (by decide) (fun _ _ _ _ _ _ h => h) ?_
  refine s_bipush (n := (-30)) C (by decide +kernel) (by decide) ?_
  refine s_aload_n (k := 0) C (by decide +kernel) ?_
  refine s_getI C w_6_104 (by decide +kernel) rfl ?_
  refine s_isub C (by decide +kernel) ?_
  exact s_iret C rfl (by decide +kernel)
set_option maxRecDepth 20000 in
theorem b_X12_script_100 {Z : Zt} {d : Nat} {p : Program} {e : Env} {R : Room} {s : State} {m : MethodId} {args : Array Value} {below : List Frame} {meth : Method} {c : Code} {Rp : RT} (C : Cx Z d jX12_script RX12 p R s m args meth c) : Sd Z jX12_script p e R s m args below meth c (MQ below (QcS Z Rp) args s 0 0 (fun a => Z.2.2.1 < a)) 100 (w_X12_script_100 (MS Z d) (Gw Z 2 p e R s m args below meth c (MQ below (QcS Z Rp) args s 0 0 (fun a => Z.2.2.1 < a))) Rp) := by
  unfold w_X12_script_100
  refine s_aload_n (k := 0) C (by decide +kernel) ?_
  refine s_iconst (n := 0) C (by decide +kernel) (by decide) ?_
  refine s_putI C w_6_103 (by decide +kernel) rfl (Or.inl rfl) ?_
  refine s_aload_n (k := 0) C (by decide +kernel) ?_
  refine s_iconst (n := 0) C (by decide +kernel) (by decide) ?_
  refine s_putI C w_6_108 (by decide +kernel) rfl (Or.inl rfl) ?_
  refine s_aload_n (k := 0) C (by decide +kernel) ?_
  refine s_iconst (n := 0) C (by decide +kernel) (by decide) ?_
  refine s_putI C w_6_106 (by decide +kernel) rfl (Or.inl rfl) ?_
  refine s_aload_n (k := 0) C (by decide +kernel) ?_
  refine s_iconst (n := (-1)) C (by decide +kernel) (by decide) ?_
  refine s_putI C w_6_107 (by decide +kernel) rfl (Or.inl rfl) ?_
  refine s_aload_n (k := 0) C (by decide +kernel) ?_
  refine s_callV C rfl rfl (by decide +kernel) rfl w_6_178 w_6_180 w_p3_5 w_1_13 w_6_181 (by decide +kernel) ?_
  refine s_aload_n (k := 0) C (by decide +kernel) ?_
  refine s_iconst (n := 0) C (by decide +kernel) (by decide) ?_
  refine s_iconst (n := 1) C (by decide +kernel) (by decide) ?_
  refine s_callV C rfl rfl (by decide +kernel) rfl w_8_33 w_8_35 w_p7_1 w_1_13 w_8_36 (by decide +kernel) ?_
  refine s_aload_n (k := 0) C (by decide +kernel) ?_
  refine s_getI C w_6_108 (by decide +kernel) rfl ?_
  refine s_if_ne (off := 7) (tgt := 141) C (by decide +kernel) (by decide) (fun _ _ _ _ _ _ h => h) ?_
  refine s_iconst (n := 0) C (by decide +kernel) (by decide) ?_
  exact s_goto (off := 11) (tgt := 149) C (by decide +kernel) (by decide) (fun _ _ _ _ _ _ h => h)
set_option maxRecDepth 20000 in
theorem b_X12_script_141 {Z : Zt} {d : Nat} {p : Program} {e : Env} {R : Room} {s : State} {m : MethodId} {args : Array Value} {below : List Frame} {meth : Method} {c : Code} {Rp : RT} (C : Cx Z d jX12_script RX12 p R s m args meth c) : Sd Z jX12_script p e R s m args below meth c (MQ below (QcS Z Rp) args s 0 0 (fun a => Z.2.2.1 < a)) 141 (w_X12_script_141 (MS Z d) (Gw Z 2 p e R s m args below meth c (MQ below (QcS Z Rp) args s 0 0 (fun a => Z.2.2.1 < a))) Rp) := by
  unfold w_X12_script_141
  refine s_aload_n (k := 0) C (by decide +kernel) ?_
  refine s_aload_n (k := 0) C (by decide +kernel) ?_
  refine s_getI C w_6_108 (by decide +kernel) rfl ?_
  refine s_callV C rfl rfl (by decide +kernel) rfl w_6_188 w_6_190 w_p3_6 w_1_13 w_6_191 (by decide +kernel) ?_
  exact (fun _ _ _ _ _ _ h => h)
set_option maxRecDepth 20000 in
theorem b_X12_script_149 {Z : Zt} {d : Nat} {p : Program} {e : Env} {R : Room} {s : State} {m : MethodId} {args : Array Value} {below : List Frame} {meth : Method} {c : Code} {Rp : RT} (C : Cx Z d jX12_script RX12 p R s m args meth c) : Sd Z jX12_script p e R s m args below meth c (MQ below (QcS Z Rp) args s 0 0 (fun a => Z.2.2.1 < a)) 149 (w_X12_script_149 (MS Z d) (Gw Z 2 p e R s m args below meth c (MQ below (QcS Z Rp) args s 0 0 (fun a => Z.2.2.1 < a))) Rp) := by
  unfold w_X12_script_149
  exact s_iret C rfl (by decide +kernel)
theorem ms_X12_script {Z : Zt} {d : Nat} {S : Sh} {μ : Mi} {ρ : Mr} {Rp : RT} (a0 : Nat) (x1 : Int32) (h : ∀ G : Nat → PT, (∀ (L st : List Value) (S : Sh) (q : Nat × Nat) (μ : Mi) (ρ : Mr), w_X12_script_22 (MS Z d) G Rp L st S q μ ρ → G 22 L st S q μ ρ) → (∀ (L st : List Value) (S : Sh) (q : Nat × Nat) (μ : Mi) (ρ : Mr), w_X12_script_85 (MS Z d) G Rp L st S q μ ρ → G 85 L st S q μ ρ) → (∀ (L st : List Value) (S : Sh) (q : Nat × Nat) (μ : Mi) (ρ : Mr), w_X12_script_100 (MS Z d) G Rp L st S q μ ρ → G 100 L st S q μ ρ) → (∀ (L st : List Value) (S : Sh) (q : Nat × Nat) (μ : Mi) (ρ : Mr), w_X12_script_141 (MS Z d) G Rp L st S q μ ρ → G 141 L st S q μ ρ) → (∀ (L st : List Value) (S : Sh) (q : Nat × Nat) (μ : Mi) (ρ : Mr), w_X12_script_149 (MS Z d) G Rp L st S q μ ρ → G 149 L st S q μ ρ) → w_X12_script_0 (MS Z d) G Rp [.ref a0, .int x1] [] S (0, 0) μ ρ) : MS Z (d + 1) jX12_script [.ref a0, .int x1] S μ ρ Rp :=
  MS_of [.ref a0, .int x1] (by decide +kernel) rfl rfl (Nat.le_of_ble_eq_true rfl) rfl (fun p e R s m args below meth c C => b_X12_script_0 C _ _ _ _ _ _ (h _ (b_X12_script_22 C) (b_X12_script_85 C) (b_X12_script_100 C) (b_X12_script_141 C) (b_X12_script_149 C)))
def w_X12_fault_0 (M : CT) (G : Nat → PT) (Rp : RT) : PT := tAload 0 <| tConst 0 <| tPutI 12 27 0 <| tIload 1 <| tIf (fun x => x ≠ 0) (G 16) <| tAload 0 <| tGetI 12 27 17 <| tGoto (G 29)
def w_X12_fault_16 (M : CT) (G : Nat → PT) (Rp : RT) : PT := tIload 1 <| tConst 1 <| tIf2 (fun x y => x ≠ y) (G 28) <| tAload 0 <| tGetI 12 27 18 <| tGoto (G 29)
def w_X12_fault_28 (M : CT) (G : Nat → PT) (Rp : RT) : PT := tConst (-1) <| G 29
def w_X12_fault_29 (M : CT) (G : Nat → PT) (Rp : RT) : PT := tIret Rp
set_option maxRecDepth 20000 in
theorem b_X12_fault_0 {Z : Zt} {d : Nat} {p : Program} {e : Env} {R : Room} {s : State} {m : MethodId} {args : Array Value} {below : List Frame} {meth : Method} {c : Code} {Rp : RT} (C : Cx Z d jX12_fault RX12 p R s m args meth c) : Sd Z jX12_fault p e R s m args below meth c (MQ below (QcS Z Rp) args s 0 0 (fun a => Z.2.2.1 < a)) 0 (w_X12_fault_0 (MS Z d) (Gw Z 2 p e R s m args below meth c (MQ below (QcS Z Rp) args s 0 0 (fun a => Z.2.2.1 < a))) Rp) := by
  unfold w_X12_fault_0
  refine s_aload_n (k := 0) C (by decide +kernel) ?_
  refine s_iconst (n := 0) C (by decide +kernel) (by decide) ?_
  refine s_putI C w_6_87 (by decide +kernel) rfl (Or.inl rfl) ?_
  refine s_iload_n (k := 1) C (by decide +kernel) ?_
  refine s_if_ne (off := 10) (tgt := 16) C (by decide +kernel) (by decide) (fun _ _ _ _ _ _ h => h) ?_
  refine s_aload_n (k := 0) C (by decide +kernel) ?_
  refine s_getI C w_6_104 (by decide +kernel) rfl ?_
  exact s_goto (off := 16) (tgt := 29) C (by decide +kernel) (by decide) (fun _ _ _ _ _ _ h => h)
set_option maxRecDepth 20000 in
theorem b_X12_fault_16 {Z : Zt} {d : Nat} {p : Program} {e : Env} {R : Room} {s : State} {m : MethodId} {args : Array Value} {below : List Frame} {meth : Method} {c : Code} {Rp : RT} (C : Cx Z d jX12_fault RX12 p R s m args meth c) : Sd Z jX12_fault p e R s m args below meth c (MQ below (QcS Z Rp) args s 0 0 (fun a => Z.2.2.1 < a)) 16 (w_X12_fault_16 (MS Z d) (Gw Z 2 p e R s m args below meth c (MQ below (QcS Z Rp) args s 0 0 (fun a => Z.2.2.1 < a))) Rp) := by
  unfold w_X12_fault_16
  refine s_iload_n (k := 1) C (by decide +kernel) ?_
  refine s_iconst (n := 1) C (by decide +kernel) (by decide) ?_
  refine s_icmp_ne (off := 10) (tgt := 28) C (by decide +kernel) (by decide) (fun _ _ _ _ _ _ h => h) ?_
  refine s_aload_n (k := 0) C (by decide +kernel) ?_
  refine s_getI C w_6_105 (by decide +kernel) rfl ?_
  exact s_goto (off := 4) (tgt := 29) C (by decide +kernel) (by decide) (fun _ _ _ _ _ _ h => h)
set_option maxRecDepth 20000 in
theorem b_X12_fault_28 {Z : Zt} {d : Nat} {p : Program} {e : Env} {R : Room} {s : State} {m : MethodId} {args : Array Value} {below : List Frame} {meth : Method} {c : Code} {Rp : RT} (C : Cx Z d jX12_fault RX12 p R s m args meth c) : Sd Z jX12_fault p e R s m args below meth c (MQ below (QcS Z Rp) args s 0 0 (fun a => Z.2.2.1 < a)) 28 (w_X12_fault_28 (MS Z d) (Gw Z 2 p e R s m args below meth c (MQ below (QcS Z Rp) args s 0 0 (fun a => Z.2.2.1 < a))) Rp) := by
  unfold w_X12_fault_28
  refine s_iconst (n := (-1)) C (by decide +kernel) (by decide) ?_
  exact (fun _ _ _ _ _ _ h => h)
set_option maxRecDepth 20000 in
theorem b_X12_fault_29 {Z : Zt} {d : Nat} {p : Program} {e : Env} {R : Room} {s : State} {m : MethodId} {args : Array Value} {below : List Frame} {meth : Method} {c : Code} {Rp : RT} (C : Cx Z d jX12_fault RX12 p R s m args meth c) : Sd Z jX12_fault p e R s m args below meth c (MQ below (QcS Z Rp) args s 0 0 (fun a => Z.2.2.1 < a)) 29 (w_X12_fault_29 (MS Z d) (Gw Z 2 p e R s m args below meth c (MQ below (QcS Z Rp) args s 0 0 (fun a => Z.2.2.1 < a))) Rp) := by
  unfold w_X12_fault_29
  exact s_iret C rfl (by decide +kernel)
theorem ms_X12_fault {Z : Zt} {d : Nat} {S : Sh} {μ : Mi} {ρ : Mr} {Rp : RT} (a0 : Nat) (x1 : Int32) (h : ∀ G : Nat → PT, (∀ (L st : List Value) (S : Sh) (q : Nat × Nat) (μ : Mi) (ρ : Mr), w_X12_fault_16 (MS Z d) G Rp L st S q μ ρ → G 16 L st S q μ ρ) → (∀ (L st : List Value) (S : Sh) (q : Nat × Nat) (μ : Mi) (ρ : Mr), w_X12_fault_28 (MS Z d) G Rp L st S q μ ρ → G 28 L st S q μ ρ) → (∀ (L st : List Value) (S : Sh) (q : Nat × Nat) (μ : Mi) (ρ : Mr), w_X12_fault_29 (MS Z d) G Rp L st S q μ ρ → G 29 L st S q μ ρ) → w_X12_fault_0 (MS Z d) G Rp [.ref a0, .int x1] [] S (0, 0) μ ρ) : MS Z (d + 1) jX12_fault [.ref a0, .int x1] S μ ρ Rp :=
  MS_of [.ref a0, .int x1] (by decide +kernel) rfl rfl (Nat.le_of_ble_eq_true rfl) rfl (fun p e R s m args below meth c C => b_X12_fault_0 C _ _ _ _ _ _ (h _ (b_X12_fault_16 C) (b_X12_fault_28 C) (b_X12_fault_29 C)))
def w_X12_halted_0 (M : CT) (G : Nat → PT) (Rp : RT) : PT := tAload 0 <| tConst 0 <| tPutI 12 27 0 <| tIload 1 <| tIf (fun x => x ≠ 0) (G 16) <| tAload 0 <| tGetI 12 27 19 <| tGoto (G 29)
def w_X12_halted_16 (M : CT) (G : Nat → PT) (Rp : RT) : PT := tIload 1 <| tConst 1 <| tIf2 (fun x y => x ≠ y) (G 28) <| tAload 0 <| tGetI 12 27 20 <| tGoto (G 29)
def w_X12_halted_28 (M : CT) (G : Nat → PT) (Rp : RT) : PT := tConst (-1) <| G 29
def w_X12_halted_29 (M : CT) (G : Nat → PT) (Rp : RT) : PT := tIret Rp
set_option maxRecDepth 20000 in
theorem b_X12_halted_0 {Z : Zt} {d : Nat} {p : Program} {e : Env} {R : Room} {s : State} {m : MethodId} {args : Array Value} {below : List Frame} {meth : Method} {c : Code} {Rp : RT} (C : Cx Z d jX12_halted RX12 p R s m args meth c) : Sd Z jX12_halted p e R s m args below meth c (MQ below (QcS Z Rp) args s 0 0 (fun a => Z.2.2.1 < a)) 0 (w_X12_halted_0 (MS Z d) (Gw Z 2 p e R s m args below meth c (MQ below (QcS Z Rp) args s 0 0 (fun a => Z.2.2.1 < a))) Rp) := by
  unfold w_X12_halted_0
  refine s_aload_n (k := 0) C (by decide +kernel) ?_
  refine s_iconst (n := 0) C (by decide +kernel) (by decide) ?_
  refine s_putI C w_6_87 (by decide +kernel) rfl (Or.inl rfl) ?_
  refine s_iload_n (k := 1) C (by decide +kernel) ?_
  refine s_if_ne (off := 10) (tgt := 16) C (by decide +kernel) (by decide) (fun _ _ _ _ _ _ h => h) ?_
  refine s_aload_n (k := 0) C (by decide +kernel) ?_
  refine s_getI C w_6_106 (by decide +kernel) rfl ?_
  exact s_goto (off := 16) (tgt := 29) C (by decide +kernel) (by decide) (fun _ _ _ _ _ _ h => h)
set_option maxRecDepth 20000 in
theorem b_X12_halted_16 {Z : Zt} {d : Nat} {p : Program} {e : Env} {R : Room} {s : State} {m : MethodId} {args : Array Value} {below : List Frame} {meth : Method} {c : Code} {Rp : RT} (C : Cx Z d jX12_halted RX12 p R s m args meth c) : Sd Z jX12_halted p e R s m args below meth c (MQ below (QcS Z Rp) args s 0 0 (fun a => Z.2.2.1 < a)) 16 (w_X12_halted_16 (MS Z d) (Gw Z 2 p e R s m args below meth c (MQ below (QcS Z Rp) args s 0 0 (fun a => Z.2.2.1 < a))) Rp) := by
  unfold w_X12_halted_16
  refine s_iload_n (k := 1) C (by decide +kernel) ?_
  refine s_iconst (n := 1) C (by decide +kernel) (by decide) ?_
  refine s_icmp_ne (off := 10) (tgt := 28) C (by decide +kernel) (by decide) (fun _ _ _ _ _ _ h => h) ?_
  refine s_aload_n (k := 0) C (by decide +kernel) ?_
  refine s_getI C w_6_107 (by decide +kernel) rfl ?_
  exact s_goto (off := 4) (tgt := 29) C (by decide +kernel) (by decide) (fun _ _ _ _ _ _ h => h)
set_option maxRecDepth 20000 in
theorem b_X12_halted_28 {Z : Zt} {d : Nat} {p : Program} {e : Env} {R : Room} {s : State} {m : MethodId} {args : Array Value} {below : List Frame} {meth : Method} {c : Code} {Rp : RT} (C : Cx Z d jX12_halted RX12 p R s m args meth c) : Sd Z jX12_halted p e R s m args below meth c (MQ below (QcS Z Rp) args s 0 0 (fun a => Z.2.2.1 < a)) 28 (w_X12_halted_28 (MS Z d) (Gw Z 2 p e R s m args below meth c (MQ below (QcS Z Rp) args s 0 0 (fun a => Z.2.2.1 < a))) Rp) := by
  unfold w_X12_halted_28
  refine s_iconst (n := (-1)) C (by decide +kernel) (by decide) ?_
  exact (fun _ _ _ _ _ _ h => h)
set_option maxRecDepth 20000 in
theorem b_X12_halted_29 {Z : Zt} {d : Nat} {p : Program} {e : Env} {R : Room} {s : State} {m : MethodId} {args : Array Value} {below : List Frame} {meth : Method} {c : Code} {Rp : RT} (C : Cx Z d jX12_halted RX12 p R s m args meth c) : Sd Z jX12_halted p e R s m args below meth c (MQ below (QcS Z Rp) args s 0 0 (fun a => Z.2.2.1 < a)) 29 (w_X12_halted_29 (MS Z d) (Gw Z 2 p e R s m args below meth c (MQ below (QcS Z Rp) args s 0 0 (fun a => Z.2.2.1 < a))) Rp) := by
  unfold w_X12_halted_29
  exact s_iret C rfl (by decide +kernel)
theorem ms_X12_halted {Z : Zt} {d : Nat} {S : Sh} {μ : Mi} {ρ : Mr} {Rp : RT} (a0 : Nat) (x1 : Int32) (h : ∀ G : Nat → PT, (∀ (L st : List Value) (S : Sh) (q : Nat × Nat) (μ : Mi) (ρ : Mr), w_X12_halted_16 (MS Z d) G Rp L st S q μ ρ → G 16 L st S q μ ρ) → (∀ (L st : List Value) (S : Sh) (q : Nat × Nat) (μ : Mi) (ρ : Mr), w_X12_halted_28 (MS Z d) G Rp L st S q μ ρ → G 28 L st S q μ ρ) → (∀ (L st : List Value) (S : Sh) (q : Nat × Nat) (μ : Mi) (ρ : Mr), w_X12_halted_29 (MS Z d) G Rp L st S q μ ρ → G 29 L st S q μ ρ) → w_X12_halted_0 (MS Z d) G Rp [.ref a0, .int x1] [] S (0, 0) μ ρ) : MS Z (d + 1) jX12_halted [.ref a0, .int x1] S μ ρ Rp :=
  MS_of [.ref a0, .int x1] (by decide +kernel) rfl rfl (Nat.le_of_ble_eq_true rfl) rfl (fun p e R s m args below meth c C => b_X12_halted_0 C _ _ _ _ _ _ (h _ (b_X12_halted_16 C) (b_X12_halted_28 C) (b_X12_halted_29 C)))
def w_X12_told_0 (M : CT) (G : Nat → PT) (Rp : RT) : PT := tAload 0 <| tIload 1 <| tCallV M jX12_laysMembers 12 27 1 <| tIload 2 <| tSw [(0, G 84), (1, G 84), (2, G 84), (3, G 84), (4, G 84), (5, G 91), (6, G 103), (7, G 110), (8, G 118), (9, G 126), (10, G 131), (11, G 136), (12, G 144), (13, G 152), (14, G 174), (15, G 182)] (G 190)
def w_X12_told_84 (M : CT) (G : Nat → PT) (Rp : RT) : PT := tAload 0 <| tIload 1 <| tIload 2 <| tCallV M jX12_of 12 27 2 <| tIret Rp
def w_X12_told_91 (M : CT) (G : Nat → PT) (Rp : RT) : PT := tAload 0 <| tIload 1 <| tAload 0 <| tIload 1 <| tConst 4 <| tCallV M jX12_of 12 27 2 <| tCallV M jX12_termAt 12 27 2 <| tIret Rp
def w_X12_told_103 (M : CT) (G : Nat → PT) (Rp : RT) : PT := tAload 0 <| tIload 1 <| tConst 5 <| tCallV M jX12_of 12 27 2 <| tIret Rp
def w_X12_told_110 (M : CT) (G : Nat → PT) (Rp : RT) : PT := tAload 0 <| tIload 1 <| tConst 6 <| tCallV M jX12_of 12 27 2 <| tIret Rp
def w_X12_told_118 (M : CT) (G : Nat → PT) (Rp : RT) : PT := tAload 0 <| tIload 1 <| tConst 7 <| tCallV M jX12_of 12 27 2 <| tIret Rp
def w_X12_told_126 (M : CT) (G : Nat → PT) (Rp : RT) : PT := tAload 0 <| tGetI 12 27 8 <| tIret Rp
def w_X12_told_131 (M : CT) (G : Nat → PT) (Rp : RT) : PT := tAload 0 <| tGetI 12 27 9 <| tIret Rp
def w_X12_told_136 (M : CT) (G : Nat → PT) (Rp : RT) : PT := tAload 0 <| tIload 1 <| tConst 8 <| tCallV M jX12_of 12 27 2 <| tIret Rp
def w_X12_told_144 (M : CT) (G : Nat → PT) (Rp : RT) : PT := tAload 0 <| tIload 1 <| tConst 11 <| tCallV M jX12_of 12 27 2 <| tIret Rp
def w_X12_told_152 (M : CT) (G : Nat → PT) (Rp : RT) : PT := tAload 0 <| tIload 1 <| tConst 11 <| tCallV M jX12_of 12 27 2 <| tIf (fun x => x ≠ 0) (G 166) <| tConst (-1) <| tGoto (G 173)
def w_X12_told_166 (M : CT) (G : Nat → PT) (Rp : RT) : PT := tAload 0 <| tIload 1 <| tConst 12 <| tCallV M jX12_of 12 27 2 <| G 173
def w_X12_told_173 (M : CT) (G : Nat → PT) (Rp : RT) : PT := tIret Rp
def w_X12_told_174 (M : CT) (G : Nat → PT) (Rp : RT) : PT := tAload 0 <| tIload 1 <| tConst 13 <| tCallV M jX12_of 12 27 2 <| tIret Rp
def w_X12_told_182 (M : CT) (G : Nat → PT) (Rp : RT) : PT := tAload 0 <| tIload 1 <| tConst 14 <| tCallV M jX12_of 12 27 2 <| tIret Rp
def w_X12_told_190 (M : CT) (G : Nat → PT) (Rp : RT) : PT := tAload 0 <| tIload 1 <| tConst 15 <| tCallV M jX12_of 12 27 2 <| tIret Rp
set_option maxRecDepth 20000 in
theorem b_X12_told_0 {Z : Zt} {d : Nat} {p : Program} {e : Env} {R : Room} {s : State} {m : MethodId} {args : Array Value} {below : List Frame} {meth : Method} {c : Code} {Rp : RT} (C : Cx Z d jX12_told RX12 p R s m args meth c) : Sd Z jX12_told p e R s m args below meth c (MQ below (QcS Z Rp) args s 0 0 (fun a => Z.2.2.1 < a)) 0 (w_X12_told_0 (MS Z d) (Gw Z 3 p e R s m args below meth c (MQ below (QcS Z Rp) args s 0 0 (fun a => Z.2.2.1 < a))) Rp) := by
  unfold w_X12_told_0
  refine s_aload_n (k := 0) C (by decide +kernel) ?_
  refine s_iload_n (k := 1) C (by decide +kernel) ?_
  refine s_callV C rfl rfl (by decide +kernel) rfl w_6_216 w_6_218 w_p3_10 w_1_13 w_6_219 (by decide +kernel) ?_
  refine s_iload_n (k := 2) C (by decide +kernel) ?_
  refine s_tsw (df := 184) (lo := 0) (hi := 15) (offs := #[78, 78, 78, 78, 78, 85, 97, 104, 112, 120, 125, 130, 138, 146, 168, 176]) (len := 78) (tgt := 190) C (by decide +kernel) (by decide) (fun _ _ _ _ _ _ h => h) (fun i r h => ?_) (fun x h => tsw_out 16 x (fun q hq => ?_))
  · match i, h with
    | 0, h => cases h; dsimp only; exact ⟨by decide, by decide, 78, 84, by rfl, by decide, (fun _ _ _ _ _ _ h => h)⟩
    | 1, h => cases h; dsimp only; exact ⟨by decide, by decide, 78, 84, by rfl, by decide, (fun _ _ _ _ _ _ h => h)⟩
    | 2, h => cases h; dsimp only; exact ⟨by decide, by decide, 78, 84, by rfl, by decide, (fun _ _ _ _ _ _ h => h)⟩
    | 3, h => cases h; dsimp only; exact ⟨by decide, by decide, 78, 84, by rfl, by decide, (fun _ _ _ _ _ _ h => h)⟩
    | 4, h => cases h; dsimp only; exact ⟨by decide, by decide, 78, 84, by rfl, by decide, (fun _ _ _ _ _ _ h => h)⟩
    | 5, h => cases h; dsimp only; exact ⟨by decide, by decide, 85, 91, by rfl, by decide, (fun _ _ _ _ _ _ h => h)⟩
    | 6, h => cases h; dsimp only; exact ⟨by decide, by decide, 97, 103, by rfl, by decide, (fun _ _ _ _ _ _ h => h)⟩
    | 7, h => cases h; dsimp only; exact ⟨by decide, by decide, 104, 110, by rfl, by decide, (fun _ _ _ _ _ _ h => h)⟩
    | 8, h => cases h; dsimp only; exact ⟨by decide, by decide, 112, 118, by rfl, by decide, (fun _ _ _ _ _ _ h => h)⟩
    | 9, h => cases h; dsimp only; exact ⟨by decide, by decide, 120, 126, by rfl, by decide, (fun _ _ _ _ _ _ h => h)⟩
    | 10, h => cases h; dsimp only; exact ⟨by decide, by decide, 125, 131, by rfl, by decide, (fun _ _ _ _ _ _ h => h)⟩
    | 11, h => cases h; dsimp only; exact ⟨by decide, by decide, 130, 136, by rfl, by decide, (fun _ _ _ _ _ _ h => h)⟩
    | 12, h => cases h; dsimp only; exact ⟨by decide, by decide, 138, 144, by rfl, by decide, (fun _ _ _ _ _ _ h => h)⟩
    | 13, h => cases h; dsimp only; exact ⟨by decide, by decide, 146, 152, by rfl, by decide, (fun _ _ _ _ _ _ h => h)⟩
    | 14, h => cases h; dsimp only; exact ⟨by decide, by decide, 168, 174, by rfl, by decide, (fun _ _ _ _ _ _ h => h)⟩
    | 15, h => cases h; dsimp only; exact ⟨by decide, by decide, 176, 182, by rfl, by decide, (fun _ _ _ _ _ _ h => h)⟩
    | q + 16, h => simp at h
  · match q, hq with
    | 0, _ => exact h _ (List.mem_of_getElem? (i := 0) rfl)
    | 1, _ => exact h _ (List.mem_of_getElem? (i := 1) rfl)
    | 2, _ => exact h _ (List.mem_of_getElem? (i := 2) rfl)
    | 3, _ => exact h _ (List.mem_of_getElem? (i := 3) rfl)
    | 4, _ => exact h _ (List.mem_of_getElem? (i := 4) rfl)
    | 5, _ => exact h _ (List.mem_of_getElem? (i := 5) rfl)
    | 6, _ => exact h _ (List.mem_of_getElem? (i := 6) rfl)
    | 7, _ => exact h _ (List.mem_of_getElem? (i := 7) rfl)
    | 8, _ => exact h _ (List.mem_of_getElem? (i := 8) rfl)
    | 9, _ => exact h _ (List.mem_of_getElem? (i := 9) rfl)
    | 10, _ => exact h _ (List.mem_of_getElem? (i := 10) rfl)
    | 11, _ => exact h _ (List.mem_of_getElem? (i := 11) rfl)
    | 12, _ => exact h _ (List.mem_of_getElem? (i := 12) rfl)
    | 13, _ => exact h _ (List.mem_of_getElem? (i := 13) rfl)
    | 14, _ => exact h _ (List.mem_of_getElem? (i := 14) rfl)
    | 15, _ => exact h _ (List.mem_of_getElem? (i := 15) rfl)
    | q + 16, hq => exact absurd hq (by omega)
set_option maxRecDepth 20000 in
theorem b_X12_told_84 {Z : Zt} {d : Nat} {p : Program} {e : Env} {R : Room} {s : State} {m : MethodId} {args : Array Value} {below : List Frame} {meth : Method} {c : Code} {Rp : RT} (C : Cx Z d jX12_told RX12 p R s m args meth c) : Sd Z jX12_told p e R s m args below meth c (MQ below (QcS Z Rp) args s 0 0 (fun a => Z.2.2.1 < a)) 84 (w_X12_told_84 (MS Z d) (Gw Z 3 p e R s m args below meth c (MQ below (QcS Z Rp) args s 0 0 (fun a => Z.2.2.1 < a))) Rp) := by
  unfold w_X12_told_84
  refine s_aload_n (k := 0) C (by decide +kernel) ?_
  refine s_iload_n (k := 1) C (by decide +kernel) ?_
  refine s_iload_n (k := 2) C (by decide +kernel) ?_
  refine s_callV C rfl rfl (by decide +kernel) rfl w_6_220 w_6_222 w_p3_11 w_1_13 w_6_223 (by decide +kernel) ?_
  exact s_iret C rfl (by decide +kernel)
set_option maxRecDepth 20000 in
theorem b_X12_told_91 {Z : Zt} {d : Nat} {p : Program} {e : Env} {R : Room} {s : State} {m : MethodId} {args : Array Value} {below : List Frame} {meth : Method} {c : Code} {Rp : RT} (C : Cx Z d jX12_told RX12 p R s m args meth c) : Sd Z jX12_told p e R s m args below meth c (MQ below (QcS Z Rp) args s 0 0 (fun a => Z.2.2.1 < a)) 91 (w_X12_told_91 (MS Z d) (Gw Z 3 p e R s m args below meth c (MQ below (QcS Z Rp) args s 0 0 (fun a => Z.2.2.1 < a))) Rp) := by
  unfold w_X12_told_91
  refine s_aload_n (k := 0) C (by decide +kernel) ?_
  refine s_iload_n (k := 1) C (by decide +kernel) ?_
  refine s_aload_n (k := 0) C (by decide +kernel) ?_
  refine s_iload_n (k := 1) C (by decide +kernel) ?_
  refine s_iconst (n := 4) C (by decide +kernel) (by decide) ?_
  refine s_callV C rfl rfl (by decide +kernel) rfl w_6_220 w_6_222 w_p3_11 w_1_13 w_6_223 (by decide +kernel) ?_
  refine s_callV C rfl rfl (by decide +kernel) rfl w_7_23 w_7_25 w_p4_5 w_1_13 w_7_26 (by decide +kernel) ?_
  exact s_iret C rfl (by decide +kernel)
set_option maxRecDepth 20000 in
theorem b_X12_told_103 {Z : Zt} {d : Nat} {p : Program} {e : Env} {R : Room} {s : State} {m : MethodId} {args : Array Value} {below : List Frame} {meth : Method} {c : Code} {Rp : RT} (C : Cx Z d jX12_told RX12 p R s m args meth c) : Sd Z jX12_told p e R s m args below meth c (MQ below (QcS Z Rp) args s 0 0 (fun a => Z.2.2.1 < a)) 103 (w_X12_told_103 (MS Z d) (Gw Z 3 p e R s m args below meth c (MQ below (QcS Z Rp) args s 0 0 (fun a => Z.2.2.1 < a))) Rp) := by
  unfold w_X12_told_103
  refine s_aload_n (k := 0) C (by decide +kernel) ?_
  refine s_iload_n (k := 1) C (by decide +kernel) ?_
  refine s_iconst (n := 5) C (by decide +kernel) (by decide) ?_
  refine s_callV C rfl rfl (by decide +kernel) rfl w_6_220 w_6_222 w_p3_11 w_1_13 w_6_223 (by decide +kernel) ?_
  exact s_iret C rfl (by decide +kernel)
set_option maxRecDepth 20000 in
theorem b_X12_told_110 {Z : Zt} {d : Nat} {p : Program} {e : Env} {R : Room} {s : State} {m : MethodId} {args : Array Value} {below : List Frame} {meth : Method} {c : Code} {Rp : RT} (C : Cx Z d jX12_told RX12 p R s m args meth c) : Sd Z jX12_told p e R s m args below meth c (MQ below (QcS Z Rp) args s 0 0 (fun a => Z.2.2.1 < a)) 110 (w_X12_told_110 (MS Z d) (Gw Z 3 p e R s m args below meth c (MQ below (QcS Z Rp) args s 0 0 (fun a => Z.2.2.1 < a))) Rp) := by
  unfold w_X12_told_110
  refine s_aload_n (k := 0) C (by decide +kernel) ?_
  refine s_iload_n (k := 1) C (by decide +kernel) ?_
  refine s_bipush (n := 6) C (by decide +kernel) (by decide) ?_
  refine s_callV C rfl rfl (by decide +kernel) rfl w_6_220 w_6_222 w_p3_11 w_1_13 w_6_223 (by decide +kernel) ?_
  exact s_iret C rfl (by decide +kernel)
set_option maxRecDepth 20000 in
theorem b_X12_told_118 {Z : Zt} {d : Nat} {p : Program} {e : Env} {R : Room} {s : State} {m : MethodId} {args : Array Value} {below : List Frame} {meth : Method} {c : Code} {Rp : RT} (C : Cx Z d jX12_told RX12 p R s m args meth c) : Sd Z jX12_told p e R s m args below meth c (MQ below (QcS Z Rp) args s 0 0 (fun a => Z.2.2.1 < a)) 118 (w_X12_told_118 (MS Z d) (Gw Z 3 p e R s m args below meth c (MQ below (QcS Z Rp) args s 0 0 (fun a => Z.2.2.1 < a))) Rp) := by
  unfold w_X12_told_118
  refine s_aload_n (k := 0) C (by decide +kernel) ?_
  refine s_iload_n (k := 1) C (by decide +kernel) ?_
  refine s_bipush (n := 7) C (by decide +kernel) (by decide) ?_
  refine s_callV C rfl rfl (by decide +kernel) rfl w_6_220 w_6_222 w_p3_11 w_1_13 w_6_223 (by decide +kernel) ?_
  exact s_iret C rfl (by decide +kernel)
set_option maxRecDepth 20000 in
theorem b_X12_told_126 {Z : Zt} {d : Nat} {p : Program} {e : Env} {R : Room} {s : State} {m : MethodId} {args : Array Value} {below : List Frame} {meth : Method} {c : Code} {Rp : RT} (C : Cx Z d jX12_told RX12 p R s m args meth c) : Sd Z jX12_told p e R s m args below meth c (MQ below (QcS Z Rp) args s 0 0 (fun a => Z.2.2.1 < a)) 126 (w_X12_told_126 (MS Z d) (Gw Z 3 p e R s m args below meth c (MQ below (QcS Z Rp) args s 0 0 (fun a => Z.2.2.1 < a))) Rp) := by
  unfold w_X12_told_126
  refine s_aload_n (k := 0) C (by decide +kernel) ?_
  refine s_getI C w_6_95 (by decide +kernel) rfl ?_
  exact s_iret C rfl (by decide +kernel)
set_option maxRecDepth 20000 in
theorem b_X12_told_131 {Z : Zt} {d : Nat} {p : Program} {e : Env} {R : Room} {s : State} {m : MethodId} {args : Array Value} {below : List Frame} {meth : Method} {c : Code} {Rp : RT} (C : Cx Z d jX12_told RX12 p R s m args meth c) : Sd Z jX12_told p e R s m args below meth c (MQ below (QcS Z Rp) args s 0 0 (fun a => Z.2.2.1 < a)) 131 (w_X12_told_131 (MS Z d) (Gw Z 3 p e R s m args below meth c (MQ below (QcS Z Rp) args s 0 0 (fun a => Z.2.2.1 < a))) Rp) := by
  unfold w_X12_told_131
  refine s_aload_n (k := 0) C (by decide +kernel) ?_
  refine s_getI C w_6_96 (by decide +kernel) rfl ?_
  exact s_iret C rfl (by decide +kernel)
set_option maxRecDepth 20000 in
theorem b_X12_told_136 {Z : Zt} {d : Nat} {p : Program} {e : Env} {R : Room} {s : State} {m : MethodId} {args : Array Value} {below : List Frame} {meth : Method} {c : Code} {Rp : RT} (C : Cx Z d jX12_told RX12 p R s m args meth c) : Sd Z jX12_told p e R s m args below meth c (MQ below (QcS Z Rp) args s 0 0 (fun a => Z.2.2.1 < a)) 136 (w_X12_told_136 (MS Z d) (Gw Z 3 p e R s m args below meth c (MQ below (QcS Z Rp) args s 0 0 (fun a => Z.2.2.1 < a))) Rp) := by
  unfold w_X12_told_136
  refine s_aload_n (k := 0) C (by decide +kernel) ?_
  refine s_iload_n (k := 1) C (by decide +kernel) ?_
  refine s_bipush (n := 8) C (by decide +kernel) (by decide) ?_
  refine s_callV C rfl rfl (by decide +kernel) rfl w_6_220 w_6_222 w_p3_11 w_1_13 w_6_223 (by decide +kernel) ?_
  exact s_iret C rfl (by decide +kernel)
set_option maxRecDepth 20000 in
theorem b_X12_told_144 {Z : Zt} {d : Nat} {p : Program} {e : Env} {R : Room} {s : State} {m : MethodId} {args : Array Value} {below : List Frame} {meth : Method} {c : Code} {Rp : RT} (C : Cx Z d jX12_told RX12 p R s m args meth c) : Sd Z jX12_told p e R s m args below meth c (MQ below (QcS Z Rp) args s 0 0 (fun a => Z.2.2.1 < a)) 144 (w_X12_told_144 (MS Z d) (Gw Z 3 p e R s m args below meth c (MQ below (QcS Z Rp) args s 0 0 (fun a => Z.2.2.1 < a))) Rp) := by
  unfold w_X12_told_144
  refine s_aload_n (k := 0) C (by decide +kernel) ?_
  refine s_iload_n (k := 1) C (by decide +kernel) ?_
  refine s_bipush (n := 11) C (by decide +kernel) (by decide) ?_
  refine s_callV C rfl rfl (by decide +kernel) rfl w_6_220 w_6_222 w_p3_11 w_1_13 w_6_223 (by decide +kernel) ?_
  exact s_iret C rfl (by decide +kernel)
set_option maxRecDepth 20000 in
theorem b_X12_told_152 {Z : Zt} {d : Nat} {p : Program} {e : Env} {R : Room} {s : State} {m : MethodId} {args : Array Value} {below : List Frame} {meth : Method} {c : Code} {Rp : RT} (C : Cx Z d jX12_told RX12 p R s m args meth c) : Sd Z jX12_told p e R s m args below meth c (MQ below (QcS Z Rp) args s 0 0 (fun a => Z.2.2.1 < a)) 152 (w_X12_told_152 (MS Z d) (Gw Z 3 p e R s m args below meth c (MQ below (QcS Z Rp) args s 0 0 (fun a => Z.2.2.1 < a))) Rp) := by
  unfold w_X12_told_152
  refine s_aload_n (k := 0) C (by decide +kernel) ?_
  refine s_iload_n (k := 1) C (by decide +kernel) ?_
  refine s_bipush (n := 11) C (by decide +kernel) (by decide) ?_
  refine s_callV C rfl rfl (by decide +kernel) rfl w_6_220 w_6_222 w_p3_11 w_1_13 w_6_223 (by decide +kernel) ?_
  refine s_if_ne (off := 7) (tgt := 166) C (by decide +kernel) (by decide) (fun _ _ _ _ _ _ h => h) ?_
  refine s_iconst (n := (-1)) C (by decide +kernel) (by decide) ?_
  exact s_goto (off := 10) (tgt := 173) C (by decide +kernel) (by decide) (fun _ _ _ _ _ _ h => h)
set_option maxRecDepth 20000 in
theorem b_X12_told_166 {Z : Zt} {d : Nat} {p : Program} {e : Env} {R : Room} {s : State} {m : MethodId} {args : Array Value} {below : List Frame} {meth : Method} {c : Code} {Rp : RT} (C : Cx Z d jX12_told RX12 p R s m args meth c) : Sd Z jX12_told p e R s m args below meth c (MQ below (QcS Z Rp) args s 0 0 (fun a => Z.2.2.1 < a)) 166 (w_X12_told_166 (MS Z d) (Gw Z 3 p e R s m args below meth c (MQ below (QcS Z Rp) args s 0 0 (fun a => Z.2.2.1 < a))) Rp) := by
  unfold w_X12_told_166
  refine s_aload_n (k := 0) C (by decide +kernel) ?_
  refine s_iload_n (k := 1) C (by decide +kernel) ?_
  refine s_bipush (n := 12) C (by decide +kernel) (by decide) ?_
  refine s_callV C rfl rfl (by decide +kernel) rfl w_6_220 w_6_222 w_p3_11 w_1_13 w_6_223 (by decide +kernel) ?_
  exact (fun _ _ _ _ _ _ h => h)
set_option maxRecDepth 20000 in
theorem b_X12_told_173 {Z : Zt} {d : Nat} {p : Program} {e : Env} {R : Room} {s : State} {m : MethodId} {args : Array Value} {below : List Frame} {meth : Method} {c : Code} {Rp : RT} (C : Cx Z d jX12_told RX12 p R s m args meth c) : Sd Z jX12_told p e R s m args below meth c (MQ below (QcS Z Rp) args s 0 0 (fun a => Z.2.2.1 < a)) 173 (w_X12_told_173 (MS Z d) (Gw Z 3 p e R s m args below meth c (MQ below (QcS Z Rp) args s 0 0 (fun a => Z.2.2.1 < a))) Rp) := by
  unfold w_X12_told_173
  exact s_iret C rfl (by decide +kernel)
set_option maxRecDepth 20000 in
theorem b_X12_told_174 {Z : Zt} {d : Nat} {p : Program} {e : Env} {R : Room} {s : State} {m : MethodId} {args : Array Value} {below : List Frame} {meth : Method} {c : Code} {Rp : RT} (C : Cx Z d jX12_told RX12 p R s m args meth c) : Sd Z jX12_told p e R s m args below meth c (MQ below (QcS Z Rp) args s 0 0 (fun a => Z.2.2.1 < a)) 174 (w_X12_told_174 (MS Z d) (Gw Z 3 p e R s m args below meth c (MQ below (QcS Z Rp) args s 0 0 (fun a => Z.2.2.1 < a))) Rp) := by
  unfold w_X12_told_174
  refine s_aload_n (k := 0) C (by decide +kernel) ?_
  refine s_iload_n (k := 1) C (by decide +kernel) ?_
  refine s_bipush (n := 13) C (by decide +kernel) (by decide) ?_
  refine s_callV C rfl rfl (by decide +kernel) rfl w_6_220 w_6_222 w_p3_11 w_1_13 w_6_223 (by decide +kernel) ?_
  exact s_iret C rfl (by decide +kernel)
set_option maxRecDepth 20000 in
theorem b_X12_told_182 {Z : Zt} {d : Nat} {p : Program} {e : Env} {R : Room} {s : State} {m : MethodId} {args : Array Value} {below : List Frame} {meth : Method} {c : Code} {Rp : RT} (C : Cx Z d jX12_told RX12 p R s m args meth c) : Sd Z jX12_told p e R s m args below meth c (MQ below (QcS Z Rp) args s 0 0 (fun a => Z.2.2.1 < a)) 182 (w_X12_told_182 (MS Z d) (Gw Z 3 p e R s m args below meth c (MQ below (QcS Z Rp) args s 0 0 (fun a => Z.2.2.1 < a))) Rp) := by
  unfold w_X12_told_182
  refine s_aload_n (k := 0) C (by decide +kernel) ?_
  refine s_iload_n (k := 1) C (by decide +kernel) ?_
  refine s_bipush (n := 14) C (by decide +kernel) (by decide) ?_
  refine s_callV C rfl rfl (by decide +kernel) rfl w_6_220 w_6_222 w_p3_11 w_1_13 w_6_223 (by decide +kernel) ?_
  exact s_iret C rfl (by decide +kernel)
set_option maxRecDepth 20000 in
theorem b_X12_told_190 {Z : Zt} {d : Nat} {p : Program} {e : Env} {R : Room} {s : State} {m : MethodId} {args : Array Value} {below : List Frame} {meth : Method} {c : Code} {Rp : RT} (C : Cx Z d jX12_told RX12 p R s m args meth c) : Sd Z jX12_told p e R s m args below meth c (MQ below (QcS Z Rp) args s 0 0 (fun a => Z.2.2.1 < a)) 190 (w_X12_told_190 (MS Z d) (Gw Z 3 p e R s m args below meth c (MQ below (QcS Z Rp) args s 0 0 (fun a => Z.2.2.1 < a))) Rp) := by
  unfold w_X12_told_190
  refine s_aload_n (k := 0) C (by decide +kernel) ?_
  refine s_iload_n (k := 1) C (by decide +kernel) ?_
  refine s_bipush (n := 15) C (by decide +kernel) (by decide) ?_
  refine s_callV C rfl rfl (by decide +kernel) rfl w_6_220 w_6_222 w_p3_11 w_1_13 w_6_223 (by decide +kernel) ?_
  exact s_iret C rfl (by decide +kernel)
theorem ms_X12_told {Z : Zt} {d : Nat} {S : Sh} {μ : Mi} {ρ : Mr} {Rp : RT} (a0 : Nat) (x1 : Int32) (x2 : Int32) (h : ∀ G : Nat → PT, (∀ (L st : List Value) (S : Sh) (q : Nat × Nat) (μ : Mi) (ρ : Mr), w_X12_told_84 (MS Z d) G Rp L st S q μ ρ → G 84 L st S q μ ρ) → (∀ (L st : List Value) (S : Sh) (q : Nat × Nat) (μ : Mi) (ρ : Mr), w_X12_told_91 (MS Z d) G Rp L st S q μ ρ → G 91 L st S q μ ρ) → (∀ (L st : List Value) (S : Sh) (q : Nat × Nat) (μ : Mi) (ρ : Mr), w_X12_told_103 (MS Z d) G Rp L st S q μ ρ → G 103 L st S q μ ρ) → (∀ (L st : List Value) (S : Sh) (q : Nat × Nat) (μ : Mi) (ρ : Mr), w_X12_told_110 (MS Z d) G Rp L st S q μ ρ → G 110 L st S q μ ρ) → (∀ (L st : List Value) (S : Sh) (q : Nat × Nat) (μ : Mi) (ρ : Mr), w_X12_told_118 (MS Z d) G Rp L st S q μ ρ → G 118 L st S q μ ρ) → (∀ (L st : List Value) (S : Sh) (q : Nat × Nat) (μ : Mi) (ρ : Mr), w_X12_told_126 (MS Z d) G Rp L st S q μ ρ → G 126 L st S q μ ρ) → (∀ (L st : List Value) (S : Sh) (q : Nat × Nat) (μ : Mi) (ρ : Mr), w_X12_told_131 (MS Z d) G Rp L st S q μ ρ → G 131 L st S q μ ρ) → (∀ (L st : List Value) (S : Sh) (q : Nat × Nat) (μ : Mi) (ρ : Mr), w_X12_told_136 (MS Z d) G Rp L st S q μ ρ → G 136 L st S q μ ρ) → (∀ (L st : List Value) (S : Sh) (q : Nat × Nat) (μ : Mi) (ρ : Mr), w_X12_told_144 (MS Z d) G Rp L st S q μ ρ → G 144 L st S q μ ρ) → (∀ (L st : List Value) (S : Sh) (q : Nat × Nat) (μ : Mi) (ρ : Mr), w_X12_told_152 (MS Z d) G Rp L st S q μ ρ → G 152 L st S q μ ρ) → (∀ (L st : List Value) (S : Sh) (q : Nat × Nat) (μ : Mi) (ρ : Mr), w_X12_told_166 (MS Z d) G Rp L st S q μ ρ → G 166 L st S q μ ρ) → (∀ (L st : List Value) (S : Sh) (q : Nat × Nat) (μ : Mi) (ρ : Mr), w_X12_told_173 (MS Z d) G Rp L st S q μ ρ → G 173 L st S q μ ρ) → (∀ (L st : List Value) (S : Sh) (q : Nat × Nat) (μ : Mi) (ρ : Mr), w_X12_told_174 (MS Z d) G Rp L st S q μ ρ → G 174 L st S q μ ρ) → (∀ (L st : List Value) (S : Sh) (q : Nat × Nat) (μ : Mi) (ρ : Mr), w_X12_told_182 (MS Z d) G Rp L st S q μ ρ → G 182 L st S q μ ρ) → (∀ (L st : List Value) (S : Sh) (q : Nat × Nat) (μ : Mi) (ρ : Mr), w_X12_told_190 (MS Z d) G Rp L st S q μ ρ → G 190 L st S q μ ρ) → w_X12_told_0 (MS Z d) G Rp [.ref a0, .int x1, .int x2] [] S (0, 0) μ ρ) : MS Z (d + 1) jX12_told [.ref a0, .int x1, .int x2] S μ ρ Rp :=
  MS_of [.ref a0, .int x1, .int x2] (by decide +kernel) rfl rfl (Nat.le_of_ble_eq_true rfl) rfl (fun p e R s m args below meth c C => b_X12_told_0 C _ _ _ _ _ _ (h _ (b_X12_told_84 C) (b_X12_told_91 C) (b_X12_told_103 C) (b_X12_told_110 C) (b_X12_told_118 C) (b_X12_told_126 C) (b_X12_told_131 C) (b_X12_told_136 C) (b_X12_told_144 C) (b_X12_told_152 C) (b_X12_told_166 C) (b_X12_told_173 C) (b_X12_told_174 C) (b_X12_told_182 C) (b_X12_told_190 C)))
def w_X12_store_0 (M : CT) (G : Nat → PT) (Rp : RT) : PT := tAload 0 <| tConst 0 <| tPutI 12 27 0 <| tIload 1 <| tCallS M jX12_isStore 1 <| tIf (fun x => x = 0) (G 33) <| tIload 2 <| tI2l <| tLconst 0 <| tLconst 16 <| tCallS M jX12_within 3 <| tIf (fun x => x = 0) (G 33) <| tAload 0 <| tIload 1 <| tIload 2 <| tCallV M jX12_told 12 27 2 <| tGoto (G 35)
def w_X12_store_33 (M : CT) (G : Nat → PT) (Rp : RT) : PT := tConst (-2) <| G 35
def w_X12_store_35 (M : CT) (G : Nat → PT) (Rp : RT) : PT := tIret Rp
set_option maxRecDepth 20000 in
theorem b_X12_store_0 {Z : Zt} {d : Nat} {p : Program} {e : Env} {R : Room} {s : State} {m : MethodId} {args : Array Value} {below : List Frame} {meth : Method} {c : Code} {Rp : RT} (C : Cx Z d jX12_store RX12 p R s m args meth c) : Sd Z jX12_store p e R s m args below meth c (MQ below (QcS Z Rp) args s 0 0 (fun a => Z.2.2.1 < a)) 0 (w_X12_store_0 (MS Z d) (Gw Z 3 p e R s m args below meth c (MQ below (QcS Z Rp) args s 0 0 (fun a => Z.2.2.1 < a))) Rp) := by
  unfold w_X12_store_0
  refine s_aload_n (k := 0) C (by decide +kernel) ?_
  refine s_iconst (n := 0) C (by decide +kernel) (by decide) ?_
  refine s_putI C w_6_87 (by decide +kernel) rfl (Or.inl rfl) ?_
  refine s_iload_n (k := 1) C (by decide +kernel) ?_
  refine s_callS C (by decide +kernel) rfl w_6_208 w_6_209 w_1_13 w_6_210 (by decide +kernel) ?_
  refine s_if_eq (off := 24) (tgt := 33) C (by decide +kernel) (by decide) (fun _ _ _ _ _ _ h => h) ?_
  refine s_iload_n (k := 2) C (by decide +kernel) ?_
  refine s_i2l C (by decide +kernel) ?_
  refine s_lconst (n := 0) C (by decide +kernel) (by decide) ?_
  refine s_ldc2 C w_8_97 (by decide +kernel) ?_
  refine s_callS C (by decide +kernel) rfl w_6_175 w_6_176 w_1_13 w_6_177 (by decide +kernel) ?_
  refine s_if_eq (off := 12) (tgt := 33) C (by decide +kernel) (by decide) (fun _ _ _ _ _ _ h => h) ?_
  refine s_aload_n (k := 0) C (by decide +kernel) ?_
  refine s_iload_n (k := 1) C (by decide +kernel) ?_
  refine s_iload_n (k := 2) C (by decide +kernel) ?_
  refine s_callV C rfl rfl (by decide +kernel) rfl w_8_98 w_8_100 w_p7_12 w_1_13 w_8_101 (by decide +kernel) ?_
  exact s_goto (off := 5) (tgt := 35) C (by decide +kernel) (by decide) (fun _ _ _ _ _ _ h => h)
set_option maxRecDepth 20000 in
theorem b_X12_store_33 {Z : Zt} {d : Nat} {p : Program} {e : Env} {R : Room} {s : State} {m : MethodId} {args : Array Value} {below : List Frame} {meth : Method} {c : Code} {Rp : RT} (C : Cx Z d jX12_store RX12 p R s m args meth c) : Sd Z jX12_store p e R s m args below meth c (MQ below (QcS Z Rp) args s 0 0 (fun a => Z.2.2.1 < a)) 33 (w_X12_store_33 (MS Z d) (Gw Z 3 p e R s m args below meth c (MQ below (QcS Z Rp) args s 0 0 (fun a => Z.2.2.1 < a))) Rp) := by
  unfold w_X12_store_33
  refine s_bipush (n := (-2)) C (by decide +kernel) (by decide) ?_
  exact (fun _ _ _ _ _ _ h => h)
set_option maxRecDepth 20000 in
theorem b_X12_store_35 {Z : Zt} {d : Nat} {p : Program} {e : Env} {R : Room} {s : State} {m : MethodId} {args : Array Value} {below : List Frame} {meth : Method} {c : Code} {Rp : RT} (C : Cx Z d jX12_store RX12 p R s m args meth c) : Sd Z jX12_store p e R s m args below meth c (MQ below (QcS Z Rp) args s 0 0 (fun a => Z.2.2.1 < a)) 35 (w_X12_store_35 (MS Z d) (Gw Z 3 p e R s m args below meth c (MQ below (QcS Z Rp) args s 0 0 (fun a => Z.2.2.1 < a))) Rp) := by
  unfold w_X12_store_35
  exact s_iret C rfl (by decide +kernel)
theorem ms_X12_store {Z : Zt} {d : Nat} {S : Sh} {μ : Mi} {ρ : Mr} {Rp : RT} (a0 : Nat) (x1 : Int32) (x2 : Int32) (h : ∀ G : Nat → PT, (∀ (L st : List Value) (S : Sh) (q : Nat × Nat) (μ : Mi) (ρ : Mr), w_X12_store_33 (MS Z d) G Rp L st S q μ ρ → G 33 L st S q μ ρ) → (∀ (L st : List Value) (S : Sh) (q : Nat × Nat) (μ : Mi) (ρ : Mr), w_X12_store_35 (MS Z d) G Rp L st S q μ ρ → G 35 L st S q μ ρ) → w_X12_store_0 (MS Z d) G Rp [.ref a0, .int x1, .int x2] [] S (0, 0) μ ρ) : MS Z (d + 1) jX12_store [.ref a0, .int x1, .int x2] S μ ρ Rp :=
  MS_of [.ref a0, .int x1, .int x2] (by decide +kernel) rfl rfl (Nat.le_of_ble_eq_true rfl) rfl (fun p e R s m args below meth c C => b_X12_store_0 C _ _ _ _ _ _ (h _ (b_X12_store_33 C) (b_X12_store_35 C)))
def w_X12_cell_0 (M : CT) (G : Nat → PT) (Rp : RT) : PT := tAload 0 <| tConst 0 <| tPutI 12 27 0 <| tIload 1 <| tCallS M jX12_isStore 1 <| tIf (fun x => x = 0) (G 31) <| tIload 2 <| tCallS M jX12_isCell 1 <| tIf (fun x => x = 0) (G 31) <| tAload 0 <| tIload 1 <| tConst 16 <| tIload 2 <| tBin (fun x y => x + y) <| tCallV M jX12_of 12 27 2 <| tGoto (G 34)
def w_X12_cell_31 (M : CT) (G : Nat → PT) (Rp : RT) : PT := tConst (-2147483648) <| G 34
def w_X12_cell_34 (M : CT) (G : Nat → PT) (Rp : RT) : PT := tIret Rp
set_option maxRecDepth 20000 in
theorem b_X12_cell_0 {Z : Zt} {d : Nat} {p : Program} {e : Env} {R : Room} {s : State} {m : MethodId} {args : Array Value} {below : List Frame} {meth : Method} {c : Code} {Rp : RT} (C : Cx Z d jX12_cell RX12 p R s m args meth c) : Sd Z jX12_cell p e R s m args below meth c (MQ below (QcS Z Rp) args s 0 0 (fun a => Z.2.2.1 < a)) 0 (w_X12_cell_0 (MS Z d) (Gw Z 3 p e R s m args below meth c (MQ below (QcS Z Rp) args s 0 0 (fun a => Z.2.2.1 < a))) Rp) := by
  unfold w_X12_cell_0
  refine s_aload_n (k := 0) C (by decide +kernel) ?_
  refine s_iconst (n := 0) C (by decide +kernel) (by decide) ?_
  refine s_putI C w_6_87 (by decide +kernel) rfl (Or.inl rfl) ?_
  refine s_iload_n (k := 1) C (by decide +kernel) ?_
  refine s_callS C (by decide +kernel) rfl w_6_208 w_6_209 w_1_13 w_6_210 (by decide +kernel) ?_
  refine s_if_eq (off := 22) (tgt := 31) C (by decide +kernel) (by decide) (fun _ _ _ _ _ _ h => h) ?_
  refine s_iload_n (k := 2) C (by decide +kernel) ?_
  refine s_callS C (by decide +kernel) rfl w_7_90 w_7_91 w_1_13 w_7_92 (by decide +kernel) ?_
  refine s_if_eq (off := 15) (tgt := 31) C (by decide +kernel) (by decide) (fun _ _ _ _ _ _ h => h) ?_
  refine s_aload_n (k := 0) C (by decide +kernel) ?_
  refine s_iload_n (k := 1) C (by decide +kernel) ?_
  refine s_bipush (n := 16) C (by decide +kernel) (by decide) ?_
  refine s_iload_n (k := 2) C (by decide +kernel) ?_
  refine s_iadd C (by decide +kernel) ?_
  refine s_callV C rfl rfl (by decide +kernel) rfl w_6_220 w_6_222 w_p3_11 w_1_13 w_6_223 (by decide +kernel) ?_
  exact s_goto (off := 6) (tgt := 34) C (by decide +kernel) (by decide) (fun _ _ _ _ _ _ h => h)
set_option maxRecDepth 20000 in
theorem b_X12_cell_31 {Z : Zt} {d : Nat} {p : Program} {e : Env} {R : Room} {s : State} {m : MethodId} {args : Array Value} {below : List Frame} {meth : Method} {c : Code} {Rp : RT} (C : Cx Z d jX12_cell RX12 p R s m args meth c) : Sd Z jX12_cell p e R s m args below meth c (MQ below (QcS Z Rp) args s 0 0 (fun a => Z.2.2.1 < a)) 31 (w_X12_cell_31 (MS Z d) (Gw Z 3 p e R s m args below meth c (MQ below (QcS Z Rp) args s 0 0 (fun a => Z.2.2.1 < a))) Rp) := by
  unfold w_X12_cell_31
  refine s_ldcw C w_8_106 (by decide +kernel) ?_
  exact (fun _ _ _ _ _ _ h => h)
set_option maxRecDepth 20000 in
theorem b_X12_cell_34 {Z : Zt} {d : Nat} {p : Program} {e : Env} {R : Room} {s : State} {m : MethodId} {args : Array Value} {below : List Frame} {meth : Method} {c : Code} {Rp : RT} (C : Cx Z d jX12_cell RX12 p R s m args meth c) : Sd Z jX12_cell p e R s m args below meth c (MQ below (QcS Z Rp) args s 0 0 (fun a => Z.2.2.1 < a)) 34 (w_X12_cell_34 (MS Z d) (Gw Z 3 p e R s m args below meth c (MQ below (QcS Z Rp) args s 0 0 (fun a => Z.2.2.1 < a))) Rp) := by
  unfold w_X12_cell_34
  exact s_iret C rfl (by decide +kernel)
theorem ms_X12_cell {Z : Zt} {d : Nat} {S : Sh} {μ : Mi} {ρ : Mr} {Rp : RT} (a0 : Nat) (x1 : Int32) (x2 : Int32) (h : ∀ G : Nat → PT, (∀ (L st : List Value) (S : Sh) (q : Nat × Nat) (μ : Mi) (ρ : Mr), w_X12_cell_31 (MS Z d) G Rp L st S q μ ρ → G 31 L st S q μ ρ) → (∀ (L st : List Value) (S : Sh) (q : Nat × Nat) (μ : Mi) (ρ : Mr), w_X12_cell_34 (MS Z d) G Rp L st S q μ ρ → G 34 L st S q μ ρ) → w_X12_cell_0 (MS Z d) G Rp [.ref a0, .int x1, .int x2] [] S (0, 0) μ ρ) : MS Z (d + 1) jX12_cell [.ref a0, .int x1, .int x2] S μ ρ Rp :=
  MS_of [.ref a0, .int x1, .int x2] (by decide +kernel) rfl rfl (Nat.le_of_ble_eq_true rfl) rfl (fun p e R s m args below meth c C => b_X12_cell_0 C _ _ _ _ _ _ (h _ (b_X12_cell_31 C) (b_X12_cell_34 C)))
def w_X12_isInLog_0 (M : CT) (G : Nat → PT) (Rp : RT) : PT := tIload 2 <| tI2l <| tAload 0 <| tIload 1 <| tConst 5 <| tCallV M jX12_of 12 27 2 <| tConst 1 <| tBin (fun x y => x + y) <| tI2l <| tAload 0 <| tIload 1 <| tConst 4 <| tCallV M jX12_of 12 27 2 <| tI2l <| tCallS M jX12_within 3 <| tZret Rp
set_option maxRecDepth 20000 in
theorem b_X12_isInLog_0 {Z : Zt} {d : Nat} {p : Program} {e : Env} {R : Room} {s : State} {m : MethodId} {args : Array Value} {below : List Frame} {meth : Method} {c : Code} {Rp : RT} (C : Cx Z d jX12_isInLog RX12 p R s m args meth c) : Sd Z jX12_isInLog p e R s m args below meth c (MQ below (QcS Z Rp) args s 0 0 (fun a => Z.2.2.1 < a)) 0 (w_X12_isInLog_0 (MS Z d) (Gw Z 3 p e R s m args below meth c (MQ below (QcS Z Rp) args s 0 0 (fun a => Z.2.2.1 < a))) Rp) := by
  unfold w_X12_isInLog_0
  refine s_iload_n (k := 2) C (by decide +kernel) ?_
  refine s_i2l C (by decide +kernel) ?_
  refine s_aload_n (k := 0) C (by decide +kernel) ?_
  refine s_iload_n (k := 1) C (by decide +kernel) ?_
  refine s_iconst (n := 5) C (by decide +kernel) (by decide) ?_
  refine s_callV C rfl rfl (by decide +kernel) rfl w_6_220 w_6_222 w_p3_11 w_1_13 w_6_223 (by decide +kernel) ?_
  refine s_iconst (n := 1) C (by decide +kernel) (by decide) ?_
  refine s_iadd C (by decide +kernel) ?_
  refine s_i2l C (by decide +kernel) ?_
  refine s_aload_n (k := 0) C (by decide +kernel) ?_
  refine s_iload_n (k := 1) C (by decide +kernel) ?_
  refine s_iconst (n := 4) C (by decide +kernel) (by decide) ?_
  refine s_callV C rfl rfl (by decide +kernel) rfl w_6_220 w_6_222 w_p3_11 w_1_13 w_6_223 (by decide +kernel) ?_
  refine s_i2l C (by decide +kernel) ?_
  refine s_callS C (by decide +kernel) rfl w_6_175 w_6_176 w_1_13 w_6_177 (by decide +kernel) ?_
  exact s_zret C rfl (by decide +kernel)
theorem ms_X12_isInLog {Z : Zt} {d : Nat} {S : Sh} {μ : Mi} {ρ : Mr} {Rp : RT} (a0 : Nat) (x1 : Int32) (x2 : Int32) (h : ∀ G : Nat → PT, w_X12_isInLog_0 (MS Z d) G Rp [.ref a0, .int x1, .int x2] [] S (0, 0) μ ρ) : MS Z (d + 1) jX12_isInLog [.ref a0, .int x1, .int x2] S μ ρ Rp :=
  MS_of [.ref a0, .int x1, .int x2] (by decide +kernel) rfl rfl (Nat.le_of_ble_eq_true rfl) rfl (fun p e R s m args below meth c C => b_X12_isInLog_0 C _ _ _ _ _ _ (h _ ))
def w_X12_entry_0 (M : CT) (G : Nat → PT) (Rp : RT) : PT := tAload 0 <| tConst 0 <| tPutI 12 27 0 <| tIload 1 <| tCallS M jX12_isStore 1 <| tIf (fun x => x = 0) (G 43) <| tIload 3 <| tI2l <| tLconst 0 <| tLconst 3 <| tCallS M jX12_within 3 <| tIf (fun x => x = 0) (G 43) <| tAload 0 <| tIload 1 <| tIload 2 <| tCallV M jX12_isInLog 12 27 2 <| tIf (fun x => x = 0) (G 43) <| tAload 0 <| tIload 1 <| tIload 2 <| tIload 3 <| tCallV M jX12_ofEntry 12 27 3 <| tGoto (G 46)
def w_X12_entry_43 (M : CT) (G : Nat → PT) (Rp : RT) : PT := tConst (-1000) <| G 46
def w_X12_entry_46 (M : CT) (G : Nat → PT) (Rp : RT) : PT := tIret Rp
set_option maxRecDepth 20000 in
theorem b_X12_entry_0 {Z : Zt} {d : Nat} {p : Program} {e : Env} {R : Room} {s : State} {m : MethodId} {args : Array Value} {below : List Frame} {meth : Method} {c : Code} {Rp : RT} (C : Cx Z d jX12_entry RX12 p R s m args meth c) : Sd Z jX12_entry p e R s m args below meth c (MQ below (QcS Z Rp) args s 0 0 (fun a => Z.2.2.1 < a)) 0 (w_X12_entry_0 (MS Z d) (Gw Z 4 p e R s m args below meth c (MQ below (QcS Z Rp) args s 0 0 (fun a => Z.2.2.1 < a))) Rp) := by
  unfold w_X12_entry_0
  refine s_aload_n (k := 0) C (by decide +kernel) ?_
  refine s_iconst (n := 0) C (by decide +kernel) (by decide) ?_
  refine s_putI C w_6_87 (by decide +kernel) rfl (Or.inl rfl) ?_
  refine s_iload_n (k := 1) C (by decide +kernel) ?_
  refine s_callS C (by decide +kernel) rfl w_6_208 w_6_209 w_1_13 w_6_210 (by decide +kernel) ?_
  refine s_if_eq (off := 34) (tgt := 43) C (by decide +kernel) (by decide) (fun _ _ _ _ _ _ h => h) ?_
  refine s_iload_n (k := 3) C (by decide +kernel) ?_
  refine s_i2l C (by decide +kernel) ?_
  refine s_lconst (n := 0) C (by decide +kernel) (by decide) ?_
  refine s_ldc2 C w_7_93 (by decide +kernel) ?_
  refine s_callS C (by decide +kernel) rfl w_6_175 w_6_176 w_1_13 w_6_177 (by decide +kernel) ?_
  refine s_if_eq (off := 22) (tgt := 43) C (by decide +kernel) (by decide) (fun _ _ _ _ _ _ h => h) ?_
  refine s_aload_n (k := 0) C (by decide +kernel) ?_
  refine s_iload_n (k := 1) C (by decide +kernel) ?_
  refine s_iload_n (k := 2) C (by decide +kernel) ?_
  refine s_callV C rfl rfl (by decide +kernel) rfl w_8_111 w_8_113 w_p7_13 w_1_13 w_8_114 (by decide +kernel) ?_
  refine s_if_eq (off := 13) (tgt := 43) C (by decide +kernel) (by decide) (fun _ _ _ _ _ _ h => h) ?_
  refine s_aload_n (k := 0) C (by decide +kernel) ?_
  refine s_iload_n (k := 1) C (by decide +kernel) ?_
  refine s_iload_n (k := 2) C (by decide +kernel) ?_
  refine s_iload_n (k := 3) C (by decide +kernel) ?_
  refine s_callV C rfl rfl (by decide +kernel) rfl w_6_228 w_6_230 w_p3_13 w_1_13 w_6_231 (by decide +kernel) ?_
  exact s_goto (off := 6) (tgt := 46) C (by decide +kernel) (by decide) (fun _ _ _ _ _ _ h => h)
set_option maxRecDepth 20000 in
theorem b_X12_entry_43 {Z : Zt} {d : Nat} {p : Program} {e : Env} {R : Room} {s : State} {m : MethodId} {args : Array Value} {below : List Frame} {meth : Method} {c : Code} {Rp : RT} (C : Cx Z d jX12_entry RX12 p R s m args meth c) : Sd Z jX12_entry p e R s m args below meth c (MQ below (QcS Z Rp) args s 0 0 (fun a => Z.2.2.1 < a)) 43 (w_X12_entry_43 (MS Z d) (Gw Z 4 p e R s m args below meth c (MQ below (QcS Z Rp) args s 0 0 (fun a => Z.2.2.1 < a))) Rp) := by
  unfold w_X12_entry_43
  refine s_sipush (n := (-1000)) C (by decide +kernel) (by decide) ?_
  exact (fun _ _ _ _ _ _ h => h)
set_option maxRecDepth 20000 in
theorem b_X12_entry_46 {Z : Zt} {d : Nat} {p : Program} {e : Env} {R : Room} {s : State} {m : MethodId} {args : Array Value} {below : List Frame} {meth : Method} {c : Code} {Rp : RT} (C : Cx Z d jX12_entry RX12 p R s m args meth c) : Sd Z jX12_entry p e R s m args below meth c (MQ below (QcS Z Rp) args s 0 0 (fun a => Z.2.2.1 < a)) 46 (w_X12_entry_46 (MS Z d) (Gw Z 4 p e R s m args below meth c (MQ below (QcS Z Rp) args s 0 0 (fun a => Z.2.2.1 < a))) Rp) := by
  unfold w_X12_entry_46
  exact s_iret C rfl (by decide +kernel)
theorem ms_X12_entry {Z : Zt} {d : Nat} {S : Sh} {μ : Mi} {ρ : Mr} {Rp : RT} (a0 : Nat) (x1 : Int32) (x2 : Int32) (x3 : Int32) (h : ∀ G : Nat → PT, (∀ (L st : List Value) (S : Sh) (q : Nat × Nat) (μ : Mi) (ρ : Mr), w_X12_entry_43 (MS Z d) G Rp L st S q μ ρ → G 43 L st S q μ ρ) → (∀ (L st : List Value) (S : Sh) (q : Nat × Nat) (μ : Mi) (ρ : Mr), w_X12_entry_46 (MS Z d) G Rp L st S q μ ρ → G 46 L st S q μ ρ) → w_X12_entry_0 (MS Z d) G Rp [.ref a0, .int x1, .int x2, .int x3] [] S (0, 0) μ ρ) : MS Z (d + 1) jX12_entry [.ref a0, .int x1, .int x2, .int x3] S μ ρ Rp :=
  MS_of [.ref a0, .int x1, .int x2, .int x3] (by decide +kernel) rfl rfl (Nat.le_of_ble_eq_true rfl) rfl (fun p e R s m args below meth c C => b_X12_entry_0 C _ _ _ _ _ _ (h _ (b_X12_entry_43 C) (b_X12_entry_46 C)))
def w_X12_follows_0 (M : CT) (G : Nat → PT) (Rp : RT) : PT := tAload 0 <| tConst 0 <| tPutI 12 27 0 <| tIload 1 <| tCallS M jX12_isStore 1 <| tIf (fun x => x = 0) (G 29) <| tIload 2 <| tCallS M jX12_isStore 1 <| tIf (fun x => x = 0) (G 29) <| tIload 3 <| tI2l <| tLconst 0 <| tLconst 1 <| tCallS M jX12_within 3 <| tIf (fun x => x ≠ 0) (G 32) <| G 29
def w_X12_follows_29 (M : CT) (G : Nat → PT) (Rp : RT) : PT := tConst (-2) <| tIret Rp
def w_X12_follows_32 (M : CT) (G : Nat → PT) (Rp : RT) : PT := tAload 0 <| tIload 1 <| tCallV M jX12_isLeader 12 27 1 <| tIf (fun x => x = 0) (G 61) <| tAload 0 <| tIload 1 <| tIload 3 <| tIf (fun x => x ≠ 0) (G 51) <| tConst 24 <| tGoto (G 53)
def w_X12_follows_51 (M : CT) (G : Nat → PT) (Rp : RT) : PT := tConst 29 <| G 53
def w_X12_follows_53 (M : CT) (G : Nat → PT) (Rp : RT) : PT := tIload 2 <| tBin (fun x y => x + y) <| tCallV M jX12_of 12 27 2 <| tGoto (G 62)
def w_X12_follows_61 (M : CT) (G : Nat → PT) (Rp : RT) : PT := tConst (-1) <| G 62
def w_X12_follows_62 (M : CT) (G : Nat → PT) (Rp : RT) : PT := tIret Rp
set_option maxRecDepth 20000 in
theorem b_X12_follows_0 {Z : Zt} {d : Nat} {p : Program} {e : Env} {R : Room} {s : State} {m : MethodId} {args : Array Value} {below : List Frame} {meth : Method} {c : Code} {Rp : RT} (C : Cx Z d jX12_follows RX12 p R s m args meth c) : Sd Z jX12_follows p e R s m args below meth c (MQ below (QcS Z Rp) args s 0 0 (fun a => Z.2.2.1 < a)) 0 (w_X12_follows_0 (MS Z d) (Gw Z 4 p e R s m args below meth c (MQ below (QcS Z Rp) args s 0 0 (fun a => Z.2.2.1 < a))) Rp) := by
  unfold w_X12_follows_0
  refine s_aload_n (k := 0) C (by decide +kernel) ?_
  refine s_iconst (n := 0) C (by decide +kernel) (by decide) ?_
  refine s_putI C w_6_87 (by decide +kernel) rfl (Or.inl rfl) ?_
  refine s_iload_n (k := 1) C (by decide +kernel) ?_
  refine s_callS C (by decide +kernel) rfl w_6_208 w_6_209 w_1_13 w_6_210 (by decide +kernel) ?_
  refine s_if_eq (off := 20) (tgt := 29) C (by decide +kernel) (by decide) (fun _ _ _ _ _ _ h => h) ?_
  refine s_iload_n (k := 2) C (by decide +kernel) ?_
  refine s_callS C (by decide +kernel) rfl w_6_208 w_6_209 w_1_13 w_6_210 (by decide +kernel) ?_
  refine s_if_eq (off := 13) (tgt := 29) C (by decide +kernel) (by decide) (fun _ _ _ _ _ _ h => h) ?_
  refine s_iload_n (k := 3) C (by decide +kernel) ?_
  refine s_i2l C (by decide +kernel) ?_
  refine s_lconst (n := 0) C (by decide +kernel) (by decide) ?_
  refine s_lconst (n := 1) C (by decide +kernel) (by decide) ?_
  refine s_callS C (by decide +kernel) rfl w_6_175 w_6_176 w_1_13 w_6_177 (by decide +kernel) ?_
  refine s_if_ne (off := 6) (tgt := 32) C (by decide +kernel) (by decide) (fun _ _ _ _ _ _ h => h) ?_
  exact (fun _ _ _ _ _ _ h => h)
set_option maxRecDepth 20000 in
theorem b_X12_follows_29 {Z : Zt} {d : Nat} {p : Program} {e : Env} {R : Room} {s : State} {m : MethodId} {args : Array Value} {below : List Frame} {meth : Method} {c : Code} {Rp : RT} (C : Cx Z d jX12_follows RX12 p R s m args meth c) : Sd Z jX12_follows p e R s m args below meth c (MQ below (QcS Z Rp) args s 0 0 (fun a => Z.2.2.1 < a)) 29 (w_X12_follows_29 (MS Z d) (Gw Z 4 p e R s m args below meth c (MQ below (QcS Z Rp) args s 0 0 (fun a => Z.2.2.1 < a))) Rp) := by
  unfold w_X12_follows_29
  refine s_bipush (n := (-2)) C (by decide +kernel) (by decide) ?_
  exact s_iret C rfl (by decide +kernel)
set_option maxRecDepth 20000 in
theorem b_X12_follows_32 {Z : Zt} {d : Nat} {p : Program} {e : Env} {R : Room} {s : State} {m : MethodId} {args : Array Value} {below : List Frame} {meth : Method} {c : Code} {Rp : RT} (C : Cx Z d jX12_follows RX12 p R s m args meth c) : Sd Z jX12_follows p e R s m args below meth c (MQ below (QcS Z Rp) args s 0 0 (fun a => Z.2.2.1 < a)) 32 (w_X12_follows_32 (MS Z d) (Gw Z 4 p e R s m args below meth c (MQ below (QcS Z Rp) args s 0 0 (fun a => Z.2.2.1 < a))) Rp) := by
  unfold w_X12_follows_32
  refine s_aload_n (k := 0) C (by decide +kernel) ?_
  refine s_iload_n (k := 1) C (by decide +kernel) ?_
  refine s_callV C rfl rfl (by decide +kernel) rfl w_6_236 w_6_238 w_p3_15 w_1_13 w_6_239 (by decide +kernel) ?_
  refine s_if_eq (off := 24) (tgt := 61) C (by decide +kernel) (by decide) (fun _ _ _ _ _ _ h => h) ?_
  refine s_aload_n (k := 0) C (by decide +kernel) ?_
  refine s_iload_n (k := 1) C (by decide +kernel) ?_
  refine s_iload_n (k := 3) C (by decide +kernel) ?_
  refine s_if_ne (off := 8) (tgt := 51) C (by decide +kernel) (by decide) (fun _ _ _ _ _ _ h => h) ?_
  refine s_bipush (n := 24) C (by decide +kernel) (by decide) ?_
  exact s_goto (off := 5) (tgt := 53) C (by decide +kernel) (by decide) (fun _ _ _ _ _ _ h => h)
set_option maxRecDepth 20000 in
theorem b_X12_follows_51 {Z : Zt} {d : Nat} {p : Program} {e : Env} {R : Room} {s : State} {m : MethodId} {args : Array Value} {below : List Frame} {meth : Method} {c : Code} {Rp : RT} (C : Cx Z d jX12_follows RX12 p R s m args meth c) : Sd Z jX12_follows p e R s m args below meth c (MQ below (QcS Z Rp) args s 0 0 (fun a => Z.2.2.1 < a)) 51 (w_X12_follows_51 (MS Z d) (Gw Z 4 p e R s m args below meth c (MQ below (QcS Z Rp) args s 0 0 (fun a => Z.2.2.1 < a))) Rp) := by
  unfold w_X12_follows_51
  refine s_bipush (n := 29) C (by decide +kernel) (by decide) ?_
  exact (fun _ _ _ _ _ _ h => h)
set_option maxRecDepth 20000 in
theorem b_X12_follows_53 {Z : Zt} {d : Nat} {p : Program} {e : Env} {R : Room} {s : State} {m : MethodId} {args : Array Value} {below : List Frame} {meth : Method} {c : Code} {Rp : RT} (C : Cx Z d jX12_follows RX12 p R s m args meth c) : Sd Z jX12_follows p e R s m args below meth c (MQ below (QcS Z Rp) args s 0 0 (fun a => Z.2.2.1 < a)) 53 (w_X12_follows_53 (MS Z d) (Gw Z 4 p e R s m args below meth c (MQ below (QcS Z Rp) args s 0 0 (fun a => Z.2.2.1 < a))) Rp) := by
  unfold w_X12_follows_53
  refine s_iload_n (k := 2) C (by decide +kernel) ?_
  refine s_iadd C (by decide +kernel) ?_
  refine s_callV C rfl rfl (by decide +kernel) rfl w_6_220 w_6_222 w_p3_11 w_1_13 w_6_223 (by decide +kernel) ?_
  exact s_goto (off := 4) (tgt := 62) C (by decide +kernel) (by decide) (fun _ _ _ _ _ _ h => h)
set_option maxRecDepth 20000 in
theorem b_X12_follows_61 {Z : Zt} {d : Nat} {p : Program} {e : Env} {R : Room} {s : State} {m : MethodId} {args : Array Value} {below : List Frame} {meth : Method} {c : Code} {Rp : RT} (C : Cx Z d jX12_follows RX12 p R s m args meth c) : Sd Z jX12_follows p e R s m args below meth c (MQ below (QcS Z Rp) args s 0 0 (fun a => Z.2.2.1 < a)) 61 (w_X12_follows_61 (MS Z d) (Gw Z 4 p e R s m args below meth c (MQ below (QcS Z Rp) args s 0 0 (fun a => Z.2.2.1 < a))) Rp) := by
  unfold w_X12_follows_61
  refine s_iconst (n := (-1)) C (by decide +kernel) (by decide) ?_
  exact (fun _ _ _ _ _ _ h => h)
set_option maxRecDepth 20000 in
theorem b_X12_follows_62 {Z : Zt} {d : Nat} {p : Program} {e : Env} {R : Room} {s : State} {m : MethodId} {args : Array Value} {below : List Frame} {meth : Method} {c : Code} {Rp : RT} (C : Cx Z d jX12_follows RX12 p R s m args meth c) : Sd Z jX12_follows p e R s m args below meth c (MQ below (QcS Z Rp) args s 0 0 (fun a => Z.2.2.1 < a)) 62 (w_X12_follows_62 (MS Z d) (Gw Z 4 p e R s m args below meth c (MQ below (QcS Z Rp) args s 0 0 (fun a => Z.2.2.1 < a))) Rp) := by
  unfold w_X12_follows_62
  exact s_iret C rfl (by decide +kernel)
theorem ms_X12_follows {Z : Zt} {d : Nat} {S : Sh} {μ : Mi} {ρ : Mr} {Rp : RT} (a0 : Nat) (x1 : Int32) (x2 : Int32) (x3 : Int32) (h : ∀ G : Nat → PT, (∀ (L st : List Value) (S : Sh) (q : Nat × Nat) (μ : Mi) (ρ : Mr), w_X12_follows_29 (MS Z d) G Rp L st S q μ ρ → G 29 L st S q μ ρ) → (∀ (L st : List Value) (S : Sh) (q : Nat × Nat) (μ : Mi) (ρ : Mr), w_X12_follows_32 (MS Z d) G Rp L st S q μ ρ → G 32 L st S q μ ρ) → (∀ (L st : List Value) (S : Sh) (q : Nat × Nat) (μ : Mi) (ρ : Mr), w_X12_follows_51 (MS Z d) G Rp L st S q μ ρ → G 51 L st S q μ ρ) → (∀ (L st : List Value) (S : Sh) (q : Nat × Nat) (μ : Mi) (ρ : Mr), w_X12_follows_53 (MS Z d) G Rp L st S q μ ρ → G 53 L st S q μ ρ) → (∀ (L st : List Value) (S : Sh) (q : Nat × Nat) (μ : Mi) (ρ : Mr), w_X12_follows_61 (MS Z d) G Rp L st S q μ ρ → G 61 L st S q μ ρ) → (∀ (L st : List Value) (S : Sh) (q : Nat × Nat) (μ : Mi) (ρ : Mr), w_X12_follows_62 (MS Z d) G Rp L st S q μ ρ → G 62 L st S q μ ρ) → w_X12_follows_0 (MS Z d) G Rp [.ref a0, .int x1, .int x2, .int x3] [] S (0, 0) μ ρ) : MS Z (d + 1) jX12_follows [.ref a0, .int x1, .int x2, .int x3] S μ ρ Rp :=
  MS_of [.ref a0, .int x1, .int x2, .int x3] (by decide +kernel) rfl rfl (Nat.le_of_ble_eq_true rfl) rfl (fun p e R s m args below meth c C => b_X12_follows_0 C _ _ _ _ _ _ (h _ (b_X12_follows_29 C) (b_X12_follows_32 C) (b_X12_follows_51 C) (b_X12_follows_53 C) (b_X12_follows_61 C) (b_X12_follows_62 C)))
def w_X12_ofMessage_0 (M : CT) (G : Nat → PT) (Rp : RT) : PT := tAload 0 <| tGetR 12 27 1 <| tConst 2570 <| tConst 21 <| tIload 1 <| tBin (fun x y => x * y) <| tBin (fun x y => x + y) <| tIload 2 <| tBin (fun x y => x + y) <| tAld 20 <| tIret Rp
set_option maxRecDepth 20000 in
theorem b_X12_ofMessage_0 {Z : Zt} {d : Nat} {p : Program} {e : Env} {R : Room} {s : State} {m : MethodId} {args : Array Value} {below : List Frame} {meth : Method} {c : Code} {Rp : RT} (C : Cx Z d jX12_ofMessage RX12 p R s m args meth c) : Sd Z jX12_ofMessage p e R s m args below meth c (MQ below (QcS Z Rp) args s 0 0 (fun a => Z.2.2.1 < a)) 0 (w_X12_ofMessage_0 (MS Z d) (Gw Z 3 p e R s m args below meth c (MQ below (QcS Z Rp) args s 0 0 (fun a => Z.2.2.1 < a))) Rp) := by
  unfold w_X12_ofMessage_0
  refine s_aload_n (k := 0) C (by decide +kernel) ?_
  refine s_getR C w_6_88 (by decide +kernel) rfl ?_
  refine s_sipush (n := 2570) C (by decide +kernel) (by decide) ?_
  refine s_bipush (n := 21) C (by decide +kernel) (by decide) ?_
  refine s_iload_n (k := 1) C (by decide +kernel) ?_
  refine s_imul C (by decide +kernel) ?_
  refine s_iadd C (by decide +kernel) ?_
  refine s_iload_n (k := 2) C (by decide +kernel) ?_
  refine s_iadd C (by decide +kernel) ?_
  refine s_iald C (by decide +kernel) ?_
  exact s_iret C rfl (by decide +kernel)
theorem ms_X12_ofMessage {Z : Zt} {d : Nat} {S : Sh} {μ : Mi} {ρ : Mr} {Rp : RT} (a0 : Nat) (x1 : Int32) (x2 : Int32) (h : ∀ G : Nat → PT, w_X12_ofMessage_0 (MS Z d) G Rp [.ref a0, .int x1, .int x2] [] S (0, 0) μ ρ) : MS Z (d + 1) jX12_ofMessage [.ref a0, .int x1, .int x2] S μ ρ Rp :=
  MS_of [.ref a0, .int x1, .int x2] (by decide +kernel) rfl rfl (Nat.le_of_ble_eq_true rfl) rfl (fun p e R s m args below meth c C => b_X12_ofMessage_0 C _ _ _ _ _ _ (h _ ))
def w_X12_message_0 (M : CT) (G : Nat → PT) (Rp : RT) : PT := tAload 0 <| tConst 0 <| tPutI 12 27 0 <| tAload 0 <| tIload 1 <| tCallV M jX12_isMessage 12 27 1 <| tIf (fun x => x ≠ 0) (G 16) <| tConst (-2) <| tIret Rp
def w_X12_message_16 (M : CT) (G : Nat → PT) (Rp : RT) : PT := tIload 2 <| tSw [(0, G 72), (1, G 72), (2, G 79), (3, G 86), (4, G 72), (5, G 72), (6, G 72), (7, G 72), (8, G 93), (9, G 131)] (G 139)
def w_X12_message_72 (M : CT) (G : Nat → PT) (Rp : RT) : PT := tAload 0 <| tIload 1 <| tIload 2 <| tCallV M jX12_ofMessage 12 27 2 <| tIret Rp
def w_X12_message_79 (M : CT) (G : Nat → PT) (Rp : RT) : PT := tAload 0 <| tIload 1 <| tConst 3 <| tCallV M jX12_ofMessage 12 27 2 <| tIret Rp
def w_X12_message_86 (M : CT) (G : Nat → PT) (Rp : RT) : PT := tAload 0 <| tIload 1 <| tConst 2 <| tCallV M jX12_ofMessage 12 27 2 <| tIret Rp
def w_X12_message_93 (M : CT) (G : Nat → PT) (Rp : RT) : PT := tAload 0 <| tAload 0 <| tIload 1 <| tConst 1 <| tCallV M jX12_ofMessage 12 27 2 <| tCallV M jX12_isUp 12 27 1 <| tIf (fun x => x = 0) (G 129) <| tAload 0 <| tAload 0 <| tIload 1 <| tConst 0 <| tCallV M jX12_ofMessage 12 27 2 <| tAload 0 <| tIload 1 <| tConst 1 <| tCallV M jX12_ofMessage 12 27 2 <| tCallV M jX12_isLinked 12 27 2 <| tIf (fun x => x = 0) (G 129) <| tConst 1 <| tGoto (G 130)
def w_X12_message_129 (M : CT) (G : Nat → PT) (Rp : RT) : PT := tConst 0 <| G 130
def w_X12_message_130 (M : CT) (G : Nat → PT) (Rp : RT) : PT := tIret Rp
def w_X12_message_131 (M : CT) (G : Nat → PT) (Rp : RT) : PT := tAload 0 <| tIload 1 <| tConst 8 <| tCallV M jX12_ofMessage 12 27 2 <| tIret Rp
def w_X12_message_139 (M : CT) (G : Nat → PT) (Rp : RT) : PT := tConst (-2) <| tIret Rp
set_option maxRecDepth 20000 in
theorem b_X12_message_0 {Z : Zt} {d : Nat} {p : Program} {e : Env} {R : Room} {s : State} {m : MethodId} {args : Array Value} {below : List Frame} {meth : Method} {c : Code} {Rp : RT} (C : Cx Z d jX12_message RX12 p R s m args meth c) : Sd Z jX12_message p e R s m args below meth c (MQ below (QcS Z Rp) args s 0 0 (fun a => Z.2.2.1 < a)) 0 (w_X12_message_0 (MS Z d) (Gw Z 3 p e R s m args below meth c (MQ below (QcS Z Rp) args s 0 0 (fun a => Z.2.2.1 < a))) Rp) := by
  unfold w_X12_message_0
  refine s_aload_n (k := 0) C (by decide +kernel) ?_
  refine s_iconst (n := 0) C (by decide +kernel) (by decide) ?_
  refine s_putI C w_6_87 (by decide +kernel) rfl (Or.inl rfl) ?_
  refine s_aload_n (k := 0) C (by decide +kernel) ?_
  refine s_iload_n (k := 1) C (by decide +kernel) ?_
  refine s_callV C rfl rfl (by decide +kernel) rfl w_7_168 w_7_170 w_p5_12 w_1_13 w_7_171 (by decide +kernel) ?_
  refine s_if_ne (off := 6) (tgt := 16) C (by decide +kernel) (by decide) (fun _ _ _ _ _ _ h => h) ?_
  refine s_bipush (n := (-2)) C (by decide +kernel) (by decide) ?_
  exact s_iret C rfl (by decide +kernel)
set_option maxRecDepth 20000 in
theorem b_X12_message_16 {Z : Zt} {d : Nat} {p : Program} {e : Env} {R : Room} {s : State} {m : MethodId} {args : Array Value} {below : List Frame} {meth : Method} {c : Code} {Rp : RT} (C : Cx Z d jX12_message RX12 p R s m args meth c) : Sd Z jX12_message p e R s m args below meth c (MQ below (QcS Z Rp) args s 0 0 (fun a => Z.2.2.1 < a)) 16 (w_X12_message_16 (MS Z d) (Gw Z 3 p e R s m args below meth c (MQ below (QcS Z Rp) args s 0 0 (fun a => Z.2.2.1 < a))) Rp) := by
  unfold w_X12_message_16
  refine s_iload_n (k := 2) C (by decide +kernel) ?_
  refine s_tsw (df := 122) (lo := 0) (hi := 9) (offs := #[55, 55, 62, 69, 55, 55, 55, 55, 76, 114]) (len := 55) (tgt := 139) C (by decide +kernel) (by decide) (fun _ _ _ _ _ _ h => h) (fun i r h => ?_) (fun x h => tsw_out 10 x (fun q hq => ?_))
  · match i, h with
    | 0, h => cases h; dsimp only; exact ⟨by decide, by decide, 55, 72, by rfl, by decide, (fun _ _ _ _ _ _ h => h)⟩
    | 1, h => cases h; dsimp only; exact ⟨by decide, by decide, 55, 72, by rfl, by decide, (fun _ _ _ _ _ _ h => h)⟩
    | 2, h => cases h; dsimp only; exact ⟨by decide, by decide, 62, 79, by rfl, by decide, (fun _ _ _ _ _ _ h => h)⟩
    | 3, h => cases h; dsimp only; exact ⟨by decide, by decide, 69, 86, by rfl, by decide, (fun _ _ _ _ _ _ h => h)⟩
    | 4, h => cases h; dsimp only; exact ⟨by decide, by decide, 55, 72, by rfl, by decide, (fun _ _ _ _ _ _ h => h)⟩
    | 5, h => cases h; dsimp only; exact ⟨by decide, by decide, 55, 72, by rfl, by decide, (fun _ _ _ _ _ _ h => h)⟩
    | 6, h => cases h; dsimp only; exact ⟨by decide, by decide, 55, 72, by rfl, by decide, (fun _ _ _ _ _ _ h => h)⟩
    | 7, h => cases h; dsimp only; exact ⟨by decide, by decide, 55, 72, by rfl, by decide, (fun _ _ _ _ _ _ h => h)⟩
    | 8, h => cases h; dsimp only; exact ⟨by decide, by decide, 76, 93, by rfl, by decide, (fun _ _ _ _ _ _ h => h)⟩
    | 9, h => cases h; dsimp only; exact ⟨by decide, by decide, 114, 131, by rfl, by decide, (fun _ _ _ _ _ _ h => h)⟩
    | q + 10, h => simp at h
  · match q, hq with
    | 0, _ => exact h _ (List.mem_of_getElem? (i := 0) rfl)
    | 1, _ => exact h _ (List.mem_of_getElem? (i := 1) rfl)
    | 2, _ => exact h _ (List.mem_of_getElem? (i := 2) rfl)
    | 3, _ => exact h _ (List.mem_of_getElem? (i := 3) rfl)
    | 4, _ => exact h _ (List.mem_of_getElem? (i := 4) rfl)
    | 5, _ => exact h _ (List.mem_of_getElem? (i := 5) rfl)
    | 6, _ => exact h _ (List.mem_of_getElem? (i := 6) rfl)
    | 7, _ => exact h _ (List.mem_of_getElem? (i := 7) rfl)
    | 8, _ => exact h _ (List.mem_of_getElem? (i := 8) rfl)
    | 9, _ => exact h _ (List.mem_of_getElem? (i := 9) rfl)
    | q + 10, hq => exact absurd hq (by omega)
set_option maxRecDepth 20000 in
theorem b_X12_message_72 {Z : Zt} {d : Nat} {p : Program} {e : Env} {R : Room} {s : State} {m : MethodId} {args : Array Value} {below : List Frame} {meth : Method} {c : Code} {Rp : RT} (C : Cx Z d jX12_message RX12 p R s m args meth c) : Sd Z jX12_message p e R s m args below meth c (MQ below (QcS Z Rp) args s 0 0 (fun a => Z.2.2.1 < a)) 72 (w_X12_message_72 (MS Z d) (Gw Z 3 p e R s m args below meth c (MQ below (QcS Z Rp) args s 0 0 (fun a => Z.2.2.1 < a))) Rp) := by
  unfold w_X12_message_72
  refine s_aload_n (k := 0) C (by decide +kernel) ?_
  refine s_iload_n (k := 1) C (by decide +kernel) ?_
  refine s_iload_n (k := 2) C (by decide +kernel) ?_
  refine s_callV C rfl rfl (by decide +kernel) rfl w_8_123 w_8_125 w_p7_14 w_1_13 w_8_126 (by decide +kernel) ?_
  exact s_iret C rfl (by decide +kernel)
set_option maxRecDepth 20000 in
theorem b_X12_message_79 {Z : Zt} {d : Nat} {p : Program} {e : Env} {R : Room} {s : State} {m : MethodId} {args : Array Value} {below : List Frame} {meth : Method} {c : Code} {Rp : RT} (C : Cx Z d jX12_message RX12 p R s m args meth c) : Sd Z jX12_message p e R s m args below meth c (MQ below (QcS Z Rp) args s 0 0 (fun a => Z.2.2.1 < a)) 79 (w_X12_message_79 (MS Z d) (Gw Z 3 p e R s m args below meth c (MQ below (QcS Z Rp) args s 0 0 (fun a => Z.2.2.1 < a))) Rp) := by
  unfold w_X12_message_79
  refine s_aload_n (k := 0) C (by decide +kernel) ?_
  refine s_iload_n (k := 1) C (by decide +kernel) ?_
  refine s_iconst (n := 3) C (by decide +kernel) (by decide) ?_
  refine s_callV C rfl rfl (by decide +kernel) rfl w_8_123 w_8_125 w_p7_14 w_1_13 w_8_126 (by decide +kernel) ?_
  exact s_iret C rfl (by decide +kernel)
set_option maxRecDepth 20000 in
theorem b_X12_message_86 {Z : Zt} {d : Nat} {p : Program} {e : Env} {R : Room} {s : State} {m : MethodId} {args : Array Value} {below : List Frame} {meth : Method} {c : Code} {Rp : RT} (C : Cx Z d jX12_message RX12 p R s m args meth c) : Sd Z jX12_message p e R s m args below meth c (MQ below (QcS Z Rp) args s 0 0 (fun a => Z.2.2.1 < a)) 86 (w_X12_message_86 (MS Z d) (Gw Z 3 p e R s m args below meth c (MQ below (QcS Z Rp) args s 0 0 (fun a => Z.2.2.1 < a))) Rp) := by
  unfold w_X12_message_86
  refine s_aload_n (k := 0) C (by decide +kernel) ?_
  refine s_iload_n (k := 1) C (by decide +kernel) ?_
  refine s_iconst (n := 2) C (by decide +kernel) (by decide) ?_
  refine s_callV C rfl rfl (by decide +kernel) rfl w_8_123 w_8_125 w_p7_14 w_1_13 w_8_126 (by decide +kernel) ?_
  exact s_iret C rfl (by decide +kernel)
set_option maxRecDepth 20000 in
theorem b_X12_message_93 {Z : Zt} {d : Nat} {p : Program} {e : Env} {R : Room} {s : State} {m : MethodId} {args : Array Value} {below : List Frame} {meth : Method} {c : Code} {Rp : RT} (C : Cx Z d jX12_message RX12 p R s m args meth c) : Sd Z jX12_message p e R s m args below meth c (MQ below (QcS Z Rp) args s 0 0 (fun a => Z.2.2.1 < a)) 93 (w_X12_message_93 (MS Z d) (Gw Z 3 p e R s m args below meth c (MQ below (QcS Z Rp) args s 0 0 (fun a => Z.2.2.1 < a))) Rp) := by
  unfold w_X12_message_93
  refine s_aload_n (k := 0) C (by decide +kernel) ?_
  refine s_aload_n (k := 0) C (by decide +kernel) ?_
  refine s_iload_n (k := 1) C (by decide +kernel) ?_
  refine s_iconst (n := 1) C (by decide +kernel) (by decide) ?_
  refine s_callV C rfl rfl (by decide +kernel) rfl w_8_123 w_8_125 w_p7_14 w_1_13 w_8_126 (by decide +kernel) ?_
  refine s_callV C rfl rfl (by decide +kernel) rfl w_6_232 w_6_234 w_p3_14 w_1_13 w_6_235 (by decide +kernel) ?_
  refine s_if_eq (off := 26) (tgt := 129) C (by decide +kernel) (by decide) (fun _ _ _ _ _ _ h => h) ?_
  refine s_aload_n (k := 0) C (by decide +kernel) ?_
  refine s_aload_n (k := 0) C (by decide +kernel) ?_
  refine s_iload_n (k := 1) C (by decide +kernel) ?_
  refine s_iconst (n := 0) C (by decide +kernel) (by decide) ?_
  refine s_callV C rfl rfl (by decide +kernel) rfl w_8_123 w_8_125 w_p7_14 w_1_13 w_8_126 (by decide +kernel) ?_
  refine s_aload_n (k := 0) C (by decide +kernel) ?_
  refine s_iload_n (k := 1) C (by decide +kernel) ?_
  refine s_iconst (n := 1) C (by decide +kernel) (by decide) ?_
  refine s_callV C rfl rfl (by decide +kernel) rfl w_8_123 w_8_125 w_p7_14 w_1_13 w_8_126 (by decide +kernel) ?_
  refine s_callV C rfl rfl (by decide +kernel) rfl w_7_31 w_7_33 w_p4_7 w_1_13 w_7_34 (by decide +kernel) ?_
  refine s_if_eq (off := 7) (tgt := 129) C (by decide +kernel) (by decide) (fun _ _ _ _ _ _ h => h) ?_
  refine s_iconst (n := 1) C (by decide +kernel) (by decide) ?_
  exact s_goto (off := 4) (tgt := 130) C (by decide +kernel) (by decide) (fun _ _ _ _ _ _ h => h)
set_option maxRecDepth 20000 in
theorem b_X12_message_129 {Z : Zt} {d : Nat} {p : Program} {e : Env} {R : Room} {s : State} {m : MethodId} {args : Array Value} {below : List Frame} {meth : Method} {c : Code} {Rp : RT} (C : Cx Z d jX12_message RX12 p R s m args meth c) : Sd Z jX12_message p e R s m args below meth c (MQ below (QcS Z Rp) args s 0 0 (fun a => Z.2.2.1 < a)) 129 (w_X12_message_129 (MS Z d) (Gw Z 3 p e R s m args below meth c (MQ below (QcS Z Rp) args s 0 0 (fun a => Z.2.2.1 < a))) Rp) := by
  unfold w_X12_message_129
  refine s_iconst (n := 0) C (by decide +kernel) (by decide) ?_
  exact (fun _ _ _ _ _ _ h => h)
set_option maxRecDepth 20000 in
theorem b_X12_message_130 {Z : Zt} {d : Nat} {p : Program} {e : Env} {R : Room} {s : State} {m : MethodId} {args : Array Value} {below : List Frame} {meth : Method} {c : Code} {Rp : RT} (C : Cx Z d jX12_message RX12 p R s m args meth c) : Sd Z jX12_message p e R s m args below meth c (MQ below (QcS Z Rp) args s 0 0 (fun a => Z.2.2.1 < a)) 130 (w_X12_message_130 (MS Z d) (Gw Z 3 p e R s m args below meth c (MQ below (QcS Z Rp) args s 0 0 (fun a => Z.2.2.1 < a))) Rp) := by
  unfold w_X12_message_130
  exact s_iret C rfl (by decide +kernel)
set_option maxRecDepth 20000 in
theorem b_X12_message_131 {Z : Zt} {d : Nat} {p : Program} {e : Env} {R : Room} {s : State} {m : MethodId} {args : Array Value} {below : List Frame} {meth : Method} {c : Code} {Rp : RT} (C : Cx Z d jX12_message RX12 p R s m args meth c) : Sd Z jX12_message p e R s m args below meth c (MQ below (QcS Z Rp) args s 0 0 (fun a => Z.2.2.1 < a)) 131 (w_X12_message_131 (MS Z d) (Gw Z 3 p e R s m args below meth c (MQ below (QcS Z Rp) args s 0 0 (fun a => Z.2.2.1 < a))) Rp) := by
  unfold w_X12_message_131
  refine s_aload_n (k := 0) C (by decide +kernel) ?_
  refine s_iload_n (k := 1) C (by decide +kernel) ?_
  refine s_bipush (n := 8) C (by decide +kernel) (by decide) ?_
  refine s_callV C rfl rfl (by decide +kernel) rfl w_8_123 w_8_125 w_p7_14 w_1_13 w_8_126 (by decide +kernel) ?_
  exact s_iret C rfl (by decide +kernel)
set_option maxRecDepth 20000 in
theorem b_X12_message_139 {Z : Zt} {d : Nat} {p : Program} {e : Env} {R : Room} {s : State} {m : MethodId} {args : Array Value} {below : List Frame} {meth : Method} {c : Code} {Rp : RT} (C : Cx Z d jX12_message RX12 p R s m args meth c) : Sd Z jX12_message p e R s m args below meth c (MQ below (QcS Z Rp) args s 0 0 (fun a => Z.2.2.1 < a)) 139 (w_X12_message_139 (MS Z d) (Gw Z 3 p e R s m args below meth c (MQ below (QcS Z Rp) args s 0 0 (fun a => Z.2.2.1 < a))) Rp) := by
  unfold w_X12_message_139
  refine s_bipush (n := (-2)) C (by decide +kernel) (by decide) ?_
  exact s_iret C rfl (by decide +kernel)
theorem ms_X12_message {Z : Zt} {d : Nat} {S : Sh} {μ : Mi} {ρ : Mr} {Rp : RT} (a0 : Nat) (x1 : Int32) (x2 : Int32) (h : ∀ G : Nat → PT, (∀ (L st : List Value) (S : Sh) (q : Nat × Nat) (μ : Mi) (ρ : Mr), w_X12_message_16 (MS Z d) G Rp L st S q μ ρ → G 16 L st S q μ ρ) → (∀ (L st : List Value) (S : Sh) (q : Nat × Nat) (μ : Mi) (ρ : Mr), w_X12_message_72 (MS Z d) G Rp L st S q μ ρ → G 72 L st S q μ ρ) → (∀ (L st : List Value) (S : Sh) (q : Nat × Nat) (μ : Mi) (ρ : Mr), w_X12_message_79 (MS Z d) G Rp L st S q μ ρ → G 79 L st S q μ ρ) → (∀ (L st : List Value) (S : Sh) (q : Nat × Nat) (μ : Mi) (ρ : Mr), w_X12_message_86 (MS Z d) G Rp L st S q μ ρ → G 86 L st S q μ ρ) → (∀ (L st : List Value) (S : Sh) (q : Nat × Nat) (μ : Mi) (ρ : Mr), w_X12_message_93 (MS Z d) G Rp L st S q μ ρ → G 93 L st S q μ ρ) → (∀ (L st : List Value) (S : Sh) (q : Nat × Nat) (μ : Mi) (ρ : Mr), w_X12_message_129 (MS Z d) G Rp L st S q μ ρ → G 129 L st S q μ ρ) → (∀ (L st : List Value) (S : Sh) (q : Nat × Nat) (μ : Mi) (ρ : Mr), w_X12_message_130 (MS Z d) G Rp L st S q μ ρ → G 130 L st S q μ ρ) → (∀ (L st : List Value) (S : Sh) (q : Nat × Nat) (μ : Mi) (ρ : Mr), w_X12_message_131 (MS Z d) G Rp L st S q μ ρ → G 131 L st S q μ ρ) → (∀ (L st : List Value) (S : Sh) (q : Nat × Nat) (μ : Mi) (ρ : Mr), w_X12_message_139 (MS Z d) G Rp L st S q μ ρ → G 139 L st S q μ ρ) → w_X12_message_0 (MS Z d) G Rp [.ref a0, .int x1, .int x2] [] S (0, 0) μ ρ) : MS Z (d + 1) jX12_message [.ref a0, .int x1, .int x2] S μ ρ Rp :=
  MS_of [.ref a0, .int x1, .int x2] (by decide +kernel) rfl rfl (Nat.le_of_ble_eq_true rfl) rfl (fun p e R s m args below meth c C => b_X12_message_0 C _ _ _ _ _ _ (h _ (b_X12_message_16 C) (b_X12_message_72 C) (b_X12_message_79 C) (b_X12_message_86 C) (b_X12_message_93 C) (b_X12_message_129 C) (b_X12_message_130 C) (b_X12_message_131 C) (b_X12_message_139 C)))
def w_X12_first_0 (M : CT) (G : Nat → PT) (Rp : RT) : PT := tAload 0 <| tConst 0 <| tPutI 12 27 0 <| tIload 1 <| tCallS M jX12_isStore 1 <| tIf (fun x => x = 0) (G 31) <| tIload 2 <| tCallS M jX12_isStore 1 <| tIf (fun x => x = 0) (G 31) <| tIload 3 <| tI2l <| tLconst 0 <| tLconst 8 <| tCallS M jX12_within 3 <| tIf (fun x => x ≠ 0) (G 34) <| G 31
def w_X12_first_31 (M : CT) (G : Nat → PT) (Rp : RT) : PT := tConst (-2) <| tIret Rp
def w_X12_first_34 (M : CT) (G : Nat → PT) (Rp : RT) : PT := tConst 0 <| tIstore 4 <| G 37
def w_X12_first_37 (M : CT) (G : Nat → PT) (Rp : RT) : PT := tIload 4 <| tAload 0 <| tGetR 12 27 1 <| tConst 4510 <| tAld 20 <| tIf2 (fun x y => y ≤ x) (G 92) <| tAload 0 <| tIload 4 <| tConst 0 <| tCallV M jX12_ofMessage 12 27 2 <| tIload 1 <| tIf2 (fun x y => x ≠ y) (G 86) <| tAload 0 <| tIload 4 <| tConst 1 <| tCallV M jX12_ofMessage 12 27 2 <| tIload 2 <| tIf2 (fun x y => x ≠ y) (G 86) <| tAload 0 <| tIload 4 <| tConst 3 <| tCallV M jX12_ofMessage 12 27 2 <| tIload 3 <| tIf2 (fun x y => x ≠ y) (G 86) <| tIload 4 <| tIret Rp
def w_X12_first_86 (M : CT) (G : Nat → PT) (Rp : RT) : PT := tIinc 4 1 <| tGoto (G 37)
def w_X12_first_92 (M : CT) (G : Nat → PT) (Rp : RT) : PT := tConst (-1) <| tIret Rp
set_option maxRecDepth 20000 in
theorem b_X12_first_0 {Z : Zt} {d : Nat} {p : Program} {e : Env} {R : Room} {s : State} {m : MethodId} {args : Array Value} {below : List Frame} {meth : Method} {c : Code} {Rp : RT} (C : Cx Z d jX12_first RX12 p R s m args meth c) : Sd Z jX12_first p e R s m args below meth c (MQ below (QcS Z Rp) args s 0 0 (fun a => Z.2.2.1 < a)) 0 (w_X12_first_0 (MS Z d) (Gw Z 5 p e R s m args below meth c (MQ below (QcS Z Rp) args s 0 0 (fun a => Z.2.2.1 < a))) Rp) := by
  unfold w_X12_first_0
  refine s_aload_n (k := 0) C (by decide +kernel) ?_
  refine s_iconst (n := 0) C (by decide +kernel) (by decide) ?_
  refine s_putI C w_6_87 (by decide +kernel) rfl (Or.inl rfl) ?_
  refine s_iload_n (k := 1) C (by decide +kernel) ?_
  refine s_callS C (by decide +kernel) rfl w_6_208 w_6_209 w_1_13 w_6_210 (by decide +kernel) ?_
  refine s_if_eq (off := 22) (tgt := 31) C (by decide +kernel) (by decide) (fun _ _ _ _ _ _ h => h) ?_
  refine s_iload_n (k := 2) C (by decide +kernel) ?_
  refine s_callS C (by decide +kernel) rfl w_6_208 w_6_209 w_1_13 w_6_210 (by decide +kernel) ?_
  refine s_if_eq (off := 15) (tgt := 31) C (by decide +kernel) (by decide) (fun _ _ _ _ _ _ h => h) ?_
  refine s_iload_n (k := 3) C (by decide +kernel) ?_
  refine s_i2l C (by decide +kernel) ?_
  refine s_lconst (n := 0) C (by decide +kernel) (by decide) ?_
  refine s_ldc2 C w_8_131 (by decide +kernel) ?_
  refine s_callS C (by decide +kernel) rfl w_6_175 w_6_176 w_1_13 w_6_177 (by decide +kernel) ?_
  refine s_if_ne (off := 6) (tgt := 34) C (by decide +kernel) (by decide) (fun _ _ _ _ _ _ h => h) ?_
  exact (fun _ _ _ _ _ _ h => h)
set_option maxRecDepth 20000 in
theorem b_X12_first_31 {Z : Zt} {d : Nat} {p : Program} {e : Env} {R : Room} {s : State} {m : MethodId} {args : Array Value} {below : List Frame} {meth : Method} {c : Code} {Rp : RT} (C : Cx Z d jX12_first RX12 p R s m args meth c) : Sd Z jX12_first p e R s m args below meth c (MQ below (QcS Z Rp) args s 0 0 (fun a => Z.2.2.1 < a)) 31 (w_X12_first_31 (MS Z d) (Gw Z 5 p e R s m args below meth c (MQ below (QcS Z Rp) args s 0 0 (fun a => Z.2.2.1 < a))) Rp) := by
  unfold w_X12_first_31
  refine s_bipush (n := (-2)) C (by decide +kernel) (by decide) ?_
  exact s_iret C rfl (by decide +kernel)
set_option maxRecDepth 20000 in
theorem b_X12_first_34 {Z : Zt} {d : Nat} {p : Program} {e : Env} {R : Room} {s : State} {m : MethodId} {args : Array Value} {below : List Frame} {meth : Method} {c : Code} {Rp : RT} (C : Cx Z d jX12_first RX12 p R s m args meth c) : Sd Z jX12_first p e R s m args below meth c (MQ below (QcS Z Rp) args s 0 0 (fun a => Z.2.2.1 < a)) 34 (w_X12_first_34 (MS Z d) (Gw Z 5 p e R s m args below meth c (MQ below (QcS Z Rp) args s 0 0 (fun a => Z.2.2.1 < a))) Rp) := by
  unfold w_X12_first_34
  refine s_iconst (n := 0) C (by decide +kernel) (by decide) ?_
  refine s_istore (k := 4) C (by decide +kernel) ?_
  exact (fun _ _ _ _ _ _ h => h)
set_option maxRecDepth 20000 in
theorem b_X12_first_37 {Z : Zt} {d : Nat} {p : Program} {e : Env} {R : Room} {s : State} {m : MethodId} {args : Array Value} {below : List Frame} {meth : Method} {c : Code} {Rp : RT} (C : Cx Z d jX12_first RX12 p R s m args meth c) : Sd Z jX12_first p e R s m args below meth c (MQ below (QcS Z Rp) args s 0 0 (fun a => Z.2.2.1 < a)) 37 (w_X12_first_37 (MS Z d) (Gw Z 5 p e R s m args below meth c (MQ below (QcS Z Rp) args s 0 0 (fun a => Z.2.2.1 < a))) Rp) := by
  unfold w_X12_first_37
  refine s_iload (k := 4) C (by decide +kernel) ?_
  refine s_aload_n (k := 0) C (by decide +kernel) ?_
  refine s_getR C w_6_88 (by decide +kernel) rfl ?_
  refine s_sipush (n := 4510) C (by decide +kernel) (by decide) ?_
  refine s_iald C (by decide +kernel) ?_
  refine s_icmp_ge (off := 45) (tgt := 92) C (by decide +kernel) (by decide) (fun _ _ _ _ _ _ h => h) ?_
  refine s_aload_n (k := 0) C (by decide +kernel) ?_
  refine s_iload (k := 4) C (by decide +kernel) ?_
  refine s_iconst (n := 0) C (by decide +kernel) (by decide) ?_
  refine s_callV C rfl rfl (by decide +kernel) rfl w_8_123 w_8_125 w_p7_14 w_1_13 w_8_126 (by decide +kernel) ?_
  refine s_iload_n (k := 1) C (by decide +kernel) ?_
  refine s_icmp_ne (off := 28) (tgt := 86) C (by decide +kernel) (by decide) (fun _ _ _ _ _ _ h => h) ?_
  refine s_aload_n (k := 0) C (by decide +kernel) ?_
  refine s_iload (k := 4) C (by decide +kernel) ?_
  refine s_iconst (n := 1) C (by decide +kernel) (by decide) ?_
  refine s_callV C rfl rfl (by decide +kernel) rfl w_8_123 w_8_125 w_p7_14 w_1_13 w_8_126 (by decide +kernel) ?_
  refine s_iload_n (k := 2) C (by decide +kernel) ?_
  refine s_icmp_ne (off := 17) (tgt := 86) C (by decide +kernel) (by decide) (fun _ _ _ _ _ _ h => h) ?_
  refine s_aload_n (k := 0) C (by decide +kernel) ?_
  refine s_iload (k := 4) C (by decide +kernel) ?_
  refine s_iconst (n := 3) C (by decide +kernel) (by decide) ?_
  refine s_callV C rfl rfl (by decide +kernel) rfl w_8_123 w_8_125 w_p7_14 w_1_13 w_8_126 (by decide +kernel) ?_
  refine s_iload_n (k := 3) C (by decide +kernel) ?_
  refine s_icmp_ne (off := 6) (tgt := 86) C (by decide +kernel) (by decide) (fun _ _ _ _ _ _ h => h) ?_
  refine s_iload (k := 4) C (by decide +kernel) ?_
  exact s_iret C rfl (by decide +kernel)
set_option maxRecDepth 20000 in
theorem b_X12_first_86 {Z : Zt} {d : Nat} {p : Program} {e : Env} {R : Room} {s : State} {m : MethodId} {args : Array Value} {below : List Frame} {meth : Method} {c : Code} {Rp : RT} (C : Cx Z d jX12_first RX12 p R s m args meth c) : Sd Z jX12_first p e R s m args below meth c (MQ below (QcS Z Rp) args s 0 0 (fun a => Z.2.2.1 < a)) 86 (w_X12_first_86 (MS Z d) (Gw Z 5 p e R s m args below meth c (MQ below (QcS Z Rp) args s 0 0 (fun a => Z.2.2.1 < a))) Rp) := by
  unfold w_X12_first_86
  refine s_iinc (n := 1) C (by decide +kernel) (by decide) ?_
  exact s_goto (off := (-52)) (tgt := 37) C (by decide +kernel) (by decide) (fun _ _ _ _ _ _ h => h)
set_option maxRecDepth 20000 in
theorem b_X12_first_92 {Z : Zt} {d : Nat} {p : Program} {e : Env} {R : Room} {s : State} {m : MethodId} {args : Array Value} {below : List Frame} {meth : Method} {c : Code} {Rp : RT} (C : Cx Z d jX12_first RX12 p R s m args meth c) : Sd Z jX12_first p e R s m args below meth c (MQ below (QcS Z Rp) args s 0 0 (fun a => Z.2.2.1 < a)) 92 (w_X12_first_92 (MS Z d) (Gw Z 5 p e R s m args below meth c (MQ below (QcS Z Rp) args s 0 0 (fun a => Z.2.2.1 < a))) Rp) := by
  unfold w_X12_first_92
  refine s_iconst (n := (-1)) C (by decide +kernel) (by decide) ?_
  exact s_iret C rfl (by decide +kernel)
theorem ms_X12_first {Z : Zt} {d : Nat} {S : Sh} {μ : Mi} {ρ : Mr} {Rp : RT} (a0 : Nat) (x1 : Int32) (x2 : Int32) (x3 : Int32) (h : ∀ G : Nat → PT, (∀ (L st : List Value) (S : Sh) (q : Nat × Nat) (μ : Mi) (ρ : Mr), w_X12_first_31 (MS Z d) G Rp L st S q μ ρ → G 31 L st S q μ ρ) → (∀ (L st : List Value) (S : Sh) (q : Nat × Nat) (μ : Mi) (ρ : Mr), w_X12_first_34 (MS Z d) G Rp L st S q μ ρ → G 34 L st S q μ ρ) → (∀ (L st : List Value) (S : Sh) (q : Nat × Nat) (μ : Mi) (ρ : Mr), w_X12_first_37 (MS Z d) G Rp L st S q μ ρ → G 37 L st S q μ ρ) → (∀ (L st : List Value) (S : Sh) (q : Nat × Nat) (μ : Mi) (ρ : Mr), w_X12_first_86 (MS Z d) G Rp L st S q μ ρ → G 86 L st S q μ ρ) → (∀ (L st : List Value) (S : Sh) (q : Nat × Nat) (μ : Mi) (ρ : Mr), w_X12_first_92 (MS Z d) G Rp L st S q μ ρ → G 92 L st S q μ ρ) → w_X12_first_0 (MS Z d) G Rp [.ref a0, .int x1, .int x2, .int x3, .null] [] S (0, 0) μ ρ) : MS Z (d + 1) jX12_first [.ref a0, .int x1, .int x2, .int x3] S μ ρ Rp :=
  MS_of [.ref a0, .int x1, .int x2, .int x3, .null] (by decide +kernel) rfl rfl (Nat.le_of_ble_eq_true rfl) rfl (fun p e R s m args below meth c C => b_X12_first_0 C _ _ _ _ _ _ (h _ (b_X12_first_31 C) (b_X12_first_34 C) (b_X12_first_37 C) (b_X12_first_86 C) (b_X12_first_92 C)))
def w_X12_linked_0 (M : CT) (G : Nat → PT) (Rp : RT) : PT := tAload 0 <| tConst 0 <| tPutI 12 27 0 <| tIload 1 <| tCallS M jX12_isStore 1 <| tIf (fun x => x = 0) (G 19) <| tIload 2 <| tCallS M jX12_isStore 1 <| tIf (fun x => x ≠ 0) (G 22) <| G 19
def w_X12_linked_19 (M : CT) (G : Nat → PT) (Rp : RT) : PT := tConst (-2) <| tIret Rp
def w_X12_linked_22 (M : CT) (G : Nat → PT) (Rp : RT) : PT := tIload 1 <| tIload 2 <| tIf2 (fun x y => x ≠ y) (G 32) <| tConst (-3) <| tGoto (G 46)
def w_X12_linked_32 (M : CT) (G : Nat → PT) (Rp : RT) : PT := tAload 0 <| tIload 1 <| tIload 2 <| tCallV M jX12_isLinked 12 27 2 <| tIf (fun x => x = 0) (G 45) <| tConst 1 <| tGoto (G 46)
def w_X12_linked_45 (M : CT) (G : Nat → PT) (Rp : RT) : PT := tConst 0 <| G 46
def w_X12_linked_46 (M : CT) (G : Nat → PT) (Rp : RT) : PT := tIret Rp
set_option maxRecDepth 20000 in
theorem b_X12_linked_0 {Z : Zt} {d : Nat} {p : Program} {e : Env} {R : Room} {s : State} {m : MethodId} {args : Array Value} {below : List Frame} {meth : Method} {c : Code} {Rp : RT} (C : Cx Z d jX12_linked RX12 p R s m args meth c) : Sd Z jX12_linked p e R s m args below meth c (MQ below (QcS Z Rp) args s 0 0 (fun a => Z.2.2.1 < a)) 0 (w_X12_linked_0 (MS Z d) (Gw Z 3 p e R s m args below meth c (MQ below (QcS Z Rp) args s 0 0 (fun a => Z.2.2.1 < a))) Rp) := by
  unfold w_X12_linked_0
  refine s_aload_n (k := 0) C (by decide +kernel) ?_
  refine s_iconst (n := 0) C (by decide +kernel) (by decide) ?_
  refine s_putI C w_6_87 (by decide +kernel) rfl (Or.inl rfl) ?_
  refine s_iload_n (k := 1) C (by decide +kernel) ?_
  refine s_callS C (by decide +kernel) rfl w_6_208 w_6_209 w_1_13 w_6_210 (by decide +kernel) ?_
  refine s_if_eq (off := 10) (tgt := 19) C (by decide +kernel) (by decide) (fun _ _ _ _ _ _ h => h) ?_
  refine s_iload_n (k := 2) C (by decide +kernel) ?_
  refine s_callS C (by decide +kernel) rfl w_6_208 w_6_209 w_1_13 w_6_210 (by decide +kernel) ?_
  refine s_if_ne (off := 6) (tgt := 22) C (by decide +kernel) (by decide) (fun _ _ _ _ _ _ h => h) ?_
  exact (fun _ _ _ _ _ _ h => h)
set_option maxRecDepth 20000 in
theorem b_X12_linked_19 {Z : Zt} {d : Nat} {p : Program} {e : Env} {R : Room} {s : State} {m : MethodId} {args : Array Value} {below : List Frame} {meth : Method} {c : Code} {Rp : RT} (C : Cx Z d jX12_linked RX12 p R s m args meth c) : Sd Z jX12_linked p e R s m args below meth c (MQ below (QcS Z Rp) args s 0 0 (fun a => Z.2.2.1 < a)) 19 (w_X12_linked_19 (MS Z d) (Gw Z 3 p e R s m args below meth c (MQ below (QcS Z Rp) args s 0 0 (fun a => Z.2.2.1 < a))) Rp) := by
  unfold w_X12_linked_19
  refine s_bipush (n := (-2)) C (by decide +kernel) (by decide) ?_
  exact s_iret C rfl (by decide +kernel)
set_option maxRecDepth 20000 in
theorem b_X12_linked_22 {Z : Zt} {d : Nat} {p : Program} {e : Env} {R : Room} {s : State} {m : MethodId} {args : Array Value} {below : List Frame} {meth : Method} {c : Code} {Rp : RT} (C : Cx Z d jX12_linked RX12 p R s m args meth c) : Sd Z jX12_linked p e R s m args below meth c (MQ below (QcS Z Rp) args s 0 0 (fun a => Z.2.2.1 < a)) 22 (w_X12_linked_22 (MS Z d) (Gw Z 3 p e R s m args below meth c (MQ below (QcS Z Rp) args s 0 0 (fun a => Z.2.2.1 < a))) Rp) := by
  unfold w_X12_linked_22
  refine s_iload_n (k := 1) C (by decide +kernel) ?_
  refine s_iload_n (k := 2) C (by decide +kernel) ?_
  refine s_icmp_ne (off := 8) (tgt := 32) C (by decide +kernel) (by decide) (fun _ _ _ _ _ _ h => h) ?_
  refine s_bipush (n := (-3)) C (by decide +kernel) (by decide) ?_
  exact s_goto (off := 17) (tgt := 46) C (by decide +kernel) (by decide) (fun _ _ _ _ _ _ h => h)
set_option maxRecDepth 20000 in
theorem b_X12_linked_32 {Z : Zt} {d : Nat} {p : Program} {e : Env} {R : Room} {s : State} {m : MethodId} {args : Array Value} {below : List Frame} {meth : Method} {c : Code} {Rp : RT} (C : Cx Z d jX12_linked RX12 p R s m args meth c) : Sd Z jX12_linked p e R s m args below meth c (MQ below (QcS Z Rp) args s 0 0 (fun a => Z.2.2.1 < a)) 32 (w_X12_linked_32 (MS Z d) (Gw Z 3 p e R s m args below meth c (MQ below (QcS Z Rp) args s 0 0 (fun a => Z.2.2.1 < a))) Rp) := by
  unfold w_X12_linked_32
  refine s_aload_n (k := 0) C (by decide +kernel) ?_
  refine s_iload_n (k := 1) C (by decide +kernel) ?_
  refine s_iload_n (k := 2) C (by decide +kernel) ?_
  refine s_callV C rfl rfl (by decide +kernel) rfl w_7_31 w_7_33 w_p4_7 w_1_13 w_7_34 (by decide +kernel) ?_
  refine s_if_eq (off := 7) (tgt := 45) C (by decide +kernel) (by decide) (fun _ _ _ _ _ _ h => h) ?_
  refine s_iconst (n := 1) C (by decide +kernel) (by decide) ?_
  exact s_goto (off := 4) (tgt := 46) C (by decide +kernel) (by decide) (fun _ _ _ _ _ _ h => h)
set_option maxRecDepth 20000 in
theorem b_X12_linked_45 {Z : Zt} {d : Nat} {p : Program} {e : Env} {R : Room} {s : State} {m : MethodId} {args : Array Value} {below : List Frame} {meth : Method} {c : Code} {Rp : RT} (C : Cx Z d jX12_linked RX12 p R s m args meth c) : Sd Z jX12_linked p e R s m args below meth c (MQ below (QcS Z Rp) args s 0 0 (fun a => Z.2.2.1 < a)) 45 (w_X12_linked_45 (MS Z d) (Gw Z 3 p e R s m args below meth c (MQ below (QcS Z Rp) args s 0 0 (fun a => Z.2.2.1 < a))) Rp) := by
  unfold w_X12_linked_45
  refine s_iconst (n := 0) C (by decide +kernel) (by decide) ?_
  exact (fun _ _ _ _ _ _ h => h)
set_option maxRecDepth 20000 in
theorem b_X12_linked_46 {Z : Zt} {d : Nat} {p : Program} {e : Env} {R : Room} {s : State} {m : MethodId} {args : Array Value} {below : List Frame} {meth : Method} {c : Code} {Rp : RT} (C : Cx Z d jX12_linked RX12 p R s m args meth c) : Sd Z jX12_linked p e R s m args below meth c (MQ below (QcS Z Rp) args s 0 0 (fun a => Z.2.2.1 < a)) 46 (w_X12_linked_46 (MS Z d) (Gw Z 3 p e R s m args below meth c (MQ below (QcS Z Rp) args s 0 0 (fun a => Z.2.2.1 < a))) Rp) := by
  unfold w_X12_linked_46
  exact s_iret C rfl (by decide +kernel)
theorem ms_X12_linked {Z : Zt} {d : Nat} {S : Sh} {μ : Mi} {ρ : Mr} {Rp : RT} (a0 : Nat) (x1 : Int32) (x2 : Int32) (h : ∀ G : Nat → PT, (∀ (L st : List Value) (S : Sh) (q : Nat × Nat) (μ : Mi) (ρ : Mr), w_X12_linked_19 (MS Z d) G Rp L st S q μ ρ → G 19 L st S q μ ρ) → (∀ (L st : List Value) (S : Sh) (q : Nat × Nat) (μ : Mi) (ρ : Mr), w_X12_linked_22 (MS Z d) G Rp L st S q μ ρ → G 22 L st S q μ ρ) → (∀ (L st : List Value) (S : Sh) (q : Nat × Nat) (μ : Mi) (ρ : Mr), w_X12_linked_32 (MS Z d) G Rp L st S q μ ρ → G 32 L st S q μ ρ) → (∀ (L st : List Value) (S : Sh) (q : Nat × Nat) (μ : Mi) (ρ : Mr), w_X12_linked_45 (MS Z d) G Rp L st S q μ ρ → G 45 L st S q μ ρ) → (∀ (L st : List Value) (S : Sh) (q : Nat × Nat) (μ : Mi) (ρ : Mr), w_X12_linked_46 (MS Z d) G Rp L st S q μ ρ → G 46 L st S q μ ρ) → w_X12_linked_0 (MS Z d) G Rp [.ref a0, .int x1, .int x2] [] S (0, 0) μ ρ) : MS Z (d + 1) jX12_linked [.ref a0, .int x1, .int x2] S μ ρ Rp :=
  MS_of [.ref a0, .int x1, .int x2] (by decide +kernel) rfl rfl (Nat.le_of_ble_eq_true rfl) rfl (fun p e R s m args below meth c C => b_X12_linked_0 C _ _ _ _ _ _ (h _ (b_X12_linked_19 C) (b_X12_linked_22 C) (b_X12_linked_32 C) (b_X12_linked_45 C) (b_X12_linked_46 C)))
def w_X12_alike_0 (M : CT) (G : Nat → PT) (Rp : RT) : PT := tAload 0 <| tConst 0 <| tPutI 12 27 0 <| tIload 1 <| tCallS M jX12_isStore 1 <| tIf (fun x => x = 0) (G 19) <| tIload 2 <| tCallS M jX12_isStore 1 <| tIf (fun x => x ≠ 0) (G 22) <| G 19
def w_X12_alike_19 (M : CT) (G : Nat → PT) (Rp : RT) : PT := tConst (-2) <| tIret Rp
def w_X12_alike_22 (M : CT) (G : Nat → PT) (Rp : RT) : PT := tIload 1 <| tIload 2 <| tIf2 (fun x y => x ≠ y) (G 30) <| tConst (-3) <| tIret Rp
def w_X12_alike_30 (M : CT) (G : Nat → PT) (Rp : RT) : PT := tAload 0 <| tIload 1 <| tConst 4 <| tCallV M jX12_of 12 27 2 <| tAload 0 <| tIload 2 <| tConst 4 <| tCallV M jX12_of 12 27 2 <| tCallS M jX12_lesser 2 <| tIstore 3 <| G 46
def w_X12_alike_46 (M : CT) (G : Nat → PT) (Rp : RT) : PT := tIload 3 <| tIf (fun x => x ≤ 0) (G 83) <| tAload 0 <| tIload 1 <| tIload 3 <| tCallV M jX12_termAt 12 27 2 <| tConst (-1) <| tIf2 (fun x y => x = y) (G 77) <| tAload 0 <| tIload 1 <| tIload 3 <| tCallV M jX12_termAt 12 27 2 <| tAload 0 <| tIload 2 <| tIload 3 <| tCallV M jX12_termAt 12 27 2 <| tIf2 (fun x y => x ≠ y) (G 77) <| tIload 3 <| tIret Rp
def w_X12_alike_77 (M : CT) (G : Nat → PT) (Rp : RT) : PT := tIinc 3 (-1) <| tGoto (G 46)
def w_X12_alike_83 (M : CT) (G : Nat → PT) (Rp : RT) : PT := tConst 0 <| tIret Rp
set_option maxRecDepth 20000 in
theorem b_X12_alike_0 {Z : Zt} {d : Nat} {p : Program} {e : Env} {R : Room} {s : State} {m : MethodId} {args : Array Value} {below : List Frame} {meth : Method} {c : Code} {Rp : RT} (C : Cx Z d jX12_alike RX12 p R s m args meth c) : Sd Z jX12_alike p e R s m args below meth c (MQ below (QcS Z Rp) args s 0 0 (fun a => Z.2.2.1 < a)) 0 (w_X12_alike_0 (MS Z d) (Gw Z 4 p e R s m args below meth c (MQ below (QcS Z Rp) args s 0 0 (fun a => Z.2.2.1 < a))) Rp) := by
  unfold w_X12_alike_0
  refine s_aload_n (k := 0) C (by decide +kernel) ?_
  refine s_iconst (n := 0) C (by decide +kernel) (by decide) ?_
  refine s_putI C w_6_87 (by decide +kernel) rfl (Or.inl rfl) ?_
  refine s_iload_n (k := 1) C (by decide +kernel) ?_
  refine s_callS C (by decide +kernel) rfl w_6_208 w_6_209 w_1_13 w_6_210 (by decide +kernel) ?_
  refine s_if_eq (off := 10) (tgt := 19) C (by decide +kernel) (by decide) (fun _ _ _ _ _ _ h => h) ?_
  refine s_iload_n (k := 2) C (by decide +kernel) ?_
  refine s_callS C (by decide +kernel) rfl w_6_208 w_6_209 w_1_13 w_6_210 (by decide +kernel) ?_
  refine s_if_ne (off := 6) (tgt := 22) C (by decide +kernel) (by decide) (fun _ _ _ _ _ _ h => h) ?_
  exact (fun _ _ _ _ _ _ h => h)
set_option maxRecDepth 20000 in
theorem b_X12_alike_19 {Z : Zt} {d : Nat} {p : Program} {e : Env} {R : Room} {s : State} {m : MethodId} {args : Array Value} {below : List Frame} {meth : Method} {c : Code} {Rp : RT} (C : Cx Z d jX12_alike RX12 p R s m args meth c) : Sd Z jX12_alike p e R s m args below meth c (MQ below (QcS Z Rp) args s 0 0 (fun a => Z.2.2.1 < a)) 19 (w_X12_alike_19 (MS Z d) (Gw Z 4 p e R s m args below meth c (MQ below (QcS Z Rp) args s 0 0 (fun a => Z.2.2.1 < a))) Rp) := by
  unfold w_X12_alike_19
  refine s_bipush (n := (-2)) C (by decide +kernel) (by decide) ?_
  exact s_iret C rfl (by decide +kernel)
set_option maxRecDepth 20000 in
theorem b_X12_alike_22 {Z : Zt} {d : Nat} {p : Program} {e : Env} {R : Room} {s : State} {m : MethodId} {args : Array Value} {below : List Frame} {meth : Method} {c : Code} {Rp : RT} (C : Cx Z d jX12_alike RX12 p R s m args meth c) : Sd Z jX12_alike p e R s m args below meth c (MQ below (QcS Z Rp) args s 0 0 (fun a => Z.2.2.1 < a)) 22 (w_X12_alike_22 (MS Z d) (Gw Z 4 p e R s m args below meth c (MQ below (QcS Z Rp) args s 0 0 (fun a => Z.2.2.1 < a))) Rp) := by
  unfold w_X12_alike_22
  refine s_iload_n (k := 1) C (by decide +kernel) ?_
  refine s_iload_n (k := 2) C (by decide +kernel) ?_
  refine s_icmp_ne (off := 6) (tgt := 30) C (by decide +kernel) (by decide) (fun _ _ _ _ _ _ h => h) ?_
  refine s_bipush (n := (-3)) C (by decide +kernel) (by decide) ?_
  exact s_iret C rfl (by decide +kernel)
set_option maxRecDepth 20000 in
theorem b_X12_alike_30 {Z : Zt} {d : Nat} {p : Program} {e : Env} {R : Room} {s : State} {m : MethodId} {args : Array Value} {below : List Frame} {meth : Method} {c : Code} {Rp : RT} (C : Cx Z d jX12_alike RX12 p R s m args meth c) : Sd Z jX12_alike p e R s m args below meth c (MQ below (QcS Z Rp) args s 0 0 (fun a => Z.2.2.1 < a)) 30 (w_X12_alike_30 (MS Z d) (Gw Z 4 p e R s m args below meth c (MQ below (QcS Z Rp) args s 0 0 (fun a => Z.2.2.1 < a))) Rp) := by
  unfold w_X12_alike_30
  refine s_aload_n (k := 0) C (by decide +kernel) ?_
  refine s_iload_n (k := 1) C (by decide +kernel) ?_
  refine s_iconst (n := 4) C (by decide +kernel) (by decide) ?_
  refine s_callV C rfl rfl (by decide +kernel) rfl w_6_220 w_6_222 w_p3_11 w_1_13 w_6_223 (by decide +kernel) ?_
  refine s_aload_n (k := 0) C (by decide +kernel) ?_
  refine s_iload_n (k := 2) C (by decide +kernel) ?_
  refine s_iconst (n := 4) C (by decide +kernel) (by decide) ?_
  refine s_callV C rfl rfl (by decide +kernel) rfl w_6_220 w_6_222 w_p3_11 w_1_13 w_6_223 (by decide +kernel) ?_
  refine s_callS C (by decide +kernel) rfl w_7_55 w_7_56 w_1_13 w_7_57 (by decide +kernel) ?_
  refine s_istore_n (k := 3) C (by decide +kernel) ?_
  exact (fun _ _ _ _ _ _ h => h)
set_option maxRecDepth 20000 in
theorem b_X12_alike_46 {Z : Zt} {d : Nat} {p : Program} {e : Env} {R : Room} {s : State} {m : MethodId} {args : Array Value} {below : List Frame} {meth : Method} {c : Code} {Rp : RT} (C : Cx Z d jX12_alike RX12 p R s m args meth c) : Sd Z jX12_alike p e R s m args below meth c (MQ below (QcS Z Rp) args s 0 0 (fun a => Z.2.2.1 < a)) 46 (w_X12_alike_46 (MS Z d) (Gw Z 4 p e R s m args below meth c (MQ below (QcS Z Rp) args s 0 0 (fun a => Z.2.2.1 < a))) Rp) := by
  unfold w_X12_alike_46
  refine s_iload_n (k := 3) C (by decide +kernel) ?_
  refine s_if_le (off := 36) (tgt := 83) C (by decide +kernel) (by decide) (fun _ _ _ _ _ _ h => h) ?_
  refine s_aload_n (k := 0) C (by decide +kernel) ?_
  refine s_iload_n (k := 1) C (by decide +kernel) ?_
  refine s_iload_n (k := 3) C (by decide +kernel) ?_
  refine s_callV C rfl rfl (by decide +kernel) rfl w_7_23 w_7_25 w_p4_5 w_1_13 w_7_26 (by decide +kernel) ?_
  refine s_iconst (n := (-1)) C (by decide +kernel) (by decide) ?_
  refine s_icmp_eq (off := 20) (tgt := 77) C (by decide +kernel) (by decide) (fun _ _ _ _ _ _ h => h) ?_
  refine s_aload_n (k := 0) C (by decide +kernel) ?_
  refine s_iload_n (k := 1) C (by decide +kernel) ?_
  refine s_iload_n (k := 3) C (by decide +kernel) ?_
  refine s_callV C rfl rfl (by decide +kernel) rfl w_7_23 w_7_25 w_p4_5 w_1_13 w_7_26 (by decide +kernel) ?_
  refine s_aload_n (k := 0) C (by decide +kernel) ?_
  refine s_iload_n (k := 2) C (by decide +kernel) ?_
  refine s_iload_n (k := 3) C (by decide +kernel) ?_
  refine s_callV C rfl rfl (by decide +kernel) rfl w_7_23 w_7_25 w_p4_5 w_1_13 w_7_26 (by decide +kernel) ?_
  refine s_icmp_ne (off := 5) (tgt := 77) C (by decide +kernel) (by decide) (fun _ _ _ _ _ _ h => h) ?_
  refine s_iload_n (k := 3) C (by decide +kernel) ?_
  exact s_iret C rfl (by decide +kernel)
set_option maxRecDepth 20000 in
theorem b_X12_alike_77 {Z : Zt} {d : Nat} {p : Program} {e : Env} {R : Room} {s : State} {m : MethodId} {args : Array Value} {below : List Frame} {meth : Method} {c : Code} {Rp : RT} (C : Cx Z d jX12_alike RX12 p R s m args meth c) : Sd Z jX12_alike p e R s m args below meth c (MQ below (QcS Z Rp) args s 0 0 (fun a => Z.2.2.1 < a)) 77 (w_X12_alike_77 (MS Z d) (Gw Z 4 p e R s m args below meth c (MQ below (QcS Z Rp) args s 0 0 (fun a => Z.2.2.1 < a))) Rp) := by
  unfold w_X12_alike_77
  refine s_iinc (n := (-1)) C (by decide +kernel) (by decide) ?_
  exact s_goto (off := (-34)) (tgt := 46) C (by decide +kernel) (by decide) (fun _ _ _ _ _ _ h => h)
set_option maxRecDepth 20000 in
theorem b_X12_alike_83 {Z : Zt} {d : Nat} {p : Program} {e : Env} {R : Room} {s : State} {m : MethodId} {args : Array Value} {below : List Frame} {meth : Method} {c : Code} {Rp : RT} (C : Cx Z d jX12_alike RX12 p R s m args meth c) : Sd Z jX12_alike p e R s m args below meth c (MQ below (QcS Z Rp) args s 0 0 (fun a => Z.2.2.1 < a)) 83 (w_X12_alike_83 (MS Z d) (Gw Z 4 p e R s m args below meth c (MQ below (QcS Z Rp) args s 0 0 (fun a => Z.2.2.1 < a))) Rp) := by
  unfold w_X12_alike_83
  refine s_iconst (n := 0) C (by decide +kernel) (by decide) ?_
  exact s_iret C rfl (by decide +kernel)
theorem ms_X12_alike {Z : Zt} {d : Nat} {S : Sh} {μ : Mi} {ρ : Mr} {Rp : RT} (a0 : Nat) (x1 : Int32) (x2 : Int32) (h : ∀ G : Nat → PT, (∀ (L st : List Value) (S : Sh) (q : Nat × Nat) (μ : Mi) (ρ : Mr), w_X12_alike_19 (MS Z d) G Rp L st S q μ ρ → G 19 L st S q μ ρ) → (∀ (L st : List Value) (S : Sh) (q : Nat × Nat) (μ : Mi) (ρ : Mr), w_X12_alike_22 (MS Z d) G Rp L st S q μ ρ → G 22 L st S q μ ρ) → (∀ (L st : List Value) (S : Sh) (q : Nat × Nat) (μ : Mi) (ρ : Mr), w_X12_alike_30 (MS Z d) G Rp L st S q μ ρ → G 30 L st S q μ ρ) → (∀ (L st : List Value) (S : Sh) (q : Nat × Nat) (μ : Mi) (ρ : Mr), w_X12_alike_46 (MS Z d) G Rp L st S q μ ρ → G 46 L st S q μ ρ) → (∀ (L st : List Value) (S : Sh) (q : Nat × Nat) (μ : Mi) (ρ : Mr), w_X12_alike_77 (MS Z d) G Rp L st S q μ ρ → G 77 L st S q μ ρ) → (∀ (L st : List Value) (S : Sh) (q : Nat × Nat) (μ : Mi) (ρ : Mr), w_X12_alike_83 (MS Z d) G Rp L st S q μ ρ → G 83 L st S q μ ρ) → w_X12_alike_0 (MS Z d) G Rp [.ref a0, .int x1, .int x2, .null] [] S (0, 0) μ ρ) : MS Z (d + 1) jX12_alike [.ref a0, .int x1, .int x2] S μ ρ Rp :=
  MS_of [.ref a0, .int x1, .int x2, .null] (by decide +kernel) rfl rfl (Nat.le_of_ble_eq_true rfl) rfl (fun p e R s m args below meth c C => b_X12_alike_0 C _ _ _ _ _ _ (h _ (b_X12_alike_19 C) (b_X12_alike_22 C) (b_X12_alike_30 C) (b_X12_alike_46 C) (b_X12_alike_77 C) (b_X12_alike_83 C)))
def w_X12_grantsTo_0 (M : CT) (G : Nat → PT) (Rp : RT) : PT := tConst 0 <| tIstore 2 <| tConst 0 <| tIstore 3 <| G 4
def w_X12_grantsTo_4 (M : CT) (G : Nat → PT) (Rp : RT) : PT := tIload 3 <| tConst 5 <| tIf2 (fun x y => y ≤ x) (G 50) <| tIload 2 <| tAload 0 <| tIload 3 <| tAload 0 <| tIload 1 <| tConst 4 <| tCallV M jX12_of 12 27 2 <| tAload 0 <| tIload 1 <| tAload 0 <| tIload 1 <| tConst 4 <| tCallV M jX12_of 12 27 2 <| tCallV M jX12_termAt 12 27 2 <| tCallV M jX12_isAsFar 12 27 3 <| tIf (fun x => x = 0) (G 41) <| tConst 1 <| tIload 3 <| tBin (fun x y => x <<< (y &&& 31)) <| tGoto (G 42)
def w_X12_grantsTo_41 (M : CT) (G : Nat → PT) (Rp : RT) : PT := tConst 0 <| G 42
def w_X12_grantsTo_42 (M : CT) (G : Nat → PT) (Rp : RT) : PT := tBin (fun x y => x ||| y) <| tIstore 2 <| tIinc 3 1 <| tGoto (G 4)
def w_X12_grantsTo_50 (M : CT) (G : Nat → PT) (Rp : RT) : PT := tIload 2 <| tIret Rp
set_option maxRecDepth 20000 in
theorem b_X12_grantsTo_0 {Z : Zt} {d : Nat} {p : Program} {e : Env} {R : Room} {s : State} {m : MethodId} {args : Array Value} {below : List Frame} {meth : Method} {c : Code} {Rp : RT} (C : Cx Z d jX12_grantsTo RX12 p R s m args meth c) : Sd Z jX12_grantsTo p e R s m args below meth c (MQ below (QcS Z Rp) args s 0 0 (fun a => Z.2.2.1 < a)) 0 (w_X12_grantsTo_0 (MS Z d) (Gw Z 4 p e R s m args below meth c (MQ below (QcS Z Rp) args s 0 0 (fun a => Z.2.2.1 < a))) Rp) := by
  unfold w_X12_grantsTo_0
  refine s_iconst (n := 0) C (by decide +kernel) (by decide) ?_
  refine s_istore_n (k := 2) C (by decide +kernel) ?_
  refine s_iconst (n := 0) C (by decide +kernel) (by decide) ?_
  refine s_istore_n (k := 3) C (by decide +kernel) ?_
  exact (fun _ _ _ _ _ _ h => h)
set_option maxRecDepth 20000 in
theorem b_X12_grantsTo_4 {Z : Zt} {d : Nat} {p : Program} {e : Env} {R : Room} {s : State} {m : MethodId} {args : Array Value} {below : List Frame} {meth : Method} {c : Code} {Rp : RT} (C : Cx Z d jX12_grantsTo RX12 p R s m args meth c) : Sd Z jX12_grantsTo p e R s m args below meth c (MQ below (QcS Z Rp) args s 0 0 (fun a => Z.2.2.1 < a)) 4 (w_X12_grantsTo_4 (MS Z d) (Gw Z 4 p e R s m args below meth c (MQ below (QcS Z Rp) args s 0 0 (fun a => Z.2.2.1 < a))) Rp) := by
  unfold w_X12_grantsTo_4
  refine s_iload_n (k := 3) C (by decide +kernel) ?_
  refine s_iconst (n := 5) C (by decide +kernel) (by decide) ?_
  refine s_icmp_ge (off := 44) (tgt := 50) C (by decide +kernel) (by decide) (fun _ _ _ _ _ _ h => h) ?_
  refine s_iload_n (k := 2) C (by decide +kernel) ?_
  refine s_aload_n (k := 0) C (by decide +kernel) ?_
  refine s_iload_n (k := 3) C (by decide +kernel) ?_
  refine s_aload_n (k := 0) C (by decide +kernel) ?_
  refine s_iload_n (k := 1) C (by decide +kernel) ?_
  refine s_iconst (n := 4) C (by decide +kernel) (by decide) ?_
  refine s_callV C rfl rfl (by decide +kernel) rfl w_6_220 w_6_222 w_p3_11 w_1_13 w_6_223 (by decide +kernel) ?_
  refine s_aload_n (k := 0) C (by decide +kernel) ?_
  refine s_iload_n (k := 1) C (by decide +kernel) ?_
  refine s_aload_n (k := 0) C (by decide +kernel) ?_
  refine s_iload_n (k := 1) C (by decide +kernel) ?_
  refine s_iconst (n := 4) C (by decide +kernel) (by decide) ?_
  refine s_callV C rfl rfl (by decide +kernel) rfl w_6_220 w_6_222 w_p3_11 w_1_13 w_6_223 (by decide +kernel) ?_
  refine s_callV C rfl rfl (by decide +kernel) rfl w_7_23 w_7_25 w_p4_5 w_1_13 w_7_26 (by decide +kernel) ?_
  refine s_callV C rfl rfl (by decide +kernel) rfl w_7_188 w_7_190 w_p6_1 w_1_13 w_7_191 (by decide +kernel) ?_
  refine s_if_eq (off := 9) (tgt := 41) C (by decide +kernel) (by decide) (fun _ _ _ _ _ _ h => h) ?_
  refine s_iconst (n := 1) C (by decide +kernel) (by decide) ?_
  refine s_iload_n (k := 3) C (by decide +kernel) ?_
  refine s_ishl C (by decide +kernel) ?_
  exact s_goto (off := 4) (tgt := 42) C (by decide +kernel) (by decide) (fun _ _ _ _ _ _ h => h)
set_option maxRecDepth 20000 in
theorem b_X12_grantsTo_41 {Z : Zt} {d : Nat} {p : Program} {e : Env} {R : Room} {s : State} {m : MethodId} {args : Array Value} {below : List Frame} {meth : Method} {c : Code} {Rp : RT} (C : Cx Z d jX12_grantsTo RX12 p R s m args meth c) : Sd Z jX12_grantsTo p e R s m args below meth c (MQ below (QcS Z Rp) args s 0 0 (fun a => Z.2.2.1 < a)) 41 (w_X12_grantsTo_41 (MS Z d) (Gw Z 4 p e R s m args below meth c (MQ below (QcS Z Rp) args s 0 0 (fun a => Z.2.2.1 < a))) Rp) := by
  unfold w_X12_grantsTo_41
  refine s_iconst (n := 0) C (by decide +kernel) (by decide) ?_
  exact (fun _ _ _ _ _ _ h => h)
set_option maxRecDepth 20000 in
theorem b_X12_grantsTo_42 {Z : Zt} {d : Nat} {p : Program} {e : Env} {R : Room} {s : State} {m : MethodId} {args : Array Value} {below : List Frame} {meth : Method} {c : Code} {Rp : RT} (C : Cx Z d jX12_grantsTo RX12 p R s m args meth c) : Sd Z jX12_grantsTo p e R s m args below meth c (MQ below (QcS Z Rp) args s 0 0 (fun a => Z.2.2.1 < a)) 42 (w_X12_grantsTo_42 (MS Z d) (Gw Z 4 p e R s m args below meth c (MQ below (QcS Z Rp) args s 0 0 (fun a => Z.2.2.1 < a))) Rp) := by
  unfold w_X12_grantsTo_42
  refine s_ior C (by decide +kernel) ?_
  refine s_istore_n (k := 2) C (by decide +kernel) ?_
  refine s_iinc (n := 1) C (by decide +kernel) (by decide) ?_
  exact s_goto (off := (-43)) (tgt := 4) C (by decide +kernel) (by decide) (fun _ _ _ _ _ _ h => h)
set_option maxRecDepth 20000 in
theorem b_X12_grantsTo_50 {Z : Zt} {d : Nat} {p : Program} {e : Env} {R : Room} {s : State} {m : MethodId} {args : Array Value} {below : List Frame} {meth : Method} {c : Code} {Rp : RT} (C : Cx Z d jX12_grantsTo RX12 p R s m args meth c) : Sd Z jX12_grantsTo p e R s m args below meth c (MQ below (QcS Z Rp) args s 0 0 (fun a => Z.2.2.1 < a)) 50 (w_X12_grantsTo_50 (MS Z d) (Gw Z 4 p e R s m args below meth c (MQ below (QcS Z Rp) args s 0 0 (fun a => Z.2.2.1 < a))) Rp) := by
  unfold w_X12_grantsTo_50
  refine s_iload_n (k := 2) C (by decide +kernel) ?_
  exact s_iret C rfl (by decide +kernel)
theorem ms_X12_grantsTo {Z : Zt} {d : Nat} {S : Sh} {μ : Mi} {ρ : Mr} {Rp : RT} (a0 : Nat) (x1 : Int32) (h : ∀ G : Nat → PT, (∀ (L st : List Value) (S : Sh) (q : Nat × Nat) (μ : Mi) (ρ : Mr), w_X12_grantsTo_4 (MS Z d) G Rp L st S q μ ρ → G 4 L st S q μ ρ) → (∀ (L st : List Value) (S : Sh) (q : Nat × Nat) (μ : Mi) (ρ : Mr), w_X12_grantsTo_41 (MS Z d) G Rp L st S q μ ρ → G 41 L st S q μ ρ) → (∀ (L st : List Value) (S : Sh) (q : Nat × Nat) (μ : Mi) (ρ : Mr), w_X12_grantsTo_42 (MS Z d) G Rp L st S q μ ρ → G 42 L st S q μ ρ) → (∀ (L st : List Value) (S : Sh) (q : Nat × Nat) (μ : Mi) (ρ : Mr), w_X12_grantsTo_50 (MS Z d) G Rp L st S q μ ρ → G 50 L st S q μ ρ) → w_X12_grantsTo_0 (MS Z d) G Rp [.ref a0, .int x1, .null, .null] [] S (0, 0) μ ρ) : MS Z (d + 1) jX12_grantsTo [.ref a0, .int x1] S μ ρ Rp :=
  MS_of [.ref a0, .int x1, .null, .null] (by decide +kernel) rfl rfl (Nat.le_of_ble_eq_true rfl) rfl (fun p e R s m args below meth c C => b_X12_grantsTo_0 C _ _ _ _ _ _ (h _ (b_X12_grantsTo_4 C) (b_X12_grantsTo_41 C) (b_X12_grantsTo_42 C) (b_X12_grantsTo_50 C)))
def w_X12_grants_0 (M : CT) (G : Nat → PT) (Rp : RT) : PT := tAload 0 <| tConst 0 <| tPutI 12 27 0 <| tIload 1 <| tCallS M jX12_isStore 1 <| tIf (fun x => x = 0) (G 20) <| tAload 0 <| tIload 1 <| tCallV M jX12_grantsTo 12 27 1 <| tGoto (G 22)
def w_X12_grants_20 (M : CT) (G : Nat → PT) (Rp : RT) : PT := tConst (-2) <| G 22
def w_X12_grants_22 (M : CT) (G : Nat → PT) (Rp : RT) : PT := tIret Rp
set_option maxRecDepth 20000 in
theorem b_X12_grants_0 {Z : Zt} {d : Nat} {p : Program} {e : Env} {R : Room} {s : State} {m : MethodId} {args : Array Value} {below : List Frame} {meth : Method} {c : Code} {Rp : RT} (C : Cx Z d jX12_grants RX12 p R s m args meth c) : Sd Z jX12_grants p e R s m args below meth c (MQ below (QcS Z Rp) args s 0 0 (fun a => Z.2.2.1 < a)) 0 (w_X12_grants_0 (MS Z d) (Gw Z 2 p e R s m args below meth c (MQ below (QcS Z Rp) args s 0 0 (fun a => Z.2.2.1 < a))) Rp) := by
  unfold w_X12_grants_0
  refine s_aload_n (k := 0) C (by decide +kernel) ?_
  refine s_iconst (n := 0) C (by decide +kernel) (by decide) ?_
  refine s_putI C w_6_87 (by decide +kernel) rfl (Or.inl rfl) ?_
  refine s_iload_n (k := 1) C (by decide +kernel) ?_
  refine s_callS C (by decide +kernel) rfl w_6_208 w_6_209 w_1_13 w_6_210 (by decide +kernel) ?_
  refine s_if_eq (off := 11) (tgt := 20) C (by decide +kernel) (by decide) (fun _ _ _ _ _ _ h => h) ?_
  refine s_aload_n (k := 0) C (by decide +kernel) ?_
  refine s_iload_n (k := 1) C (by decide +kernel) ?_
  refine s_callV C rfl rfl (by decide +kernel) rfl w_8_144 w_8_146 w_p7_15 w_1_13 w_8_147 (by decide +kernel) ?_
  exact s_goto (off := 5) (tgt := 22) C (by decide +kernel) (by decide) (fun _ _ _ _ _ _ h => h)
set_option maxRecDepth 20000 in
theorem b_X12_grants_20 {Z : Zt} {d : Nat} {p : Program} {e : Env} {R : Room} {s : State} {m : MethodId} {args : Array Value} {below : List Frame} {meth : Method} {c : Code} {Rp : RT} (C : Cx Z d jX12_grants RX12 p R s m args meth c) : Sd Z jX12_grants p e R s m args below meth c (MQ below (QcS Z Rp) args s 0 0 (fun a => Z.2.2.1 < a)) 20 (w_X12_grants_20 (MS Z d) (Gw Z 2 p e R s m args below meth c (MQ below (QcS Z Rp) args s 0 0 (fun a => Z.2.2.1 < a))) Rp) := by
  unfold w_X12_grants_20
  refine s_bipush (n := (-2)) C (by decide +kernel) (by decide) ?_
  exact (fun _ _ _ _ _ _ h => h)
set_option maxRecDepth 20000 in
theorem b_X12_grants_22 {Z : Zt} {d : Nat} {p : Program} {e : Env} {R : Room} {s : State} {m : MethodId} {args : Array Value} {below : List Frame} {meth : Method} {c : Code} {Rp : RT} (C : Cx Z d jX12_grants RX12 p R s m args meth c) : Sd Z jX12_grants p e R s m args below meth c (MQ below (QcS Z Rp) args s 0 0 (fun a => Z.2.2.1 < a)) 22 (w_X12_grants_22 (MS Z d) (Gw Z 2 p e R s m args below meth c (MQ below (QcS Z Rp) args s 0 0 (fun a => Z.2.2.1 < a))) Rp) := by
  unfold w_X12_grants_22
  exact s_iret C rfl (by decide +kernel)
theorem ms_X12_grants {Z : Zt} {d : Nat} {S : Sh} {μ : Mi} {ρ : Mr} {Rp : RT} (a0 : Nat) (x1 : Int32) (h : ∀ G : Nat → PT, (∀ (L st : List Value) (S : Sh) (q : Nat × Nat) (μ : Mi) (ρ : Mr), w_X12_grants_20 (MS Z d) G Rp L st S q μ ρ → G 20 L st S q μ ρ) → (∀ (L st : List Value) (S : Sh) (q : Nat × Nat) (μ : Mi) (ρ : Mr), w_X12_grants_22 (MS Z d) G Rp L st S q μ ρ → G 22 L st S q μ ρ) → w_X12_grants_0 (MS Z d) G Rp [.ref a0, .int x1] [] S (0, 0) μ ρ) : MS Z (d + 1) jX12_grants [.ref a0, .int x1] S μ ρ Rp :=
  MS_of [.ref a0, .int x1] (by decide +kernel) rfl rfl (Nat.le_of_ble_eq_true rfl) rfl (fun p e R s m args below meth c C => b_X12_grants_0 C _ _ _ _ _ _ (h _ (b_X12_grants_20 C) (b_X12_grants_22 C)))
def w_X12_upOnes_0 (M : CT) (G : Nat → PT) (Rp : RT) : PT := tConst 0 <| tIstore 1 <| tConst 0 <| tIstore 2 <| G 4
def w_X12_upOnes_4 (M : CT) (G : Nat → PT) (Rp : RT) : PT := tIload 2 <| tConst 5 <| tIf2 (fun x y => y ≤ x) (G 33) <| tIload 1 <| tAload 0 <| tIload 2 <| tCallV M jX12_isUp 12 27 1 <| tIf (fun x => x = 0) (G 24) <| tConst 1 <| tIload 2 <| tBin (fun x y => x <<< (y &&& 31)) <| tGoto (G 25)
def w_X12_upOnes_24 (M : CT) (G : Nat → PT) (Rp : RT) : PT := tConst 0 <| G 25
def w_X12_upOnes_25 (M : CT) (G : Nat → PT) (Rp : RT) : PT := tBin (fun x y => x ||| y) <| tIstore 1 <| tIinc 2 1 <| tGoto (G 4)
def w_X12_upOnes_33 (M : CT) (G : Nat → PT) (Rp : RT) : PT := tIload 1 <| tIret Rp
set_option maxRecDepth 20000 in
theorem b_X12_upOnes_0 {Z : Zt} {d : Nat} {p : Program} {e : Env} {R : Room} {s : State} {m : MethodId} {args : Array Value} {below : List Frame} {meth : Method} {c : Code} {Rp : RT} (C : Cx Z d jX12_upOnes RX12 p R s m args meth c) : Sd Z jX12_upOnes p e R s m args below meth c (MQ below (QcS Z Rp) args s 0 0 (fun a => Z.2.2.1 < a)) 0 (w_X12_upOnes_0 (MS Z d) (Gw Z 3 p e R s m args below meth c (MQ below (QcS Z Rp) args s 0 0 (fun a => Z.2.2.1 < a))) Rp) := by
  unfold w_X12_upOnes_0
  refine s_iconst (n := 0) C (by decide +kernel) (by decide) ?_
  refine s_istore_n (k := 1) C (by decide +kernel) ?_
  refine s_iconst (n := 0) C (by decide +kernel) (by decide) ?_
  refine s_istore_n (k := 2) C (by decide +kernel) ?_
  exact (fun _ _ _ _ _ _ h => h)
set_option maxRecDepth 20000 in
theorem b_X12_upOnes_4 {Z : Zt} {d : Nat} {p : Program} {e : Env} {R : Room} {s : State} {m : MethodId} {args : Array Value} {below : List Frame} {meth : Method} {c : Code} {Rp : RT} (C : Cx Z d jX12_upOnes RX12 p R s m args meth c) : Sd Z jX12_upOnes p e R s m args below meth c (MQ below (QcS Z Rp) args s 0 0 (fun a => Z.2.2.1 < a)) 4 (w_X12_upOnes_4 (MS Z d) (Gw Z 3 p e R s m args below meth c (MQ below (QcS Z Rp) args s 0 0 (fun a => Z.2.2.1 < a))) Rp) := by
  unfold w_X12_upOnes_4
  refine s_iload_n (k := 2) C (by decide +kernel) ?_
  refine s_iconst (n := 5) C (by decide +kernel) (by decide) ?_
  refine s_icmp_ge (off := 27) (tgt := 33) C (by decide +kernel) (by decide) (fun _ _ _ _ _ _ h => h) ?_
  refine s_iload_n (k := 1) C (by decide +kernel) ?_
  refine s_aload_n (k := 0) C (by decide +kernel) ?_
  refine s_iload_n (k := 2) C (by decide +kernel) ?_
  refine s_callV C rfl rfl (by decide +kernel) rfl w_6_232 w_6_234 w_p3_14 w_1_13 w_6_235 (by decide +kernel) ?_
  refine s_if_eq (off := 9) (tgt := 24) C (by decide +kernel) (by decide) (fun _ _ _ _ _ _ h => h) ?_
  refine s_iconst (n := 1) C (by decide +kernel) (by decide) ?_
  refine s_iload_n (k := 2) C (by decide +kernel) ?_
  refine s_ishl C (by decide +kernel) ?_
  exact s_goto (off := 4) (tgt := 25) C (by decide +kernel) (by decide) (fun _ _ _ _ _ _ h => h)
set_option maxRecDepth 20000 in
theorem b_X12_upOnes_24 {Z : Zt} {d : Nat} {p : Program} {e : Env} {R : Room} {s : State} {m : MethodId} {args : Array Value} {below : List Frame} {meth : Method} {c : Code} {Rp : RT} (C : Cx Z d jX12_upOnes RX12 p R s m args meth c) : Sd Z jX12_upOnes p e R s m args below meth c (MQ below (QcS Z Rp) args s 0 0 (fun a => Z.2.2.1 < a)) 24 (w_X12_upOnes_24 (MS Z d) (Gw Z 3 p e R s m args below meth c (MQ below (QcS Z Rp) args s 0 0 (fun a => Z.2.2.1 < a))) Rp) := by
  unfold w_X12_upOnes_24
  refine s_iconst (n := 0) C (by decide +kernel) (by decide) ?_
  exact (fun _ _ _ _ _ _ h => h)
set_option maxRecDepth 20000 in
theorem b_X12_upOnes_25 {Z : Zt} {d : Nat} {p : Program} {e : Env} {R : Room} {s : State} {m : MethodId} {args : Array Value} {below : List Frame} {meth : Method} {c : Code} {Rp : RT} (C : Cx Z d jX12_upOnes RX12 p R s m args meth c) : Sd Z jX12_upOnes p e R s m args below meth c (MQ below (QcS Z Rp) args s 0 0 (fun a => Z.2.2.1 < a)) 25 (w_X12_upOnes_25 (MS Z d) (Gw Z 3 p e R s m args below meth c (MQ below (QcS Z Rp) args s 0 0 (fun a => Z.2.2.1 < a))) Rp) := by
  unfold w_X12_upOnes_25
  refine s_ior C (by decide +kernel) ?_
  refine s_istore_n (k := 1) C (by decide +kernel) ?_
  refine s_iinc (n := 1) C (by decide +kernel) (by decide) ?_
  exact s_goto (off := (-26)) (tgt := 4) C (by decide +kernel) (by decide) (fun _ _ _ _ _ _ h => h)
set_option maxRecDepth 20000 in
theorem b_X12_upOnes_33 {Z : Zt} {d : Nat} {p : Program} {e : Env} {R : Room} {s : State} {m : MethodId} {args : Array Value} {below : List Frame} {meth : Method} {c : Code} {Rp : RT} (C : Cx Z d jX12_upOnes RX12 p R s m args meth c) : Sd Z jX12_upOnes p e R s m args below meth c (MQ below (QcS Z Rp) args s 0 0 (fun a => Z.2.2.1 < a)) 33 (w_X12_upOnes_33 (MS Z d) (Gw Z 3 p e R s m args below meth c (MQ below (QcS Z Rp) args s 0 0 (fun a => Z.2.2.1 < a))) Rp) := by
  unfold w_X12_upOnes_33
  refine s_iload_n (k := 1) C (by decide +kernel) ?_
  exact s_iret C rfl (by decide +kernel)
theorem ms_X12_upOnes {Z : Zt} {d : Nat} {S : Sh} {μ : Mi} {ρ : Mr} {Rp : RT} (a0 : Nat) (h : ∀ G : Nat → PT, (∀ (L st : List Value) (S : Sh) (q : Nat × Nat) (μ : Mi) (ρ : Mr), w_X12_upOnes_4 (MS Z d) G Rp L st S q μ ρ → G 4 L st S q μ ρ) → (∀ (L st : List Value) (S : Sh) (q : Nat × Nat) (μ : Mi) (ρ : Mr), w_X12_upOnes_24 (MS Z d) G Rp L st S q μ ρ → G 24 L st S q μ ρ) → (∀ (L st : List Value) (S : Sh) (q : Nat × Nat) (μ : Mi) (ρ : Mr), w_X12_upOnes_25 (MS Z d) G Rp L st S q μ ρ → G 25 L st S q μ ρ) → (∀ (L st : List Value) (S : Sh) (q : Nat × Nat) (μ : Mi) (ρ : Mr), w_X12_upOnes_33 (MS Z d) G Rp L st S q μ ρ → G 33 L st S q μ ρ) → w_X12_upOnes_0 (MS Z d) G Rp [.ref a0, .null, .null] [] S (0, 0) μ ρ) : MS Z (d + 1) jX12_upOnes [.ref a0] S μ ρ Rp :=
  MS_of [.ref a0, .null, .null] (by decide +kernel) rfl rfl (Nat.le_of_ble_eq_true rfl) rfl (fun p e R s m args below meth c C => b_X12_upOnes_0 C _ _ _ _ _ _ (h _ (b_X12_upOnes_4 C) (b_X12_upOnes_24 C) (b_X12_upOnes_25 C) (b_X12_upOnes_33 C)))
def w_X12_isElectable_0 (M : CT) (G : Nat → PT) (Rp : RT) : PT := tIload 2 <| tIload 1 <| tCallS M jX12_has 2 <| tIf (fun x => x ≠ 0) (G 10) <| tConst 0 <| tZret Rp
def w_X12_isElectable_10 (M : CT) (G : Nat → PT) (Rp : RT) : PT := tAload 0 <| tIload 1 <| tCallV M jX12_grantsTo 12 27 1 <| tIload 2 <| tBin (fun x y => x &&& y) <| tIstore 3 <| tConst 0 <| tIstore 4 <| G 21
def w_X12_isElectable_21 (M : CT) (G : Nat → PT) (Rp : RT) : PT := tIload 4 <| tConst 5 <| tIf2 (fun x y => y ≤ x) (G 58) <| tIload 4 <| tIload 1 <| tIf2 (fun x y => x = y) (G 52) <| tAload 0 <| tIload 1 <| tIload 4 <| tCallV M jX12_isLinked 12 27 2 <| tIf (fun x => x ≠ 0) (G 52) <| tIload 3 <| tConst 1 <| tIload 4 <| tBin (fun x y => x <<< (y &&& 31)) <| tConst (-1) <| tBin (fun x y => x ^^^ y) <| tBin (fun x y => x &&& y) <| tIstore 3 <| G 52
def w_X12_isElectable_52 (M : CT) (G : Nat → PT) (Rp : RT) : PT := tIinc 4 1 <| tGoto (G 21)
def w_X12_isElectable_58 (M : CT) (G : Nat → PT) (Rp : RT) : PT := tAload 0 <| tIload 1 <| tCallV M jX12_laysMembers 12 27 1 <| tAload 0 <| tGetI 12 27 8 <| tAload 0 <| tGetI 12 27 9 <| tBin (fun x y => x ||| y) <| tIload 1 <| tCallS M jX12_has 2 <| tIf (fun x => x = 0) (G 91) <| tAload 0 <| tIload 3 <| tCallV M jX12_isMajority 12 27 1 <| tIf (fun x => x = 0) (G 91) <| tConst 1 <| tGoto (G 92)
def w_X12_isElectable_91 (M : CT) (G : Nat → PT) (Rp : RT) : PT := tConst 0 <| G 92
def w_X12_isElectable_92 (M : CT) (G : Nat → PT) (Rp : RT) : PT := tZret Rp
set_option maxRecDepth 20000 in
theorem b_X12_isElectable_0 {Z : Zt} {d : Nat} {p : Program} {e : Env} {R : Room} {s : State} {m : MethodId} {args : Array Value} {below : List Frame} {meth : Method} {c : Code} {Rp : RT} (C : Cx Z d jX12_isElectable RX12 p R s m args meth c) : Sd Z jX12_isElectable p e R s m args below meth c (MQ below (QcS Z Rp) args s 0 0 (fun a => Z.2.2.1 < a)) 0 (w_X12_isElectable_0 (MS Z d) (Gw Z 5 p e R s m args below meth c (MQ below (QcS Z Rp) args s 0 0 (fun a => Z.2.2.1 < a))) Rp) := by
  unfold w_X12_isElectable_0
  refine s_iload_n (k := 2) C (by decide +kernel) ?_
  refine s_iload_n (k := 1) C (by decide +kernel) ?_
  refine s_callS C (by decide +kernel) rfl w_7_0 w_7_1 w_1_13 w_7_2 (by decide +kernel) ?_
  refine s_if_ne (off := 5) (tgt := 10) C (by decide +kernel) (by decide) (fun _ _ _ _ _ _ h => h) ?_
  refine s_iconst (n := 0) C (by decide +kernel) (by decide) ?_
  exact s_zret C rfl (by decide +kernel)
set_option maxRecDepth 20000 in
theorem b_X12_isElectable_10 {Z : Zt} {d : Nat} {p : Program} {e : Env} {R : Room} {s : State} {m : MethodId} {args : Array Value} {below : List Frame} {meth : Method} {c : Code} {Rp : RT} (C : Cx Z d jX12_isElectable RX12 p R s m args meth c) : Sd Z jX12_isElectable p e R s m args below meth c (MQ below (QcS Z Rp) args s 0 0 (fun a => Z.2.2.1 < a)) 10 (w_X12_isElectable_10 (MS Z d) (Gw Z 5 p e R s m args below meth c (MQ below (QcS Z Rp) args s 0 0 (fun a => Z.2.2.1 < a))) Rp) := by
  unfold w_X12_isElectable_10
  refine s_aload_n (k := 0) C (by decide +kernel) ?_
  refine s_iload_n (k := 1) C (by decide +kernel) ?_
  refine s_callV C rfl rfl (by decide +kernel) rfl w_8_144 w_8_146 w_p7_15 w_1_13 w_8_147 (by decide +kernel) ?_
  refine s_iload_n (k := 2) C (by decide +kernel) ?_
  refine s_iand C (by decide +kernel) ?_
  refine s_istore_n (k := 3) C (by decide +kernel) ?_
  refine s_iconst (n := 0) C (by decide +kernel) (by decide) ?_
  refine s_istore (k := 4) C (by decide +kernel) ?_
  exact (fun _ _ _ _ _ _ h => h)
set_option maxRecDepth 20000 in
theorem b_X12_isElectable_21 {Z : Zt} {d : Nat} {p : Program} {e : Env} {R : Room} {s : State} {m : MethodId} {args : Array Value} {below : List Frame} {meth : Method} {c : Code} {Rp : RT} (C : Cx Z d jX12_isElectable RX12 p R s m args meth c) : Sd Z jX12_isElectable p e R s m args below meth c (MQ below (QcS Z Rp) args s 0 0 (fun a => Z.2.2.1 < a)) 21 (w_X12_isElectable_21 (MS Z d) (Gw Z 5 p e R s m args below meth c (MQ below (QcS Z Rp) args s 0 0 (fun a => Z.2.2.1 < a))) Rp) := by
  unfold w_X12_isElectable_21
  refine s_iload (k := 4) C (by decide +kernel) ?_
  refine s_iconst (n := 5) C (by decide +kernel) (by decide) ?_
  refine s_icmp_ge (off := 34) (tgt := 58) C (by decide +kernel) (by decide) (fun _ _ _ _ _ _ h => h) ?_
  refine s_iload (k := 4) C (by decide +kernel) ?_
  refine s_iload_n (k := 1) C (by decide +kernel) ?_
  refine s_icmp_eq (off := 22) (tgt := 52) C (by decide +kernel) (by decide) (fun _ _ _ _ _ _ h => h) ?_
  refine s_aload_n (k := 0) C (by decide +kernel) ?_
  refine s_iload_n (k := 1) C (by decide +kernel) ?_
  refine s_iload (k := 4) C (by decide +kernel) ?_
  refine s_callV C rfl rfl (by decide +kernel) rfl w_7_31 w_7_33 w_p4_7 w_1_13 w_7_34 (by decide +kernel) ?_
  refine s_if_ne (off := 12) (tgt := 52) C (by decide +kernel) (by decide) (fun _ _ _ _ _ _ h => h) ?_
  refine s_iload_n (k := 3) C (by decide +kernel) ?_
  refine s_iconst (n := 1) C (by decide +kernel) (by decide) ?_
  refine s_iload (k := 4) C (by decide +kernel) ?_
  refine s_ishl C (by decide +kernel) ?_
  refine s_iconst (n := (-1)) C (by decide +kernel) (by decide) ?_
  refine s_ixor C (by decide +kernel) ?_
  refine s_iand C (by decide +kernel) ?_
  refine s_istore_n (k := 3) C (by decide +kernel) ?_
  exact (fun _ _ _ _ _ _ h => h)
set_option maxRecDepth 20000 in
theorem b_X12_isElectable_52 {Z : Zt} {d : Nat} {p : Program} {e : Env} {R : Room} {s : State} {m : MethodId} {args : Array Value} {below : List Frame} {meth : Method} {c : Code} {Rp : RT} (C : Cx Z d jX12_isElectable RX12 p R s m args meth c) : Sd Z jX12_isElectable p e R s m args below meth c (MQ below (QcS Z Rp) args s 0 0 (fun a => Z.2.2.1 < a)) 52 (w_X12_isElectable_52 (MS Z d) (Gw Z 5 p e R s m args below meth c (MQ below (QcS Z Rp) args s 0 0 (fun a => Z.2.2.1 < a))) Rp) := by
  unfold w_X12_isElectable_52
  refine s_iinc (n := 1) C (by decide +kernel) (by decide) ?_
  exact s_goto (off := (-34)) (tgt := 21) C (by decide +kernel) (by decide) (fun _ _ _ _ _ _ h => h)
set_option maxRecDepth 20000 in
theorem b_X12_isElectable_58 {Z : Zt} {d : Nat} {p : Program} {e : Env} {R : Room} {s : State} {m : MethodId} {args : Array Value} {below : List Frame} {meth : Method} {c : Code} {Rp : RT} (C : Cx Z d jX12_isElectable RX12 p R s m args meth c) : Sd Z jX12_isElectable p e R s m args below meth c (MQ below (QcS Z Rp) args s 0 0 (fun a => Z.2.2.1 < a)) 58 (w_X12_isElectable_58 (MS Z d) (Gw Z 5 p e R s m args below meth c (MQ below (QcS Z Rp) args s 0 0 (fun a => Z.2.2.1 < a))) Rp) := by
  unfold w_X12_isElectable_58
  refine s_aload_n (k := 0) C (by decide +kernel) ?_
  refine s_iload_n (k := 1) C (by decide +kernel) ?_
  refine s_callV C rfl rfl (by decide +kernel) rfl w_6_216 w_6_218 w_p3_10 w_1_13 w_6_219 (by decide +kernel) ?_
  refine s_aload_n (k := 0) C (by decide +kernel) ?_
  refine s_getI C w_6_95 (by decide +kernel) rfl ?_
  refine s_aload_n (k := 0) C (by decide +kernel) ?_
  refine s_getI C w_6_96 (by decide +kernel) rfl ?_
  refine s_ior C (by decide +kernel) ?_
  refine s_iload_n (k := 1) C (by decide +kernel) ?_
  refine s_callS C (by decide +kernel) rfl w_7_0 w_7_1 w_1_13 w_7_2 (by decide +kernel) ?_
  refine s_if_eq (off := 15) (tgt := 91) C (by decide +kernel) (by decide) (fun _ _ _ _ _ _ h => h) ?_
  refine s_aload_n (k := 0) C (by decide +kernel) ?_
  refine s_iload_n (k := 3) C (by decide +kernel) ?_
  refine s_callV C rfl rfl (by decide +kernel) rfl w_7_35 w_7_37 w_p4_8 w_1_13 w_7_38 (by decide +kernel) ?_
  refine s_if_eq (off := 7) (tgt := 91) C (by decide +kernel) (by decide) (fun _ _ _ _ _ _ h => h) ?_
  refine s_iconst (n := 1) C (by decide +kernel) (by decide) ?_
  exact s_goto (off := 4) (tgt := 92) C (by decide +kernel) (by decide) (fun _ _ _ _ _ _ h => h)
set_option maxRecDepth 20000 in
theorem b_X12_isElectable_91 {Z : Zt} {d : Nat} {p : Program} {e : Env} {R : Room} {s : State} {m : MethodId} {args : Array Value} {below : List Frame} {meth : Method} {c : Code} {Rp : RT} (C : Cx Z d jX12_isElectable RX12 p R s m args meth c) : Sd Z jX12_isElectable p e R s m args below meth c (MQ below (QcS Z Rp) args s 0 0 (fun a => Z.2.2.1 < a)) 91 (w_X12_isElectable_91 (MS Z d) (Gw Z 5 p e R s m args below meth c (MQ below (QcS Z Rp) args s 0 0 (fun a => Z.2.2.1 < a))) Rp) := by
  unfold w_X12_isElectable_91
  refine s_iconst (n := 0) C (by decide +kernel) (by decide) ?_
  exact (fun _ _ _ _ _ _ h => h)
set_option maxRecDepth 20000 in
theorem b_X12_isElectable_92 {Z : Zt} {d : Nat} {p : Program} {e : Env} {R : Room} {s : State} {m : MethodId} {args : Array Value} {below : List Frame} {meth : Method} {c : Code} {Rp : RT} (C : Cx Z d jX12_isElectable RX12 p R s m args meth c) : Sd Z jX12_isElectable p e R s m args below meth c (MQ below (QcS Z Rp) args s 0 0 (fun a => Z.2.2.1 < a)) 92 (w_X12_isElectable_92 (MS Z d) (Gw Z 5 p e R s m args below meth c (MQ below (QcS Z Rp) args s 0 0 (fun a => Z.2.2.1 < a))) Rp) := by
  unfold w_X12_isElectable_92
  exact s_zret C rfl (by decide +kernel)
theorem ms_X12_isElectable {Z : Zt} {d : Nat} {S : Sh} {μ : Mi} {ρ : Mr} {Rp : RT} (a0 : Nat) (x1 : Int32) (x2 : Int32) (h : ∀ G : Nat → PT, (∀ (L st : List Value) (S : Sh) (q : Nat × Nat) (μ : Mi) (ρ : Mr), w_X12_isElectable_10 (MS Z d) G Rp L st S q μ ρ → G 10 L st S q μ ρ) → (∀ (L st : List Value) (S : Sh) (q : Nat × Nat) (μ : Mi) (ρ : Mr), w_X12_isElectable_21 (MS Z d) G Rp L st S q μ ρ → G 21 L st S q μ ρ) → (∀ (L st : List Value) (S : Sh) (q : Nat × Nat) (μ : Mi) (ρ : Mr), w_X12_isElectable_52 (MS Z d) G Rp L st S q μ ρ → G 52 L st S q μ ρ) → (∀ (L st : List Value) (S : Sh) (q : Nat × Nat) (μ : Mi) (ρ : Mr), w_X12_isElectable_58 (MS Z d) G Rp L st S q μ ρ → G 58 L st S q μ ρ) → (∀ (L st : List Value) (S : Sh) (q : Nat × Nat) (μ : Mi) (ρ : Mr), w_X12_isElectable_91 (MS Z d) G Rp L st S q μ ρ → G 91 L st S q μ ρ) → (∀ (L st : List Value) (S : Sh) (q : Nat × Nat) (μ : Mi) (ρ : Mr), w_X12_isElectable_92 (MS Z d) G Rp L st S q μ ρ → G 92 L st S q μ ρ) → w_X12_isElectable_0 (MS Z d) G Rp [.ref a0, .int x1, .int x2, .null, .null] [] S (0, 0) μ ρ) : MS Z (d + 1) jX12_isElectable [.ref a0, .int x1, .int x2] S μ ρ Rp :=
  MS_of [.ref a0, .int x1, .int x2, .null, .null] (by decide +kernel) rfl rfl (Nat.le_of_ble_eq_true rfl) rfl (fun p e R s m args below meth c C => b_X12_isElectable_0 C _ _ _ _ _ _ (h _ (b_X12_isElectable_10 C) (b_X12_isElectable_21 C) (b_X12_isElectable_52 C) (b_X12_isElectable_58 C) (b_X12_isElectable_91 C) (b_X12_isElectable_92 C)))
def w_X12_electable_0 (M : CT) (G : Nat → PT) (Rp : RT) : PT := tAload 0 <| tConst 0 <| tPutI 12 27 0 <| tIload 1 <| tCallS M jX12_isStore 1 <| tIf (fun x => x ≠ 0) (G 15) <| tConst (-2) <| tIret Rp
def w_X12_electable_15 (M : CT) (G : Nat → PT) (Rp : RT) : PT := tAload 0 <| tIload 1 <| tAload 0 <| tCallV M jX12_upOnes 12 27 0 <| tCallV M jX12_isElectable 12 27 2 <| tIf (fun x => x = 0) (G 31) <| tConst 1 <| tGoto (G 32)
def w_X12_electable_31 (M : CT) (G : Nat → PT) (Rp : RT) : PT := tConst 0 <| G 32
def w_X12_electable_32 (M : CT) (G : Nat → PT) (Rp : RT) : PT := tIret Rp
set_option maxRecDepth 20000 in
theorem b_X12_electable_0 {Z : Zt} {d : Nat} {p : Program} {e : Env} {R : Room} {s : State} {m : MethodId} {args : Array Value} {below : List Frame} {meth : Method} {c : Code} {Rp : RT} (C : Cx Z d jX12_electable RX12 p R s m args meth c) : Sd Z jX12_electable p e R s m args below meth c (MQ below (QcS Z Rp) args s 0 0 (fun a => Z.2.2.1 < a)) 0 (w_X12_electable_0 (MS Z d) (Gw Z 2 p e R s m args below meth c (MQ below (QcS Z Rp) args s 0 0 (fun a => Z.2.2.1 < a))) Rp) := by
  unfold w_X12_electable_0
  refine s_aload_n (k := 0) C (by decide +kernel) ?_
  refine s_iconst (n := 0) C (by decide +kernel) (by decide) ?_
  refine s_putI C w_6_87 (by decide +kernel) rfl (Or.inl rfl) ?_
  refine s_iload_n (k := 1) C (by decide +kernel) ?_
  refine s_callS C (by decide +kernel) rfl w_6_208 w_6_209 w_1_13 w_6_210 (by decide +kernel) ?_
  refine s_if_ne (off := 6) (tgt := 15) C (by decide +kernel) (by decide) (fun _ _ _ _ _ _ h => h) ?_
  refine s_bipush (n := (-2)) C (by decide +kernel) (by decide) ?_
  exact s_iret C rfl (by decide +kernel)
set_option maxRecDepth 20000 in
theorem b_X12_electable_15 {Z : Zt} {d : Nat} {p : Program} {e : Env} {R : Room} {s : State} {m : MethodId} {args : Array Value} {below : List Frame} {meth : Method} {c : Code} {Rp : RT} (C : Cx Z d jX12_electable RX12 p R s m args meth c) : Sd Z jX12_electable p e R s m args below meth c (MQ below (QcS Z Rp) args s 0 0 (fun a => Z.2.2.1 < a)) 15 (w_X12_electable_15 (MS Z d) (Gw Z 2 p e R s m args below meth c (MQ below (QcS Z Rp) args s 0 0 (fun a => Z.2.2.1 < a))) Rp) := by
  unfold w_X12_electable_15
  refine s_aload_n (k := 0) C (by decide +kernel) ?_
  refine s_iload_n (k := 1) C (by decide +kernel) ?_
  refine s_aload_n (k := 0) C (by decide +kernel) ?_
  refine s_callV C rfl rfl (by decide +kernel) rfl w_8_152 w_8_154 w_p8_0 w_1_13 w_8_155 (by decide +kernel) ?_
  refine s_callV C rfl rfl (by decide +kernel) rfl w_8_156 w_8_158 w_p8_1 w_1_13 w_8_159 (by decide +kernel) ?_
  refine s_if_eq (off := 7) (tgt := 31) C (by decide +kernel) (by decide) (fun _ _ _ _ _ _ h => h) ?_
  refine s_iconst (n := 1) C (by decide +kernel) (by decide) ?_
  exact s_goto (off := 4) (tgt := 32) C (by decide +kernel) (by decide) (fun _ _ _ _ _ _ h => h)
set_option maxRecDepth 20000 in
theorem b_X12_electable_31 {Z : Zt} {d : Nat} {p : Program} {e : Env} {R : Room} {s : State} {m : MethodId} {args : Array Value} {below : List Frame} {meth : Method} {c : Code} {Rp : RT} (C : Cx Z d jX12_electable RX12 p R s m args meth c) : Sd Z jX12_electable p e R s m args below meth c (MQ below (QcS Z Rp) args s 0 0 (fun a => Z.2.2.1 < a)) 31 (w_X12_electable_31 (MS Z d) (Gw Z 2 p e R s m args below meth c (MQ below (QcS Z Rp) args s 0 0 (fun a => Z.2.2.1 < a))) Rp) := by
  unfold w_X12_electable_31
  refine s_iconst (n := 0) C (by decide +kernel) (by decide) ?_
  exact (fun _ _ _ _ _ _ h => h)
set_option maxRecDepth 20000 in
theorem b_X12_electable_32 {Z : Zt} {d : Nat} {p : Program} {e : Env} {R : Room} {s : State} {m : MethodId} {args : Array Value} {below : List Frame} {meth : Method} {c : Code} {Rp : RT} (C : Cx Z d jX12_electable RX12 p R s m args meth c) : Sd Z jX12_electable p e R s m args below meth c (MQ below (QcS Z Rp) args s 0 0 (fun a => Z.2.2.1 < a)) 32 (w_X12_electable_32 (MS Z d) (Gw Z 2 p e R s m args below meth c (MQ below (QcS Z Rp) args s 0 0 (fun a => Z.2.2.1 < a))) Rp) := by
  unfold w_X12_electable_32
  exact s_iret C rfl (by decide +kernel)
theorem ms_X12_electable {Z : Zt} {d : Nat} {S : Sh} {μ : Mi} {ρ : Mr} {Rp : RT} (a0 : Nat) (x1 : Int32) (h : ∀ G : Nat → PT, (∀ (L st : List Value) (S : Sh) (q : Nat × Nat) (μ : Mi) (ρ : Mr), w_X12_electable_15 (MS Z d) G Rp L st S q μ ρ → G 15 L st S q μ ρ) → (∀ (L st : List Value) (S : Sh) (q : Nat × Nat) (μ : Mi) (ρ : Mr), w_X12_electable_31 (MS Z d) G Rp L st S q μ ρ → G 31 L st S q μ ρ) → (∀ (L st : List Value) (S : Sh) (q : Nat × Nat) (μ : Mi) (ρ : Mr), w_X12_electable_32 (MS Z d) G Rp L st S q μ ρ → G 32 L st S q μ ρ) → w_X12_electable_0 (MS Z d) G Rp [.ref a0, .int x1] [] S (0, 0) μ ρ) : MS Z (d + 1) jX12_electable [.ref a0, .int x1] S μ ρ Rp :=
  MS_of [.ref a0, .int x1] (by decide +kernel) rfl rfl (Nat.le_of_ble_eq_true rfl) rfl (fun p e R s m args below meth c C => b_X12_electable_0 C _ _ _ _ _ _ (h _ (b_X12_electable_15 C) (b_X12_electable_31 C) (b_X12_electable_32 C)))
def w_X12_holdersOf_0 (M : CT) (G : Nat → PT) (Rp : RT) : PT := tAload 0 <| tIload 1 <| tIload 2 <| tConst 0 <| tCallV M jX12_ofEntry 12 27 3 <| tIstore 3 <| tConst 0 <| tIstore 4 <| tConst 0 <| tIstore 5 <| G 14
def w_X12_holdersOf_14 (M : CT) (G : Nat → PT) (Rp : RT) : PT := tIload 5 <| tConst 5 <| tIf2 (fun x y => y ≤ x) (G 110) <| tIload 2 <| tAload 0 <| tIload 5 <| tConst 5 <| tCallV M jX12_of 12 27 2 <| tIf2 (fun x y => y < x) (G 57) <| tAload 0 <| tGetR 12 27 1 <| tConst 3830 <| tConst 4 <| tIload 2 <| tConst 1 <| tBin (fun x y => x - y) <| tBin (fun x y => x * y) <| tBin (fun x y => x + y) <| tAld 20 <| tIload 3 <| tIf2 (fun x y => x ≠ y) (G 53) <| tConst 1 <| tGoto (G 84)
def w_X12_holdersOf_53 (M : CT) (G : Nat → PT) (Rp : RT) : PT := tConst 0 <| tGoto (G 84)
def w_X12_holdersOf_57 (M : CT) (G : Nat → PT) (Rp : RT) : PT := tAload 0 <| tIload 5 <| tIload 2 <| tCallV M jX12_isInLog 12 27 2 <| tIf (fun x => x = 0) (G 83) <| tAload 0 <| tIload 5 <| tIload 2 <| tConst 0 <| tCallV M jX12_ofEntry 12 27 3 <| tIload 3 <| tIf2 (fun x y => x ≠ y) (G 83) <| tConst 1 <| tGoto (G 84)
def w_X12_holdersOf_83 (M : CT) (G : Nat → PT) (Rp : RT) : PT := tConst 0 <| G 84
def w_X12_holdersOf_84 (M : CT) (G : Nat → PT) (Rp : RT) : PT := tIstore 6 <| tIload 4 <| tIload 6 <| tIf (fun x => x = 0) (G 100) <| tConst 1 <| tIload 5 <| tBin (fun x y => x <<< (y &&& 31)) <| tGoto (G 101)
def w_X12_holdersOf_100 (M : CT) (G : Nat → PT) (Rp : RT) : PT := tConst 0 <| G 101
def w_X12_holdersOf_101 (M : CT) (G : Nat → PT) (Rp : RT) : PT := tBin (fun x y => x ||| y) <| tIstore 4 <| tIinc 5 1 <| tGoto (G 14)
def w_X12_holdersOf_110 (M : CT) (G : Nat → PT) (Rp : RT) : PT := tIload 4 <| tIret Rp
set_option maxRecDepth 20000 in
theorem b_X12_holdersOf_0 {Z : Zt} {d : Nat} {p : Program} {e : Env} {R : Room} {s : State} {m : MethodId} {args : Array Value} {below : List Frame} {meth : Method} {c : Code} {Rp : RT} (C : Cx Z d jX12_holdersOf RX12 p R s m args meth c) : Sd Z jX12_holdersOf p e R s m args below meth c (MQ below (QcS Z Rp) args s 0 0 (fun a => Z.2.2.1 < a)) 0 (w_X12_holdersOf_0 (MS Z d) (Gw Z 7 p e R s m args below meth c (MQ below (QcS Z Rp) args s 0 0 (fun a => Z.2.2.1 < a))) Rp) := by
  unfold w_X12_holdersOf_0
  refine s_aload_n (k := 0) C (by decide +kernel) ?_
  refine s_iload_n (k := 1) C (by decide +kernel) ?_
  refine s_iload_n (k := 2) C (by decide +kernel) ?_
  refine s_iconst (n := 0) C (by decide +kernel) (by decide) ?_
  refine s_callV C rfl rfl (by decide +kernel) rfl w_6_228 w_6_230 w_p3_13 w_1_13 w_6_231 (by decide +kernel) ?_
  refine s_istore_n (k := 3) C (by decide +kernel) ?_
  refine s_iconst (n := 0) C (by decide +kernel) (by decide) ?_
  refine s_istore (k := 4) C (by decide +kernel) ?_
  refine s_iconst (n := 0) C (by decide +kernel) (by decide) ?_
  refine s_istore (k := 5) C (by decide +kernel) ?_
  exact (fun _ _ _ _ _ _ h => h)
set_option maxRecDepth 20000 in
theorem b_X12_holdersOf_14 {Z : Zt} {d : Nat} {p : Program} {e : Env} {R : Room} {s : State} {m : MethodId} {args : Array Value} {below : List Frame} {meth : Method} {c : Code} {Rp : RT} (C : Cx Z d jX12_holdersOf RX12 p R s m args meth c) : Sd Z jX12_holdersOf p e R s m args below meth c (MQ below (QcS Z Rp) args s 0 0 (fun a => Z.2.2.1 < a)) 14 (w_X12_holdersOf_14 (MS Z d) (Gw Z 7 p e R s m args below meth c (MQ below (QcS Z Rp) args s 0 0 (fun a => Z.2.2.1 < a))) Rp) := by
  unfold w_X12_holdersOf_14
  refine s_iload (k := 5) C (by decide +kernel) ?_
  refine s_iconst (n := 5) C (by decide +kernel) (by decide) ?_
  refine s_icmp_ge (off := 93) (tgt := 110) C (by decide +kernel) (by decide) (fun _ _ _ _ _ _ h => h) ?_
  refine s_iload_n (k := 2) C (by decide +kernel) ?_
  refine s_aload_n (k := 0) C (by decide +kernel) ?_
  refine s_iload (k := 5) C (by decide +kernel) ?_
  refine s_iconst (n := 5) C (by decide +kernel) (by decide) ?_
  refine s_callV C rfl rfl (by decide +kernel) rfl w_6_220 w_6_222 w_p3_11 w_1_13 w_6_223 (by decide +kernel) ?_
  refine s_icmp_gt (off := 29) (tgt := 57) C (by decide +kernel) (by decide) (fun _ _ _ _ _ _ h => h) ?_
  refine s_aload_n (k := 0) C (by decide +kernel) ?_
  refine s_getR C w_6_88 (by decide +kernel) rfl ?_
  refine s_sipush (n := 3830) C (by decide +kernel) (by decide) ?_
  refine s_iconst (n := 4) C (by decide +kernel) (by decide) ?_
  refine s_iload_n (k := 2) C (by decide +kernel) ?_
  refine s_iconst (n := 1) C (by decide +kernel) (by decide) ?_
  refine s_isub C (by decide +kernel) ?_
  refine s_imul C (by decide +kernel) ?_
  refine s_iadd C (by decide +kernel) ?_
  refine s_iald C (by decide +kernel) ?_
  refine s_iload_n (k := 3) C (by decide +kernel) ?_
  refine s_icmp_ne (off := 7) (tgt := 53) C (by decide +kernel) (by decide) (fun _ _ _ _ _ _ h => h) ?_
  refine s_iconst (n := 1) C (by decide +kernel) (by decide) ?_
  exact s_goto (off := 34) (tgt := 84) C (by decide +kernel) (by decide) (fun _ _ _ _ _ _ h => h)
set_option maxRecDepth 20000 in
theorem b_X12_holdersOf_53 {Z : Zt} {d : Nat} {p : Program} {e : Env} {R : Room} {s : State} {m : MethodId} {args : Array Value} {below : List Frame} {meth : Method} {c : Code} {Rp : RT} (C : Cx Z d jX12_holdersOf RX12 p R s m args meth c) : Sd Z jX12_holdersOf p e R s m args below meth c (MQ below (QcS Z Rp) args s 0 0 (fun a => Z.2.2.1 < a)) 53 (w_X12_holdersOf_53 (MS Z d) (Gw Z 7 p e R s m args below meth c (MQ below (QcS Z Rp) args s 0 0 (fun a => Z.2.2.1 < a))) Rp) := by
  unfold w_X12_holdersOf_53
  refine s_iconst (n := 0) C (by decide +kernel) (by decide) ?_
  exact s_goto (off := 30) (tgt := 84) C (by decide +kernel) (by decide) (fun _ _ _ _ _ _ h => h)
set_option maxRecDepth 20000 in
theorem b_X12_holdersOf_57 {Z : Zt} {d : Nat} {p : Program} {e : Env} {R : Room} {s : State} {m : MethodId} {args : Array Value} {below : List Frame} {meth : Method} {c : Code} {Rp : RT} (C : Cx Z d jX12_holdersOf RX12 p R s m args meth c) : Sd Z jX12_holdersOf p e R s m args below meth c (MQ below (QcS Z Rp) args s 0 0 (fun a => Z.2.2.1 < a)) 57 (w_X12_holdersOf_57 (MS Z d) (Gw Z 7 p e R s m args below meth c (MQ below (QcS Z Rp) args s 0 0 (fun a => Z.2.2.1 < a))) Rp) := by
  unfold w_X12_holdersOf_57
  refine s_aload_n (k := 0) C (by decide +kernel) ?_
  refine s_iload (k := 5) C (by decide +kernel) ?_
  refine s_iload_n (k := 2) C (by decide +kernel) ?_
  refine s_callV C rfl rfl (by decide +kernel) rfl w_8_111 w_8_113 w_p7_13 w_1_13 w_8_114 (by decide +kernel) ?_
  refine s_if_eq (off := 19) (tgt := 83) C (by decide +kernel) (by decide) (fun _ _ _ _ _ _ h => h) ?_
  refine s_aload_n (k := 0) C (by decide +kernel) ?_
  refine s_iload (k := 5) C (by decide +kernel) ?_
  refine s_iload_n (k := 2) C (by decide +kernel) ?_
  refine s_iconst (n := 0) C (by decide +kernel) (by decide) ?_
  refine s_callV C rfl rfl (by decide +kernel) rfl w_6_228 w_6_230 w_p3_13 w_1_13 w_6_231 (by decide +kernel) ?_
  refine s_iload_n (k := 3) C (by decide +kernel) ?_
  refine s_icmp_ne (off := 7) (tgt := 83) C (by decide +kernel) (by decide) (fun _ _ _ _ _ _ h => h) ?_
  refine s_iconst (n := 1) C (by decide +kernel) (by decide) ?_
  exact s_goto (off := 4) (tgt := 84) C (by decide +kernel) (by decide) (fun _ _ _ _ _ _ h => h)
set_option maxRecDepth 20000 in
theorem b_X12_holdersOf_83 {Z : Zt} {d : Nat} {p : Program} {e : Env} {R : Room} {s : State} {m : MethodId} {args : Array Value} {below : List Frame} {meth : Method} {c : Code} {Rp : RT} (C : Cx Z d jX12_holdersOf RX12 p R s m args meth c) : Sd Z jX12_holdersOf p e R s m args below meth c (MQ below (QcS Z Rp) args s 0 0 (fun a => Z.2.2.1 < a)) 83 (w_X12_holdersOf_83 (MS Z d) (Gw Z 7 p e R s m args below meth c (MQ below (QcS Z Rp) args s 0 0 (fun a => Z.2.2.1 < a))) Rp) := by
  unfold w_X12_holdersOf_83
  refine s_iconst (n := 0) C (by decide +kernel) (by decide) ?_
  exact (fun _ _ _ _ _ _ h => h)
set_option maxRecDepth 20000 in
theorem b_X12_holdersOf_84 {Z : Zt} {d : Nat} {p : Program} {e : Env} {R : Room} {s : State} {m : MethodId} {args : Array Value} {below : List Frame} {meth : Method} {c : Code} {Rp : RT} (C : Cx Z d jX12_holdersOf RX12 p R s m args meth c) : Sd Z jX12_holdersOf p e R s m args below meth c (MQ below (QcS Z Rp) args s 0 0 (fun a => Z.2.2.1 < a)) 84 (w_X12_holdersOf_84 (MS Z d) (Gw Z 7 p e R s m args below meth c (MQ below (QcS Z Rp) args s 0 0 (fun a => Z.2.2.1 < a))) Rp) := by
  unfold w_X12_holdersOf_84
  refine s_istore (k := 6) C (by decide +kernel) ?_
  refine s_iload (k := 4) C (by decide +kernel) ?_
  refine s_iload (k := 6) C (by decide +kernel) ?_
  refine s_if_eq (off := 10) (tgt := 100) C (by decide +kernel) (by decide) (fun _ _ _ _ _ _ h => h) ?_
  refine s_iconst (n := 1) C (by decide +kernel) (by decide) ?_
  refine s_iload (k := 5) C (by decide +kernel) ?_
  refine s_ishl C (by decide +kernel) ?_
  exact s_goto (off := 4) (tgt := 101) C (by decide +kernel) (by decide) (fun _ _ _ _ _ _ h => h)
set_option maxRecDepth 20000 in
theorem b_X12_holdersOf_100 {Z : Zt} {d : Nat} {p : Program} {e : Env} {R : Room} {s : State} {m : MethodId} {args : Array Value} {below : List Frame} {meth : Method} {c : Code} {Rp : RT} (C : Cx Z d jX12_holdersOf RX12 p R s m args meth c) : Sd Z jX12_holdersOf p e R s m args below meth c (MQ below (QcS Z Rp) args s 0 0 (fun a => Z.2.2.1 < a)) 100 (w_X12_holdersOf_100 (MS Z d) (Gw Z 7 p e R s m args below meth c (MQ below (QcS Z Rp) args s 0 0 (fun a => Z.2.2.1 < a))) Rp) := by
  unfold w_X12_holdersOf_100
  refine s_iconst (n := 0) C (by decide +kernel) (by decide) ?_
  exact (fun _ _ _ _ _ _ h => h)
set_option maxRecDepth 20000 in
theorem b_X12_holdersOf_101 {Z : Zt} {d : Nat} {p : Program} {e : Env} {R : Room} {s : State} {m : MethodId} {args : Array Value} {below : List Frame} {meth : Method} {c : Code} {Rp : RT} (C : Cx Z d jX12_holdersOf RX12 p R s m args meth c) : Sd Z jX12_holdersOf p e R s m args below meth c (MQ below (QcS Z Rp) args s 0 0 (fun a => Z.2.2.1 < a)) 101 (w_X12_holdersOf_101 (MS Z d) (Gw Z 7 p e R s m args below meth c (MQ below (QcS Z Rp) args s 0 0 (fun a => Z.2.2.1 < a))) Rp) := by
  unfold w_X12_holdersOf_101
  refine s_ior C (by decide +kernel) ?_
  refine s_istore (k := 4) C (by decide +kernel) ?_
  refine s_iinc (n := 1) C (by decide +kernel) (by decide) ?_
  exact s_goto (off := (-93)) (tgt := 14) C (by decide +kernel) (by decide) (fun _ _ _ _ _ _ h => h)
set_option maxRecDepth 20000 in
theorem b_X12_holdersOf_110 {Z : Zt} {d : Nat} {p : Program} {e : Env} {R : Room} {s : State} {m : MethodId} {args : Array Value} {below : List Frame} {meth : Method} {c : Code} {Rp : RT} (C : Cx Z d jX12_holdersOf RX12 p R s m args meth c) : Sd Z jX12_holdersOf p e R s m args below meth c (MQ below (QcS Z Rp) args s 0 0 (fun a => Z.2.2.1 < a)) 110 (w_X12_holdersOf_110 (MS Z d) (Gw Z 7 p e R s m args below meth c (MQ below (QcS Z Rp) args s 0 0 (fun a => Z.2.2.1 < a))) Rp) := by
  unfold w_X12_holdersOf_110
  refine s_iload (k := 4) C (by decide +kernel) ?_
  exact s_iret C rfl (by decide +kernel)
theorem ms_X12_holdersOf {Z : Zt} {d : Nat} {S : Sh} {μ : Mi} {ρ : Mr} {Rp : RT} (a0 : Nat) (x1 : Int32) (x2 : Int32) (h : ∀ G : Nat → PT, (∀ (L st : List Value) (S : Sh) (q : Nat × Nat) (μ : Mi) (ρ : Mr), w_X12_holdersOf_14 (MS Z d) G Rp L st S q μ ρ → G 14 L st S q μ ρ) → (∀ (L st : List Value) (S : Sh) (q : Nat × Nat) (μ : Mi) (ρ : Mr), w_X12_holdersOf_53 (MS Z d) G Rp L st S q μ ρ → G 53 L st S q μ ρ) → (∀ (L st : List Value) (S : Sh) (q : Nat × Nat) (μ : Mi) (ρ : Mr), w_X12_holdersOf_57 (MS Z d) G Rp L st S q μ ρ → G 57 L st S q μ ρ) → (∀ (L st : List Value) (S : Sh) (q : Nat × Nat) (μ : Mi) (ρ : Mr), w_X12_holdersOf_83 (MS Z d) G Rp L st S q μ ρ → G 83 L st S q μ ρ) → (∀ (L st : List Value) (S : Sh) (q : Nat × Nat) (μ : Mi) (ρ : Mr), w_X12_holdersOf_84 (MS Z d) G Rp L st S q μ ρ → G 84 L st S q μ ρ) → (∀ (L st : List Value) (S : Sh) (q : Nat × Nat) (μ : Mi) (ρ : Mr), w_X12_holdersOf_100 (MS Z d) G Rp L st S q μ ρ → G 100 L st S q μ ρ) → (∀ (L st : List Value) (S : Sh) (q : Nat × Nat) (μ : Mi) (ρ : Mr), w_X12_holdersOf_101 (MS Z d) G Rp L st S q μ ρ → G 101 L st S q μ ρ) → (∀ (L st : List Value) (S : Sh) (q : Nat × Nat) (μ : Mi) (ρ : Mr), w_X12_holdersOf_110 (MS Z d) G Rp L st S q μ ρ → G 110 L st S q μ ρ) → w_X12_holdersOf_0 (MS Z d) G Rp [.ref a0, .int x1, .int x2, .null, .null, .null, .null] [] S (0, 0) μ ρ) : MS Z (d + 1) jX12_holdersOf [.ref a0, .int x1, .int x2] S μ ρ Rp :=
  MS_of [.ref a0, .int x1, .int x2, .null, .null, .null, .null] (by decide +kernel) rfl rfl (Nat.le_of_ble_eq_true rfl) rfl (fun p e R s m args below meth c C => b_X12_holdersOf_0 C _ _ _ _ _ _ (h _ (b_X12_holdersOf_14 C) (b_X12_holdersOf_53 C) (b_X12_holdersOf_57 C) (b_X12_holdersOf_83 C) (b_X12_holdersOf_84 C) (b_X12_holdersOf_100 C) (b_X12_holdersOf_101 C) (b_X12_holdersOf_110 C)))
def w_X12_holders_0 (M : CT) (G : Nat → PT) (Rp : RT) : PT := tAload 0 <| tConst 0 <| tPutI 12 27 0 <| tIload 1 <| tCallS M jX12_isStore 1 <| tIf (fun x => x ≠ 0) (G 15) <| tConst (-2) <| tIret Rp
def w_X12_holders_15 (M : CT) (G : Nat → PT) (Rp : RT) : PT := tAload 0 <| tIload 1 <| tIload 2 <| tCallV M jX12_isInLog 12 27 2 <| tIf (fun x => x = 0) (G 33) <| tAload 0 <| tIload 1 <| tIload 2 <| tCallV M jX12_holdersOf 12 27 2 <| tGoto (G 35)
def w_X12_holders_33 (M : CT) (G : Nat → PT) (Rp : RT) : PT := tConst (-5) <| G 35
def w_X12_holders_35 (M : CT) (G : Nat → PT) (Rp : RT) : PT := tIret Rp
set_option maxRecDepth 20000 in
theorem b_X12_holders_0 {Z : Zt} {d : Nat} {p : Program} {e : Env} {R : Room} {s : State} {m : MethodId} {args : Array Value} {below : List Frame} {meth : Method} {c : Code} {Rp : RT} (C : Cx Z d jX12_holders RX12 p R s m args meth c) : Sd Z jX12_holders p e R s m args below meth c (MQ below (QcS Z Rp) args s 0 0 (fun a => Z.2.2.1 < a)) 0 (w_X12_holders_0 (MS Z d) (Gw Z 3 p e R s m args below meth c (MQ below (QcS Z Rp) args s 0 0 (fun a => Z.2.2.1 < a))) Rp) := by
  unfold w_X12_holders_0
  refine s_aload_n (k := 0) C (by decide +kernel) ?_
  refine s_iconst (n := 0) C (by decide +kernel) (by decide) ?_
  refine s_putI C w_6_87 (by decide +kernel) rfl (Or.inl rfl) ?_
  refine s_iload_n (k := 1) C (by decide +kernel) ?_
  refine s_callS C (by decide +kernel) rfl w_6_208 w_6_209 w_1_13 w_6_210 (by decide +kernel) ?_
  refine s_if_ne (off := 6) (tgt := 15) C (by decide +kernel) (by decide) (fun _ _ _ _ _ _ h => h) ?_
  refine s_bipush (n := (-2)) C (by decide +kernel) (by decide) ?_
  exact s_iret C rfl (by decide +kernel)
set_option maxRecDepth 20000 in
theorem b_X12_holders_15 {Z : Zt} {d : Nat} {p : Program} {e : Env} {R : Room} {s : State} {m : MethodId} {args : Array Value} {below : List Frame} {meth : Method} {c : Code} {Rp : RT} (C : Cx Z d jX12_holders RX12 p R s m args meth c) : Sd Z jX12_holders p e R s m args below meth c (MQ below (QcS Z Rp) args s 0 0 (fun a => Z.2.2.1 < a)) 15 (w_X12_holders_15 (MS Z d) (Gw Z 3 p e R s m args below meth c (MQ below (QcS Z Rp) args s 0 0 (fun a => Z.2.2.1 < a))) Rp) := by
  unfold w_X12_holders_15
  refine s_aload_n (k := 0) C (by decide +kernel) ?_
  refine s_iload_n (k := 1) C (by decide +kernel) ?_
  refine s_iload_n (k := 2) C (by decide +kernel) ?_
  refine s_callV C rfl rfl (by decide +kernel) rfl w_8_111 w_8_113 w_p7_13 w_1_13 w_8_114 (by decide +kernel) ?_
  refine s_if_eq (off := 12) (tgt := 33) C (by decide +kernel) (by decide) (fun _ _ _ _ _ _ h => h) ?_
  refine s_aload_n (k := 0) C (by decide +kernel) ?_
  refine s_iload_n (k := 1) C (by decide +kernel) ?_
  refine s_iload_n (k := 2) C (by decide +kernel) ?_
  refine s_callV C rfl rfl (by decide +kernel) rfl w_8_164 w_8_166 w_p8_2 w_1_13 w_8_167 (by decide +kernel) ?_
  exact s_goto (off := 5) (tgt := 35) C (by decide +kernel) (by decide) (fun _ _ _ _ _ _ h => h)
set_option maxRecDepth 20000 in
theorem b_X12_holders_33 {Z : Zt} {d : Nat} {p : Program} {e : Env} {R : Room} {s : State} {m : MethodId} {args : Array Value} {below : List Frame} {meth : Method} {c : Code} {Rp : RT} (C : Cx Z d jX12_holders RX12 p R s m args meth c) : Sd Z jX12_holders p e R s m args below meth c (MQ below (QcS Z Rp) args s 0 0 (fun a => Z.2.2.1 < a)) 33 (w_X12_holders_33 (MS Z d) (Gw Z 3 p e R s m args below meth c (MQ below (QcS Z Rp) args s 0 0 (fun a => Z.2.2.1 < a))) Rp) := by
  unfold w_X12_holders_33
  refine s_bipush (n := (-5)) C (by decide +kernel) (by decide) ?_
  exact (fun _ _ _ _ _ _ h => h)
set_option maxRecDepth 20000 in
theorem b_X12_holders_35 {Z : Zt} {d : Nat} {p : Program} {e : Env} {R : Room} {s : State} {m : MethodId} {args : Array Value} {below : List Frame} {meth : Method} {c : Code} {Rp : RT} (C : Cx Z d jX12_holders RX12 p R s m args meth c) : Sd Z jX12_holders p e R s m args below meth c (MQ below (QcS Z Rp) args s 0 0 (fun a => Z.2.2.1 < a)) 35 (w_X12_holders_35 (MS Z d) (Gw Z 3 p e R s m args below meth c (MQ below (QcS Z Rp) args s 0 0 (fun a => Z.2.2.1 < a))) Rp) := by
  unfold w_X12_holders_35
  exact s_iret C rfl (by decide +kernel)
theorem ms_X12_holders {Z : Zt} {d : Nat} {S : Sh} {μ : Mi} {ρ : Mr} {Rp : RT} (a0 : Nat) (x1 : Int32) (x2 : Int32) (h : ∀ G : Nat → PT, (∀ (L st : List Value) (S : Sh) (q : Nat × Nat) (μ : Mi) (ρ : Mr), w_X12_holders_15 (MS Z d) G Rp L st S q μ ρ → G 15 L st S q μ ρ) → (∀ (L st : List Value) (S : Sh) (q : Nat × Nat) (μ : Mi) (ρ : Mr), w_X12_holders_33 (MS Z d) G Rp L st S q μ ρ → G 33 L st S q μ ρ) → (∀ (L st : List Value) (S : Sh) (q : Nat × Nat) (μ : Mi) (ρ : Mr), w_X12_holders_35 (MS Z d) G Rp L st S q μ ρ → G 35 L st S q μ ρ) → w_X12_holders_0 (MS Z d) G Rp [.ref a0, .int x1, .int x2] [] S (0, 0) μ ρ) : MS Z (d + 1) jX12_holders [.ref a0, .int x1, .int x2] S μ ρ Rp :=
  MS_of [.ref a0, .int x1, .int x2] (by decide +kernel) rfl rfl (Nat.le_of_ble_eq_true rfl) rfl (fun p e R s m args below meth c C => b_X12_holders_0 C _ _ _ _ _ _ (h _ (b_X12_holders_15 C) (b_X12_holders_33 C) (b_X12_holders_35 C)))
def w_X12_safe_0 (M : CT) (G : Nat → PT) (Rp : RT) : PT := tAload 0 <| tConst 0 <| tPutI 12 27 0 <| tIload 1 <| tCallS M jX12_isStore 1 <| tIf (fun x => x ≠ 0) (G 15) <| tConst (-2) <| tIret Rp
def w_X12_safe_15 (M : CT) (G : Nat → PT) (Rp : RT) : PT := tAload 0 <| tIload 1 <| tIload 2 <| tCallV M jX12_isInLog 12 27 2 <| tIf (fun x => x ≠ 0) (G 27) <| tConst (-5) <| tIret Rp
def w_X12_safe_27 (M : CT) (G : Nat → PT) (Rp : RT) : PT := tAload 0 <| tIload 1 <| tCallV M jX12_laysMembers 12 27 1 <| tAload 0 <| tAload 0 <| tIload 1 <| tIload 2 <| tCallV M jX12_holdersOf 12 27 2 <| tCallV M jX12_isMajority 12 27 1 <| tIf (fun x => x = 0) (G 49) <| tConst 1 <| tGoto (G 50)
def w_X12_safe_49 (M : CT) (G : Nat → PT) (Rp : RT) : PT := tConst 0 <| G 50
def w_X12_safe_50 (M : CT) (G : Nat → PT) (Rp : RT) : PT := tIret Rp
set_option maxRecDepth 20000 in
theorem b_X12_safe_0 {Z : Zt} {d : Nat} {p : Program} {e : Env} {R : Room} {s : State} {m : MethodId} {args : Array Value} {below : List Frame} {meth : Method} {c : Code} {Rp : RT} (C : Cx Z d jX12_safe RX12 p R s m args meth c) : Sd Z jX12_safe p e R s m args below meth c (MQ below (QcS Z Rp) args s 0 0 (fun a => Z.2.2.1 < a)) 0 (w_X12_safe_0 (MS Z d) (Gw Z 3 p e R s m args below meth c (MQ below (QcS Z Rp) args s 0 0 (fun a => Z.2.2.1 < a))) Rp) := by
  unfold w_X12_safe_0
  refine s_aload_n (k := 0) C (by decide +kernel) ?_
  refine s_iconst (n := 0) C (by decide +kernel) (by decide) ?_
  refine s_putI C w_6_87 (by decide +kernel) rfl (Or.inl rfl) ?_
  refine s_iload_n (k := 1) C (by decide +kernel) ?_
  refine s_callS C (by decide +kernel) rfl w_6_208 w_6_209 w_1_13 w_6_210 (by decide +kernel) ?_
  refine s_if_ne (off := 6) (tgt := 15) C (by decide +kernel) (by decide) (fun _ _ _ _ _ _ h => h) ?_
  refine s_bipush (n := (-2)) C (by decide +kernel) (by decide) ?_
  exact s_iret C rfl (by decide +kernel)
set_option maxRecDepth 20000 in
theorem b_X12_safe_15 {Z : Zt} {d : Nat} {p : Program} {e : Env} {R : Room} {s : State} {m : MethodId} {args : Array Value} {below : List Frame} {meth : Method} {c : Code} {Rp : RT} (C : Cx Z d jX12_safe RX12 p R s m args meth c) : Sd Z jX12_safe p e R s m args below meth c (MQ below (QcS Z Rp) args s 0 0 (fun a => Z.2.2.1 < a)) 15 (w_X12_safe_15 (MS Z d) (Gw Z 3 p e R s m args below meth c (MQ below (QcS Z Rp) args s 0 0 (fun a => Z.2.2.1 < a))) Rp) := by
  unfold w_X12_safe_15
  refine s_aload_n (k := 0) C (by decide +kernel) ?_
  refine s_iload_n (k := 1) C (by decide +kernel) ?_
  refine s_iload_n (k := 2) C (by decide +kernel) ?_
  refine s_callV C rfl rfl (by decide +kernel) rfl w_8_111 w_8_113 w_p7_13 w_1_13 w_8_114 (by decide +kernel) ?_
  refine s_if_ne (off := 6) (tgt := 27) C (by decide +kernel) (by decide) (fun _ _ _ _ _ _ h => h) ?_
  refine s_bipush (n := (-5)) C (by decide +kernel) (by decide) ?_
  exact s_iret C rfl (by decide +kernel)
set_option maxRecDepth 20000 in
theorem b_X12_safe_27 {Z : Zt} {d : Nat} {p : Program} {e : Env} {R : Room} {s : State} {m : MethodId} {args : Array Value} {below : List Frame} {meth : Method} {c : Code} {Rp : RT} (C : Cx Z d jX12_safe RX12 p R s m args meth c) : Sd Z jX12_safe p e R s m args below meth c (MQ below (QcS Z Rp) args s 0 0 (fun a => Z.2.2.1 < a)) 27 (w_X12_safe_27 (MS Z d) (Gw Z 3 p e R s m args below meth c (MQ below (QcS Z Rp) args s 0 0 (fun a => Z.2.2.1 < a))) Rp) := by
  unfold w_X12_safe_27
  refine s_aload_n (k := 0) C (by decide +kernel) ?_
  refine s_iload_n (k := 1) C (by decide +kernel) ?_
  refine s_callV C rfl rfl (by decide +kernel) rfl w_6_216 w_6_218 w_p3_10 w_1_13 w_6_219 (by decide +kernel) ?_
  refine s_aload_n (k := 0) C (by decide +kernel) ?_
  refine s_aload_n (k := 0) C (by decide +kernel) ?_
  refine s_iload_n (k := 1) C (by decide +kernel) ?_
  refine s_iload_n (k := 2) C (by decide +kernel) ?_
  refine s_callV C rfl rfl (by decide +kernel) rfl w_8_164 w_8_166 w_p8_2 w_1_13 w_8_167 (by decide +kernel) ?_
  refine s_callV C rfl rfl (by decide +kernel) rfl w_7_35 w_7_37 w_p4_8 w_1_13 w_7_38 (by decide +kernel) ?_
  refine s_if_eq (off := 7) (tgt := 49) C (by decide +kernel) (by decide) (fun _ _ _ _ _ _ h => h) ?_
  refine s_iconst (n := 1) C (by decide +kernel) (by decide) ?_
  exact s_goto (off := 4) (tgt := 50) C (by decide +kernel) (by decide) (fun _ _ _ _ _ _ h => h)
set_option maxRecDepth 20000 in
theorem b_X12_safe_49 {Z : Zt} {d : Nat} {p : Program} {e : Env} {R : Room} {s : State} {m : MethodId} {args : Array Value} {below : List Frame} {meth : Method} {c : Code} {Rp : RT} (C : Cx Z d jX12_safe RX12 p R s m args meth c) : Sd Z jX12_safe p e R s m args below meth c (MQ below (QcS Z Rp) args s 0 0 (fun a => Z.2.2.1 < a)) 49 (w_X12_safe_49 (MS Z d) (Gw Z 3 p e R s m args below meth c (MQ below (QcS Z Rp) args s 0 0 (fun a => Z.2.2.1 < a))) Rp) := by
  unfold w_X12_safe_49
  refine s_iconst (n := 0) C (by decide +kernel) (by decide) ?_
  exact (fun _ _ _ _ _ _ h => h)
set_option maxRecDepth 20000 in
theorem b_X12_safe_50 {Z : Zt} {d : Nat} {p : Program} {e : Env} {R : Room} {s : State} {m : MethodId} {args : Array Value} {below : List Frame} {meth : Method} {c : Code} {Rp : RT} (C : Cx Z d jX12_safe RX12 p R s m args meth c) : Sd Z jX12_safe p e R s m args below meth c (MQ below (QcS Z Rp) args s 0 0 (fun a => Z.2.2.1 < a)) 50 (w_X12_safe_50 (MS Z d) (Gw Z 3 p e R s m args below meth c (MQ below (QcS Z Rp) args s 0 0 (fun a => Z.2.2.1 < a))) Rp) := by
  unfold w_X12_safe_50
  exact s_iret C rfl (by decide +kernel)
theorem ms_X12_safe {Z : Zt} {d : Nat} {S : Sh} {μ : Mi} {ρ : Mr} {Rp : RT} (a0 : Nat) (x1 : Int32) (x2 : Int32) (h : ∀ G : Nat → PT, (∀ (L st : List Value) (S : Sh) (q : Nat × Nat) (μ : Mi) (ρ : Mr), w_X12_safe_15 (MS Z d) G Rp L st S q μ ρ → G 15 L st S q μ ρ) → (∀ (L st : List Value) (S : Sh) (q : Nat × Nat) (μ : Mi) (ρ : Mr), w_X12_safe_27 (MS Z d) G Rp L st S q μ ρ → G 27 L st S q μ ρ) → (∀ (L st : List Value) (S : Sh) (q : Nat × Nat) (μ : Mi) (ρ : Mr), w_X12_safe_49 (MS Z d) G Rp L st S q μ ρ → G 49 L st S q μ ρ) → (∀ (L st : List Value) (S : Sh) (q : Nat × Nat) (μ : Mi) (ρ : Mr), w_X12_safe_50 (MS Z d) G Rp L st S q μ ρ → G 50 L st S q μ ρ) → w_X12_safe_0 (MS Z d) G Rp [.ref a0, .int x1, .int x2] [] S (0, 0) μ ρ) : MS Z (d + 1) jX12_safe [.ref a0, .int x1, .int x2] S μ ρ Rp :=
  MS_of [.ref a0, .int x1, .int x2] (by decide +kernel) rfl rfl (Nat.le_of_ble_eq_true rfl) rfl (fun p e R s m args below meth c C => b_X12_safe_0 C _ _ _ _ _ _ (h _ (b_X12_safe_15 C) (b_X12_safe_27 C) (b_X12_safe_49 C) (b_X12_safe_50 C)))
def w_X12_agreed_0 (M : CT) (G : Nat → PT) (Rp : RT) : PT := tAload 0 <| tConst 0 <| tPutI 12 27 0 <| tIload 1 <| tI2l <| tLconst 1 <| tLconst 120 <| tCallS M jX12_within 3 <| tIf (fun x => x = 0) (G 29) <| tIload 2 <| tI2l <| tLconst 0 <| tLconst 3 <| tCallS M jX12_within 3 <| tIf (fun x => x ≠ 0) (G 33) <| G 29
def w_X12_agreed_29 (M : CT) (G : Nat → PT) (Rp : RT) : PT := tConst (-1000) <| tIret Rp
def w_X12_agreed_33 (M : CT) (G : Nat → PT) (Rp : RT) : PT := tConst 3830 <| tConst 4 <| tIload 1 <| tConst 1 <| tBin (fun x y => x - y) <| tBin (fun x y => x * y) <| tBin (fun x y => x + y) <| tIstore 3 <| tAload 0 <| tGetR 12 27 1 <| tIload 3 <| tAld 20 <| tIf (fun x => x ≠ 0) (G 58) <| tConst (-1000) <| tGoto (G 66)
def w_X12_agreed_58 (M : CT) (G : Nat → PT) (Rp : RT) : PT := tAload 0 <| tGetR 12 27 1 <| tIload 3 <| tIload 2 <| tBin (fun x y => x + y) <| tAld 20 <| G 66
def w_X12_agreed_66 (M : CT) (G : Nat → PT) (Rp : RT) : PT := tIret Rp
set_option maxRecDepth 20000 in
theorem b_X12_agreed_0 {Z : Zt} {d : Nat} {p : Program} {e : Env} {R : Room} {s : State} {m : MethodId} {args : Array Value} {below : List Frame} {meth : Method} {c : Code} {Rp : RT} (C : Cx Z d jX12_agreed RX12 p R s m args meth c) : Sd Z jX12_agreed p e R s m args below meth c (MQ below (QcS Z Rp) args s 0 0 (fun a => Z.2.2.1 < a)) 0 (w_X12_agreed_0 (MS Z d) (Gw Z 4 p e R s m args below meth c (MQ below (QcS Z Rp) args s 0 0 (fun a => Z.2.2.1 < a))) Rp) := by
  unfold w_X12_agreed_0
  refine s_aload_n (k := 0) C (by decide +kernel) ?_
  refine s_iconst (n := 0) C (by decide +kernel) (by decide) ?_
  refine s_putI C w_6_87 (by decide +kernel) rfl (Or.inl rfl) ?_
  refine s_iload_n (k := 1) C (by decide +kernel) ?_
  refine s_i2l C (by decide +kernel) ?_
  refine s_lconst (n := 1) C (by decide +kernel) (by decide) ?_
  refine s_ldc2 C w_8_176 (by decide +kernel) ?_
  refine s_callS C (by decide +kernel) rfl w_6_175 w_6_176 w_1_13 w_6_177 (by decide +kernel) ?_
  refine s_if_eq (off := 15) (tgt := 29) C (by decide +kernel) (by decide) (fun _ _ _ _ _ _ h => h) ?_
  refine s_iload_n (k := 2) C (by decide +kernel) ?_
  refine s_i2l C (by decide +kernel) ?_
  refine s_lconst (n := 0) C (by decide +kernel) (by decide) ?_
  refine s_ldc2 C w_7_93 (by decide +kernel) ?_
  refine s_callS C (by decide +kernel) rfl w_6_175 w_6_176 w_1_13 w_6_177 (by decide +kernel) ?_
  refine s_if_ne (off := 7) (tgt := 33) C (by decide +kernel) (by decide) (fun _ _ _ _ _ _ h => h) ?_
  exact (fun _ _ _ _ _ _ h => h)
set_option maxRecDepth 20000 in
theorem b_X12_agreed_29 {Z : Zt} {d : Nat} {p : Program} {e : Env} {R : Room} {s : State} {m : MethodId} {args : Array Value} {below : List Frame} {meth : Method} {c : Code} {Rp : RT} (C : Cx Z d jX12_agreed RX12 p R s m args meth c) : Sd Z jX12_agreed p e R s m args below meth c (MQ below (QcS Z Rp) args s 0 0 (fun a => Z.2.2.1 < a)) 29 (w_X12_agreed_29 (MS Z d) (Gw Z 4 p e R s m args below meth c (MQ below (QcS Z Rp) args s 0 0 (fun a => Z.2.2.1 < a))) Rp) := by
  unfold w_X12_agreed_29
  refine s_sipush (n := (-1000)) C (by decide +kernel) (by decide) ?_
  exact s_iret C rfl (by decide +kernel)
set_option maxRecDepth 20000 in
theorem b_X12_agreed_33 {Z : Zt} {d : Nat} {p : Program} {e : Env} {R : Room} {s : State} {m : MethodId} {args : Array Value} {below : List Frame} {meth : Method} {c : Code} {Rp : RT} (C : Cx Z d jX12_agreed RX12 p R s m args meth c) : Sd Z jX12_agreed p e R s m args below meth c (MQ below (QcS Z Rp) args s 0 0 (fun a => Z.2.2.1 < a)) 33 (w_X12_agreed_33 (MS Z d) (Gw Z 4 p e R s m args below meth c (MQ below (QcS Z Rp) args s 0 0 (fun a => Z.2.2.1 < a))) Rp) := by
  unfold w_X12_agreed_33
  refine s_sipush (n := 3830) C (by decide +kernel) (by decide) ?_
  refine s_iconst (n := 4) C (by decide +kernel) (by decide) ?_
  refine s_iload_n (k := 1) C (by decide +kernel) ?_
  refine s_iconst (n := 1) C (by decide +kernel) (by decide) ?_
  refine s_isub C (by decide +kernel) ?_
  refine s_imul C (by decide +kernel) ?_
  refine s_iadd C (by decide +kernel) ?_
  refine s_istore_n (k := 3) C (by decide +kernel) ?_
  refine s_aload_n (k := 0) C (by decide +kernel) ?_
  refine s_getR C w_6_88 (by decide +kernel) rfl ?_
  refine s_iload_n (k := 3) C (by decide +kernel) ?_
  refine s_iald C (by decide +kernel) ?_
  refine s_if_ne (off := 9) (tgt := 58) C (by decide +kernel) (by decide) (fun _ _ _ _ _ _ h => h) ?_
  refine s_sipush (n := (-1000)) C (by decide +kernel) (by decide) ?_
  exact s_goto (off := 11) (tgt := 66) C (by decide +kernel) (by decide) (fun _ _ _ _ _ _ h => h)
set_option maxRecDepth 20000 in
theorem b_X12_agreed_58 {Z : Zt} {d : Nat} {p : Program} {e : Env} {R : Room} {s : State} {m : MethodId} {args : Array Value} {below : List Frame} {meth : Method} {c : Code} {Rp : RT} (C : Cx Z d jX12_agreed RX12 p R s m args meth c) : Sd Z jX12_agreed p e R s m args below meth c (MQ below (QcS Z Rp) args s 0 0 (fun a => Z.2.2.1 < a)) 58 (w_X12_agreed_58 (MS Z d) (Gw Z 4 p e R s m args below meth c (MQ below (QcS Z Rp) args s 0 0 (fun a => Z.2.2.1 < a))) Rp) := by
  unfold w_X12_agreed_58
  refine s_aload_n (k := 0) C (by decide +kernel) ?_
  refine s_getR C w_6_88 (by decide +kernel) rfl ?_
  refine s_iload_n (k := 3) C (by decide +kernel) ?_
  refine s_iload_n (k := 2) C (by decide +kernel) ?_
  refine s_iadd C (by decide +kernel) ?_
  refine s_iald C (by decide +kernel) ?_
  exact (fun _ _ _ _ _ _ h => h)
set_option maxRecDepth 20000 in
theorem b_X12_agreed_66 {Z : Zt} {d : Nat} {p : Program} {e : Env} {R : Room} {s : State} {m : MethodId} {args : Array Value} {below : List Frame} {meth : Method} {c : Code} {Rp : RT} (C : Cx Z d jX12_agreed RX12 p R s m args meth c) : Sd Z jX12_agreed p e R s m args below meth c (MQ below (QcS Z Rp) args s 0 0 (fun a => Z.2.2.1 < a)) 66 (w_X12_agreed_66 (MS Z d) (Gw Z 4 p e R s m args below meth c (MQ below (QcS Z Rp) args s 0 0 (fun a => Z.2.2.1 < a))) Rp) := by
  unfold w_X12_agreed_66
  exact s_iret C rfl (by decide +kernel)
theorem ms_X12_agreed {Z : Zt} {d : Nat} {S : Sh} {μ : Mi} {ρ : Mr} {Rp : RT} (a0 : Nat) (x1 : Int32) (x2 : Int32) (h : ∀ G : Nat → PT, (∀ (L st : List Value) (S : Sh) (q : Nat × Nat) (μ : Mi) (ρ : Mr), w_X12_agreed_29 (MS Z d) G Rp L st S q μ ρ → G 29 L st S q μ ρ) → (∀ (L st : List Value) (S : Sh) (q : Nat × Nat) (μ : Mi) (ρ : Mr), w_X12_agreed_33 (MS Z d) G Rp L st S q μ ρ → G 33 L st S q μ ρ) → (∀ (L st : List Value) (S : Sh) (q : Nat × Nat) (μ : Mi) (ρ : Mr), w_X12_agreed_58 (MS Z d) G Rp L st S q μ ρ → G 58 L st S q μ ρ) → (∀ (L st : List Value) (S : Sh) (q : Nat × Nat) (μ : Mi) (ρ : Mr), w_X12_agreed_66 (MS Z d) G Rp L st S q μ ρ → G 66 L st S q μ ρ) → w_X12_agreed_0 (MS Z d) G Rp [.ref a0, .int x1, .int x2, .null] [] S (0, 0) μ ρ) : MS Z (d + 1) jX12_agreed [.ref a0, .int x1, .int x2] S μ ρ Rp :=
  MS_of [.ref a0, .int x1, .int x2, .null] (by decide +kernel) rfl rfl (Nat.le_of_ble_eq_true rfl) rfl (fun p e R s m args below meth c C => b_X12_agreed_0 C _ _ _ _ _ _ (h _ (b_X12_agreed_29 C) (b_X12_agreed_33 C) (b_X12_agreed_58 C) (b_X12_agreed_66 C)))
def w_X12_leaders_0 (M : CT) (G : Nat → PT) (Rp : RT) : PT := tAload 0 <| tConst 0 <| tPutI 12 27 0 <| tIload 1 <| tI2l <| tLconst 1 <| tLconst 200 <| tCallS M jX12_within 3 <| tIf (fun x => x = 0) (G 32) <| tAload 0 <| tGetR 12 27 1 <| tConst 4310 <| tIload 1 <| tBin (fun x y => x + y) <| tConst 1 <| tBin (fun x y => x - y) <| tAld 20 <| tGoto (G 34)
def w_X12_leaders_32 (M : CT) (G : Nat → PT) (Rp : RT) : PT := tConst (-3) <| G 34
def w_X12_leaders_34 (M : CT) (G : Nat → PT) (Rp : RT) : PT := tIret Rp
set_option maxRecDepth 20000 in
theorem b_X12_leaders_0 {Z : Zt} {d : Nat} {p : Program} {e : Env} {R : Room} {s : State} {m : MethodId} {args : Array Value} {below : List Frame} {meth : Method} {c : Code} {Rp : RT} (C : Cx Z d jX12_leaders RX12 p R s m args meth c) : Sd Z jX12_leaders p e R s m args below meth c (MQ below (QcS Z Rp) args s 0 0 (fun a => Z.2.2.1 < a)) 0 (w_X12_leaders_0 (MS Z d) (Gw Z 2 p e R s m args below meth c (MQ below (QcS Z Rp) args s 0 0 (fun a => Z.2.2.1 < a))) Rp) := by
  unfold w_X12_leaders_0
  refine s_aload_n (k := 0) C (by decide +kernel) ?_
  refine s_iconst (n := 0) C (by decide +kernel) (by decide) ?_
  refine s_putI C w_6_87 (by decide +kernel) rfl (Or.inl rfl) ?_
  refine s_iload_n (k := 1) C (by decide +kernel) ?_
  refine s_i2l C (by decide +kernel) ?_
  refine s_lconst (n := 1) C (by decide +kernel) (by decide) ?_
  refine s_ldc2 C w_8_20 (by decide +kernel) ?_
  refine s_callS C (by decide +kernel) rfl w_6_175 w_6_176 w_1_13 w_6_177 (by decide +kernel) ?_
  refine s_if_eq (off := 18) (tgt := 32) C (by decide +kernel) (by decide) (fun _ _ _ _ _ _ h => h) ?_
  refine s_aload_n (k := 0) C (by decide +kernel) ?_
  refine s_getR C w_6_88 (by decide +kernel) rfl ?_
  refine s_sipush (n := 4310) C (by decide +kernel) (by decide) ?_
  refine s_iload_n (k := 1) C (by decide +kernel) ?_
  refine s_iadd C (by decide +kernel) ?_
  refine s_iconst (n := 1) C (by decide +kernel) (by decide) ?_
  refine s_isub C (by decide +kernel) ?_
  refine s_iald C (by decide +kernel) ?_
  exact s_goto (off := 5) (tgt := 34) C (by decide +kernel) (by decide) (fun _ _ _ _ _ _ h => h)
set_option maxRecDepth 20000 in
theorem b_X12_leaders_32 {Z : Zt} {d : Nat} {p : Program} {e : Env} {R : Room} {s : State} {m : MethodId} {args : Array Value} {below : List Frame} {meth : Method} {c : Code} {Rp : RT} (C : Cx Z d jX12_leaders RX12 p R s m args meth c) : Sd Z jX12_leaders p e R s m args below meth c (MQ below (QcS Z Rp) args s 0 0 (fun a => Z.2.2.1 < a)) 32 (w_X12_leaders_32 (MS Z d) (Gw Z 2 p e R s m args below meth c (MQ below (QcS Z Rp) args s 0 0 (fun a => Z.2.2.1 < a))) Rp) := by
  unfold w_X12_leaders_32
  refine s_bipush (n := (-3)) C (by decide +kernel) (by decide) ?_
  exact (fun _ _ _ _ _ _ h => h)
set_option maxRecDepth 20000 in
theorem b_X12_leaders_34 {Z : Zt} {d : Nat} {p : Program} {e : Env} {R : Room} {s : State} {m : MethodId} {args : Array Value} {below : List Frame} {meth : Method} {c : Code} {Rp : RT} (C : Cx Z d jX12_leaders RX12 p R s m args meth c) : Sd Z jX12_leaders p e R s m args below meth c (MQ below (QcS Z Rp) args s 0 0 (fun a => Z.2.2.1 < a)) 34 (w_X12_leaders_34 (MS Z d) (Gw Z 2 p e R s m args below meth c (MQ below (QcS Z Rp) args s 0 0 (fun a => Z.2.2.1 < a))) Rp) := by
  unfold w_X12_leaders_34
  exact s_iret C rfl (by decide +kernel)
theorem ms_X12_leaders {Z : Zt} {d : Nat} {S : Sh} {μ : Mi} {ρ : Mr} {Rp : RT} (a0 : Nat) (x1 : Int32) (h : ∀ G : Nat → PT, (∀ (L st : List Value) (S : Sh) (q : Nat × Nat) (μ : Mi) (ρ : Mr), w_X12_leaders_32 (MS Z d) G Rp L st S q μ ρ → G 32 L st S q μ ρ) → (∀ (L st : List Value) (S : Sh) (q : Nat × Nat) (μ : Mi) (ρ : Mr), w_X12_leaders_34 (MS Z d) G Rp L st S q μ ρ → G 34 L st S q μ ρ) → w_X12_leaders_0 (MS Z d) G Rp [.ref a0, .int x1] [] S (0, 0) μ ρ) : MS Z (d + 1) jX12_leaders [.ref a0, .int x1] S μ ρ Rp :=
  MS_of [.ref a0, .int x1] (by decide +kernel) rfl rfl (Nat.le_of_ble_eq_true rfl) rfl (fun p e R s m args below meth c C => b_X12_leaders_0 C _ _ _ _ _ _ (h _ (b_X12_leaders_32 C) (b_X12_leaders_34 C)))
def w_X12_leaderNow_0 (M : CT) (G : Nat → PT) (Rp : RT) : PT := tConst (-1) <| tIstore 1 <| tConst 0 <| tIstore 2 <| G 4
def w_X12_leaderNow_4 (M : CT) (G : Nat → PT) (Rp : RT) : PT := tIload 2 <| tConst 5 <| tIf2 (fun x y => y ≤ x) (G 45) <| tAload 0 <| tIload 2 <| tCallV M jX12_isLeader 12 27 1 <| tIf (fun x => x = 0) (G 39) <| tIload 1 <| tConst (-1) <| tIf2 (fun x y => x = y) (G 37) <| tAload 0 <| tIload 2 <| tConst 1 <| tCallV M jX12_of 12 27 2 <| tAload 0 <| tIload 1 <| tConst 1 <| tCallV M jX12_of 12 27 2 <| tIf2 (fun x y => x ≤ y) (G 39) <| G 37
def w_X12_leaderNow_37 (M : CT) (G : Nat → PT) (Rp : RT) : PT := tIload 2 <| tIstore 1 <| G 39
def w_X12_leaderNow_39 (M : CT) (G : Nat → PT) (Rp : RT) : PT := tIinc 2 1 <| tGoto (G 4)
def w_X12_leaderNow_45 (M : CT) (G : Nat → PT) (Rp : RT) : PT := tIload 1 <| tIret Rp
set_option maxRecDepth 20000 in
theorem b_X12_leaderNow_0 {Z : Zt} {d : Nat} {p : Program} {e : Env} {R : Room} {s : State} {m : MethodId} {args : Array Value} {below : List Frame} {meth : Method} {c : Code} {Rp : RT} (C : Cx Z d jX12_leaderNow RX12 p R s m args meth c) : Sd Z jX12_leaderNow p e R s m args below meth c (MQ below (QcS Z Rp) args s 0 0 (fun a => Z.2.2.1 < a)) 0 (w_X12_leaderNow_0 (MS Z d) (Gw Z 3 p e R s m args below meth c (MQ below (QcS Z Rp) args s 0 0 (fun a => Z.2.2.1 < a))) Rp) := by
  unfold w_X12_leaderNow_0
  refine s_iconst (n := (-1)) C (by decide +kernel) (by decide) ?_
  refine s_istore_n (k := 1) C (by decide +kernel) ?_
  refine s_iconst (n := 0) C (by decide +kernel) (by decide) ?_
  refine s_istore_n (k := 2) C (by decide +kernel) ?_
  exact (fun _ _ _ _ _ _ h => h)
set_option maxRecDepth 20000 in
theorem b_X12_leaderNow_4 {Z : Zt} {d : Nat} {p : Program} {e : Env} {R : Room} {s : State} {m : MethodId} {args : Array Value} {below : List Frame} {meth : Method} {c : Code} {Rp : RT} (C : Cx Z d jX12_leaderNow RX12 p R s m args meth c) : Sd Z jX12_leaderNow p e R s m args below meth c (MQ below (QcS Z Rp) args s 0 0 (fun a => Z.2.2.1 < a)) 4 (w_X12_leaderNow_4 (MS Z d) (Gw Z 3 p e R s m args below meth c (MQ below (QcS Z Rp) args s 0 0 (fun a => Z.2.2.1 < a))) Rp) := by
  unfold w_X12_leaderNow_4
  refine s_iload_n (k := 2) C (by decide +kernel) ?_
  refine s_iconst (n := 5) C (by decide +kernel) (by decide) ?_
  refine s_icmp_ge (off := 39) (tgt := 45) C (by decide +kernel) (by decide) (fun _ _ _ _ _ _ h => h) ?_
  refine s_aload_n (k := 0) C (by decide +kernel) ?_
  refine s_iload_n (k := 2) C (by decide +kernel) ?_
  refine s_callV C rfl rfl (by decide +kernel) rfl w_6_236 w_6_238 w_p3_15 w_1_13 w_6_239 (by decide +kernel) ?_
  refine s_if_eq (off := 25) (tgt := 39) C (by decide +kernel) (by decide) (fun _ _ _ _ _ _ h => h) ?_
  refine s_iload_n (k := 1) C (by decide +kernel) ?_
  refine s_iconst (n := (-1)) C (by decide +kernel) (by decide) ?_
  refine s_icmp_eq (off := 18) (tgt := 37) C (by decide +kernel) (by decide) (fun _ _ _ _ _ _ h => h) ?_
  refine s_aload_n (k := 0) C (by decide +kernel) ?_
  refine s_iload_n (k := 2) C (by decide +kernel) ?_
  refine s_iconst (n := 1) C (by decide +kernel) (by decide) ?_
  refine s_callV C rfl rfl (by decide +kernel) rfl w_6_220 w_6_222 w_p3_11 w_1_13 w_6_223 (by decide +kernel) ?_
  refine s_aload_n (k := 0) C (by decide +kernel) ?_
  refine s_iload_n (k := 1) C (by decide +kernel) ?_
  refine s_iconst (n := 1) C (by decide +kernel) (by decide) ?_
  refine s_callV C rfl rfl (by decide +kernel) rfl w_6_220 w_6_222 w_p3_11 w_1_13 w_6_223 (by decide +kernel) ?_
  refine s_icmp_le (off := 5) (tgt := 39) C (by decide +kernel) (by decide) (fun _ _ _ _ _ _ h => h) ?_
  exact (fun _ _ _ _ _ _ h => h)
set_option maxRecDepth 20000 in
theorem b_X12_leaderNow_37 {Z : Zt} {d : Nat} {p : Program} {e : Env} {R : Room} {s : State} {m : MethodId} {args : Array Value} {below : List Frame} {meth : Method} {c : Code} {Rp : RT} (C : Cx Z d jX12_leaderNow RX12 p R s m args meth c) : Sd Z jX12_leaderNow p e R s m args below meth c (MQ below (QcS Z Rp) args s 0 0 (fun a => Z.2.2.1 < a)) 37 (w_X12_leaderNow_37 (MS Z d) (Gw Z 3 p e R s m args below meth c (MQ below (QcS Z Rp) args s 0 0 (fun a => Z.2.2.1 < a))) Rp) := by
  unfold w_X12_leaderNow_37
  refine s_iload_n (k := 2) C (by decide +kernel) ?_
  refine s_istore_n (k := 1) C (by decide +kernel) ?_
  exact (fun _ _ _ _ _ _ h => h)
set_option maxRecDepth 20000 in
theorem b_X12_leaderNow_39 {Z : Zt} {d : Nat} {p : Program} {e : Env} {R : Room} {s : State} {m : MethodId} {args : Array Value} {below : List Frame} {meth : Method} {c : Code} {Rp : RT} (C : Cx Z d jX12_leaderNow RX12 p R s m args meth c) : Sd Z jX12_leaderNow p e R s m args below meth c (MQ below (QcS Z Rp) args s 0 0 (fun a => Z.2.2.1 < a)) 39 (w_X12_leaderNow_39 (MS Z d) (Gw Z 3 p e R s m args below meth c (MQ below (QcS Z Rp) args s 0 0 (fun a => Z.2.2.1 < a))) Rp) := by
  unfold w_X12_leaderNow_39
  refine s_iinc (n := 1) C (by decide +kernel) (by decide) ?_
  exact s_goto (off := (-38)) (tgt := 4) C (by decide +kernel) (by decide) (fun _ _ _ _ _ _ h => h)
set_option maxRecDepth 20000 in
theorem b_X12_leaderNow_45 {Z : Zt} {d : Nat} {p : Program} {e : Env} {R : Room} {s : State} {m : MethodId} {args : Array Value} {below : List Frame} {meth : Method} {c : Code} {Rp : RT} (C : Cx Z d jX12_leaderNow RX12 p R s m args meth c) : Sd Z jX12_leaderNow p e R s m args below meth c (MQ below (QcS Z Rp) args s 0 0 (fun a => Z.2.2.1 < a)) 45 (w_X12_leaderNow_45 (MS Z d) (Gw Z 3 p e R s m args below meth c (MQ below (QcS Z Rp) args s 0 0 (fun a => Z.2.2.1 < a))) Rp) := by
  unfold w_X12_leaderNow_45
  refine s_iload_n (k := 1) C (by decide +kernel) ?_
  exact s_iret C rfl (by decide +kernel)
theorem ms_X12_leaderNow {Z : Zt} {d : Nat} {S : Sh} {μ : Mi} {ρ : Mr} {Rp : RT} (a0 : Nat) (h : ∀ G : Nat → PT, (∀ (L st : List Value) (S : Sh) (q : Nat × Nat) (μ : Mi) (ρ : Mr), w_X12_leaderNow_4 (MS Z d) G Rp L st S q μ ρ → G 4 L st S q μ ρ) → (∀ (L st : List Value) (S : Sh) (q : Nat × Nat) (μ : Mi) (ρ : Mr), w_X12_leaderNow_37 (MS Z d) G Rp L st S q μ ρ → G 37 L st S q μ ρ) → (∀ (L st : List Value) (S : Sh) (q : Nat × Nat) (μ : Mi) (ρ : Mr), w_X12_leaderNow_39 (MS Z d) G Rp L st S q μ ρ → G 39 L st S q μ ρ) → (∀ (L st : List Value) (S : Sh) (q : Nat × Nat) (μ : Mi) (ρ : Mr), w_X12_leaderNow_45 (MS Z d) G Rp L st S q μ ρ → G 45 L st S q μ ρ) → w_X12_leaderNow_0 (MS Z d) G Rp [.ref a0, .null, .null] [] S (0, 0) μ ρ) : MS Z (d + 1) jX12_leaderNow [.ref a0] S μ ρ Rp :=
  MS_of [.ref a0, .null, .null] (by decide +kernel) rfl rfl (Nat.le_of_ble_eq_true rfl) rfl (fun p e R s m args below meth c C => b_X12_leaderNow_0 C _ _ _ _ _ _ (h _ (b_X12_leaderNow_4 C) (b_X12_leaderNow_37 C) (b_X12_leaderNow_39 C) (b_X12_leaderNow_45 C)))
def w_X12_leader_0 (M : CT) (G : Nat → PT) (Rp : RT) : PT := tAload 0 <| tConst 0 <| tPutI 12 27 0 <| tAload 0 <| tCallV M jX12_leaderNow 12 27 0 <| tIret Rp
set_option maxRecDepth 20000 in
theorem b_X12_leader_0 {Z : Zt} {d : Nat} {p : Program} {e : Env} {R : Room} {s : State} {m : MethodId} {args : Array Value} {below : List Frame} {meth : Method} {c : Code} {Rp : RT} (C : Cx Z d jX12_leader RX12 p R s m args meth c) : Sd Z jX12_leader p e R s m args below meth c (MQ below (QcS Z Rp) args s 0 0 (fun a => Z.2.2.1 < a)) 0 (w_X12_leader_0 (MS Z d) (Gw Z 1 p e R s m args below meth c (MQ below (QcS Z Rp) args s 0 0 (fun a => Z.2.2.1 < a))) Rp) := by
  unfold w_X12_leader_0
  refine s_aload_n (k := 0) C (by decide +kernel) ?_
  refine s_iconst (n := 0) C (by decide +kernel) (by decide) ?_
  refine s_putI C w_6_87 (by decide +kernel) rfl (Or.inl rfl) ?_
  refine s_aload_n (k := 0) C (by decide +kernel) ?_
  refine s_callV C rfl rfl (by decide +kernel) rfl w_8_185 w_8_187 w_p8_3 w_1_13 w_8_188 (by decide +kernel) ?_
  exact s_iret C rfl (by decide +kernel)
theorem ms_X12_leader {Z : Zt} {d : Nat} {S : Sh} {μ : Mi} {ρ : Mr} {Rp : RT} (a0 : Nat) (h : ∀ G : Nat → PT, w_X12_leader_0 (MS Z d) G Rp [.ref a0] [] S (0, 0) μ ρ) : MS Z (d + 1) jX12_leader [.ref a0] S μ ρ Rp :=
  MS_of [.ref a0] (by decide +kernel) rfl rfl (Nat.le_of_ble_eq_true rfl) rfl (fun p e R s m args below meth c C => b_X12_leader_0 C _ _ _ _ _ _ (h _ ))
def w_X12_opensPaper_0 (M : CT) (G : Nat → PT) (Rp : RT) : PT := tAload 0 <| tGetR 12 27 1 <| tConst 0 <| tAload 0 <| tGetR 12 27 3 <| tConst 0 <| tConst 4516 <| tCallS M jX12_copies 5 <| tVret Rp
set_option maxRecDepth 20000 in
theorem b_X12_opensPaper_0 {Z : Zt} {d : Nat} {p : Program} {e : Env} {R : Room} {s : State} {m : MethodId} {args : Array Value} {below : List Frame} {meth : Method} {c : Code} {Rp : RT} (C : Cx Z d jX12_opensPaper RX12 p R s m args meth c) : Sd Z jX12_opensPaper p e R s m args below meth c (MQ below (QcS Z Rp) args s 0 0 (fun a => Z.2.2.1 < a)) 0 (w_X12_opensPaper_0 (MS Z d) (Gw Z 1 p e R s m args below meth c (MQ below (QcS Z Rp) args s 0 0 (fun a => Z.2.2.1 < a))) Rp) := by
  unfold w_X12_opensPaper_0
  refine s_aload_n (k := 0) C (by decide +kernel) ?_
  refine s_getR C w_6_88 (by decide +kernel) rfl ?_
  refine s_iconst (n := 0) C (by decide +kernel) (by decide) ?_
  refine s_aload_n (k := 0) C (by decide +kernel) ?_
  refine s_getR C w_6_90 (by decide +kernel) rfl ?_
  refine s_iconst (n := 0) C (by decide +kernel) (by decide) ?_
  refine s_sipush (n := 4516) C (by decide +kernel) (by decide) ?_
  refine s_callS C (by decide +kernel) rfl w_6_182 w_6_183 w_1_13 w_6_184 (by decide +kernel) ?_
  exact s_vret C rfl (by decide +kernel)
theorem ms_X12_opensPaper {Z : Zt} {d : Nat} {S : Sh} {μ : Mi} {ρ : Mr} {Rp : RT} (a0 : Nat) (h : ∀ G : Nat → PT, w_X12_opensPaper_0 (MS Z d) G Rp [.ref a0] [] S (0, 0) μ ρ) : MS Z (d + 1) jX12_opensPaper [.ref a0] S μ ρ Rp :=
  MS_of [.ref a0] (by decide +kernel) rfl rfl (Nat.le_of_ble_eq_true rfl) rfl (fun p e R s m args below meth c C => b_X12_opensPaper_0 C _ _ _ _ _ _ (h _ ))
def w_X12_closesPaper_0 (M : CT) (G : Nat → PT) (Rp : RT) : PT := tAload 0 <| tGetR 12 27 3 <| tConst 0 <| tAload 0 <| tGetR 12 27 1 <| tConst 0 <| tConst 4516 <| tCallS M jX12_copies 5 <| tVret Rp
set_option maxRecDepth 20000 in
theorem b_X12_closesPaper_0 {Z : Zt} {d : Nat} {p : Program} {e : Env} {R : Room} {s : State} {m : MethodId} {args : Array Value} {below : List Frame} {meth : Method} {c : Code} {Rp : RT} (C : Cx Z d jX12_closesPaper RX12 p R s m args meth c) : Sd Z jX12_closesPaper p e R s m args below meth c (MQ below (QcS Z Rp) args s 0 0 (fun a => Z.2.2.1 < a)) 0 (w_X12_closesPaper_0 (MS Z d) (Gw Z 1 p e R s m args below meth c (MQ below (QcS Z Rp) args s 0 0 (fun a => Z.2.2.1 < a))) Rp) := by
  unfold w_X12_closesPaper_0
  refine s_aload_n (k := 0) C (by decide +kernel) ?_
  refine s_getR C w_6_90 (by decide +kernel) rfl ?_
  refine s_iconst (n := 0) C (by decide +kernel) (by decide) ?_
  refine s_aload_n (k := 0) C (by decide +kernel) ?_
  refine s_getR C w_6_88 (by decide +kernel) rfl ?_
  refine s_iconst (n := 0) C (by decide +kernel) (by decide) ?_
  refine s_sipush (n := 4516) C (by decide +kernel) (by decide) ?_
  refine s_callS C (by decide +kernel) rfl w_6_182 w_6_183 w_1_13 w_6_184 (by decide +kernel) ?_
  exact s_vret C rfl (by decide +kernel)
theorem ms_X12_closesPaper {Z : Zt} {d : Nat} {S : Sh} {μ : Mi} {ρ : Mr} {Rp : RT} (a0 : Nat) (h : ∀ G : Nat → PT, w_X12_closesPaper_0 (MS Z d) G Rp [.ref a0] [] S (0, 0) μ ρ) : MS Z (d + 1) jX12_closesPaper [.ref a0] S μ ρ Rp :=
  MS_of [.ref a0] (by decide +kernel) rfl rfl (Nat.le_of_ble_eq_true rfl) rfl (fun p e R s m args below meth c C => b_X12_closesPaper_0 C _ _ _ _ _ _ (h _ ))
def w_X12_winsOnPaper_0 (M : CT) (G : Nat → PT) (Rp : RT) : PT := tAload 0 <| tConst 300 <| tCallV M jX12_settles 12 27 1 <| tIstore 2 <| tAload 0 <| tIload 1 <| tCallV M jX12_whyNot 12 27 1 <| tIf (fun x => x = 0) (G 18) <| tConst (-1) <| tIret Rp
def w_X12_winsOnPaper_18 (M : CT) (G : Nat → PT) (Rp : RT) : PT := tAload 0 <| tIload 1 <| tCallV M jX12_asks 12 27 1 <| tAload 0 <| tConst 300 <| tCallV M jX12_settles 12 27 1 <| tIstore 2 <| tAload 0 <| tIload 1 <| tCallV M jX12_isLeader 12 27 1 <| tIf (fun x => x = 0) (G 43) <| tConst 1 <| tGoto (G 44)
def w_X12_winsOnPaper_43 (M : CT) (G : Nat → PT) (Rp : RT) : PT := tConst 0 <| G 44
def w_X12_winsOnPaper_44 (M : CT) (G : Nat → PT) (Rp : RT) : PT := tIret Rp
set_option maxRecDepth 20000 in
theorem b_X12_winsOnPaper_0 {Z : Zt} {d : Nat} {p : Program} {e : Env} {R : Room} {s : State} {m : MethodId} {args : Array Value} {below : List Frame} {meth : Method} {c : Code} {Rp : RT} (C : Cx Z d jX12_winsOnPaper RX12 p R s m args meth c) : Sd Z jX12_winsOnPaper p e R s m args below meth c (MQ below (QcS Z Rp) args s 0 0 (fun a => Z.2.2.1 < a)) 0 (w_X12_winsOnPaper_0 (MS Z d) (Gw Z 3 p e R s m args below meth c (MQ below (QcS Z Rp) args s 0 0 (fun a => Z.2.2.1 < a))) Rp) := by
  unfold w_X12_winsOnPaper_0
  refine s_aload_n (k := 0) C (by decide +kernel) ?_
  refine s_sipush (n := 300) C (by decide +kernel) (by decide) ?_
  refine s_callV C rfl rfl (by decide +kernel) rfl w_8_21 w_8_23 w_p7_0 w_1_13 w_8_24 (by decide +kernel) ?_
  refine s_istore_n (k := 2) C (by decide +kernel) ?_
  refine s_aload_n (k := 0) C (by decide +kernel) ?_
  refine s_iload_n (k := 1) C (by decide +kernel) ?_
  refine s_callV C rfl rfl (by decide +kernel) rfl w_6_212 w_6_214 w_p3_9 w_1_13 w_6_215 (by decide +kernel) ?_
  refine s_if_eq (off := 5) (tgt := 18) C (by decide +kernel) (by decide) (fun _ _ _ _ _ _ h => h) ?_
  refine s_iconst (n := (-1)) C (by decide +kernel) (by decide) ?_
  exact s_iret C rfl (by decide +kernel)
set_option maxRecDepth 20000 in
theorem b_X12_winsOnPaper_18 {Z : Zt} {d : Nat} {p : Program} {e : Env} {R : Room} {s : State} {m : MethodId} {args : Array Value} {below : List Frame} {meth : Method} {c : Code} {Rp : RT} (C : Cx Z d jX12_winsOnPaper RX12 p R s m args meth c) : Sd Z jX12_winsOnPaper p e R s m args below meth c (MQ below (QcS Z Rp) args s 0 0 (fun a => Z.2.2.1 < a)) 18 (w_X12_winsOnPaper_18 (MS Z d) (Gw Z 3 p e R s m args below meth c (MQ below (QcS Z Rp) args s 0 0 (fun a => Z.2.2.1 < a))) Rp) := by
  unfold w_X12_winsOnPaper_18
  refine s_aload_n (k := 0) C (by decide +kernel) ?_
  refine s_iload_n (k := 1) C (by decide +kernel) ?_
  refine s_callV C rfl rfl (by decide +kernel) rfl w_7_3 w_7_5 w_p4_0 w_1_13 w_7_6 (by decide +kernel) ?_
  refine s_aload_n (k := 0) C (by decide +kernel) ?_
  refine s_sipush (n := 300) C (by decide +kernel) (by decide) ?_
  refine s_callV C rfl rfl (by decide +kernel) rfl w_8_21 w_8_23 w_p7_0 w_1_13 w_8_24 (by decide +kernel) ?_
  refine s_istore_n (k := 2) C (by decide +kernel) ?_
  refine s_aload_n (k := 0) C (by decide +kernel) ?_
  refine s_iload_n (k := 1) C (by decide +kernel) ?_
  refine s_callV C rfl rfl (by decide +kernel) rfl w_6_236 w_6_238 w_p3_15 w_1_13 w_6_239 (by decide +kernel) ?_
  refine s_if_eq (off := 7) (tgt := 43) C (by decide +kernel) (by decide) (fun _ _ _ _ _ _ h => h) ?_
  refine s_iconst (n := 1) C (by decide +kernel) (by decide) ?_
  exact s_goto (off := 4) (tgt := 44) C (by decide +kernel) (by decide) (fun _ _ _ _ _ _ h => h)
set_option maxRecDepth 20000 in
theorem b_X12_winsOnPaper_43 {Z : Zt} {d : Nat} {p : Program} {e : Env} {R : Room} {s : State} {m : MethodId} {args : Array Value} {below : List Frame} {meth : Method} {c : Code} {Rp : RT} (C : Cx Z d jX12_winsOnPaper RX12 p R s m args meth c) : Sd Z jX12_winsOnPaper p e R s m args below meth c (MQ below (QcS Z Rp) args s 0 0 (fun a => Z.2.2.1 < a)) 43 (w_X12_winsOnPaper_43 (MS Z d) (Gw Z 3 p e R s m args below meth c (MQ below (QcS Z Rp) args s 0 0 (fun a => Z.2.2.1 < a))) Rp) := by
  unfold w_X12_winsOnPaper_43
  refine s_iconst (n := 0) C (by decide +kernel) (by decide) ?_
  exact (fun _ _ _ _ _ _ h => h)
set_option maxRecDepth 20000 in
theorem b_X12_winsOnPaper_44 {Z : Zt} {d : Nat} {p : Program} {e : Env} {R : Room} {s : State} {m : MethodId} {args : Array Value} {below : List Frame} {meth : Method} {c : Code} {Rp : RT} (C : Cx Z d jX12_winsOnPaper RX12 p R s m args meth c) : Sd Z jX12_winsOnPaper p e R s m args below meth c (MQ below (QcS Z Rp) args s 0 0 (fun a => Z.2.2.1 < a)) 44 (w_X12_winsOnPaper_44 (MS Z d) (Gw Z 3 p e R s m args below meth c (MQ below (QcS Z Rp) args s 0 0 (fun a => Z.2.2.1 < a))) Rp) := by
  unfold w_X12_winsOnPaper_44
  exact s_iret C rfl (by decide +kernel)
theorem ms_X12_winsOnPaper {Z : Zt} {d : Nat} {S : Sh} {μ : Mi} {ρ : Mr} {Rp : RT} (a0 : Nat) (x1 : Int32) (h : ∀ G : Nat → PT, (∀ (L st : List Value) (S : Sh) (q : Nat × Nat) (μ : Mi) (ρ : Mr), w_X12_winsOnPaper_18 (MS Z d) G Rp L st S q μ ρ → G 18 L st S q μ ρ) → (∀ (L st : List Value) (S : Sh) (q : Nat × Nat) (μ : Mi) (ρ : Mr), w_X12_winsOnPaper_43 (MS Z d) G Rp L st S q μ ρ → G 43 L st S q μ ρ) → (∀ (L st : List Value) (S : Sh) (q : Nat × Nat) (μ : Mi) (ρ : Mr), w_X12_winsOnPaper_44 (MS Z d) G Rp L st S q μ ρ → G 44 L st S q μ ρ) → w_X12_winsOnPaper_0 (MS Z d) G Rp [.ref a0, .int x1, .null] [] S (0, 0) μ ρ) : MS Z (d + 1) jX12_winsOnPaper [.ref a0, .int x1] S μ ρ Rp :=
  MS_of [.ref a0, .int x1, .null] (by decide +kernel) rfl rfl (Nat.le_of_ble_eq_true rfl) rfl (fun p e R s m args below meth c C => b_X12_winsOnPaper_0 C _ _ _ _ _ _ (h _ (b_X12_winsOnPaper_18 C) (b_X12_winsOnPaper_43 C) (b_X12_winsOnPaper_44 C)))
def w_X12_wins_0 (M : CT) (G : Nat → PT) (Rp : RT) : PT := tAload 0 <| tConst 0 <| tPutI 12 27 0 <| tIload 1 <| tCallS M jX12_isStore 1 <| tIf (fun x => x ≠ 0) (G 15) <| tConst (-2) <| tIret Rp
def w_X12_wins_15 (M : CT) (G : Nat → PT) (Rp : RT) : PT := tAload 0 <| tCallV M jX12_opensPaper 12 27 0 <| tAload 0 <| tIload 1 <| tCallV M jX12_winsOnPaper 12 27 1 <| tIstore 2 <| tAload 0 <| tCallV M jX12_closesPaper 12 27 0 <| tIload 2 <| tIret Rp
set_option maxRecDepth 20000 in
theorem b_X12_wins_0 {Z : Zt} {d : Nat} {p : Program} {e : Env} {R : Room} {s : State} {m : MethodId} {args : Array Value} {below : List Frame} {meth : Method} {c : Code} {Rp : RT} (C : Cx Z d jX12_wins RX12 p R s m args meth c) : Sd Z jX12_wins p e R s m args below meth c (MQ below (QcS Z Rp) args s 0 0 (fun a => Z.2.2.1 < a)) 0 (w_X12_wins_0 (MS Z d) (Gw Z 3 p e R s m args below meth c (MQ below (QcS Z Rp) args s 0 0 (fun a => Z.2.2.1 < a))) Rp) := by
  unfold w_X12_wins_0
  refine s_aload_n (k := 0) C (by decide +kernel) ?_
  refine s_iconst (n := 0) C (by decide +kernel) (by decide) ?_
  refine s_putI C w_6_87 (by decide +kernel) rfl (Or.inl rfl) ?_
  refine s_iload_n (k := 1) C (by decide +kernel) ?_
  refine s_callS C (by decide +kernel) rfl w_6_208 w_6_209 w_1_13 w_6_210 (by decide +kernel) ?_
  refine s_if_ne (off := 6) (tgt := 15) C (by decide +kernel) (by decide) (fun _ _ _ _ _ _ h => h) ?_
  refine s_bipush (n := (-2)) C (by decide +kernel) (by decide) ?_
  exact s_iret C rfl (by decide +kernel)
set_option maxRecDepth 20000 in
theorem b_X12_wins_15 {Z : Zt} {d : Nat} {p : Program} {e : Env} {R : Room} {s : State} {m : MethodId} {args : Array Value} {below : List Frame} {meth : Method} {c : Code} {Rp : RT} (C : Cx Z d jX12_wins RX12 p R s m args meth c) : Sd Z jX12_wins p e R s m args below meth c (MQ below (QcS Z Rp) args s 0 0 (fun a => Z.2.2.1 < a)) 15 (w_X12_wins_15 (MS Z d) (Gw Z 3 p e R s m args below meth c (MQ below (QcS Z Rp) args s 0 0 (fun a => Z.2.2.1 < a))) Rp) := by
  unfold w_X12_wins_15
  refine s_aload_n (k := 0) C (by decide +kernel) ?_
  refine s_callV C rfl rfl (by decide +kernel) rfl w_8_193 w_8_195 w_p8_4 w_1_13 w_8_196 (by decide +kernel) ?_
  refine s_aload_n (k := 0) C (by decide +kernel) ?_
  refine s_iload_n (k := 1) C (by decide +kernel) ?_
  refine s_callV C rfl rfl (by decide +kernel) rfl w_8_197 w_8_199 w_p8_5 w_1_13 w_8_200 (by decide +kernel) ?_
  refine s_istore_n (k := 2) C (by decide +kernel) ?_
  refine s_aload_n (k := 0) C (by decide +kernel) ?_
  refine s_callV C rfl rfl (by decide +kernel) rfl w_8_201 w_8_203 w_p8_6 w_1_13 w_8_204 (by decide +kernel) ?_
  refine s_iload_n (k := 2) C (by decide +kernel) ?_
  exact s_iret C rfl (by decide +kernel)
theorem ms_X12_wins {Z : Zt} {d : Nat} {S : Sh} {μ : Mi} {ρ : Mr} {Rp : RT} (a0 : Nat) (x1 : Int32) (h : ∀ G : Nat → PT, (∀ (L st : List Value) (S : Sh) (q : Nat × Nat) (μ : Mi) (ρ : Mr), w_X12_wins_15 (MS Z d) G Rp L st S q μ ρ → G 15 L st S q μ ρ) → w_X12_wins_0 (MS Z d) G Rp [.ref a0, .int x1, .null] [] S (0, 0) μ ρ) : MS Z (d + 1) jX12_wins [.ref a0, .int x1] S μ ρ Rp :=
  MS_of [.ref a0, .int x1, .null] (by decide +kernel) rfl rfl (Nat.le_of_ble_eq_true rfl) rfl (fun p e R s m args below meth c C => b_X12_wins_0 C _ _ _ _ _ _ (h _ (b_X12_wins_15 C)))
def w_X12_then_0 (M : CT) (G : Nat → PT) (Rp : RT) : PT := tAload 0 <| tConst 0 <| tPutI 12 27 0 <| tIload 1 <| tCallS M jX12_isStore 1 <| tIf (fun x => x = 0) (G 24) <| tIload 2 <| tI2l <| tLconst 0 <| tLconst 16 <| tCallS M jX12_within 3 <| tIf (fun x => x ≠ 0) (G 27) <| G 24
def w_X12_then_24 (M : CT) (G : Nat → PT) (Rp : RT) : PT := tConst (-2) <| tIret Rp
def w_X12_then_27 (M : CT) (G : Nat → PT) (Rp : RT) : PT := tAload 0 <| tCallV M jX12_opensPaper 12 27 0 <| tAload 0 <| tConst 300 <| tCallV M jX12_settles 12 27 1 <| tIstore 3 <| tAload 0 <| tIload 1 <| tIload 2 <| tCallV M jX12_told 12 27 2 <| tIstore 4 <| tAload 0 <| tCallV M jX12_closesPaper 12 27 0 <| tIload 4 <| tIret Rp
set_option maxRecDepth 20000 in
theorem b_X12_then_0 {Z : Zt} {d : Nat} {p : Program} {e : Env} {R : Room} {s : State} {m : MethodId} {args : Array Value} {below : List Frame} {meth : Method} {c : Code} {Rp : RT} (C : Cx Z d jX12_then RX12 p R s m args meth c) : Sd Z jX12_then p e R s m args below meth c (MQ below (QcS Z Rp) args s 0 0 (fun a => Z.2.2.1 < a)) 0 (w_X12_then_0 (MS Z d) (Gw Z 5 p e R s m args below meth c (MQ below (QcS Z Rp) args s 0 0 (fun a => Z.2.2.1 < a))) Rp) := by
  unfold w_X12_then_0
  refine s_aload_n (k := 0) C (by decide +kernel) ?_
  refine s_iconst (n := 0) C (by decide +kernel) (by decide) ?_
  refine s_putI C w_6_87 (by decide +kernel) rfl (Or.inl rfl) ?_
  refine s_iload_n (k := 1) C (by decide +kernel) ?_
  refine s_callS C (by decide +kernel) rfl w_6_208 w_6_209 w_1_13 w_6_210 (by decide +kernel) ?_
  refine s_if_eq (off := 15) (tgt := 24) C (by decide +kernel) (by decide) (fun _ _ _ _ _ _ h => h) ?_
  refine s_iload_n (k := 2) C (by decide +kernel) ?_
  refine s_i2l C (by decide +kernel) ?_
  refine s_lconst (n := 0) C (by decide +kernel) (by decide) ?_
  refine s_ldc2 C w_8_97 (by decide +kernel) ?_
  refine s_callS C (by decide +kernel) rfl w_6_175 w_6_176 w_1_13 w_6_177 (by decide +kernel) ?_
  refine s_if_ne (off := 6) (tgt := 27) C (by decide +kernel) (by decide) (fun _ _ _ _ _ _ h => h) ?_
  exact (fun _ _ _ _ _ _ h => h)
set_option maxRecDepth 20000 in
theorem b_X12_then_24 {Z : Zt} {d : Nat} {p : Program} {e : Env} {R : Room} {s : State} {m : MethodId} {args : Array Value} {below : List Frame} {meth : Method} {c : Code} {Rp : RT} (C : Cx Z d jX12_then RX12 p R s m args meth c) : Sd Z jX12_then p e R s m args below meth c (MQ below (QcS Z Rp) args s 0 0 (fun a => Z.2.2.1 < a)) 24 (w_X12_then_24 (MS Z d) (Gw Z 5 p e R s m args below meth c (MQ below (QcS Z Rp) args s 0 0 (fun a => Z.2.2.1 < a))) Rp) := by
  unfold w_X12_then_24
  refine s_bipush (n := (-2)) C (by decide +kernel) (by decide) ?_
  exact s_iret C rfl (by decide +kernel)
set_option maxRecDepth 20000 in
theorem b_X12_then_27 {Z : Zt} {d : Nat} {p : Program} {e : Env} {R : Room} {s : State} {m : MethodId} {args : Array Value} {below : List Frame} {meth : Method} {c : Code} {Rp : RT} (C : Cx Z d jX12_then RX12 p R s m args meth c) : Sd Z jX12_then p e R s m args below meth c (MQ below (QcS Z Rp) args s 0 0 (fun a => Z.2.2.1 < a)) 27 (w_X12_then_27 (MS Z d) (Gw Z 5 p e R s m args below meth c (MQ below (QcS Z Rp) args s 0 0 (fun a => Z.2.2.1 < a))) Rp) := by
  unfold w_X12_then_27
  refine s_aload_n (k := 0) C (by decide +kernel) ?_
  refine s_callV C rfl rfl (by decide +kernel) rfl w_8_193 w_8_195 w_p8_4 w_1_13 w_8_196 (by decide +kernel) ?_
  refine s_aload_n (k := 0) C (by decide +kernel) ?_
  refine s_sipush (n := 300) C (by decide +kernel) (by decide) ?_
  refine s_callV C rfl rfl (by decide +kernel) rfl w_8_21 w_8_23 w_p7_0 w_1_13 w_8_24 (by decide +kernel) ?_
  refine s_istore_n (k := 3) C (by decide +kernel) ?_
  refine s_aload_n (k := 0) C (by decide +kernel) ?_
  refine s_iload_n (k := 1) C (by decide +kernel) ?_
  refine s_iload_n (k := 2) C (by decide +kernel) ?_
  refine s_callV C rfl rfl (by decide +kernel) rfl w_8_98 w_8_100 w_p7_12 w_1_13 w_8_101 (by decide +kernel) ?_
  refine s_istore (k := 4) C (by decide +kernel) ?_
  refine s_aload_n (k := 0) C (by decide +kernel) ?_
  refine s_callV C rfl rfl (by decide +kernel) rfl w_8_201 w_8_203 w_p8_6 w_1_13 w_8_204 (by decide +kernel) ?_
  refine s_iload (k := 4) C (by decide +kernel) ?_
  exact s_iret C rfl (by decide +kernel)
theorem ms_X12_then {Z : Zt} {d : Nat} {S : Sh} {μ : Mi} {ρ : Mr} {Rp : RT} (a0 : Nat) (x1 : Int32) (x2 : Int32) (h : ∀ G : Nat → PT, (∀ (L st : List Value) (S : Sh) (q : Nat × Nat) (μ : Mi) (ρ : Mr), w_X12_then_24 (MS Z d) G Rp L st S q μ ρ → G 24 L st S q μ ρ) → (∀ (L st : List Value) (S : Sh) (q : Nat × Nat) (μ : Mi) (ρ : Mr), w_X12_then_27 (MS Z d) G Rp L st S q μ ρ → G 27 L st S q μ ρ) → w_X12_then_0 (MS Z d) G Rp [.ref a0, .int x1, .int x2, .null, .null] [] S (0, 0) μ ρ) : MS Z (d + 1) jX12_then [.ref a0, .int x1, .int x2] S μ ρ Rp :=
  MS_of [.ref a0, .int x1, .int x2, .null, .null] (by decide +kernel) rfl rfl (Nat.le_of_ble_eq_true rfl) rfl (fun p e R s m args below meth c C => b_X12_then_0 C _ _ _ _ _ _ (h _ (b_X12_then_24 C) (b_X12_then_27 C)))
def w_X12_storm_0 (M : CT) (G : Nat → PT) (Rp : RT) : PT := tAload 0 <| tConst 0 <| tPutI 12 27 0 <| tIload 1 <| tI2l <| tLconst 0 <| tLconst 1 <| tCallS M jX12_within 3 <| tIf (fun x => x ≠ 0) (G 18) <| tConst (-2) <| tIret Rp
def w_X12_storm_18 (M : CT) (G : Nat → PT) (Rp : RT) : PT := tAload 0 <| tCallV M jX12_opensPaper 12 27 0 <| tAload 0 <| tGetR 12 27 1 <| tConst 4511 <| tAld 20 <| tIstore 2 <| tAload 0 <| tConst 300 <| tCallV M jX12_settles 12 27 1 <| tIstore 3 <| tAload 0 <| tGetR 12 27 1 <| tConst 4511 <| tAld 20 <| tIload 2 <| tBin (fun x y => x - y) <| tIstore 2 <| tAload 0 <| tCallV M jX12_closesPaper 12 27 0 <| tIload 1 <| tIf (fun x => x ≠ 0) (G 62) <| tIload 3 <| tGoto (G 63)
def w_X12_storm_62 (M : CT) (G : Nat → PT) (Rp : RT) : PT := tIload 2 <| G 63
def w_X12_storm_63 (M : CT) (G : Nat → PT) (Rp : RT) : PT := tIret Rp
set_option maxRecDepth 20000 in
theorem b_X12_storm_0 {Z : Zt} {d : Nat} {p : Program} {e : Env} {R : Room} {s : State} {m : MethodId} {args : Array Value} {below : List Frame} {meth : Method} {c : Code} {Rp : RT} (C : Cx Z d jX12_storm RX12 p R s m args meth c) : Sd Z jX12_storm p e R s m args below meth c (MQ below (QcS Z Rp) args s 0 0 (fun a => Z.2.2.1 < a)) 0 (w_X12_storm_0 (MS Z d) (Gw Z 4 p e R s m args below meth c (MQ below (QcS Z Rp) args s 0 0 (fun a => Z.2.2.1 < a))) Rp) := by
  unfold w_X12_storm_0
  refine s_aload_n (k := 0) C (by decide +kernel) ?_
  refine s_iconst (n := 0) C (by decide +kernel) (by decide) ?_
  refine s_putI C w_6_87 (by decide +kernel) rfl (Or.inl rfl) ?_
  refine s_iload_n (k := 1) C (by decide +kernel) ?_
  refine s_i2l C (by decide +kernel) ?_
  refine s_lconst (n := 0) C (by decide +kernel) (by decide) ?_
  refine s_lconst (n := 1) C (by decide +kernel) (by decide) ?_
  refine s_callS C (by decide +kernel) rfl w_6_175 w_6_176 w_1_13 w_6_177 (by decide +kernel) ?_
  refine s_if_ne (off := 6) (tgt := 18) C (by decide +kernel) (by decide) (fun _ _ _ _ _ _ h => h) ?_
  refine s_bipush (n := (-2)) C (by decide +kernel) (by decide) ?_
  exact s_iret C rfl (by decide +kernel)
set_option maxRecDepth 20000 in
theorem b_X12_storm_18 {Z : Zt} {d : Nat} {p : Program} {e : Env} {R : Room} {s : State} {m : MethodId} {args : Array Value} {below : List Frame} {meth : Method} {c : Code} {Rp : RT} (C : Cx Z d jX12_storm RX12 p R s m args meth c) : Sd Z jX12_storm p e R s m args below meth c (MQ below (QcS Z Rp) args s 0 0 (fun a => Z.2.2.1 < a)) 18 (w_X12_storm_18 (MS Z d) (Gw Z 4 p e R s m args below meth c (MQ below (QcS Z Rp) args s 0 0 (fun a => Z.2.2.1 < a))) Rp) := by
  unfold w_X12_storm_18
  refine s_aload_n (k := 0) C (by decide +kernel) ?_
  refine s_callV C rfl rfl (by decide +kernel) rfl w_8_193 w_8_195 w_p8_4 w_1_13 w_8_196 (by decide +kernel) ?_
  refine s_aload_n (k := 0) C (by decide +kernel) ?_
  refine s_getR C w_6_88 (by decide +kernel) rfl ?_
  refine s_sipush (n := 4511) C (by decide +kernel) (by decide) ?_
  refine s_iald C (by decide +kernel) ?_
  refine s_istore_n (k := 2) C (by decide +kernel) ?_
  refine s_aload_n (k := 0) C (by decide +kernel) ?_
  refine s_sipush (n := 300) C (by decide +kernel) (by decide) ?_
  refine s_callV C rfl rfl (by decide +kernel) rfl w_8_21 w_8_23 w_p7_0 w_1_13 w_8_24 (by decide +kernel) ?_
  refine s_istore_n (k := 3) C (by decide +kernel) ?_
  refine s_aload_n (k := 0) C (by decide +kernel) ?_
  refine s_getR C w_6_88 (by decide +kernel) rfl ?_
  refine s_sipush (n := 4511) C (by decide +kernel) (by decide) ?_
  refine s_iald C (by decide +kernel) ?_
  refine s_iload_n (k := 2) C (by decide +kernel) ?_
  refine s_isub C (by decide +kernel) ?_
  refine s_istore_n (k := 2) C (by decide +kernel) ?_
  refine s_aload_n (k := 0) C (by decide +kernel) ?_
  refine s_callV C rfl rfl (by decide +kernel) rfl w_8_201 w_8_203 w_p8_6 w_1_13 w_8_204 (by decide +kernel) ?_
  refine s_iload_n (k := 1) C (by decide +kernel) ?_
  refine s_if_ne (off := 7) (tgt := 62) C (by decide +kernel) (by decide) (fun _ _ _ _ _ _ h => h) ?_
  refine s_iload_n (k := 3) C (by decide +kernel) ?_
  exact s_goto (off := 4) (tgt := 63) C (by decide +kernel) (by decide) (fun _ _ _ _ _ _ h => h)
set_option maxRecDepth 20000 in
theorem b_X12_storm_62 {Z : Zt} {d : Nat} {p : Program} {e : Env} {R : Room} {s : State} {m : MethodId} {args : Array Value} {below : List Frame} {meth : Method} {c : Code} {Rp : RT} (C : Cx Z d jX12_storm RX12 p R s m args meth c) : Sd Z jX12_storm p e R s m args below meth c (MQ below (QcS Z Rp) args s 0 0 (fun a => Z.2.2.1 < a)) 62 (w_X12_storm_62 (MS Z d) (Gw Z 4 p e R s m args below meth c (MQ below (QcS Z Rp) args s 0 0 (fun a => Z.2.2.1 < a))) Rp) := by
  unfold w_X12_storm_62
  refine s_iload_n (k := 2) C (by decide +kernel) ?_
  exact (fun _ _ _ _ _ _ h => h)
set_option maxRecDepth 20000 in
theorem b_X12_storm_63 {Z : Zt} {d : Nat} {p : Program} {e : Env} {R : Room} {s : State} {m : MethodId} {args : Array Value} {below : List Frame} {meth : Method} {c : Code} {Rp : RT} (C : Cx Z d jX12_storm RX12 p R s m args meth c) : Sd Z jX12_storm p e R s m args below meth c (MQ below (QcS Z Rp) args s 0 0 (fun a => Z.2.2.1 < a)) 63 (w_X12_storm_63 (MS Z d) (Gw Z 4 p e R s m args below meth c (MQ below (QcS Z Rp) args s 0 0 (fun a => Z.2.2.1 < a))) Rp) := by
  unfold w_X12_storm_63
  exact s_iret C rfl (by decide +kernel)
theorem ms_X12_storm {Z : Zt} {d : Nat} {S : Sh} {μ : Mi} {ρ : Mr} {Rp : RT} (a0 : Nat) (x1 : Int32) (h : ∀ G : Nat → PT, (∀ (L st : List Value) (S : Sh) (q : Nat × Nat) (μ : Mi) (ρ : Mr), w_X12_storm_18 (MS Z d) G Rp L st S q μ ρ → G 18 L st S q μ ρ) → (∀ (L st : List Value) (S : Sh) (q : Nat × Nat) (μ : Mi) (ρ : Mr), w_X12_storm_62 (MS Z d) G Rp L st S q μ ρ → G 62 L st S q μ ρ) → (∀ (L st : List Value) (S : Sh) (q : Nat × Nat) (μ : Mi) (ρ : Mr), w_X12_storm_63 (MS Z d) G Rp L st S q μ ρ → G 63 L st S q μ ρ) → w_X12_storm_0 (MS Z d) G Rp [.ref a0, .int x1, .null, .null] [] S (0, 0) μ ρ) : MS Z (d + 1) jX12_storm [.ref a0, .int x1] S μ ρ Rp :=
  MS_of [.ref a0, .int x1, .null, .null] (by decide +kernel) rfl rfl (Nat.le_of_ble_eq_true rfl) rfl (fun p e R s m args below meth c C => b_X12_storm_0 C _ _ _ _ _ _ (h _ (b_X12_storm_18 C) (b_X12_storm_62 C) (b_X12_storm_63 C)))
def w_X12_areAgreed_0 (M : CT) (G : Nat → PT) (Rp : RT) : PT := tAload 0 <| tIload 1 <| tCallV M jX12_laysMembers 12 27 1 <| tAload 0 <| tIload 1 <| tConst 7 <| tCallV M jX12_of 12 27 2 <| tAload 0 <| tIload 1 <| tConst 4 <| tCallV M jX12_of 12 27 2 <| tIf2 (fun x y => x ≠ y) (G 25) <| tConst 1 <| tGoto (G 26)
def w_X12_areAgreed_25 (M : CT) (G : Nat → PT) (Rp : RT) : PT := tConst 0 <| G 26
def w_X12_areAgreed_26 (M : CT) (G : Nat → PT) (Rp : RT) : PT := tIstore 2 <| tConst 0 <| tIstore 3 <| G 29
def w_X12_areAgreed_29 (M : CT) (G : Nat → PT) (Rp : RT) : PT := tIload 3 <| tConst 5 <| tIf2 (fun x y => y ≤ x) (G 105) <| tAload 0 <| tGetI 12 27 8 <| tAload 0 <| tGetI 12 27 9 <| tBin (fun x y => x ||| y) <| tIload 3 <| tCallS M jX12_has 2 <| tIf (fun x => x = 0) (G 99) <| tAload 0 <| tIload 3 <| tCallV M jX12_isUp 12 27 1 <| tIf (fun x => x = 0) (G 99) <| tIload 3 <| tIload 1 <| tIf2 (fun x y => x = y) (G 72) <| tAload 0 <| tIload 1 <| tIload 3 <| tCallV M jX12_isLinked 12 27 2 <| tIf (fun x => x = 0) (G 99) <| G 72
def w_X12_areAgreed_72 (M : CT) (G : Nat → PT) (Rp : RT) : PT := tIload 2 <| tIf (fun x => x = 0) (G 97) <| tAload 0 <| tIload 3 <| tConst 7 <| tCallV M jX12_of 12 27 2 <| tAload 0 <| tIload 1 <| tConst 7 <| tCallV M jX12_of 12 27 2 <| tIf2 (fun x y => x ≠ y) (G 97) <| tConst 1 <| tGoto (G 98)
def w_X12_areAgreed_97 (M : CT) (G : Nat → PT) (Rp : RT) : PT := tConst 0 <| G 98
def w_X12_areAgreed_98 (M : CT) (G : Nat → PT) (Rp : RT) : PT := tIstore 2 <| G 99
def w_X12_areAgreed_99 (M : CT) (G : Nat → PT) (Rp : RT) : PT := tIinc 3 1 <| tGoto (G 29)
def w_X12_areAgreed_105 (M : CT) (G : Nat → PT) (Rp : RT) : PT := tIload 2 <| tZret Rp
set_option maxRecDepth 20000 in
theorem b_X12_areAgreed_0 {Z : Zt} {d : Nat} {p : Program} {e : Env} {R : Room} {s : State} {m : MethodId} {args : Array Value} {below : List Frame} {meth : Method} {c : Code} {Rp : RT} (C : Cx Z d jX12_areAgreed RX12 p R s m args meth c) : Sd Z jX12_areAgreed p e R s m args below meth c (MQ below (QcS Z Rp) args s 0 0 (fun a => Z.2.2.1 < a)) 0 (w_X12_areAgreed_0 (MS Z d) (Gw Z 4 p e R s m args below meth c (MQ below (QcS Z Rp) args s 0 0 (fun a => Z.2.2.1 < a))) Rp) := by
  unfold w_X12_areAgreed_0
  refine s_aload_n (k := 0) C (by decide +kernel) ?_
  refine s_iload_n (k := 1) C (by decide +kernel) ?_
  refine s_callV C rfl rfl (by decide +kernel) rfl w_6_216 w_6_218 w_p3_10 w_1_13 w_6_219 (by decide +kernel) ?_
  refine s_aload_n (k := 0) C (by decide +kernel) ?_
  refine s_iload_n (k := 1) C (by decide +kernel) ?_
  refine s_bipush (n := 7) C (by decide +kernel) (by decide) ?_
  refine s_callV C rfl rfl (by decide +kernel) rfl w_6_220 w_6_222 w_p3_11 w_1_13 w_6_223 (by decide +kernel) ?_
  refine s_aload_n (k := 0) C (by decide +kernel) ?_
  refine s_iload_n (k := 1) C (by decide +kernel) ?_
  refine s_iconst (n := 4) C (by decide +kernel) (by decide) ?_
  refine s_callV C rfl rfl (by decide +kernel) rfl w_6_220 w_6_222 w_p3_11 w_1_13 w_6_223 (by decide +kernel) ?_
  refine s_icmp_ne (off := 7) (tgt := 25) C (by decide +kernel) (by decide) (fun _ _ _ _ _ _ h => h) ?_
  refine s_iconst (n := 1) C (by decide +kernel) (by decide) ?_
  exact s_goto (off := 4) (tgt := 26) C (by decide +kernel) (by decide) (fun _ _ _ _ _ _ h => h)
set_option maxRecDepth 20000 in
theorem b_X12_areAgreed_25 {Z : Zt} {d : Nat} {p : Program} {e : Env} {R : Room} {s : State} {m : MethodId} {args : Array Value} {below : List Frame} {meth : Method} {c : Code} {Rp : RT} (C : Cx Z d jX12_areAgreed RX12 p R s m args meth c) : Sd Z jX12_areAgreed p e R s m args below meth c (MQ below (QcS Z Rp) args s 0 0 (fun a => Z.2.2.1 < a)) 25 (w_X12_areAgreed_25 (MS Z d) (Gw Z 4 p e R s m args below meth c (MQ below (QcS Z Rp) args s 0 0 (fun a => Z.2.2.1 < a))) Rp) := by
  unfold w_X12_areAgreed_25
  refine s_iconst (n := 0) C (by decide +kernel) (by decide) ?_
  exact (fun _ _ _ _ _ _ h => h)
set_option maxRecDepth 20000 in
theorem b_X12_areAgreed_26 {Z : Zt} {d : Nat} {p : Program} {e : Env} {R : Room} {s : State} {m : MethodId} {args : Array Value} {below : List Frame} {meth : Method} {c : Code} {Rp : RT} (C : Cx Z d jX12_areAgreed RX12 p R s m args meth c) : Sd Z jX12_areAgreed p e R s m args below meth c (MQ below (QcS Z Rp) args s 0 0 (fun a => Z.2.2.1 < a)) 26 (w_X12_areAgreed_26 (MS Z d) (Gw Z 4 p e R s m args below meth c (MQ below (QcS Z Rp) args s 0 0 (fun a => Z.2.2.1 < a))) Rp) := by
  unfold w_X12_areAgreed_26
  refine s_istore_n (k := 2) C (by decide +kernel) ?_
  refine s_iconst (n := 0) C (by decide +kernel) (by decide) ?_
  refine s_istore_n (k := 3) C (by decide +kernel) ?_
  exact (fun _ _ _ _ _ _ h => h)
set_option maxRecDepth 20000 in
theorem b_X12_areAgreed_29 {Z : Zt} {d : Nat} {p : Program} {e : Env} {R : Room} {s : State} {m : MethodId} {args : Array Value} {below : List Frame} {meth : Method} {c : Code} {Rp : RT} (C : Cx Z d jX12_areAgreed RX12 p R s m args meth c) : Sd Z jX12_areAgreed p e R s m args below meth c (MQ below (QcS Z Rp) args s 0 0 (fun a => Z.2.2.1 < a)) 29 (w_X12_areAgreed_29 (MS Z d) (Gw Z 4 p e R s m args below meth c (MQ below (QcS Z Rp) args s 0 0 (fun a => Z.2.2.1 < a))) Rp) := by
  unfold w_X12_areAgreed_29
  refine s_iload_n (k := 3) C (by decide +kernel) ?_
  refine s_iconst (n := 5) C (by decide +kernel) (by decide) ?_
  refine s_icmp_ge (off := 74) (tgt := 105) C (by decide +kernel) (by decide) (fun _ _ _ _ _ _ h => h) ?_
  refine s_aload_n (k := 0) C (by decide +kernel) ?_
  refine s_getI C w_6_95 (by decide +kernel) rfl ?_
  refine s_aload_n (k := 0) C (by decide +kernel) ?_
  refine s_getI C w_6_96 (by decide +kernel) rfl ?_
  refine s_ior C (by decide +kernel) ?_
  refine s_iload_n (k := 3) C (by decide +kernel) ?_
  refine s_callS C (by decide +kernel) rfl w_7_0 w_7_1 w_1_13 w_7_2 (by decide +kernel) ?_
  refine s_if_eq (off := 52) (tgt := 99) C (by decide +kernel) (by decide) (fun _ _ _ _ _ _ h => h) ?_
  refine s_aload_n (k := 0) C (by decide +kernel) ?_
  refine s_iload_n (k := 3) C (by decide +kernel) ?_
  refine s_callV C rfl rfl (by decide +kernel) rfl w_6_232 w_6_234 w_p3_14 w_1_13 w_6_235 (by decide +kernel) ?_
  refine s_if_eq (off := 44) (tgt := 99) C (by decide +kernel) (by decide) (fun _ _ _ _ _ _ h => h) ?_
  refine s_iload_n (k := 3) C (by decide +kernel) ?_
  refine s_iload_n (k := 1) C (by decide +kernel) ?_
  refine s_icmp_eq (off := 12) (tgt := 72) C (by decide +kernel) (by decide) (fun _ _ _ _ _ _ h => h) ?_
  refine s_aload_n (k := 0) C (by decide +kernel) ?_
  refine s_iload_n (k := 1) C (by decide +kernel) ?_
  refine s_iload_n (k := 3) C (by decide +kernel) ?_
  refine s_callV C rfl rfl (by decide +kernel) rfl w_7_31 w_7_33 w_p4_7 w_1_13 w_7_34 (by decide +kernel) ?_
  refine s_if_eq (off := 30) (tgt := 99) C (by decide +kernel) (by decide) (fun _ _ _ _ _ _ h => h) ?_
  exact (fun _ _ _ _ _ _ h => h)
set_option maxRecDepth 20000 in
theorem b_X12_areAgreed_72 {Z : Zt} {d : Nat} {p : Program} {e : Env} {R : Room} {s : State} {m : MethodId} {args : Array Value} {below : List Frame} {meth : Method} {c : Code} {Rp : RT} (C : Cx Z d jX12_areAgreed RX12 p R s m args meth c) : Sd Z jX12_areAgreed p e R s m args below meth c (MQ below (QcS Z Rp) args s 0 0 (fun a => Z.2.2.1 < a)) 72 (w_X12_areAgreed_72 (MS Z d) (Gw Z 4 p e R s m args below meth c (MQ below (QcS Z Rp) args s 0 0 (fun a => Z.2.2.1 < a))) Rp) := by
  unfold w_X12_areAgreed_72
  refine s_iload_n (k := 2) C (by decide +kernel) ?_
  refine s_if_eq (off := 24) (tgt := 97) C (by decide +kernel) (by decide) (fun _ _ _ _ _ _ h => h) ?_
  refine s_aload_n (k := 0) C (by decide +kernel) ?_
  refine s_iload_n (k := 3) C (by decide +kernel) ?_
  refine s_bipush (n := 7) C (by decide +kernel) (by decide) ?_
  refine s_callV C rfl rfl (by decide +kernel) rfl w_6_220 w_6_222 w_p3_11 w_1_13 w_6_223 (by decide +kernel) ?_
  refine s_aload_n (k := 0) C (by decide +kernel) ?_
  refine s_iload_n (k := 1) C (by decide +kernel) ?_
  refine s_bipush (n := 7) C (by decide +kernel) (by decide) ?_
  refine s_callV C rfl rfl (by decide +kernel) rfl w_6_220 w_6_222 w_p3_11 w_1_13 w_6_223 (by decide +kernel) ?_
  refine s_icmp_ne (off := 7) (tgt := 97) C (by decide +kernel) (by decide) (fun _ _ _ _ _ _ h => h) ?_
  refine s_iconst (n := 1) C (by decide +kernel) (by decide) ?_
  exact s_goto (off := 4) (tgt := 98) C (by decide +kernel) (by decide) (fun _ _ _ _ _ _ h => h)
set_option maxRecDepth 20000 in
theorem b_X12_areAgreed_97 {Z : Zt} {d : Nat} {p : Program} {e : Env} {R : Room} {s : State} {m : MethodId} {args : Array Value} {below : List Frame} {meth : Method} {c : Code} {Rp : RT} (C : Cx Z d jX12_areAgreed RX12 p R s m args meth c) : Sd Z jX12_areAgreed p e R s m args below meth c (MQ below (QcS Z Rp) args s 0 0 (fun a => Z.2.2.1 < a)) 97 (w_X12_areAgreed_97 (MS Z d) (Gw Z 4 p e R s m args below meth c (MQ below (QcS Z Rp) args s 0 0 (fun a => Z.2.2.1 < a))) Rp) := by
  unfold w_X12_areAgreed_97
  refine s_iconst (n := 0) C (by decide +kernel) (by decide) ?_
  exact (fun _ _ _ _ _ _ h => h)
set_option maxRecDepth 20000 in
theorem b_X12_areAgreed_98 {Z : Zt} {d : Nat} {p : Program} {e : Env} {R : Room} {s : State} {m : MethodId} {args : Array Value} {below : List Frame} {meth : Method} {c : Code} {Rp : RT} (C : Cx Z d jX12_areAgreed RX12 p R s m args meth c) : Sd Z jX12_areAgreed p e R s m args below meth c (MQ below (QcS Z Rp) args s 0 0 (fun a => Z.2.2.1 < a)) 98 (w_X12_areAgreed_98 (MS Z d) (Gw Z 4 p e R s m args below meth c (MQ below (QcS Z Rp) args s 0 0 (fun a => Z.2.2.1 < a))) Rp) := by
  unfold w_X12_areAgreed_98
  refine s_istore_n (k := 2) C (by decide +kernel) ?_
  exact (fun _ _ _ _ _ _ h => h)
set_option maxRecDepth 20000 in
theorem b_X12_areAgreed_99 {Z : Zt} {d : Nat} {p : Program} {e : Env} {R : Room} {s : State} {m : MethodId} {args : Array Value} {below : List Frame} {meth : Method} {c : Code} {Rp : RT} (C : Cx Z d jX12_areAgreed RX12 p R s m args meth c) : Sd Z jX12_areAgreed p e R s m args below meth c (MQ below (QcS Z Rp) args s 0 0 (fun a => Z.2.2.1 < a)) 99 (w_X12_areAgreed_99 (MS Z d) (Gw Z 4 p e R s m args below meth c (MQ below (QcS Z Rp) args s 0 0 (fun a => Z.2.2.1 < a))) Rp) := by
  unfold w_X12_areAgreed_99
  refine s_iinc (n := 1) C (by decide +kernel) (by decide) ?_
  exact s_goto (off := (-73)) (tgt := 29) C (by decide +kernel) (by decide) (fun _ _ _ _ _ _ h => h)
set_option maxRecDepth 20000 in
theorem b_X12_areAgreed_105 {Z : Zt} {d : Nat} {p : Program} {e : Env} {R : Room} {s : State} {m : MethodId} {args : Array Value} {below : List Frame} {meth : Method} {c : Code} {Rp : RT} (C : Cx Z d jX12_areAgreed RX12 p R s m args meth c) : Sd Z jX12_areAgreed p e R s m args below meth c (MQ below (QcS Z Rp) args s 0 0 (fun a => Z.2.2.1 < a)) 105 (w_X12_areAgreed_105 (MS Z d) (Gw Z 4 p e R s m args below meth c (MQ below (QcS Z Rp) args s 0 0 (fun a => Z.2.2.1 < a))) Rp) := by
  unfold w_X12_areAgreed_105
  refine s_iload_n (k := 2) C (by decide +kernel) ?_
  exact s_zret C rfl (by decide +kernel)
theorem ms_X12_areAgreed {Z : Zt} {d : Nat} {S : Sh} {μ : Mi} {ρ : Mr} {Rp : RT} (a0 : Nat) (x1 : Int32) (h : ∀ G : Nat → PT, (∀ (L st : List Value) (S : Sh) (q : Nat × Nat) (μ : Mi) (ρ : Mr), w_X12_areAgreed_25 (MS Z d) G Rp L st S q μ ρ → G 25 L st S q μ ρ) → (∀ (L st : List Value) (S : Sh) (q : Nat × Nat) (μ : Mi) (ρ : Mr), w_X12_areAgreed_26 (MS Z d) G Rp L st S q μ ρ → G 26 L st S q μ ρ) → (∀ (L st : List Value) (S : Sh) (q : Nat × Nat) (μ : Mi) (ρ : Mr), w_X12_areAgreed_29 (MS Z d) G Rp L st S q μ ρ → G 29 L st S q μ ρ) → (∀ (L st : List Value) (S : Sh) (q : Nat × Nat) (μ : Mi) (ρ : Mr), w_X12_areAgreed_72 (MS Z d) G Rp L st S q μ ρ → G 72 L st S q μ ρ) → (∀ (L st : List Value) (S : Sh) (q : Nat × Nat) (μ : Mi) (ρ : Mr), w_X12_areAgreed_97 (MS Z d) G Rp L st S q μ ρ → G 97 L st S q μ ρ) → (∀ (L st : List Value) (S : Sh) (q : Nat × Nat) (μ : Mi) (ρ : Mr), w_X12_areAgreed_98 (MS Z d) G Rp L st S q μ ρ → G 98 L st S q μ ρ) → (∀ (L st : List Value) (S : Sh) (q : Nat × Nat) (μ : Mi) (ρ : Mr), w_X12_areAgreed_99 (MS Z d) G Rp L st S q μ ρ → G 99 L st S q μ ρ) → (∀ (L st : List Value) (S : Sh) (q : Nat × Nat) (μ : Mi) (ρ : Mr), w_X12_areAgreed_105 (MS Z d) G Rp L st S q μ ρ → G 105 L st S q μ ρ) → w_X12_areAgreed_0 (MS Z d) G Rp [.ref a0, .int x1, .null, .null] [] S (0, 0) μ ρ) : MS Z (d + 1) jX12_areAgreed [.ref a0, .int x1] S μ ρ Rp :=
  MS_of [.ref a0, .int x1, .null, .null] (by decide +kernel) rfl rfl (Nat.le_of_ble_eq_true rfl) rfl (fun p e R s m args below meth c C => b_X12_areAgreed_0 C _ _ _ _ _ _ (h _ (b_X12_areAgreed_25 C) (b_X12_areAgreed_26 C) (b_X12_areAgreed_29 C) (b_X12_areAgreed_72 C) (b_X12_areAgreed_97 C) (b_X12_areAgreed_98 C) (b_X12_areAgreed_99 C) (b_X12_areAgreed_105 C)))
def w_X12_roundsOnPaper_0 (M : CT) (G : Nat → PT) (Rp : RT) : PT := tConst 1 <| tIstore 2 <| G 2
def w_X12_roundsOnPaper_2 (M : CT) (G : Nat → PT) (Rp : RT) : PT := tIload 2 <| tConst 20 <| tIf2 (fun x y => y < x) (G 47) <| tAload 0 <| tIload 1 <| tCallV M jX12_feedsAll 12 27 1 <| tAload 0 <| tConst 300 <| tCallV M jX12_settles 12 27 1 <| tIstore 3 <| tAload 0 <| tIload 1 <| tCallV M jX12_isLeader 12 27 1 <| tIf (fun x => x ≠ 0) (G 31) <| tConst (-1) <| tIret Rp
def w_X12_roundsOnPaper_31 (M : CT) (G : Nat → PT) (Rp : RT) : PT := tAload 0 <| tIload 1 <| tCallV M jX12_areAgreed 12 27 1 <| tIf (fun x => x = 0) (G 41) <| tIload 2 <| tIret Rp
def w_X12_roundsOnPaper_41 (M : CT) (G : Nat → PT) (Rp : RT) : PT := tIinc 2 1 <| tGoto (G 2)
def w_X12_roundsOnPaper_47 (M : CT) (G : Nat → PT) (Rp : RT) : PT := tConst (-1) <| tIret Rp
set_option maxRecDepth 20000 in
theorem b_X12_roundsOnPaper_0 {Z : Zt} {d : Nat} {p : Program} {e : Env} {R : Room} {s : State} {m : MethodId} {args : Array Value} {below : List Frame} {meth : Method} {c : Code} {Rp : RT} (C : Cx Z d jX12_roundsOnPaper RX12 p R s m args meth c) : Sd Z jX12_roundsOnPaper p e R s m args below meth c (MQ below (QcS Z Rp) args s 0 0 (fun a => Z.2.2.1 < a)) 0 (w_X12_roundsOnPaper_0 (MS Z d) (Gw Z 4 p e R s m args below meth c (MQ below (QcS Z Rp) args s 0 0 (fun a => Z.2.2.1 < a))) Rp) := by
  unfold w_X12_roundsOnPaper_0
  refine s_iconst (n := 1) C (by decide +kernel) (by decide) ?_
  refine s_istore_n (k := 2) C (by decide +kernel) ?_
  exact (fun _ _ _ _ _ _ h => h)
set_option maxRecDepth 20000 in
theorem b_X12_roundsOnPaper_2 {Z : Zt} {d : Nat} {p : Program} {e : Env} {R : Room} {s : State} {m : MethodId} {args : Array Value} {below : List Frame} {meth : Method} {c : Code} {Rp : RT} (C : Cx Z d jX12_roundsOnPaper RX12 p R s m args meth c) : Sd Z jX12_roundsOnPaper p e R s m args below meth c (MQ below (QcS Z Rp) args s 0 0 (fun a => Z.2.2.1 < a)) 2 (w_X12_roundsOnPaper_2 (MS Z d) (Gw Z 4 p e R s m args below meth c (MQ below (QcS Z Rp) args s 0 0 (fun a => Z.2.2.1 < a))) Rp) := by
  unfold w_X12_roundsOnPaper_2
  refine s_iload_n (k := 2) C (by decide +kernel) ?_
  refine s_bipush (n := 20) C (by decide +kernel) (by decide) ?_
  refine s_icmp_gt (off := 42) (tgt := 47) C (by decide +kernel) (by decide) (fun _ _ _ _ _ _ h => h) ?_
  refine s_aload_n (k := 0) C (by decide +kernel) ?_
  refine s_iload_n (k := 1) C (by decide +kernel) ?_
  refine s_callV C rfl rfl (by decide +kernel) rfl w_7_47 w_7_49 w_p4_11 w_1_13 w_7_50 (by decide +kernel) ?_
  refine s_aload_n (k := 0) C (by decide +kernel) ?_
  refine s_sipush (n := 300) C (by decide +kernel) (by decide) ?_
  refine s_callV C rfl rfl (by decide +kernel) rfl w_8_21 w_8_23 w_p7_0 w_1_13 w_8_24 (by decide +kernel) ?_
  refine s_istore_n (k := 3) C (by decide +kernel) ?_
  refine s_aload_n (k := 0) C (by decide +kernel) ?_
  refine s_iload_n (k := 1) C (by decide +kernel) ?_
  refine s_callV C rfl rfl (by decide +kernel) rfl w_6_236 w_6_238 w_p3_15 w_1_13 w_6_239 (by decide +kernel) ?_
  refine s_if_ne (off := 5) (tgt := 31) C (by decide +kernel) (by decide) (fun _ _ _ _ _ _ h => h) ?_
  refine s_iconst (n := (-1)) C (by decide +kernel) (by decide) ?_
  exact s_iret C rfl (by decide +kernel)
set_option maxRecDepth 20000 in
theorem b_X12_roundsOnPaper_31 {Z : Zt} {d : Nat} {p : Program} {e : Env} {R : Room} {s : State} {m : MethodId} {args : Array Value} {below : List Frame} {meth : Method} {c : Code} {Rp : RT} (C : Cx Z d jX12_roundsOnPaper RX12 p R s m args meth c) : Sd Z jX12_roundsOnPaper p e R s m args below meth c (MQ below (QcS Z Rp) args s 0 0 (fun a => Z.2.2.1 < a)) 31 (w_X12_roundsOnPaper_31 (MS Z d) (Gw Z 4 p e R s m args below meth c (MQ below (QcS Z Rp) args s 0 0 (fun a => Z.2.2.1 < a))) Rp) := by
  unfold w_X12_roundsOnPaper_31
  refine s_aload_n (k := 0) C (by decide +kernel) ?_
  refine s_iload_n (k := 1) C (by decide +kernel) ?_
  refine s_callV C rfl rfl (by decide +kernel) rfl w_8_221 w_8_223 w_p8_8 w_1_13 w_8_224 (by decide +kernel) ?_
  refine s_if_eq (off := 5) (tgt := 41) C (by decide +kernel) (by decide) (fun _ _ _ _ _ _ h => h) ?_
  refine s_iload_n (k := 2) C (by decide +kernel) ?_
  exact s_iret C rfl (by decide +kernel)
set_option maxRecDepth 20000 in
theorem b_X12_roundsOnPaper_41 {Z : Zt} {d : Nat} {p : Program} {e : Env} {R : Room} {s : State} {m : MethodId} {args : Array Value} {below : List Frame} {meth : Method} {c : Code} {Rp : RT} (C : Cx Z d jX12_roundsOnPaper RX12 p R s m args meth c) : Sd Z jX12_roundsOnPaper p e R s m args below meth c (MQ below (QcS Z Rp) args s 0 0 (fun a => Z.2.2.1 < a)) 41 (w_X12_roundsOnPaper_41 (MS Z d) (Gw Z 4 p e R s m args below meth c (MQ below (QcS Z Rp) args s 0 0 (fun a => Z.2.2.1 < a))) Rp) := by
  unfold w_X12_roundsOnPaper_41
  refine s_iinc (n := 1) C (by decide +kernel) (by decide) ?_
  exact s_goto (off := (-42)) (tgt := 2) C (by decide +kernel) (by decide) (fun _ _ _ _ _ _ h => h)
set_option maxRecDepth 20000 in
theorem b_X12_roundsOnPaper_47 {Z : Zt} {d : Nat} {p : Program} {e : Env} {R : Room} {s : State} {m : MethodId} {args : Array Value} {below : List Frame} {meth : Method} {c : Code} {Rp : RT} (C : Cx Z d jX12_roundsOnPaper RX12 p R s m args meth c) : Sd Z jX12_roundsOnPaper p e R s m args below meth c (MQ below (QcS Z Rp) args s 0 0 (fun a => Z.2.2.1 < a)) 47 (w_X12_roundsOnPaper_47 (MS Z d) (Gw Z 4 p e R s m args below meth c (MQ below (QcS Z Rp) args s 0 0 (fun a => Z.2.2.1 < a))) Rp) := by
  unfold w_X12_roundsOnPaper_47
  refine s_iconst (n := (-1)) C (by decide +kernel) (by decide) ?_
  exact s_iret C rfl (by decide +kernel)
theorem ms_X12_roundsOnPaper {Z : Zt} {d : Nat} {S : Sh} {μ : Mi} {ρ : Mr} {Rp : RT} (a0 : Nat) (x1 : Int32) (h : ∀ G : Nat → PT, (∀ (L st : List Value) (S : Sh) (q : Nat × Nat) (μ : Mi) (ρ : Mr), w_X12_roundsOnPaper_2 (MS Z d) G Rp L st S q μ ρ → G 2 L st S q μ ρ) → (∀ (L st : List Value) (S : Sh) (q : Nat × Nat) (μ : Mi) (ρ : Mr), w_X12_roundsOnPaper_31 (MS Z d) G Rp L st S q μ ρ → G 31 L st S q μ ρ) → (∀ (L st : List Value) (S : Sh) (q : Nat × Nat) (μ : Mi) (ρ : Mr), w_X12_roundsOnPaper_41 (MS Z d) G Rp L st S q μ ρ → G 41 L st S q μ ρ) → (∀ (L st : List Value) (S : Sh) (q : Nat × Nat) (μ : Mi) (ρ : Mr), w_X12_roundsOnPaper_47 (MS Z d) G Rp L st S q μ ρ → G 47 L st S q μ ρ) → w_X12_roundsOnPaper_0 (MS Z d) G Rp [.ref a0, .int x1, .null, .null] [] S (0, 0) μ ρ) : MS Z (d + 1) jX12_roundsOnPaper [.ref a0, .int x1] S μ ρ Rp :=
  MS_of [.ref a0, .int x1, .null, .null] (by decide +kernel) rfl rfl (Nat.le_of_ble_eq_true rfl) rfl (fun p e R s m args below meth c C => b_X12_roundsOnPaper_0 C _ _ _ _ _ _ (h _ (b_X12_roundsOnPaper_2 C) (b_X12_roundsOnPaper_31 C) (b_X12_roundsOnPaper_41 C) (b_X12_roundsOnPaper_47 C)))
def w_X12_rounds_0 (M : CT) (G : Nat → PT) (Rp : RT) : PT := tAload 0 <| tConst 0 <| tPutI 12 27 0 <| tAload 0 <| tCallV M jX12_leaderNow 12 27 0 <| tIstore 1 <| tIload 1 <| tConst (-1) <| tIf2 (fun x y => x ≠ y) (G 17) <| tConst (-1) <| tIret Rp
def w_X12_rounds_17 (M : CT) (G : Nat → PT) (Rp : RT) : PT := tAload 0 <| tCallV M jX12_opensPaper 12 27 0 <| tAload 0 <| tIload 1 <| tCallV M jX12_roundsOnPaper 12 27 1 <| tIstore 2 <| tAload 0 <| tCallV M jX12_closesPaper 12 27 0 <| tIload 2 <| tIret Rp
set_option maxRecDepth 20000 in
theorem b_X12_rounds_0 {Z : Zt} {d : Nat} {p : Program} {e : Env} {R : Room} {s : State} {m : MethodId} {args : Array Value} {below : List Frame} {meth : Method} {c : Code} {Rp : RT} (C : Cx Z d jX12_rounds RX12 p R s m args meth c) : Sd Z jX12_rounds p e R s m args below meth c (MQ below (QcS Z Rp) args s 0 0 (fun a => Z.2.2.1 < a)) 0 (w_X12_rounds_0 (MS Z d) (Gw Z 3 p e R s m args below meth c (MQ below (QcS Z Rp) args s 0 0 (fun a => Z.2.2.1 < a))) Rp) := by
  unfold w_X12_rounds_0
  refine s_aload_n (k := 0) C (by decide +kernel) ?_
  refine s_iconst (n := 0) C (by decide +kernel) (by decide) ?_
  refine s_putI C w_6_87 (by decide +kernel) rfl (Or.inl rfl) ?_
  refine s_aload_n (k := 0) C (by decide +kernel) ?_
  refine s_callV C rfl rfl (by decide +kernel) rfl w_8_185 w_8_187 w_p8_3 w_1_13 w_8_188 (by decide +kernel) ?_
  refine s_istore_n (k := 1) C (by decide +kernel) ?_
  refine s_iload_n (k := 1) C (by decide +kernel) ?_
  refine s_iconst (n := (-1)) C (by decide +kernel) (by decide) ?_
  refine s_icmp_ne (off := 5) (tgt := 17) C (by decide +kernel) (by decide) (fun _ _ _ _ _ _ h => h) ?_
  refine s_iconst (n := (-1)) C (by decide +kernel) (by decide) ?_
  exact s_iret C rfl (by decide +kernel)
set_option maxRecDepth 20000 in
theorem b_X12_rounds_17 {Z : Zt} {d : Nat} {p : Program} {e : Env} {R : Room} {s : State} {m : MethodId} {args : Array Value} {below : List Frame} {meth : Method} {c : Code} {Rp : RT} (C : Cx Z d jX12_rounds RX12 p R s m args meth c) : Sd Z jX12_rounds p e R s m args below meth c (MQ below (QcS Z Rp) args s 0 0 (fun a => Z.2.2.1 < a)) 17 (w_X12_rounds_17 (MS Z d) (Gw Z 3 p e R s m args below meth c (MQ below (QcS Z Rp) args s 0 0 (fun a => Z.2.2.1 < a))) Rp) := by
  unfold w_X12_rounds_17
  refine s_aload_n (k := 0) C (by decide +kernel) ?_
  refine s_callV C rfl rfl (by decide +kernel) rfl w_8_193 w_8_195 w_p8_4 w_1_13 w_8_196 (by decide +kernel) ?_
  refine s_aload_n (k := 0) C (by decide +kernel) ?_
  refine s_iload_n (k := 1) C (by decide +kernel) ?_
  refine s_callV C rfl rfl (by decide +kernel) rfl w_8_217 w_8_219 w_p8_7 w_1_13 w_8_220 (by decide +kernel) ?_
  refine s_istore_n (k := 2) C (by decide +kernel) ?_
  refine s_aload_n (k := 0) C (by decide +kernel) ?_
  refine s_callV C rfl rfl (by decide +kernel) rfl w_8_201 w_8_203 w_p8_6 w_1_13 w_8_204 (by decide +kernel) ?_
  refine s_iload_n (k := 2) C (by decide +kernel) ?_
  exact s_iret C rfl (by decide +kernel)
theorem ms_X12_rounds {Z : Zt} {d : Nat} {S : Sh} {μ : Mi} {ρ : Mr} {Rp : RT} (a0 : Nat) (h : ∀ G : Nat → PT, (∀ (L st : List Value) (S : Sh) (q : Nat × Nat) (μ : Mi) (ρ : Mr), w_X12_rounds_17 (MS Z d) G Rp L st S q μ ρ → G 17 L st S q μ ρ) → w_X12_rounds_0 (MS Z d) G Rp [.ref a0, .null, .null] [] S (0, 0) μ ρ) : MS Z (d + 1) jX12_rounds [.ref a0] S μ ρ Rp :=
  MS_of [.ref a0, .null, .null] (by decide +kernel) rfl rfl (Nat.le_of_ble_eq_true rfl) rfl (fun p e R s m args below meth c C => b_X12_rounds_0 C _ _ _ _ _ _ (h _ (b_X12_rounds_17 C)))
def w_X12_canLead_0 (M : CT) (G : Nat → PT) (Rp : RT) : PT := tAload 0 <| tIload 1 <| tCallV M jX12_isLeader 12 27 1 <| tIf (fun x => x = 0) (G 10) <| tConst 1 <| tZret Rp
def w_X12_canLead_10 (M : CT) (G : Nat → PT) (Rp : RT) : PT := tIload 2 <| tIf (fun x => x ≠ 0) (G 16) <| tConst 0 <| tZret Rp
def w_X12_canLead_16 (M : CT) (G : Nat → PT) (Rp : RT) : PT := tAload 0 <| tGetR 12 27 1 <| tConst 0 <| tAload 0 <| tGetR 12 27 5 <| tConst 4516 <| tIload 2 <| tBin (fun x y => x * y) <| tConst 4516 <| tCallS M jX12_copies 5 <| tAload 0 <| tGetR 12 27 1 <| tConst 4510 <| tAld 20 <| tIstore 3 <| tConst 0 <| tIstore 4 <| tConst 0 <| tIstore 5 <| G 51
def w_X12_canLead_51 (M : CT) (G : Nat → PT) (Rp : RT) : PT := tIload 5 <| tIload 3 <| tConst 5 <| tBin (fun x y => x + y) <| tIf2 (fun x y => y ≤ x) (G 145) <| tIload 4 <| tIf (fun x => x ≠ 0) (G 145) <| tIload 5 <| tIload 3 <| tIf2 (fun x y => x < y) (G 84) <| tAload 0 <| tIload 5 <| tIload 3 <| tBin (fun x y => x - y) <| tCallV M jX12_whyNot 12 27 1 <| tIf (fun x => x = 0) (G 84) <| tGoto (G 139)
def w_X12_canLead_84 (M : CT) (G : Nat → PT) (Rp : RT) : PT := tIload 5 <| tIload 3 <| tIf2 (fun x y => y ≤ x) (G 101) <| tAload 0 <| tIload 5 <| tCallV M jX12_comes 12 27 1 <| tIstore 6 <| tGoto (G 109)
def w_X12_canLead_101 (M : CT) (G : Nat → PT) (Rp : RT) : PT := tAload 0 <| tIload 5 <| tIload 3 <| tBin (fun x y => x - y) <| tCallV M jX12_asks 12 27 1 <| G 109
def w_X12_canLead_109 (M : CT) (G : Nat → PT) (Rp : RT) : PT := tAload 0 <| tIload 1 <| tIload 2 <| tConst 1 <| tBin (fun x y => x - y) <| tCallV M jX12_canLead 12 27 2 <| tIstore 4 <| tAload 0 <| tGetR 12 27 5 <| tConst 4516 <| tIload 2 <| tBin (fun x y => x * y) <| tAload 0 <| tGetR 12 27 1 <| tConst 0 <| tConst 4516 <| tCallS M jX12_copies 5 <| G 139
def w_X12_canLead_139 (M : CT) (G : Nat → PT) (Rp : RT) : PT := tIinc 5 1 <| tGoto (G 51)
def w_X12_canLead_145 (M : CT) (G : Nat → PT) (Rp : RT) : PT := tIload 4 <| tZret Rp
set_option maxRecDepth 20000 in
theorem b_X12_canLead_0 {Z : Zt} {d : Nat} {p : Program} {e : Env} {R : Room} {s : State} {m : MethodId} {args : Array Value} {below : List Frame} {meth : Method} {c : Code} {Rp : RT} (C : Cx Z d jX12_canLead RX12 p R s m args meth c) : Sd Z jX12_canLead p e R s m args below meth c (MQ below (QcS Z Rp) args s 0 0 (fun a => Z.2.2.1 < a)) 0 (w_X12_canLead_0 (MS Z d) (Gw Z 7 p e R s m args below meth c (MQ below (QcS Z Rp) args s 0 0 (fun a => Z.2.2.1 < a))) Rp) := by
  unfold w_X12_canLead_0
  refine s_aload_n (k := 0) C (by decide +kernel) ?_
  refine s_iload_n (k := 1) C (by decide +kernel) ?_
  refine s_callV C rfl rfl (by decide +kernel) rfl w_6_236 w_6_238 w_p3_15 w_1_13 w_6_239 (by decide +kernel) ?_
  refine s_if_eq (off := 5) (tgt := 10) C (by decide +kernel) (by decide) (fun _ _ _ _ _ _ h => h) ?_
  refine s_iconst (n := 1) C (by decide +kernel) (by decide) ?_
  exact s_zret C rfl (by decide +kernel)
set_option maxRecDepth 20000 in
theorem b_X12_canLead_10 {Z : Zt} {d : Nat} {p : Program} {e : Env} {R : Room} {s : State} {m : MethodId} {args : Array Value} {below : List Frame} {meth : Method} {c : Code} {Rp : RT} (C : Cx Z d jX12_canLead RX12 p R s m args meth c) : Sd Z jX12_canLead p e R s m args below meth c (MQ below (QcS Z Rp) args s 0 0 (fun a => Z.2.2.1 < a)) 10 (w_X12_canLead_10 (MS Z d) (Gw Z 7 p e R s m args below meth c (MQ below (QcS Z Rp) args s 0 0 (fun a => Z.2.2.1 < a))) Rp) := by
  unfold w_X12_canLead_10
  refine s_iload_n (k := 2) C (by decide +kernel) ?_
  refine s_if_ne (off := 5) (tgt := 16) C (by decide +kernel) (by decide) (fun _ _ _ _ _ _ h => h) ?_
  refine s_iconst (n := 0) C (by decide +kernel) (by decide) ?_
  exact s_zret C rfl (by decide +kernel)
set_option maxRecDepth 20000 in
theorem b_X12_canLead_16 {Z : Zt} {d : Nat} {p : Program} {e : Env} {R : Room} {s : State} {m : MethodId} {args : Array Value} {below : List Frame} {meth : Method} {c : Code} {Rp : RT} (C : Cx Z d jX12_canLead RX12 p R s m args meth c) : Sd Z jX12_canLead p e R s m args below meth c (MQ below (QcS Z Rp) args s 0 0 (fun a => Z.2.2.1 < a)) 16 (w_X12_canLead_16 (MS Z d) (Gw Z 7 p e R s m args below meth c (MQ below (QcS Z Rp) args s 0 0 (fun a => Z.2.2.1 < a))) Rp) := by
  unfold w_X12_canLead_16
  refine s_aload_n (k := 0) C (by decide +kernel) ?_
  refine s_getR C w_6_88 (by decide +kernel) rfl ?_
  refine s_iconst (n := 0) C (by decide +kernel) (by decide) ?_
  refine s_aload_n (k := 0) C (by decide +kernel) ?_
  refine s_getR C w_6_92 (by decide +kernel) rfl ?_
  refine s_sipush (n := 4516) C (by decide +kernel) (by decide) ?_
  refine s_iload_n (k := 2) C (by decide +kernel) ?_
  refine s_imul C (by decide +kernel) ?_
  refine s_sipush (n := 4516) C (by decide +kernel) (by decide) ?_
  refine s_callS C (by decide +kernel) rfl w_6_182 w_6_183 w_1_13 w_6_184 (by decide +kernel) ?_
  refine s_aload_n (k := 0) C (by decide +kernel) ?_
  refine s_getR C w_6_88 (by decide +kernel) rfl ?_
  refine s_sipush (n := 4510) C (by decide +kernel) (by decide) ?_
  refine s_iald C (by decide +kernel) ?_
  refine s_istore_n (k := 3) C (by decide +kernel) ?_
  refine s_iconst (n := 0) C (by decide +kernel) (by decide) ?_
  refine s_istore (k := 4) C (by decide +kernel) ?_
  refine s_iconst (n := 0) C (by decide +kernel) (by decide) ?_
  refine s_istore (k := 5) C (by decide +kernel) ?_
  exact (fun _ _ _ _ _ _ h => h)
set_option maxRecDepth 20000 in
theorem b_X12_canLead_51 {Z : Zt} {d : Nat} {p : Program} {e : Env} {R : Room} {s : State} {m : MethodId} {args : Array Value} {below : List Frame} {meth : Method} {c : Code} {Rp : RT} (C : Cx Z d jX12_canLead RX12 p R s m args meth c) : Sd Z jX12_canLead p e R s m args below meth c (MQ below (QcS Z Rp) args s 0 0 (fun a => Z.2.2.1 < a)) 51 (w_X12_canLead_51 (MS Z d) (Gw Z 7 p e R s m args below meth c (MQ below (QcS Z Rp) args s 0 0 (fun a => Z.2.2.1 < a))) Rp) := by
  unfold w_X12_canLead_51
  refine s_iload (k := 5) C (by decide +kernel) ?_
  refine s_iload_n (k := 3) C (by decide +kernel) ?_
  refine s_iconst (n := 5) C (by decide +kernel) (by decide) ?_
  refine s_iadd C (by decide +kernel) ?_
  refine s_icmp_ge (off := 89) (tgt := 145) C (by decide +kernel) (by decide) (fun _ _ _ _ _ _ h => h) ?_
  refine s_iload (k := 4) C (by decide +kernel) ?_
  refine s_if_ne (off := 84) (tgt := 145) C (by decide +kernel) (by decide) (fun _ _ _ _ _ _ h => h) ?_
  refine s_iload (k := 5) C (by decide +kernel) ?_
  refine s_iload_n (k := 3) C (by decide +kernel) ?_
  refine s_icmp_lt (off := 17) (tgt := 84) C (by decide +kernel) (by decide) (fun _ _ _ _ _ _ h => h) ?_
  refine s_aload_n (k := 0) C (by decide +kernel) ?_
  refine s_iload (k := 5) C (by decide +kernel) ?_
  refine s_iload_n (k := 3) C (by decide +kernel) ?_
  refine s_isub C (by decide +kernel) ?_
  refine s_callV C rfl rfl (by decide +kernel) rfl w_6_212 w_6_214 w_p3_9 w_1_13 w_6_215 (by decide +kernel) ?_
  refine s_if_eq (off := 6) (tgt := 84) C (by decide +kernel) (by decide) (fun _ _ _ _ _ _ h => h) ?_
  exact s_goto (off := 58) (tgt := 139) C (by decide +kernel) (by decide) (fun _ _ _ _ _ _ h => h)
set_option maxRecDepth 20000 in
theorem b_X12_canLead_84 {Z : Zt} {d : Nat} {p : Program} {e : Env} {R : Room} {s : State} {m : MethodId} {args : Array Value} {below : List Frame} {meth : Method} {c : Code} {Rp : RT} (C : Cx Z d jX12_canLead RX12 p R s m args meth c) : Sd Z jX12_canLead p e R s m args below meth c (MQ below (QcS Z Rp) args s 0 0 (fun a => Z.2.2.1 < a)) 84 (w_X12_canLead_84 (MS Z d) (Gw Z 7 p e R s m args below meth c (MQ below (QcS Z Rp) args s 0 0 (fun a => Z.2.2.1 < a))) Rp) := by
  unfold w_X12_canLead_84
  refine s_iload (k := 5) C (by decide +kernel) ?_
  refine s_iload_n (k := 3) C (by decide +kernel) ?_
  refine s_icmp_ge (off := 14) (tgt := 101) C (by decide +kernel) (by decide) (fun _ _ _ _ _ _ h => h) ?_
  refine s_aload_n (k := 0) C (by decide +kernel) ?_
  refine s_iload (k := 5) C (by decide +kernel) ?_
  refine s_callV C rfl rfl (by decide +kernel) rfl w_7_172 w_7_174 w_p5_13 w_1_13 w_7_175 (by decide +kernel) ?_
  refine s_istore (k := 6) C (by decide +kernel) ?_
  exact s_goto (off := 11) (tgt := 109) C (by decide +kernel) (by decide) (fun _ _ _ _ _ _ h => h)
set_option maxRecDepth 20000 in
theorem b_X12_canLead_101 {Z : Zt} {d : Nat} {p : Program} {e : Env} {R : Room} {s : State} {m : MethodId} {args : Array Value} {below : List Frame} {meth : Method} {c : Code} {Rp : RT} (C : Cx Z d jX12_canLead RX12 p R s m args meth c) : Sd Z jX12_canLead p e R s m args below meth c (MQ below (QcS Z Rp) args s 0 0 (fun a => Z.2.2.1 < a)) 101 (w_X12_canLead_101 (MS Z d) (Gw Z 7 p e R s m args below meth c (MQ below (QcS Z Rp) args s 0 0 (fun a => Z.2.2.1 < a))) Rp) := by
  unfold w_X12_canLead_101
  refine s_aload_n (k := 0) C (by decide +kernel) ?_
  refine s_iload (k := 5) C (by decide +kernel) ?_
  refine s_iload_n (k := 3) C (by decide +kernel) ?_
  refine s_isub C (by decide +kernel) ?_
  refine s_callV C rfl rfl (by decide +kernel) rfl w_7_3 w_7_5 w_p4_0 w_1_13 w_7_6 (by decide +kernel) ?_
  exact (fun _ _ _ _ _ _ h => h)
set_option maxRecDepth 20000 in
theorem b_X12_canLead_109 {Z : Zt} {d : Nat} {p : Program} {e : Env} {R : Room} {s : State} {m : MethodId} {args : Array Value} {below : List Frame} {meth : Method} {c : Code} {Rp : RT} (C : Cx Z d jX12_canLead RX12 p R s m args meth c) : Sd Z jX12_canLead p e R s m args below meth c (MQ below (QcS Z Rp) args s 0 0 (fun a => Z.2.2.1 < a)) 109 (w_X12_canLead_109 (MS Z d) (Gw Z 7 p e R s m args below meth c (MQ below (QcS Z Rp) args s 0 0 (fun a => Z.2.2.1 < a))) Rp) := by
  unfold w_X12_canLead_109
  refine s_aload_n (k := 0) C (by decide +kernel) ?_
  refine s_iload_n (k := 1) C (by decide +kernel) ?_
  refine s_iload_n (k := 2) C (by decide +kernel) ?_
  refine s_iconst (n := 1) C (by decide +kernel) (by decide) ?_
  refine s_isub C (by decide +kernel) ?_
  refine s_callV C rfl rfl (by decide +kernel) rfl w_8_229 w_8_231 w_p8_9 w_1_13 w_8_232 (by decide +kernel) ?_
  refine s_istore (k := 4) C (by decide +kernel) ?_
  refine s_aload_n (k := 0) C (by decide +kernel) ?_
  refine s_getR C w_6_92 (by decide +kernel) rfl ?_
  refine s_sipush (n := 4516) C (by decide +kernel) (by decide) ?_
  refine s_iload_n (k := 2) C (by decide +kernel) ?_
  refine s_imul C (by decide +kernel) ?_
  refine s_aload_n (k := 0) C (by decide +kernel) ?_
  refine s_getR C w_6_88 (by decide +kernel) rfl ?_
  refine s_iconst (n := 0) C (by decide +kernel) (by decide) ?_
  refine s_sipush (n := 4516) C (by decide +kernel) (by decide) ?_
  refine s_callS C (by decide +kernel) rfl w_6_182 w_6_183 w_1_13 w_6_184 (by decide +kernel) ?_
  exact (fun _ _ _ _ _ _ h => h)
set_option maxRecDepth 20000 in
theorem b_X12_canLead_139 {Z : Zt} {d : Nat} {p : Program} {e : Env} {R : Room} {s : State} {m : MethodId} {args : Array Value} {below : List Frame} {meth : Method} {c : Code} {Rp : RT} (C : Cx Z d jX12_canLead RX12 p R s m args meth c) : Sd Z jX12_canLead p e R s m args below meth c (MQ below (QcS Z Rp) args s 0 0 (fun a => Z.2.2.1 < a)) 139 (w_X12_canLead_139 (MS Z d) (Gw Z 7 p e R s m args below meth c (MQ below (QcS Z Rp) args s 0 0 (fun a => Z.2.2.1 < a))) Rp) := by
  unfold w_X12_canLead_139
  refine s_iinc (n := 1) C (by decide +kernel) (by decide) ?_
  exact s_goto (off := (-91)) (tgt := 51) C (by decide +kernel) (by decide) (fun _ _ _ _ _ _ h => h)
set_option maxRecDepth 20000 in
theorem b_X12_canLead_145 {Z : Zt} {d : Nat} {p : Program} {e : Env} {R : Room} {s : State} {m : MethodId} {args : Array Value} {below : List Frame} {meth : Method} {c : Code} {Rp : RT} (C : Cx Z d jX12_canLead RX12 p R s m args meth c) : Sd Z jX12_canLead p e R s m args below meth c (MQ below (QcS Z Rp) args s 0 0 (fun a => Z.2.2.1 < a)) 145 (w_X12_canLead_145 (MS Z d) (Gw Z 7 p e R s m args below meth c (MQ below (QcS Z Rp) args s 0 0 (fun a => Z.2.2.1 < a))) Rp) := by
  unfold w_X12_canLead_145
  refine s_iload (k := 4) C (by decide +kernel) ?_
  exact s_zret C rfl (by decide +kernel)
theorem ms_X12_canLead {Z : Zt} {d : Nat} {S : Sh} {μ : Mi} {ρ : Mr} {Rp : RT} (a0 : Nat) (x1 : Int32) (x2 : Int32) (h : ∀ G : Nat → PT, (∀ (L st : List Value) (S : Sh) (q : Nat × Nat) (μ : Mi) (ρ : Mr), w_X12_canLead_10 (MS Z d) G Rp L st S q μ ρ → G 10 L st S q μ ρ) → (∀ (L st : List Value) (S : Sh) (q : Nat × Nat) (μ : Mi) (ρ : Mr), w_X12_canLead_16 (MS Z d) G Rp L st S q μ ρ → G 16 L st S q μ ρ) → (∀ (L st : List Value) (S : Sh) (q : Nat × Nat) (μ : Mi) (ρ : Mr), w_X12_canLead_51 (MS Z d) G Rp L st S q μ ρ → G 51 L st S q μ ρ) → (∀ (L st : List Value) (S : Sh) (q : Nat × Nat) (μ : Mi) (ρ : Mr), w_X12_canLead_84 (MS Z d) G Rp L st S q μ ρ → G 84 L st S q μ ρ) → (∀ (L st : List Value) (S : Sh) (q : Nat × Nat) (μ : Mi) (ρ : Mr), w_X12_canLead_101 (MS Z d) G Rp L st S q μ ρ → G 101 L st S q μ ρ) → (∀ (L st : List Value) (S : Sh) (q : Nat × Nat) (μ : Mi) (ρ : Mr), w_X12_canLead_109 (MS Z d) G Rp L st S q μ ρ → G 109 L st S q μ ρ) → (∀ (L st : List Value) (S : Sh) (q : Nat × Nat) (μ : Mi) (ρ : Mr), w_X12_canLead_139 (MS Z d) G Rp L st S q μ ρ → G 139 L st S q μ ρ) → (∀ (L st : List Value) (S : Sh) (q : Nat × Nat) (μ : Mi) (ρ : Mr), w_X12_canLead_145 (MS Z d) G Rp L st S q μ ρ → G 145 L st S q μ ρ) → w_X12_canLead_0 (MS Z d) G Rp [.ref a0, .int x1, .int x2, .null, .null, .null, .null] [] S (0, 0) μ ρ) : MS Z (d + 1) jX12_canLead [.ref a0, .int x1, .int x2] S μ ρ Rp :=
  MS_of [.ref a0, .int x1, .int x2, .null, .null, .null, .null] (by decide +kernel) rfl rfl (Nat.le_of_ble_eq_true rfl) rfl (fun p e R s m args below meth c C => b_X12_canLead_0 C _ _ _ _ _ _ (h _ (b_X12_canLead_10 C) (b_X12_canLead_16 C) (b_X12_canLead_51 C) (b_X12_canLead_84 C) (b_X12_canLead_101 C) (b_X12_canLead_109 C) (b_X12_canLead_139 C) (b_X12_canLead_145 C)))
def w_X12_could_0 (M : CT) (G : Nat → PT) (Rp : RT) : PT := tAload 0 <| tConst 0 <| tPutI 12 27 0 <| tIload 1 <| tCallS M jX12_isStore 1 <| tIf (fun x => x ≠ 0) (G 15) <| tConst (-2) <| tIret Rp
def w_X12_could_15 (M : CT) (G : Nat → PT) (Rp : RT) : PT := tIload 2 <| tI2l <| tLconst 0 <| tLconst 3 <| tCallS M jX12_within 3 <| tIf (fun x => x ≠ 0) (G 30) <| tConst (-3) <| tIret Rp
def w_X12_could_30 (M : CT) (G : Nat → PT) (Rp : RT) : PT := tAload 0 <| tGetR 12 27 1 <| tConst 4510 <| tAld 20 <| tConst 8 <| tIf2 (fun x y => x ≤ y) (G 46) <| tConst (-5) <| tIret Rp
def w_X12_could_46 (M : CT) (G : Nat → PT) (Rp : RT) : PT := tAload 0 <| tIload 1 <| tIload 2 <| tCallV M jX12_canLead 12 27 2 <| tIf (fun x => x = 0) (G 59) <| tConst 1 <| tGoto (G 60)
def w_X12_could_59 (M : CT) (G : Nat → PT) (Rp : RT) : PT := tConst 0 <| G 60
def w_X12_could_60 (M : CT) (G : Nat → PT) (Rp : RT) : PT := tIret Rp
set_option maxRecDepth 20000 in
theorem b_X12_could_0 {Z : Zt} {d : Nat} {p : Program} {e : Env} {R : Room} {s : State} {m : MethodId} {args : Array Value} {below : List Frame} {meth : Method} {c : Code} {Rp : RT} (C : Cx Z d jX12_could RX12 p R s m args meth c) : Sd Z jX12_could p e R s m args below meth c (MQ below (QcS Z Rp) args s 0 0 (fun a => Z.2.2.1 < a)) 0 (w_X12_could_0 (MS Z d) (Gw Z 3 p e R s m args below meth c (MQ below (QcS Z Rp) args s 0 0 (fun a => Z.2.2.1 < a))) Rp) := by
  unfold w_X12_could_0
  refine s_aload_n (k := 0) C (by decide +kernel) ?_
  refine s_iconst (n := 0) C (by decide +kernel) (by decide) ?_
  refine s_putI C w_6_87 (by decide +kernel) rfl (Or.inl rfl) ?_
  refine s_iload_n (k := 1) C (by decide +kernel) ?_
  refine s_callS C (by decide +kernel) rfl w_6_208 w_6_209 w_1_13 w_6_210 (by decide +kernel) ?_
  refine s_if_ne (off := 6) (tgt := 15) C (by decide +kernel) (by decide) (fun _ _ _ _ _ _ h => h) ?_
  refine s_bipush (n := (-2)) C (by decide +kernel) (by decide) ?_
  exact s_iret C rfl (by decide +kernel)
set_option maxRecDepth 20000 in
theorem b_X12_could_15 {Z : Zt} {d : Nat} {p : Program} {e : Env} {R : Room} {s : State} {m : MethodId} {args : Array Value} {below : List Frame} {meth : Method} {c : Code} {Rp : RT} (C : Cx Z d jX12_could RX12 p R s m args meth c) : Sd Z jX12_could p e R s m args below meth c (MQ below (QcS Z Rp) args s 0 0 (fun a => Z.2.2.1 < a)) 15 (w_X12_could_15 (MS Z d) (Gw Z 3 p e R s m args below meth c (MQ below (QcS Z Rp) args s 0 0 (fun a => Z.2.2.1 < a))) Rp) := by
  unfold w_X12_could_15
  refine s_iload_n (k := 2) C (by decide +kernel) ?_
  refine s_i2l C (by decide +kernel) ?_
  refine s_lconst (n := 0) C (by decide +kernel) (by decide) ?_
  refine s_ldc2 C w_7_93 (by decide +kernel) ?_
  refine s_callS C (by decide +kernel) rfl w_6_175 w_6_176 w_1_13 w_6_177 (by decide +kernel) ?_
  refine s_if_ne (off := 6) (tgt := 30) C (by decide +kernel) (by decide) (fun _ _ _ _ _ _ h => h) ?_
  refine s_bipush (n := (-3)) C (by decide +kernel) (by decide) ?_
  exact s_iret C rfl (by decide +kernel)
set_option maxRecDepth 20000 in
theorem b_X12_could_30 {Z : Zt} {d : Nat} {p : Program} {e : Env} {R : Room} {s : State} {m : MethodId} {args : Array Value} {below : List Frame} {meth : Method} {c : Code} {Rp : RT} (C : Cx Z d jX12_could RX12 p R s m args meth c) : Sd Z jX12_could p e R s m args below meth c (MQ below (QcS Z Rp) args s 0 0 (fun a => Z.2.2.1 < a)) 30 (w_X12_could_30 (MS Z d) (Gw Z 3 p e R s m args below meth c (MQ below (QcS Z Rp) args s 0 0 (fun a => Z.2.2.1 < a))) Rp) := by
  unfold w_X12_could_30
  refine s_aload_n (k := 0) C (by decide +kernel) ?_
  refine s_getR C w_6_88 (by decide +kernel) rfl ?_
  refine s_sipush (n := 4510) C (by decide +kernel) (by decide) ?_
  refine s_iald C (by decide +kernel) ?_
  refine s_bipush (n := 8) C (by decide +kernel) (by decide) ?_
  refine s_icmp_le (off := 6) (tgt := 46) C (by decide +kernel) (by decide) (fun _ _ _ _ _ _ h => h) ?_
  refine s_bipush (n := (-5)) C (by decide +kernel) (by decide) ?_
  exact s_iret C rfl (by decide +kernel)
set_option maxRecDepth 20000 in
theorem b_X12_could_46 {Z : Zt} {d : Nat} {p : Program} {e : Env} {R : Room} {s : State} {m : MethodId} {args : Array Value} {below : List Frame} {meth : Method} {c : Code} {Rp : RT} (C : Cx Z d jX12_could RX12 p R s m args meth c) : Sd Z jX12_could p e R s m args below meth c (MQ below (QcS Z Rp) args s 0 0 (fun a => Z.2.2.1 < a)) 46 (w_X12_could_46 (MS Z d) (Gw Z 3 p e R s m args below meth c (MQ below (QcS Z Rp) args s 0 0 (fun a => Z.2.2.1 < a))) Rp) := by
  unfold w_X12_could_46
  refine s_aload_n (k := 0) C (by decide +kernel) ?_
  refine s_iload_n (k := 1) C (by decide +kernel) ?_
  refine s_iload_n (k := 2) C (by decide +kernel) ?_
  refine s_callV C rfl rfl (by decide +kernel) rfl w_8_229 w_8_231 w_p8_9 w_1_13 w_8_232 (by decide +kernel) ?_
  refine s_if_eq (off := 7) (tgt := 59) C (by decide +kernel) (by decide) (fun _ _ _ _ _ _ h => h) ?_
  refine s_iconst (n := 1) C (by decide +kernel) (by decide) ?_
  exact s_goto (off := 4) (tgt := 60) C (by decide +kernel) (by decide) (fun _ _ _ _ _ _ h => h)
set_option maxRecDepth 20000 in
theorem b_X12_could_59 {Z : Zt} {d : Nat} {p : Program} {e : Env} {R : Room} {s : State} {m : MethodId} {args : Array Value} {below : List Frame} {meth : Method} {c : Code} {Rp : RT} (C : Cx Z d jX12_could RX12 p R s m args meth c) : Sd Z jX12_could p e R s m args below meth c (MQ below (QcS Z Rp) args s 0 0 (fun a => Z.2.2.1 < a)) 59 (w_X12_could_59 (MS Z d) (Gw Z 3 p e R s m args below meth c (MQ below (QcS Z Rp) args s 0 0 (fun a => Z.2.2.1 < a))) Rp) := by
  unfold w_X12_could_59
  refine s_iconst (n := 0) C (by decide +kernel) (by decide) ?_
  exact (fun _ _ _ _ _ _ h => h)
set_option maxRecDepth 20000 in
theorem b_X12_could_60 {Z : Zt} {d : Nat} {p : Program} {e : Env} {R : Room} {s : State} {m : MethodId} {args : Array Value} {below : List Frame} {meth : Method} {c : Code} {Rp : RT} (C : Cx Z d jX12_could RX12 p R s m args meth c) : Sd Z jX12_could p e R s m args below meth c (MQ below (QcS Z Rp) args s 0 0 (fun a => Z.2.2.1 < a)) 60 (w_X12_could_60 (MS Z d) (Gw Z 3 p e R s m args below meth c (MQ below (QcS Z Rp) args s 0 0 (fun a => Z.2.2.1 < a))) Rp) := by
  unfold w_X12_could_60
  exact s_iret C rfl (by decide +kernel)
theorem ms_X12_could {Z : Zt} {d : Nat} {S : Sh} {μ : Mi} {ρ : Mr} {Rp : RT} (a0 : Nat) (x1 : Int32) (x2 : Int32) (h : ∀ G : Nat → PT, (∀ (L st : List Value) (S : Sh) (q : Nat × Nat) (μ : Mi) (ρ : Mr), w_X12_could_15 (MS Z d) G Rp L st S q μ ρ → G 15 L st S q μ ρ) → (∀ (L st : List Value) (S : Sh) (q : Nat × Nat) (μ : Mi) (ρ : Mr), w_X12_could_30 (MS Z d) G Rp L st S q μ ρ → G 30 L st S q μ ρ) → (∀ (L st : List Value) (S : Sh) (q : Nat × Nat) (μ : Mi) (ρ : Mr), w_X12_could_46 (MS Z d) G Rp L st S q μ ρ → G 46 L st S q μ ρ) → (∀ (L st : List Value) (S : Sh) (q : Nat × Nat) (μ : Mi) (ρ : Mr), w_X12_could_59 (MS Z d) G Rp L st S q μ ρ → G 59 L st S q μ ρ) → (∀ (L st : List Value) (S : Sh) (q : Nat × Nat) (μ : Mi) (ρ : Mr), w_X12_could_60 (MS Z d) G Rp L st S q μ ρ → G 60 L st S q μ ρ) → w_X12_could_0 (MS Z d) G Rp [.ref a0, .int x1, .int x2] [] S (0, 0) μ ρ) : MS Z (d + 1) jX12_could [.ref a0, .int x1, .int x2] S μ ρ Rp :=
  MS_of [.ref a0, .int x1, .int x2] (by decide +kernel) rfl rfl (Nat.le_of_ble_eq_true rfl) rfl (fun p e R s m args below meth c C => b_X12_could_0 C _ _ _ _ _ _ (h _ (b_X12_could_15 C) (b_X12_could_30 C) (b_X12_could_46 C) (b_X12_could_59 C) (b_X12_could_60 C)))
def w_X12_isAnyElectable_0 (M : CT) (G : Nat → PT) (Rp : RT) : PT := tConst 0 <| tIstore 2 <| G 2
def w_X12_isAnyElectable_2 (M : CT) (G : Nat → PT) (Rp : RT) : PT := tIload 2 <| tConst 5 <| tIf2 (fun x y => y ≤ x) (G 24) <| tAload 0 <| tIload 2 <| tIload 1 <| tCallV M jX12_isElectable 12 27 2 <| tIf (fun x => x = 0) (G 18) <| tConst 1 <| tZret Rp
def w_X12_isAnyElectable_18 (M : CT) (G : Nat → PT) (Rp : RT) : PT := tIinc 2 1 <| tGoto (G 2)
def w_X12_isAnyElectable_24 (M : CT) (G : Nat → PT) (Rp : RT) : PT := tConst 0 <| tZret Rp
set_option maxRecDepth 20000 in
theorem b_X12_isAnyElectable_0 {Z : Zt} {d : Nat} {p : Program} {e : Env} {R : Room} {s : State} {m : MethodId} {args : Array Value} {below : List Frame} {meth : Method} {c : Code} {Rp : RT} (C : Cx Z d jX12_isAnyElectable RX12 p R s m args meth c) : Sd Z jX12_isAnyElectable p e R s m args below meth c (MQ below (QcS Z Rp) args s 0 0 (fun a => Z.2.2.1 < a)) 0 (w_X12_isAnyElectable_0 (MS Z d) (Gw Z 3 p e R s m args below meth c (MQ below (QcS Z Rp) args s 0 0 (fun a => Z.2.2.1 < a))) Rp) := by
  unfold w_X12_isAnyElectable_0
  refine s_iconst (n := 0) C (by decide +kernel) (by decide) ?_
  refine s_istore_n (k := 2) C (by decide +kernel) ?_
  exact (fun _ _ _ _ _ _ h => h)
set_option maxRecDepth 20000 in
theorem b_X12_isAnyElectable_2 {Z : Zt} {d : Nat} {p : Program} {e : Env} {R : Room} {s : State} {m : MethodId} {args : Array Value} {below : List Frame} {meth : Method} {c : Code} {Rp : RT} (C : Cx Z d jX12_isAnyElectable RX12 p R s m args meth c) : Sd Z jX12_isAnyElectable p e R s m args below meth c (MQ below (QcS Z Rp) args s 0 0 (fun a => Z.2.2.1 < a)) 2 (w_X12_isAnyElectable_2 (MS Z d) (Gw Z 3 p e R s m args below meth c (MQ below (QcS Z Rp) args s 0 0 (fun a => Z.2.2.1 < a))) Rp) := by
  unfold w_X12_isAnyElectable_2
  refine s_iload_n (k := 2) C (by decide +kernel) ?_
  refine s_iconst (n := 5) C (by decide +kernel) (by decide) ?_
  refine s_icmp_ge (off := 20) (tgt := 24) C (by decide +kernel) (by decide) (fun _ _ _ _ _ _ h => h) ?_
  refine s_aload_n (k := 0) C (by decide +kernel) ?_
  refine s_iload_n (k := 2) C (by decide +kernel) ?_
  refine s_iload_n (k := 1) C (by decide +kernel) ?_
  refine s_callV C rfl rfl (by decide +kernel) rfl w_8_156 w_8_158 w_p8_1 w_1_13 w_8_159 (by decide +kernel) ?_
  refine s_if_eq (off := 5) (tgt := 18) C (by decide +kernel) (by decide) (fun _ _ _ _ _ _ h => h) ?_
  refine s_iconst (n := 1) C (by decide +kernel) (by decide) ?_
  exact s_zret C rfl (by decide +kernel)
set_option maxRecDepth 20000 in
theorem b_X12_isAnyElectable_18 {Z : Zt} {d : Nat} {p : Program} {e : Env} {R : Room} {s : State} {m : MethodId} {args : Array Value} {below : List Frame} {meth : Method} {c : Code} {Rp : RT} (C : Cx Z d jX12_isAnyElectable RX12 p R s m args meth c) : Sd Z jX12_isAnyElectable p e R s m args below meth c (MQ below (QcS Z Rp) args s 0 0 (fun a => Z.2.2.1 < a)) 18 (w_X12_isAnyElectable_18 (MS Z d) (Gw Z 3 p e R s m args below meth c (MQ below (QcS Z Rp) args s 0 0 (fun a => Z.2.2.1 < a))) Rp) := by
  unfold w_X12_isAnyElectable_18
  refine s_iinc (n := 1) C (by decide +kernel) (by decide) ?_
  exact s_goto (off := (-19)) (tgt := 2) C (by decide +kernel) (by decide) (fun _ _ _ _ _ _ h => h)
set_option maxRecDepth 20000 in
theorem b_X12_isAnyElectable_24 {Z : Zt} {d : Nat} {p : Program} {e : Env} {R : Room} {s : State} {m : MethodId} {args : Array Value} {below : List Frame} {meth : Method} {c : Code} {Rp : RT} (C : Cx Z d jX12_isAnyElectable RX12 p R s m args meth c) : Sd Z jX12_isAnyElectable p e R s m args below meth c (MQ below (QcS Z Rp) args s 0 0 (fun a => Z.2.2.1 < a)) 24 (w_X12_isAnyElectable_24 (MS Z d) (Gw Z 3 p e R s m args below meth c (MQ below (QcS Z Rp) args s 0 0 (fun a => Z.2.2.1 < a))) Rp) := by
  unfold w_X12_isAnyElectable_24
  refine s_iconst (n := 0) C (by decide +kernel) (by decide) ?_
  exact s_zret C rfl (by decide +kernel)
theorem ms_X12_isAnyElectable {Z : Zt} {d : Nat} {S : Sh} {μ : Mi} {ρ : Mr} {Rp : RT} (a0 : Nat) (x1 : Int32) (h : ∀ G : Nat → PT, (∀ (L st : List Value) (S : Sh) (q : Nat × Nat) (μ : Mi) (ρ : Mr), w_X12_isAnyElectable_2 (MS Z d) G Rp L st S q μ ρ → G 2 L st S q μ ρ) → (∀ (L st : List Value) (S : Sh) (q : Nat × Nat) (μ : Mi) (ρ : Mr), w_X12_isAnyElectable_18 (MS Z d) G Rp L st S q μ ρ → G 18 L st S q μ ρ) → (∀ (L st : List Value) (S : Sh) (q : Nat × Nat) (μ : Mi) (ρ : Mr), w_X12_isAnyElectable_24 (MS Z d) G Rp L st S q μ ρ → G 24 L st S q μ ρ) → w_X12_isAnyElectable_0 (MS Z d) G Rp [.ref a0, .int x1, .null] [] S (0, 0) μ ρ) : MS Z (d + 1) jX12_isAnyElectable [.ref a0, .int x1] S μ ρ Rp :=
  MS_of [.ref a0, .int x1, .null] (by decide +kernel) rfl rfl (Nat.le_of_ble_eq_true rfl) rfl (fun p e R s m args below meth c C => b_X12_isAnyElectable_0 C _ _ _ _ _ _ (h _ (b_X12_isAnyElectable_2 C) (b_X12_isAnyElectable_18 C) (b_X12_isAnyElectable_24 C)))
def w_X12_fragile_0 (M : CT) (G : Nat → PT) (Rp : RT) : PT := tAload 0 <| tConst 0 <| tPutI 12 27 0 <| tAload 0 <| tCallV M jX12_upOnes 12 27 0 <| tIstore 1 <| tConst 5 <| tIstore 2 <| tConst 0 <| tIstore 3 <| G 14
def w_X12_fragile_14 (M : CT) (G : Nat → PT) (Rp : RT) : PT := tIload 3 <| tConst 31 <| tIf2 (fun x y => y < x) (G 59) <| tIload 3 <| tIload 1 <| tConst (-1) <| tBin (fun x y => x ^^^ y) <| tBin (fun x y => x &&& y) <| tIf (fun x => x ≠ 0) (G 53) <| tIload 3 <| tCallS M jX12_bits 1 <| tIload 2 <| tIf2 (fun x y => y ≤ x) (G 53) <| tAload 0 <| tIload 1 <| tIload 3 <| tConst (-1) <| tBin (fun x y => x ^^^ y) <| tBin (fun x y => x &&& y) <| tCallV M jX12_isAnyElectable 12 27 1 <| tIf (fun x => x ≠ 0) (G 53) <| tIload 3 <| tCallS M jX12_bits 1 <| tIstore 2 <| G 53
def w_X12_fragile_53 (M : CT) (G : Nat → PT) (Rp : RT) : PT := tIinc 3 1 <| tGoto (G 14)
def w_X12_fragile_59 (M : CT) (G : Nat → PT) (Rp : RT) : PT := tIload 2 <| tIret Rp
set_option maxRecDepth 20000 in
theorem b_X12_fragile_0 {Z : Zt} {d : Nat} {p : Program} {e : Env} {R : Room} {s : State} {m : MethodId} {args : Array Value} {below : List Frame} {meth : Method} {c : Code} {Rp : RT} (C : Cx Z d jX12_fragile RX12 p R s m args meth c) : Sd Z jX12_fragile p e R s m args below meth c (MQ below (QcS Z Rp) args s 0 0 (fun a => Z.2.2.1 < a)) 0 (w_X12_fragile_0 (MS Z d) (Gw Z 4 p e R s m args below meth c (MQ below (QcS Z Rp) args s 0 0 (fun a => Z.2.2.1 < a))) Rp) := by
  unfold w_X12_fragile_0
  refine s_aload_n (k := 0) C (by decide +kernel) ?_
  refine s_iconst (n := 0) C (by decide +kernel) (by decide) ?_
  refine s_putI C w_6_87 (by decide +kernel) rfl (Or.inl rfl) ?_
  refine s_aload_n (k := 0) C (by decide +kernel) ?_
  refine s_callV C rfl rfl (by decide +kernel) rfl w_8_152 w_8_154 w_p8_0 w_1_13 w_8_155 (by decide +kernel) ?_
  refine s_istore_n (k := 1) C (by decide +kernel) ?_
  refine s_iconst (n := 5) C (by decide +kernel) (by decide) ?_
  refine s_istore_n (k := 2) C (by decide +kernel) ?_
  refine s_iconst (n := 0) C (by decide +kernel) (by decide) ?_
  refine s_istore_n (k := 3) C (by decide +kernel) ?_
  exact (fun _ _ _ _ _ _ h => h)
set_option maxRecDepth 20000 in
theorem b_X12_fragile_14 {Z : Zt} {d : Nat} {p : Program} {e : Env} {R : Room} {s : State} {m : MethodId} {args : Array Value} {below : List Frame} {meth : Method} {c : Code} {Rp : RT} (C : Cx Z d jX12_fragile RX12 p R s m args meth c) : Sd Z jX12_fragile p e R s m args below meth c (MQ below (QcS Z Rp) args s 0 0 (fun a => Z.2.2.1 < a)) 14 (w_X12_fragile_14 (MS Z d) (Gw Z 4 p e R s m args below meth c (MQ below (QcS Z Rp) args s 0 0 (fun a => Z.2.2.1 < a))) Rp) := by
  unfold w_X12_fragile_14
  refine s_iload_n (k := 3) C (by decide +kernel) ?_
  refine s_bipush (n := 31) C (by decide +kernel) (by decide) ?_
  refine s_icmp_gt (off := 42) (tgt := 59) C (by decide +kernel) (by decide) (fun _ _ _ _ _ _ h => h) ?_
  refine s_iload_n (k := 3) C (by decide +kernel) ?_
  refine s_iload_n (k := 1) C (by decide +kernel) ?_
  refine s_iconst (n := (-1)) C (by decide +kernel) (by decide) ?_
  refine s_ixor C (by decide +kernel) ?_
  refine s_iand C (by decide +kernel) ?_
  refine s_if_ne (off := 28) (tgt := 53) C (by decide +kernel) (by decide) (fun _ _ _ _ _ _ h => h) ?_
  refine s_iload_n (k := 3) C (by decide +kernel) ?_
  refine s_callS C (by decide +kernel) rfl w_6_185 w_6_186 w_1_13 w_6_187 (by decide +kernel) ?_
  refine s_iload_n (k := 2) C (by decide +kernel) ?_
  refine s_icmp_ge (off := 20) (tgt := 53) C (by decide +kernel) (by decide) (fun _ _ _ _ _ _ h => h) ?_
  refine s_aload_n (k := 0) C (by decide +kernel) ?_
  refine s_iload_n (k := 1) C (by decide +kernel) ?_
  refine s_iload_n (k := 3) C (by decide +kernel) ?_
  refine s_iconst (n := (-1)) C (by decide +kernel) (by decide) ?_
  refine s_ixor C (by decide +kernel) ?_
  refine s_iand C (by decide +kernel) ?_
  refine s_callV C rfl rfl (by decide +kernel) rfl w_8_237 w_8_239 w_p8_10 w_1_13 w_9_0 (by decide +kernel) ?_
  refine s_if_ne (off := 8) (tgt := 53) C (by decide +kernel) (by decide) (fun _ _ _ _ _ _ h => h) ?_
  refine s_iload_n (k := 3) C (by decide +kernel) ?_
  refine s_callS C (by decide +kernel) rfl w_6_185 w_6_186 w_1_13 w_6_187 (by decide +kernel) ?_
  refine s_istore_n (k := 2) C (by decide +kernel) ?_
  exact (fun _ _ _ _ _ _ h => h)
set_option maxRecDepth 20000 in
theorem b_X12_fragile_53 {Z : Zt} {d : Nat} {p : Program} {e : Env} {R : Room} {s : State} {m : MethodId} {args : Array Value} {below : List Frame} {meth : Method} {c : Code} {Rp : RT} (C : Cx Z d jX12_fragile RX12 p R s m args meth c) : Sd Z jX12_fragile p e R s m args below meth c (MQ below (QcS Z Rp) args s 0 0 (fun a => Z.2.2.1 < a)) 53 (w_X12_fragile_53 (MS Z d) (Gw Z 4 p e R s m args below meth c (MQ below (QcS Z Rp) args s 0 0 (fun a => Z.2.2.1 < a))) Rp) := by
  unfold w_X12_fragile_53
  refine s_iinc (n := 1) C (by decide +kernel) (by decide) ?_
  exact s_goto (off := (-42)) (tgt := 14) C (by decide +kernel) (by decide) (fun _ _ _ _ _ _ h => h)
set_option maxRecDepth 20000 in
theorem b_X12_fragile_59 {Z : Zt} {d : Nat} {p : Program} {e : Env} {R : Room} {s : State} {m : MethodId} {args : Array Value} {below : List Frame} {meth : Method} {c : Code} {Rp : RT} (C : Cx Z d jX12_fragile RX12 p R s m args meth c) : Sd Z jX12_fragile p e R s m args below meth c (MQ below (QcS Z Rp) args s 0 0 (fun a => Z.2.2.1 < a)) 59 (w_X12_fragile_59 (MS Z d) (Gw Z 4 p e R s m args below meth c (MQ below (QcS Z Rp) args s 0 0 (fun a => Z.2.2.1 < a))) Rp) := by
  unfold w_X12_fragile_59
  refine s_iload_n (k := 2) C (by decide +kernel) ?_
  exact s_iret C rfl (by decide +kernel)
theorem ms_X12_fragile {Z : Zt} {d : Nat} {S : Sh} {μ : Mi} {ρ : Mr} {Rp : RT} (a0 : Nat) (h : ∀ G : Nat → PT, (∀ (L st : List Value) (S : Sh) (q : Nat × Nat) (μ : Mi) (ρ : Mr), w_X12_fragile_14 (MS Z d) G Rp L st S q μ ρ → G 14 L st S q μ ρ) → (∀ (L st : List Value) (S : Sh) (q : Nat × Nat) (μ : Mi) (ρ : Mr), w_X12_fragile_53 (MS Z d) G Rp L st S q μ ρ → G 53 L st S q μ ρ) → (∀ (L st : List Value) (S : Sh) (q : Nat × Nat) (μ : Mi) (ρ : Mr), w_X12_fragile_59 (MS Z d) G Rp L st S q μ ρ → G 59 L st S q μ ρ) → w_X12_fragile_0 (MS Z d) G Rp [.ref a0, .null, .null, .null] [] S (0, 0) μ ρ) : MS Z (d + 1) jX12_fragile [.ref a0] S μ ρ Rp :=
  MS_of [.ref a0, .null, .null, .null] (by decide +kernel) rfl rfl (Nat.le_of_ble_eq_true rfl) rfl (fun p e R s m args below meth c C => b_X12_fragile_0 C _ _ _ _ _ _ (h _ (b_X12_fragile_14 C) (b_X12_fragile_53 C) (b_X12_fragile_59 C)))
def w_X12_undo_0 (M : CT) (G : Nat → PT) (Rp : RT) : PT := tAload 0 <| tConst 0 <| tPutI 12 27 0 <| tIload 1 <| tI2l <| tLconst 1 <| tLconst 8 <| tCallS M jX12_within 3 <| tIf (fun x => x = 0) (G 25) <| tIload 1 <| tAload 0 <| tGetI 12 27 6 <| tIf2 (fun x y => x ≤ y) (G 28) <| G 25
def w_X12_undo_25 (M : CT) (G : Nat → PT) (Rp : RT) : PT := tConst (-3) <| tIret Rp
def w_X12_undo_28 (M : CT) (G : Nat → PT) (Rp : RT) : PT := tAload 0 <| tDup <| tGetI 12 27 6 <| tIload 1 <| tBin (fun x y => x - y) <| tPutI 12 27 6 <| tAload 0 <| tGetR 12 27 2 <| tConst 4516 <| tAload 0 <| tGetI 12 27 6 <| tBin (fun x y => x * y) <| tAload 0 <| tGetR 12 27 1 <| tConst 0 <| tConst 4516 <| tCallS M jX12_copies 5 <| tAload 0 <| tGetI 12 27 6 <| tIret Rp
set_option maxRecDepth 20000 in
theorem b_X12_undo_0 {Z : Zt} {d : Nat} {p : Program} {e : Env} {R : Room} {s : State} {m : MethodId} {args : Array Value} {below : List Frame} {meth : Method} {c : Code} {Rp : RT} (C : Cx Z d jX12_undo RX12 p R s m args meth c) : Sd Z jX12_undo p e R s m args below meth c (MQ below (QcS Z Rp) args s 0 0 (fun a => Z.2.2.1 < a)) 0 (w_X12_undo_0 (MS Z d) (Gw Z 2 p e R s m args below meth c (MQ below (QcS Z Rp) args s 0 0 (fun a => Z.2.2.1 < a))) Rp) := by
  unfold w_X12_undo_0
  refine s_aload_n (k := 0) C (by decide +kernel) ?_
  refine s_iconst (n := 0) C (by decide +kernel) (by decide) ?_
  refine s_putI C w_6_87 (by decide +kernel) rfl (Or.inl rfl) ?_
  refine s_iload_n (k := 1) C (by decide +kernel) ?_
  refine s_i2l C (by decide +kernel) ?_
  refine s_lconst (n := 1) C (by decide +kernel) (by decide) ?_
  refine s_ldc2 C w_8_131 (by decide +kernel) ?_
  refine s_callS C (by decide +kernel) rfl w_6_175 w_6_176 w_1_13 w_6_177 (by decide +kernel) ?_
  refine s_if_eq (off := 11) (tgt := 25) C (by decide +kernel) (by decide) (fun _ _ _ _ _ _ h => h) ?_
  refine s_iload_n (k := 1) C (by decide +kernel) ?_
  refine s_aload_n (k := 0) C (by decide +kernel) ?_
  refine s_getI C w_6_93 (by decide +kernel) rfl ?_
  refine s_icmp_le (off := 6) (tgt := 28) C (by decide +kernel) (by decide) (fun _ _ _ _ _ _ h => h) ?_
  exact (fun _ _ _ _ _ _ h => h)
set_option maxRecDepth 20000 in
theorem b_X12_undo_25 {Z : Zt} {d : Nat} {p : Program} {e : Env} {R : Room} {s : State} {m : MethodId} {args : Array Value} {below : List Frame} {meth : Method} {c : Code} {Rp : RT} (C : Cx Z d jX12_undo RX12 p R s m args meth c) : Sd Z jX12_undo p e R s m args below meth c (MQ below (QcS Z Rp) args s 0 0 (fun a => Z.2.2.1 < a)) 25 (w_X12_undo_25 (MS Z d) (Gw Z 2 p e R s m args below meth c (MQ below (QcS Z Rp) args s 0 0 (fun a => Z.2.2.1 < a))) Rp) := by
  unfold w_X12_undo_25
  refine s_bipush (n := (-3)) C (by decide +kernel) (by decide) ?_
  exact s_iret C rfl (by decide +kernel)
set_option maxRecDepth 20000 in
theorem b_X12_undo_28 {Z : Zt} {d : Nat} {p : Program} {e : Env} {R : Room} {s : State} {m : MethodId} {args : Array Value} {below : List Frame} {meth : Method} {c : Code} {Rp : RT} (C : Cx Z d jX12_undo RX12 p R s m args meth c) : Sd Z jX12_undo p e R s m args below meth c (MQ below (QcS Z Rp) args s 0 0 (fun a => Z.2.2.1 < a)) 28 (w_X12_undo_28 (MS Z d) (Gw Z 2 p e R s m args below meth c (MQ below (QcS Z Rp) args s 0 0 (fun a => Z.2.2.1 < a))) Rp) := by
  unfold w_X12_undo_28
  refine s_aload_n (k := 0) C (by decide +kernel) ?_
  refine s_dup C (by decide +kernel) ?_
  refine s_getI C w_6_93 (by decide +kernel) rfl ?_
  refine s_iload_n (k := 1) C (by decide +kernel) ?_
  refine s_isub C (by decide +kernel) ?_
  refine s_putI C w_6_93 (by decide +kernel) rfl (Or.inl rfl) ?_
  refine s_aload_n (k := 0) C (by decide +kernel) ?_
  refine s_getR C w_6_89 (by decide +kernel) rfl ?_
  refine s_sipush (n := 4516) C (by decide +kernel) (by decide) ?_
  refine s_aload_n (k := 0) C (by decide +kernel) ?_
  refine s_getI C w_6_93 (by decide +kernel) rfl ?_
  refine s_imul C (by decide +kernel) ?_
  refine s_aload_n (k := 0) C (by decide +kernel) ?_
  refine s_getR C w_6_88 (by decide +kernel) rfl ?_
  refine s_iconst (n := 0) C (by decide +kernel) (by decide) ?_
  refine s_sipush (n := 4516) C (by decide +kernel) (by decide) ?_
  refine s_callS C (by decide +kernel) rfl w_6_182 w_6_183 w_1_13 w_6_184 (by decide +kernel) ?_
  refine s_aload_n (k := 0) C (by decide +kernel) ?_
  refine s_getI C w_6_93 (by decide +kernel) rfl ?_
  exact s_iret C rfl (by decide +kernel)
theorem ms_X12_undo {Z : Zt} {d : Nat} {S : Sh} {μ : Mi} {ρ : Mr} {Rp : RT} (a0 : Nat) (x1 : Int32) (h : ∀ G : Nat → PT, (∀ (L st : List Value) (S : Sh) (q : Nat × Nat) (μ : Mi) (ρ : Mr), w_X12_undo_25 (MS Z d) G Rp L st S q μ ρ → G 25 L st S q μ ρ) → (∀ (L st : List Value) (S : Sh) (q : Nat × Nat) (μ : Mi) (ρ : Mr), w_X12_undo_28 (MS Z d) G Rp L st S q μ ρ → G 28 L st S q μ ρ) → w_X12_undo_0 (MS Z d) G Rp [.ref a0, .int x1] [] S (0, 0) μ ρ) : MS Z (d + 1) jX12_undo [.ref a0, .int x1] S μ ρ Rp :=
  MS_of [.ref a0, .int x1] (by decide +kernel) rfl rfl (Nat.le_of_ble_eq_true rfl) rfl (fun p e R s m args below meth c C => b_X12_undo_0 C _ _ _ _ _ _ (h _ (b_X12_undo_25 C) (b_X12_undo_28 C)))
def w_X12_image_0 (M : CT) (G : Nat → PT) (Rp : RT) : PT := tAload 0 <| tConst 0 <| tPutI 12 27 0 <| tIload 1 <| tI2l <| tLconst 0 <| tLconst 1 <| tCallS M jX12_within 3 <| tIf (fun x => x ≠ 0) (G 18) <| tConst (-2) <| tIret Rp
def w_X12_image_18 (M : CT) (G : Nat → PT) (Rp : RT) : PT := tAload 0 <| tGetR 12 27 1 <| tConst 0 <| tAload 0 <| tGetR 12 27 1 <| tConst 4516 <| tIload 1 <| tConst 1 <| tBin (fun x y => x + y) <| tBin (fun x y => x * y) <| tConst 4516 <| tCallS M jX12_copies 5 <| tAload 0 <| tGetR 12 27 7 <| tIload 1 <| tConst 1 <| tZast <| tConst 0 <| tIret Rp
set_option maxRecDepth 20000 in
theorem b_X12_image_0 {Z : Zt} {d : Nat} {p : Program} {e : Env} {R : Room} {s : State} {m : MethodId} {args : Array Value} {below : List Frame} {meth : Method} {c : Code} {Rp : RT} (C : Cx Z d jX12_image RX12 p R s m args meth c) : Sd Z jX12_image p e R s m args below meth c (MQ below (QcS Z Rp) args s 0 0 (fun a => Z.2.2.1 < a)) 0 (w_X12_image_0 (MS Z d) (Gw Z 2 p e R s m args below meth c (MQ below (QcS Z Rp) args s 0 0 (fun a => Z.2.2.1 < a))) Rp) := by
  unfold w_X12_image_0
  refine s_aload_n (k := 0) C (by decide +kernel) ?_
  refine s_iconst (n := 0) C (by decide +kernel) (by decide) ?_
  refine s_putI C w_6_87 (by decide +kernel) rfl (Or.inl rfl) ?_
  refine s_iload_n (k := 1) C (by decide +kernel) ?_
  refine s_i2l C (by decide +kernel) ?_
  refine s_lconst (n := 0) C (by decide +kernel) (by decide) ?_
  refine s_lconst (n := 1) C (by decide +kernel) (by decide) ?_
  refine s_callS C (by decide +kernel) rfl w_6_175 w_6_176 w_1_13 w_6_177 (by decide +kernel) ?_
  refine s_if_ne (off := 6) (tgt := 18) C (by decide +kernel) (by decide) (fun _ _ _ _ _ _ h => h) ?_
  refine s_bipush (n := (-2)) C (by decide +kernel) (by decide) ?_
  exact s_iret C rfl (by decide +kernel)
set_option maxRecDepth 20000 in
theorem b_X12_image_18 {Z : Zt} {d : Nat} {p : Program} {e : Env} {R : Room} {s : State} {m : MethodId} {args : Array Value} {below : List Frame} {meth : Method} {c : Code} {Rp : RT} (C : Cx Z d jX12_image RX12 p R s m args meth c) : Sd Z jX12_image p e R s m args below meth c (MQ below (QcS Z Rp) args s 0 0 (fun a => Z.2.2.1 < a)) 18 (w_X12_image_18 (MS Z d) (Gw Z 2 p e R s m args below meth c (MQ below (QcS Z Rp) args s 0 0 (fun a => Z.2.2.1 < a))) Rp) := by
  unfold w_X12_image_18
  refine s_aload_n (k := 0) C (by decide +kernel) ?_
  refine s_getR C w_6_88 (by decide +kernel) rfl ?_
  refine s_iconst (n := 0) C (by decide +kernel) (by decide) ?_
  refine s_aload_n (k := 0) C (by decide +kernel) ?_
  refine s_getR C w_6_88 (by decide +kernel) rfl ?_
  refine s_sipush (n := 4516) C (by decide +kernel) (by decide) ?_
  refine s_iload_n (k := 1) C (by decide +kernel) ?_
  refine s_iconst (n := 1) C (by decide +kernel) (by decide) ?_
  refine s_iadd C (by decide +kernel) ?_
  refine s_imul C (by decide +kernel) ?_
  refine s_sipush (n := 4516) C (by decide +kernel) (by decide) ?_
  refine s_callS C (by decide +kernel) rfl w_6_182 w_6_183 w_1_13 w_6_184 (by decide +kernel) ?_
  refine s_aload_n (k := 0) C (by decide +kernel) ?_
  refine s_getR C w_6_94 (by decide +kernel) rfl ?_
  refine s_iload_n (k := 1) C (by decide +kernel) ?_
  refine s_iconst (n := 1) C (by decide +kernel) (by decide) ?_
  refine s_zast C (by decide +kernel) ?_
  refine s_iconst (n := 0) C (by decide +kernel) (by decide) ?_
  exact s_iret C rfl (by decide +kernel)
theorem ms_X12_image {Z : Zt} {d : Nat} {S : Sh} {μ : Mi} {ρ : Mr} {Rp : RT} (a0 : Nat) (x1 : Int32) (h : ∀ G : Nat → PT, (∀ (L st : List Value) (S : Sh) (q : Nat × Nat) (μ : Mi) (ρ : Mr), w_X12_image_18 (MS Z d) G Rp L st S q μ ρ → G 18 L st S q μ ρ) → w_X12_image_0 (MS Z d) G Rp [.ref a0, .int x1] [] S (0, 0) μ ρ) : MS Z (d + 1) jX12_image [.ref a0, .int x1] S μ ρ Rp :=
  MS_of [.ref a0, .int x1] (by decide +kernel) rfl rfl (Nat.le_of_ble_eq_true rfl) rfl (fun p e R s m args below meth c C => b_X12_image_0 C _ _ _ _ _ _ (h _ (b_X12_image_18 C)))
def w_X12_restore_0 (M : CT) (G : Nat → PT) (Rp : RT) : PT := tAload 0 <| tConst 0 <| tPutI 12 27 0 <| tIload 1 <| tI2l <| tLconst 0 <| tLconst 1 <| tCallS M jX12_within 3 <| tIf (fun x => x ≠ 0) (G 18) <| tConst (-2) <| tIret Rp
def w_X12_restore_18 (M : CT) (G : Nat → PT) (Rp : RT) : PT := tAload 0 <| tGetR 12 27 7 <| tIload 1 <| tAld 22 <| tIf (fun x => x ≠ 0) (G 30) <| tConst (-6) <| tIret Rp
def w_X12_restore_30 (M : CT) (G : Nat → PT) (Rp : RT) : PT := tAload 0 <| tGetR 12 27 1 <| tConst 4516 <| tIload 1 <| tConst 1 <| tBin (fun x y => x + y) <| tBin (fun x y => x * y) <| tAload 0 <| tGetR 12 27 1 <| tConst 0 <| tConst 4516 <| tCallS M jX12_copies 5 <| tAload 0 <| tConst 0 <| tPutI 12 27 6 <| tConst 0 <| tIret Rp
set_option maxRecDepth 20000 in
theorem b_X12_restore_0 {Z : Zt} {d : Nat} {p : Program} {e : Env} {R : Room} {s : State} {m : MethodId} {args : Array Value} {below : List Frame} {meth : Method} {c : Code} {Rp : RT} (C : Cx Z d jX12_restore RX12 p R s m args meth c) : Sd Z jX12_restore p e R s m args below meth c (MQ below (QcS Z Rp) args s 0 0 (fun a => Z.2.2.1 < a)) 0 (w_X12_restore_0 (MS Z d) (Gw Z 2 p e R s m args below meth c (MQ below (QcS Z Rp) args s 0 0 (fun a => Z.2.2.1 < a))) Rp) := by
  unfold w_X12_restore_0
  refine s_aload_n (k := 0) C (by decide +kernel) ?_
  refine s_iconst (n := 0) C (by decide +kernel) (by decide) ?_
  refine s_putI C w_6_87 (by decide +kernel) rfl (Or.inl rfl) ?_
  refine s_iload_n (k := 1) C (by decide +kernel) ?_
  refine s_i2l C (by decide +kernel) ?_
  refine s_lconst (n := 0) C (by decide +kernel) (by decide) ?_
  refine s_lconst (n := 1) C (by decide +kernel) (by decide) ?_
  refine s_callS C (by decide +kernel) rfl w_6_175 w_6_176 w_1_13 w_6_177 (by decide +kernel) ?_
  refine s_if_ne (off := 6) (tgt := 18) C (by decide +kernel) (by decide) (fun _ _ _ _ _ _ h => h) ?_
  refine s_bipush (n := (-2)) C (by decide +kernel) (by decide) ?_
  exact s_iret C rfl (by decide +kernel)
set_option maxRecDepth 20000 in
theorem b_X12_restore_18 {Z : Zt} {d : Nat} {p : Program} {e : Env} {R : Room} {s : State} {m : MethodId} {args : Array Value} {below : List Frame} {meth : Method} {c : Code} {Rp : RT} (C : Cx Z d jX12_restore RX12 p R s m args meth c) : Sd Z jX12_restore p e R s m args below meth c (MQ below (QcS Z Rp) args s 0 0 (fun a => Z.2.2.1 < a)) 18 (w_X12_restore_18 (MS Z d) (Gw Z 2 p e R s m args below meth c (MQ below (QcS Z Rp) args s 0 0 (fun a => Z.2.2.1 < a))) Rp) := by
  unfold w_X12_restore_18
  refine s_aload_n (k := 0) C (by decide +kernel) ?_
  refine s_getR C w_6_94 (by decide +kernel) rfl ?_
  refine s_iload_n (k := 1) C (by decide +kernel) ?_
  refine s_zald C (by decide +kernel) ?_
  refine s_if_ne (off := 6) (tgt := 30) C (by decide +kernel) (by decide) (fun _ _ _ _ _ _ h => h) ?_
  refine s_bipush (n := (-6)) C (by decide +kernel) (by decide) ?_
  exact s_iret C rfl (by decide +kernel)
set_option maxRecDepth 20000 in
theorem b_X12_restore_30 {Z : Zt} {d : Nat} {p : Program} {e : Env} {R : Room} {s : State} {m : MethodId} {args : Array Value} {below : List Frame} {meth : Method} {c : Code} {Rp : RT} (C : Cx Z d jX12_restore RX12 p R s m args meth c) : Sd Z jX12_restore p e R s m args below meth c (MQ below (QcS Z Rp) args s 0 0 (fun a => Z.2.2.1 < a)) 30 (w_X12_restore_30 (MS Z d) (Gw Z 2 p e R s m args below meth c (MQ below (QcS Z Rp) args s 0 0 (fun a => Z.2.2.1 < a))) Rp) := by
  unfold w_X12_restore_30
  refine s_aload_n (k := 0) C (by decide +kernel) ?_
  refine s_getR C w_6_88 (by decide +kernel) rfl ?_
  refine s_sipush (n := 4516) C (by decide +kernel) (by decide) ?_
  refine s_iload_n (k := 1) C (by decide +kernel) ?_
  refine s_iconst (n := 1) C (by decide +kernel) (by decide) ?_
  refine s_iadd C (by decide +kernel) ?_
  refine s_imul C (by decide +kernel) ?_
  refine s_aload_n (k := 0) C (by decide +kernel) ?_
  refine s_getR C w_6_88 (by decide +kernel) rfl ?_
  refine s_iconst (n := 0) C (by decide +kernel) (by decide) ?_
  refine s_sipush (n := 4516) C (by decide +kernel) (by decide) ?_
  refine s_callS C (by decide +kernel) rfl w_6_182 w_6_183 w_1_13 w_6_184 (by decide +kernel) ?_
  refine s_aload_n (k := 0) C (by decide +kernel) ?_
  refine s_iconst (n := 0) C (by decide +kernel) (by decide) ?_
  refine s_putI C w_6_93 (by decide +kernel) rfl (Or.inl rfl) ?_
  refine s_iconst (n := 0) C (by decide +kernel) (by decide) ?_
  exact s_iret C rfl (by decide +kernel)
theorem ms_X12_restore {Z : Zt} {d : Nat} {S : Sh} {μ : Mi} {ρ : Mr} {Rp : RT} (a0 : Nat) (x1 : Int32) (h : ∀ G : Nat → PT, (∀ (L st : List Value) (S : Sh) (q : Nat × Nat) (μ : Mi) (ρ : Mr), w_X12_restore_18 (MS Z d) G Rp L st S q μ ρ → G 18 L st S q μ ρ) → (∀ (L st : List Value) (S : Sh) (q : Nat × Nat) (μ : Mi) (ρ : Mr), w_X12_restore_30 (MS Z d) G Rp L st S q μ ρ → G 30 L st S q μ ρ) → w_X12_restore_0 (MS Z d) G Rp [.ref a0, .int x1] [] S (0, 0) μ ρ) : MS Z (d + 1) jX12_restore [.ref a0, .int x1] S μ ρ Rp :=
  MS_of [.ref a0, .int x1] (by decide +kernel) rfl rfl (Nat.le_of_ble_eq_true rfl) rfl (fun p e R s m args below meth c C => b_X12_restore_0 C _ _ _ _ _ _ (h _ (b_X12_restore_18 C) (b_X12_restore_30 C)))
def w_X12_greatest_0 (M : CT) (G : Nat → PT) (Rp : RT) : PT := tConst 0 <| tIstore 2 <| tConst 0 <| tIstore 3 <| G 4
def w_X12_greatest_4 (M : CT) (G : Nat → PT) (Rp : RT) : PT := tIload 3 <| tConst 5 <| tIf2 (fun x y => y ≤ x) (G 26) <| tIload 2 <| tAload 0 <| tIload 3 <| tIload 1 <| tCallV M jX12_of 12 27 2 <| tCallS M jX12_greater 2 <| tIstore 2 <| tIinc 3 1 <| tGoto (G 4)
def w_X12_greatest_26 (M : CT) (G : Nat → PT) (Rp : RT) : PT := tIload 2 <| tIret Rp
set_option maxRecDepth 20000 in
theorem b_X12_greatest_0 {Z : Zt} {d : Nat} {p : Program} {e : Env} {R : Room} {s : State} {m : MethodId} {args : Array Value} {below : List Frame} {meth : Method} {c : Code} {Rp : RT} (C : Cx Z d jX12_greatest RX12 p R s m args meth c) : Sd Z jX12_greatest p e R s m args below meth c (MQ below (QcS Z Rp) args s 0 0 (fun a => Z.2.2.1 < a)) 0 (w_X12_greatest_0 (MS Z d) (Gw Z 4 p e R s m args below meth c (MQ below (QcS Z Rp) args s 0 0 (fun a => Z.2.2.1 < a))) Rp) := by
  unfold w_X12_greatest_0
  refine s_iconst (n := 0) C (by decide +kernel) (by decide) ?_
  refine s_istore_n (k := 2) C (by decide +kernel) ?_
  refine s_iconst (n := 0) C (by decide +kernel) (by decide) ?_
  refine s_istore_n (k := 3) C (by decide +kernel) ?_
  exact (fun _ _ _ _ _ _ h => h)
set_option maxRecDepth 20000 in
theorem b_X12_greatest_4 {Z : Zt} {d : Nat} {p : Program} {e : Env} {R : Room} {s : State} {m : MethodId} {args : Array Value} {below : List Frame} {meth : Method} {c : Code} {Rp : RT} (C : Cx Z d jX12_greatest RX12 p R s m args meth c) : Sd Z jX12_greatest p e R s m args below meth c (MQ below (QcS Z Rp) args s 0 0 (fun a => Z.2.2.1 < a)) 4 (w_X12_greatest_4 (MS Z d) (Gw Z 4 p e R s m args below meth c (MQ below (QcS Z Rp) args s 0 0 (fun a => Z.2.2.1 < a))) Rp) := by
  unfold w_X12_greatest_4
  refine s_iload_n (k := 3) C (by decide +kernel) ?_
  refine s_iconst (n := 5) C (by decide +kernel) (by decide) ?_
  refine s_icmp_ge (off := 20) (tgt := 26) C (by decide +kernel) (by decide) (fun _ _ _ _ _ _ h => h) ?_
  refine s_iload_n (k := 2) C (by decide +kernel) ?_
  refine s_aload_n (k := 0) C (by decide +kernel) ?_
  refine s_iload_n (k := 3) C (by decide +kernel) ?_
  refine s_iload_n (k := 1) C (by decide +kernel) ?_
  refine s_callV C rfl rfl (by decide +kernel) rfl w_6_220 w_6_222 w_p3_11 w_1_13 w_6_223 (by decide +kernel) ?_
  refine s_callS C (by decide +kernel) rfl w_7_58 w_7_59 w_1_13 w_7_60 (by decide +kernel) ?_
  refine s_istore_n (k := 2) C (by decide +kernel) ?_
  refine s_iinc (n := 1) C (by decide +kernel) (by decide) ?_
  exact s_goto (off := (-19)) (tgt := 4) C (by decide +kernel) (by decide) (fun _ _ _ _ _ _ h => h)
set_option maxRecDepth 20000 in
theorem b_X12_greatest_26 {Z : Zt} {d : Nat} {p : Program} {e : Env} {R : Room} {s : State} {m : MethodId} {args : Array Value} {below : List Frame} {meth : Method} {c : Code} {Rp : RT} (C : Cx Z d jX12_greatest RX12 p R s m args meth c) : Sd Z jX12_greatest p e R s m args below meth c (MQ below (QcS Z Rp) args s 0 0 (fun a => Z.2.2.1 < a)) 26 (w_X12_greatest_26 (MS Z d) (Gw Z 4 p e R s m args below meth c (MQ below (QcS Z Rp) args s 0 0 (fun a => Z.2.2.1 < a))) Rp) := by
  unfold w_X12_greatest_26
  refine s_iload_n (k := 2) C (by decide +kernel) ?_
  exact s_iret C rfl (by decide +kernel)
theorem ms_X12_greatest {Z : Zt} {d : Nat} {S : Sh} {μ : Mi} {ρ : Mr} {Rp : RT} (a0 : Nat) (x1 : Int32) (h : ∀ G : Nat → PT, (∀ (L st : List Value) (S : Sh) (q : Nat × Nat) (μ : Mi) (ρ : Mr), w_X12_greatest_4 (MS Z d) G Rp L st S q μ ρ → G 4 L st S q μ ρ) → (∀ (L st : List Value) (S : Sh) (q : Nat × Nat) (μ : Mi) (ρ : Mr), w_X12_greatest_26 (MS Z d) G Rp L st S q μ ρ → G 26 L st S q μ ρ) → w_X12_greatest_0 (MS Z d) G Rp [.ref a0, .int x1, .null, .null] [] S (0, 0) μ ρ) : MS Z (d + 1) jX12_greatest [.ref a0, .int x1] S μ ρ Rp :=
  MS_of [.ref a0, .int x1, .null, .null] (by decide +kernel) rfl rfl (Nat.le_of_ble_eq_true rfl) rfl (fun p e R s m args below meth c C => b_X12_greatest_0 C _ _ _ _ _ _ (h _ (b_X12_greatest_4 C) (b_X12_greatest_26 C)))
def w_X12_leadersNow_0 (M : CT) (G : Nat → PT) (Rp : RT) : PT := tConst 0 <| tIstore 1 <| tConst 0 <| tIstore 2 <| G 4
def w_X12_leadersNow_4 (M : CT) (G : Nat → PT) (Rp : RT) : PT := tIload 2 <| tConst 5 <| tIf2 (fun x y => y ≤ x) (G 33) <| tIload 1 <| tAload 0 <| tIload 2 <| tCallV M jX12_isLeader 12 27 1 <| tIf (fun x => x = 0) (G 24) <| tConst 1 <| tIload 2 <| tBin (fun x y => x <<< (y &&& 31)) <| tGoto (G 25)
def w_X12_leadersNow_24 (M : CT) (G : Nat → PT) (Rp : RT) : PT := tConst 0 <| G 25
def w_X12_leadersNow_25 (M : CT) (G : Nat → PT) (Rp : RT) : PT := tBin (fun x y => x ||| y) <| tIstore 1 <| tIinc 2 1 <| tGoto (G 4)
def w_X12_leadersNow_33 (M : CT) (G : Nat → PT) (Rp : RT) : PT := tIload 1 <| tIret Rp
set_option maxRecDepth 20000 in
theorem b_X12_leadersNow_0 {Z : Zt} {d : Nat} {p : Program} {e : Env} {R : Room} {s : State} {m : MethodId} {args : Array Value} {below : List Frame} {meth : Method} {c : Code} {Rp : RT} (C : Cx Z d jX12_leadersNow RX12 p R s m args meth c) : Sd Z jX12_leadersNow p e R s m args below meth c (MQ below (QcS Z Rp) args s 0 0 (fun a => Z.2.2.1 < a)) 0 (w_X12_leadersNow_0 (MS Z d) (Gw Z 3 p e R s m args below meth c (MQ below (QcS Z Rp) args s 0 0 (fun a => Z.2.2.1 < a))) Rp) := by
  unfold w_X12_leadersNow_0
  refine s_iconst (n := 0) C (by decide +kernel) (by decide) ?_
  refine s_istore_n (k := 1) C (by decide +kernel) ?_
  refine s_iconst (n := 0) C (by decide +kernel) (by decide) ?_
  refine s_istore_n (k := 2) C (by decide +kernel) ?_
  exact (fun _ _ _ _ _ _ h => h)
set_option maxRecDepth 20000 in
theorem b_X12_leadersNow_4 {Z : Zt} {d : Nat} {p : Program} {e : Env} {R : Room} {s : State} {m : MethodId} {args : Array Value} {below : List Frame} {meth : Method} {c : Code} {Rp : RT} (C : Cx Z d jX12_leadersNow RX12 p R s m args meth c) : Sd Z jX12_leadersNow p e R s m args below meth c (MQ below (QcS Z Rp) args s 0 0 (fun a => Z.2.2.1 < a)) 4 (w_X12_leadersNow_4 (MS Z d) (Gw Z 3 p e R s m args below meth c (MQ below (QcS Z Rp) args s 0 0 (fun a => Z.2.2.1 < a))) Rp) := by
  unfold w_X12_leadersNow_4
  refine s_iload_n (k := 2) C (by decide +kernel) ?_
  refine s_iconst (n := 5) C (by decide +kernel) (by decide) ?_
  refine s_icmp_ge (off := 27) (tgt := 33) C (by decide +kernel) (by decide) (fun _ _ _ _ _ _ h => h) ?_
  refine s_iload_n (k := 1) C (by decide +kernel) ?_
  refine s_aload_n (k := 0) C (by decide +kernel) ?_
  refine s_iload_n (k := 2) C (by decide +kernel) ?_
  refine s_callV C rfl rfl (by decide +kernel) rfl w_6_236 w_6_238 w_p3_15 w_1_13 w_6_239 (by decide +kernel) ?_
  refine s_if_eq (off := 9) (tgt := 24) C (by decide +kernel) (by decide) (fun _ _ _ _ _ _ h => h) ?_
  refine s_iconst (n := 1) C (by decide +kernel) (by decide) ?_
  refine s_iload_n (k := 2) C (by decide +kernel) ?_
  refine s_ishl C (by decide +kernel) ?_
  exact s_goto (off := 4) (tgt := 25) C (by decide +kernel) (by decide) (fun _ _ _ _ _ _ h => h)
set_option maxRecDepth 20000 in
theorem b_X12_leadersNow_24 {Z : Zt} {d : Nat} {p : Program} {e : Env} {R : Room} {s : State} {m : MethodId} {args : Array Value} {below : List Frame} {meth : Method} {c : Code} {Rp : RT} (C : Cx Z d jX12_leadersNow RX12 p R s m args meth c) : Sd Z jX12_leadersNow p e R s m args below meth c (MQ below (QcS Z Rp) args s 0 0 (fun a => Z.2.2.1 < a)) 24 (w_X12_leadersNow_24 (MS Z d) (Gw Z 3 p e R s m args below meth c (MQ below (QcS Z Rp) args s 0 0 (fun a => Z.2.2.1 < a))) Rp) := by
  unfold w_X12_leadersNow_24
  refine s_iconst (n := 0) C (by decide +kernel) (by decide) ?_
  exact (fun _ _ _ _ _ _ h => h)
set_option maxRecDepth 20000 in
theorem b_X12_leadersNow_25 {Z : Zt} {d : Nat} {p : Program} {e : Env} {R : Room} {s : State} {m : MethodId} {args : Array Value} {below : List Frame} {meth : Method} {c : Code} {Rp : RT} (C : Cx Z d jX12_leadersNow RX12 p R s m args meth c) : Sd Z jX12_leadersNow p e R s m args below meth c (MQ below (QcS Z Rp) args s 0 0 (fun a => Z.2.2.1 < a)) 25 (w_X12_leadersNow_25 (MS Z d) (Gw Z 3 p e R s m args below meth c (MQ below (QcS Z Rp) args s 0 0 (fun a => Z.2.2.1 < a))) Rp) := by
  unfold w_X12_leadersNow_25
  refine s_ior C (by decide +kernel) ?_
  refine s_istore_n (k := 1) C (by decide +kernel) ?_
  refine s_iinc (n := 1) C (by decide +kernel) (by decide) ?_
  exact s_goto (off := (-26)) (tgt := 4) C (by decide +kernel) (by decide) (fun _ _ _ _ _ _ h => h)
set_option maxRecDepth 20000 in
theorem b_X12_leadersNow_33 {Z : Zt} {d : Nat} {p : Program} {e : Env} {R : Room} {s : State} {m : MethodId} {args : Array Value} {below : List Frame} {meth : Method} {c : Code} {Rp : RT} (C : Cx Z d jX12_leadersNow RX12 p R s m args meth c) : Sd Z jX12_leadersNow p e R s m args below meth c (MQ below (QcS Z Rp) args s 0 0 (fun a => Z.2.2.1 < a)) 33 (w_X12_leadersNow_33 (MS Z d) (Gw Z 3 p e R s m args below meth c (MQ below (QcS Z Rp) args s 0 0 (fun a => Z.2.2.1 < a))) Rp) := by
  unfold w_X12_leadersNow_33
  refine s_iload_n (k := 1) C (by decide +kernel) ?_
  exact s_iret C rfl (by decide +kernel)
theorem ms_X12_leadersNow {Z : Zt} {d : Nat} {S : Sh} {μ : Mi} {ρ : Mr} {Rp : RT} (a0 : Nat) (h : ∀ G : Nat → PT, (∀ (L st : List Value) (S : Sh) (q : Nat × Nat) (μ : Mi) (ρ : Mr), w_X12_leadersNow_4 (MS Z d) G Rp L st S q μ ρ → G 4 L st S q μ ρ) → (∀ (L st : List Value) (S : Sh) (q : Nat × Nat) (μ : Mi) (ρ : Mr), w_X12_leadersNow_24 (MS Z d) G Rp L st S q μ ρ → G 24 L st S q μ ρ) → (∀ (L st : List Value) (S : Sh) (q : Nat × Nat) (μ : Mi) (ρ : Mr), w_X12_leadersNow_25 (MS Z d) G Rp L st S q μ ρ → G 25 L st S q μ ρ) → (∀ (L st : List Value) (S : Sh) (q : Nat × Nat) (μ : Mi) (ρ : Mr), w_X12_leadersNow_33 (MS Z d) G Rp L st S q μ ρ → G 33 L st S q μ ρ) → w_X12_leadersNow_0 (MS Z d) G Rp [.ref a0, .null, .null] [] S (0, 0) μ ρ) : MS Z (d + 1) jX12_leadersNow [.ref a0] S μ ρ Rp :=
  MS_of [.ref a0, .null, .null] (by decide +kernel) rfl rfl (Nat.le_of_ble_eq_true rfl) rfl (fun p e R s m args below meth c C => b_X12_leadersNow_0 C _ _ _ _ _ _ (h _ (b_X12_leadersNow_4 C) (b_X12_leadersNow_24 C) (b_X12_leadersNow_25 C) (b_X12_leadersNow_33 C)))
def w_X12_count_0 (M : CT) (G : Nat → PT) (Rp : RT) : PT := tAload 0 <| tConst 0 <| tPutI 12 27 0 <| tIload 1 <| tSw [(0, G 64), (1, G 73), (2, G 82), (3, G 91), (4, G 96), (5, G 101), (6, G 107), (7, G 114), (8, G 119), (9, G 128), (10, G 137)] (G 142)
def w_X12_count_64 (M : CT) (G : Nat → PT) (Rp : RT) : PT := tAload 0 <| tGetR 12 27 1 <| tConst 4510 <| tAld 20 <| tIret Rp
def w_X12_count_73 (M : CT) (G : Nat → PT) (Rp : RT) : PT := tAload 0 <| tGetR 12 27 1 <| tConst 4511 <| tAld 20 <| tIret Rp
def w_X12_count_82 (M : CT) (G : Nat → PT) (Rp : RT) : PT := tAload 0 <| tGetR 12 27 1 <| tConst 4512 <| tAld 20 <| tIret Rp
def w_X12_count_91 (M : CT) (G : Nat → PT) (Rp : RT) : PT := tAload 0 <| tCallV M jX12_upOnes 12 27 0 <| tIret Rp
def w_X12_count_96 (M : CT) (G : Nat → PT) (Rp : RT) : PT := tAload 0 <| tCallV M jX12_leadersNow 12 27 0 <| tIret Rp
def w_X12_count_101 (M : CT) (G : Nat → PT) (Rp : RT) : PT := tAload 0 <| tConst 1 <| tCallV M jX12_greatest 12 27 1 <| tIret Rp
def w_X12_count_107 (M : CT) (G : Nat → PT) (Rp : RT) : PT := tAload 0 <| tConst 7 <| tCallV M jX12_greatest 12 27 1 <| tIret Rp
def w_X12_count_114 (M : CT) (G : Nat → PT) (Rp : RT) : PT := tAload 0 <| tGetI 12 27 6 <| tIret Rp
def w_X12_count_119 (M : CT) (G : Nat → PT) (Rp : RT) : PT := tAload 0 <| tGetR 12 27 1 <| tConst 4514 <| tAld 20 <| tIret Rp
def w_X12_count_128 (M : CT) (G : Nat → PT) (Rp : RT) : PT := tAload 0 <| tGetR 12 27 1 <| tConst 4515 <| tAld 20 <| tIret Rp
def w_X12_count_137 (M : CT) (G : Nat → PT) (Rp : RT) : PT := tAload 0 <| tGetI 12 27 14 <| tIret Rp
def w_X12_count_142 (M : CT) (G : Nat → PT) (Rp : RT) : PT := tConst (-1) <| tIret Rp
set_option maxRecDepth 20000 in
theorem b_X12_count_0 {Z : Zt} {d : Nat} {p : Program} {e : Env} {R : Room} {s : State} {m : MethodId} {args : Array Value} {below : List Frame} {meth : Method} {c : Code} {Rp : RT} (C : Cx Z d jX12_count RX12 p R s m args meth c) : Sd Z jX12_count p e R s m args below meth c (MQ below (QcS Z Rp) args s 0 0 (fun a => Z.2.2.1 < a)) 0 (w_X12_count_0 (MS Z d) (Gw Z 2 p e R s m args below meth c (MQ below (QcS Z Rp) args s 0 0 (fun a => Z.2.2.1 < a))) Rp) := by
  unfold w_X12_count_0
  refine s_aload_n (k := 0) C (by decide +kernel) ?_
  refine s_iconst (n := 0) C (by decide +kernel) (by decide) ?_
  refine s_putI C w_6_87 (by decide +kernel) rfl (Or.inl rfl) ?_
  refine s_iload_n (k := 1) C (by decide +kernel) ?_
  refine s_tsw (df := 136) (lo := 0) (hi := 10) (offs := #[58, 67, 76, 85, 90, 95, 101, 108, 113, 122, 131]) (len := 58) (tgt := 142) C (by decide +kernel) (by decide) (fun _ _ _ _ _ _ h => h) (fun i r h => ?_) (fun x h => tsw_out 11 x (fun q hq => ?_))
  · match i, h with
    | 0, h => cases h; dsimp only; exact ⟨by decide, by decide, 58, 64, by rfl, by decide, (fun _ _ _ _ _ _ h => h)⟩
    | 1, h => cases h; dsimp only; exact ⟨by decide, by decide, 67, 73, by rfl, by decide, (fun _ _ _ _ _ _ h => h)⟩
    | 2, h => cases h; dsimp only; exact ⟨by decide, by decide, 76, 82, by rfl, by decide, (fun _ _ _ _ _ _ h => h)⟩
    | 3, h => cases h; dsimp only; exact ⟨by decide, by decide, 85, 91, by rfl, by decide, (fun _ _ _ _ _ _ h => h)⟩
    | 4, h => cases h; dsimp only; exact ⟨by decide, by decide, 90, 96, by rfl, by decide, (fun _ _ _ _ _ _ h => h)⟩
    | 5, h => cases h; dsimp only; exact ⟨by decide, by decide, 95, 101, by rfl, by decide, (fun _ _ _ _ _ _ h => h)⟩
    | 6, h => cases h; dsimp only; exact ⟨by decide, by decide, 101, 107, by rfl, by decide, (fun _ _ _ _ _ _ h => h)⟩
    | 7, h => cases h; dsimp only; exact ⟨by decide, by decide, 108, 114, by rfl, by decide, (fun _ _ _ _ _ _ h => h)⟩
    | 8, h => cases h; dsimp only; exact ⟨by decide, by decide, 113, 119, by rfl, by decide, (fun _ _ _ _ _ _ h => h)⟩
    | 9, h => cases h; dsimp only; exact ⟨by decide, by decide, 122, 128, by rfl, by decide, (fun _ _ _ _ _ _ h => h)⟩
    | 10, h => cases h; dsimp only; exact ⟨by decide, by decide, 131, 137, by rfl, by decide, (fun _ _ _ _ _ _ h => h)⟩
    | q + 11, h => simp at h
  · match q, hq with
    | 0, _ => exact h _ (List.mem_of_getElem? (i := 0) rfl)
    | 1, _ => exact h _ (List.mem_of_getElem? (i := 1) rfl)
    | 2, _ => exact h _ (List.mem_of_getElem? (i := 2) rfl)
    | 3, _ => exact h _ (List.mem_of_getElem? (i := 3) rfl)
    | 4, _ => exact h _ (List.mem_of_getElem? (i := 4) rfl)
    | 5, _ => exact h _ (List.mem_of_getElem? (i := 5) rfl)
    | 6, _ => exact h _ (List.mem_of_getElem? (i := 6) rfl)
    | 7, _ => exact h _ (List.mem_of_getElem? (i := 7) rfl)
    | 8, _ => exact h _ (List.mem_of_getElem? (i := 8) rfl)
    | 9, _ => exact h _ (List.mem_of_getElem? (i := 9) rfl)
    | 10, _ => exact h _ (List.mem_of_getElem? (i := 10) rfl)
    | q + 11, hq => exact absurd hq (by omega)
set_option maxRecDepth 20000 in
theorem b_X12_count_64 {Z : Zt} {d : Nat} {p : Program} {e : Env} {R : Room} {s : State} {m : MethodId} {args : Array Value} {below : List Frame} {meth : Method} {c : Code} {Rp : RT} (C : Cx Z d jX12_count RX12 p R s m args meth c) : Sd Z jX12_count p e R s m args below meth c (MQ below (QcS Z Rp) args s 0 0 (fun a => Z.2.2.1 < a)) 64 (w_X12_count_64 (MS Z d) (Gw Z 2 p e R s m args below meth c (MQ below (QcS Z Rp) args s 0 0 (fun a => Z.2.2.1 < a))) Rp) := by
  unfold w_X12_count_64
  refine s_aload_n (k := 0) C (by decide +kernel) ?_
  refine s_getR C w_6_88 (by decide +kernel) rfl ?_
  refine s_sipush (n := 4510) C (by decide +kernel) (by decide) ?_
  refine s_iald C (by decide +kernel) ?_
  exact s_iret C rfl (by decide +kernel)
set_option maxRecDepth 20000 in
theorem b_X12_count_73 {Z : Zt} {d : Nat} {p : Program} {e : Env} {R : Room} {s : State} {m : MethodId} {args : Array Value} {below : List Frame} {meth : Method} {c : Code} {Rp : RT} (C : Cx Z d jX12_count RX12 p R s m args meth c) : Sd Z jX12_count p e R s m args below meth c (MQ below (QcS Z Rp) args s 0 0 (fun a => Z.2.2.1 < a)) 73 (w_X12_count_73 (MS Z d) (Gw Z 2 p e R s m args below meth c (MQ below (QcS Z Rp) args s 0 0 (fun a => Z.2.2.1 < a))) Rp) := by
  unfold w_X12_count_73
  refine s_aload_n (k := 0) C (by decide +kernel) ?_
  refine s_getR C w_6_88 (by decide +kernel) rfl ?_
  refine s_sipush (n := 4511) C (by decide +kernel) (by decide) ?_
  refine s_iald C (by decide +kernel) ?_
  exact s_iret C rfl (by decide +kernel)
set_option maxRecDepth 20000 in
theorem b_X12_count_82 {Z : Zt} {d : Nat} {p : Program} {e : Env} {R : Room} {s : State} {m : MethodId} {args : Array Value} {below : List Frame} {meth : Method} {c : Code} {Rp : RT} (C : Cx Z d jX12_count RX12 p R s m args meth c) : Sd Z jX12_count p e R s m args below meth c (MQ below (QcS Z Rp) args s 0 0 (fun a => Z.2.2.1 < a)) 82 (w_X12_count_82 (MS Z d) (Gw Z 2 p e R s m args below meth c (MQ below (QcS Z Rp) args s 0 0 (fun a => Z.2.2.1 < a))) Rp) := by
  unfold w_X12_count_82
  refine s_aload_n (k := 0) C (by decide +kernel) ?_
  refine s_getR C w_6_88 (by decide +kernel) rfl ?_
  refine s_sipush (n := 4512) C (by decide +kernel) (by decide) ?_
  refine s_iald C (by decide +kernel) ?_
  exact s_iret C rfl (by decide +kernel)
set_option maxRecDepth 20000 in
theorem b_X12_count_91 {Z : Zt} {d : Nat} {p : Program} {e : Env} {R : Room} {s : State} {m : MethodId} {args : Array Value} {below : List Frame} {meth : Method} {c : Code} {Rp : RT} (C : Cx Z d jX12_count RX12 p R s m args meth c) : Sd Z jX12_count p e R s m args below meth c (MQ below (QcS Z Rp) args s 0 0 (fun a => Z.2.2.1 < a)) 91 (w_X12_count_91 (MS Z d) (Gw Z 2 p e R s m args below meth c (MQ below (QcS Z Rp) args s 0 0 (fun a => Z.2.2.1 < a))) Rp) := by
  unfold w_X12_count_91
  refine s_aload_n (k := 0) C (by decide +kernel) ?_
  refine s_callV C rfl rfl (by decide +kernel) rfl w_8_152 w_8_154 w_p8_0 w_1_13 w_8_155 (by decide +kernel) ?_
  exact s_iret C rfl (by decide +kernel)
set_option maxRecDepth 20000 in
theorem b_X12_count_96 {Z : Zt} {d : Nat} {p : Program} {e : Env} {R : Room} {s : State} {m : MethodId} {args : Array Value} {below : List Frame} {meth : Method} {c : Code} {Rp : RT} (C : Cx Z d jX12_count RX12 p R s m args meth c) : Sd Z jX12_count p e R s m args below meth c (MQ below (QcS Z Rp) args s 0 0 (fun a => Z.2.2.1 < a)) 96 (w_X12_count_96 (MS Z d) (Gw Z 2 p e R s m args below meth c (MQ below (QcS Z Rp) args s 0 0 (fun a => Z.2.2.1 < a))) Rp) := by
  unfold w_X12_count_96
  refine s_aload_n (k := 0) C (by decide +kernel) ?_
  refine s_callV C rfl rfl (by decide +kernel) rfl w_9_17 w_9_19 w_p8_11 w_1_13 w_9_20 (by decide +kernel) ?_
  exact s_iret C rfl (by decide +kernel)
set_option maxRecDepth 20000 in
theorem b_X12_count_101 {Z : Zt} {d : Nat} {p : Program} {e : Env} {R : Room} {s : State} {m : MethodId} {args : Array Value} {below : List Frame} {meth : Method} {c : Code} {Rp : RT} (C : Cx Z d jX12_count RX12 p R s m args meth c) : Sd Z jX12_count p e R s m args below meth c (MQ below (QcS Z Rp) args s 0 0 (fun a => Z.2.2.1 < a)) 101 (w_X12_count_101 (MS Z d) (Gw Z 2 p e R s m args below meth c (MQ below (QcS Z Rp) args s 0 0 (fun a => Z.2.2.1 < a))) Rp) := by
  unfold w_X12_count_101
  refine s_aload_n (k := 0) C (by decide +kernel) ?_
  refine s_iconst (n := 1) C (by decide +kernel) (by decide) ?_
  refine s_callV C rfl rfl (by decide +kernel) rfl w_9_21 w_9_23 w_p8_12 w_1_13 w_9_24 (by decide +kernel) ?_
  exact s_iret C rfl (by decide +kernel)
set_option maxRecDepth 20000 in
theorem b_X12_count_107 {Z : Zt} {d : Nat} {p : Program} {e : Env} {R : Room} {s : State} {m : MethodId} {args : Array Value} {below : List Frame} {meth : Method} {c : Code} {Rp : RT} (C : Cx Z d jX12_count RX12 p R s m args meth c) : Sd Z jX12_count p e R s m args below meth c (MQ below (QcS Z Rp) args s 0 0 (fun a => Z.2.2.1 < a)) 107 (w_X12_count_107 (MS Z d) (Gw Z 2 p e R s m args below meth c (MQ below (QcS Z Rp) args s 0 0 (fun a => Z.2.2.1 < a))) Rp) := by
  unfold w_X12_count_107
  refine s_aload_n (k := 0) C (by decide +kernel) ?_
  refine s_bipush (n := 7) C (by decide +kernel) (by decide) ?_
  refine s_callV C rfl rfl (by decide +kernel) rfl w_9_21 w_9_23 w_p8_12 w_1_13 w_9_24 (by decide +kernel) ?_
  exact s_iret C rfl (by decide +kernel)
set_option maxRecDepth 20000 in
theorem b_X12_count_114 {Z : Zt} {d : Nat} {p : Program} {e : Env} {R : Room} {s : State} {m : MethodId} {args : Array Value} {below : List Frame} {meth : Method} {c : Code} {Rp : RT} (C : Cx Z d jX12_count RX12 p R s m args meth c) : Sd Z jX12_count p e R s m args below meth c (MQ below (QcS Z Rp) args s 0 0 (fun a => Z.2.2.1 < a)) 114 (w_X12_count_114 (MS Z d) (Gw Z 2 p e R s m args below meth c (MQ below (QcS Z Rp) args s 0 0 (fun a => Z.2.2.1 < a))) Rp) := by
  unfold w_X12_count_114
  refine s_aload_n (k := 0) C (by decide +kernel) ?_
  refine s_getI C w_6_93 (by decide +kernel) rfl ?_
  exact s_iret C rfl (by decide +kernel)
set_option maxRecDepth 20000 in
theorem b_X12_count_119 {Z : Zt} {d : Nat} {p : Program} {e : Env} {R : Room} {s : State} {m : MethodId} {args : Array Value} {below : List Frame} {meth : Method} {c : Code} {Rp : RT} (C : Cx Z d jX12_count RX12 p R s m args meth c) : Sd Z jX12_count p e R s m args below meth c (MQ below (QcS Z Rp) args s 0 0 (fun a => Z.2.2.1 < a)) 119 (w_X12_count_119 (MS Z d) (Gw Z 2 p e R s m args below meth c (MQ below (QcS Z Rp) args s 0 0 (fun a => Z.2.2.1 < a))) Rp) := by
  unfold w_X12_count_119
  refine s_aload_n (k := 0) C (by decide +kernel) ?_
  refine s_getR C w_6_88 (by decide +kernel) rfl ?_
  refine s_sipush (n := 4514) C (by decide +kernel) (by decide) ?_
  refine s_iald C (by decide +kernel) ?_
  exact s_iret C rfl (by decide +kernel)
set_option maxRecDepth 20000 in
theorem b_X12_count_128 {Z : Zt} {d : Nat} {p : Program} {e : Env} {R : Room} {s : State} {m : MethodId} {args : Array Value} {below : List Frame} {meth : Method} {c : Code} {Rp : RT} (C : Cx Z d jX12_count RX12 p R s m args meth c) : Sd Z jX12_count p e R s m args below meth c (MQ below (QcS Z Rp) args s 0 0 (fun a => Z.2.2.1 < a)) 128 (w_X12_count_128 (MS Z d) (Gw Z 2 p e R s m args below meth c (MQ below (QcS Z Rp) args s 0 0 (fun a => Z.2.2.1 < a))) Rp) := by
  unfold w_X12_count_128
  refine s_aload_n (k := 0) C (by decide +kernel) ?_
  refine s_getR C w_6_88 (by decide +kernel) rfl ?_
  refine s_sipush (n := 4515) C (by decide +kernel) (by decide) ?_
  refine s_iald C (by decide +kernel) ?_
  exact s_iret C rfl (by decide +kernel)
set_option maxRecDepth 20000 in
theorem b_X12_count_137 {Z : Zt} {d : Nat} {p : Program} {e : Env} {R : Room} {s : State} {m : MethodId} {args : Array Value} {below : List Frame} {meth : Method} {c : Code} {Rp : RT} (C : Cx Z d jX12_count RX12 p R s m args meth c) : Sd Z jX12_count p e R s m args below meth c (MQ below (QcS Z Rp) args s 0 0 (fun a => Z.2.2.1 < a)) 137 (w_X12_count_137 (MS Z d) (Gw Z 2 p e R s m args below meth c (MQ below (QcS Z Rp) args s 0 0 (fun a => Z.2.2.1 < a))) Rp) := by
  unfold w_X12_count_137
  refine s_aload_n (k := 0) C (by decide +kernel) ?_
  refine s_getI C w_6_101 (by decide +kernel) rfl ?_
  exact s_iret C rfl (by decide +kernel)
set_option maxRecDepth 20000 in
theorem b_X12_count_142 {Z : Zt} {d : Nat} {p : Program} {e : Env} {R : Room} {s : State} {m : MethodId} {args : Array Value} {below : List Frame} {meth : Method} {c : Code} {Rp : RT} (C : Cx Z d jX12_count RX12 p R s m args meth c) : Sd Z jX12_count p e R s m args below meth c (MQ below (QcS Z Rp) args s 0 0 (fun a => Z.2.2.1 < a)) 142 (w_X12_count_142 (MS Z d) (Gw Z 2 p e R s m args below meth c (MQ below (QcS Z Rp) args s 0 0 (fun a => Z.2.2.1 < a))) Rp) := by
  unfold w_X12_count_142
  refine s_iconst (n := (-1)) C (by decide +kernel) (by decide) ?_
  exact s_iret C rfl (by decide +kernel)
theorem ms_X12_count {Z : Zt} {d : Nat} {S : Sh} {μ : Mi} {ρ : Mr} {Rp : RT} (a0 : Nat) (x1 : Int32) (h : ∀ G : Nat → PT, (∀ (L st : List Value) (S : Sh) (q : Nat × Nat) (μ : Mi) (ρ : Mr), w_X12_count_64 (MS Z d) G Rp L st S q μ ρ → G 64 L st S q μ ρ) → (∀ (L st : List Value) (S : Sh) (q : Nat × Nat) (μ : Mi) (ρ : Mr), w_X12_count_73 (MS Z d) G Rp L st S q μ ρ → G 73 L st S q μ ρ) → (∀ (L st : List Value) (S : Sh) (q : Nat × Nat) (μ : Mi) (ρ : Mr), w_X12_count_82 (MS Z d) G Rp L st S q μ ρ → G 82 L st S q μ ρ) → (∀ (L st : List Value) (S : Sh) (q : Nat × Nat) (μ : Mi) (ρ : Mr), w_X12_count_91 (MS Z d) G Rp L st S q μ ρ → G 91 L st S q μ ρ) → (∀ (L st : List Value) (S : Sh) (q : Nat × Nat) (μ : Mi) (ρ : Mr), w_X12_count_96 (MS Z d) G Rp L st S q μ ρ → G 96 L st S q μ ρ) → (∀ (L st : List Value) (S : Sh) (q : Nat × Nat) (μ : Mi) (ρ : Mr), w_X12_count_101 (MS Z d) G Rp L st S q μ ρ → G 101 L st S q μ ρ) → (∀ (L st : List Value) (S : Sh) (q : Nat × Nat) (μ : Mi) (ρ : Mr), w_X12_count_107 (MS Z d) G Rp L st S q μ ρ → G 107 L st S q μ ρ) → (∀ (L st : List Value) (S : Sh) (q : Nat × Nat) (μ : Mi) (ρ : Mr), w_X12_count_114 (MS Z d) G Rp L st S q μ ρ → G 114 L st S q μ ρ) → (∀ (L st : List Value) (S : Sh) (q : Nat × Nat) (μ : Mi) (ρ : Mr), w_X12_count_119 (MS Z d) G Rp L st S q μ ρ → G 119 L st S q μ ρ) → (∀ (L st : List Value) (S : Sh) (q : Nat × Nat) (μ : Mi) (ρ : Mr), w_X12_count_128 (MS Z d) G Rp L st S q μ ρ → G 128 L st S q μ ρ) → (∀ (L st : List Value) (S : Sh) (q : Nat × Nat) (μ : Mi) (ρ : Mr), w_X12_count_137 (MS Z d) G Rp L st S q μ ρ → G 137 L st S q μ ρ) → (∀ (L st : List Value) (S : Sh) (q : Nat × Nat) (μ : Mi) (ρ : Mr), w_X12_count_142 (MS Z d) G Rp L st S q μ ρ → G 142 L st S q μ ρ) → w_X12_count_0 (MS Z d) G Rp [.ref a0, .int x1] [] S (0, 0) μ ρ) : MS Z (d + 1) jX12_count [.ref a0, .int x1] S μ ρ Rp :=
  MS_of [.ref a0, .int x1] (by decide +kernel) rfl rfl (Nat.le_of_ble_eq_true rfl) rfl (fun p e R s m args below meth c C => b_X12_count_0 C _ _ _ _ _ _ (h _ (b_X12_count_64 C) (b_X12_count_73 C) (b_X12_count_82 C) (b_X12_count_91 C) (b_X12_count_96 C) (b_X12_count_101 C) (b_X12_count_107 C) (b_X12_count_114 C) (b_X12_count_119 C) (b_X12_count_128 C) (b_X12_count_137 C) (b_X12_count_142 C)))
