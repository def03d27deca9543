/-! ===== the reference: compact, stop; acts begin and end ===== -/
theorem cp_s {B : Rw} {a b k : Nat} (h : a + k < b ∨ b + k ≤ a + k) : up (cpF B B a b k) (b + k) (cpF B B a b k (a + k)) = cpF B B a b (k + 1) := by
  funext i
  have e : cpF B B a b k (a + k) = B (a + k) := cpF_out (by omega)
  rw [e]
  unfold up cpF
  by_cases h1 : i = b + k
  · rw [if_pos h1, if_pos (by omega), show a + (i - b) = a + k by omega]
  · rw [if_neg h1]
    by_cases h2 : b ≤ i ∧ i < b + k
    · rw [if_pos h2, if_pos (by omega)]
    · rw [if_neg h2, if_neg (by omega)]
theorem cp_0 {B : Rw} {a b : Nat} : cpF B B a b 0 = B := by funext i; unfold cpF; rw [if_neg (by omega)]
theorem lt4' {k : Nat} (h : k < 4) : ¬ (4 : Int32) ≤ nI k := by rw [show (4 : Int32) = nI 4 from rfl, nI_leI (by decide) (by omega)]; omega
def w_X12_actCompact_167 (M : CT) (G : Nat → PT) (Rp : RT) : PT := tIload 3 <| tIret Rp
def w_X12_actCompact_135 (M : CT) (G : Nat → PT) (Rp : RT) : PT := tIload 5 <| tConst 4 <| tIf2 (fun x y => y ≤ x) (w_X12_actCompact_167 M G Rp) <| tAload 0 <| tIload 1 <| tConst 20 <| tIload 5 <| tBin (fun x y => x + y) <| tAload 0 <| tIload 1 <| tConst 16 <| tIload 5 <| tBin (fun x y => x + y) <| tFn 3 F_X12_of <| tFn 4 F_X12_lays <| tIinc 5 1 <| tGoto (G 135)
def w_X12_actCompact_109 (M : CT) (G : Nat → PT) (Rp : RT) : PT := tFn 4 F_X12_lays <| tAload 0 <| tIload 1 <| tConst 6 <| tAload 0 <| tIload 1 <| tIload 2 <| tFn 3 F_X12_termAt <| tFn 4 F_X12_lays <| tAload 0 <| tIload 1 <| tConst 5 <| tIload 2 <| tFn 4 F_X12_lays <| tConst 0 <| tIstore 5 <| G 135
def w_X12_actCompact_105 (M : CT) (G : Nat → PT) (Rp : RT) : PT := tAload 0 <| tGetI 12 27 9 <| w_X12_actCompact_109 M G Rp
def w_X12_actCompact_89 (M : CT) (G : Nat → PT) (Rp : RT) : PT := tFn 4 F_X12_lays <| tAload 0 <| tIload 1 <| tConst 10 <| tIload 4 <| tIf (fun x => x = 0) (w_X12_actCompact_105 M G Rp) <| tConst 0 <| tGoto (w_X12_actCompact_109 M G Rp)
def w_X12_actCompact_85 (M : CT) (G : Nat → PT) (Rp : RT) : PT := tAload 0 <| tGetI 12 27 8 <| w_X12_actCompact_89 M G Rp
def w_X12_actCompact_70 (M : CT) (G : Nat → PT) (Rp : RT) : PT := tIstore 4 <| tAload 0 <| tIload 1 <| tConst 9 <| tIload 4 <| tIf (fun x => x = 0) (w_X12_actCompact_85 M G Rp) <| tConst 0 <| tGoto (w_X12_actCompact_89 M G Rp)
def w_X12_actCompact_69 (M : CT) (G : Nat → PT) (Rp : RT) : PT := tConst 0 <| w_X12_actCompact_70 M G Rp
def w_X12_actCompact_42 (M : CT) (G : Nat → PT) (Rp : RT) : PT := tAload 0 <| tIload 1 <| tIload 2 <| tFn 3 F_X12_laysMembersUpTo <| tAload 0 <| tGetI 12 27 11 <| tIf (fun x => x ≠ 0) (w_X12_actCompact_69 M G Rp) <| tAload 0 <| tIload 1 <| tConst 9 <| tFn 3 F_X12_of <| tIf (fun x => x ≠ 0) (w_X12_actCompact_69 M G Rp) <| tConst 1 <| tGoto (w_X12_actCompact_70 M G Rp)
def w_X12_actCompact_39 (M : CT) (G : Nat → PT) (Rp : RT) : PT := tConst (-5) <| tIret Rp
def w_X12_actCompact_10 (M : CT) (G : Nat → PT) (Rp : RT) : PT := tAload 0 <| tIload 1 <| tConst 7 <| tFn 3 F_X12_of <| tIstore 2 <| tIload 2 <| tAload 0 <| tIload 1 <| tConst 5 <| tFn 3 F_X12_of <| tBin (fun x y => x - y) <| tIstore 3 <| tAload 0 <| tIload 1 <| tFn 2 F_X12_isUp <| tIf (fun x => x = 0) (w_X12_actCompact_39 M G Rp) <| tIload 3 <| tIf (fun x => x ≠ 0) (w_X12_actCompact_42 M G Rp) <| w_X12_actCompact_39 M G Rp
def w_X12_actCompact_0 (M : CT) (G : Nat → PT) (Rp : RT) : PT := tIload 1 <| tFn 1 F_X12_isStore <| tIf (fun x => x ≠ 0) (w_X12_actCompact_10 M G Rp) <| tConst (-2) <| tIret Rp
set_option maxRecDepth 20000 in
theorem b_X12_actCompact_167 {Z : Zt} {d : Nat} {p : Program} {e : Env} {R : Room} {s : State} {m : MethodId} {args : Array Value} {below : List Frame} {meth : Method} {c : Code} {Rp : RT} (C : Cx Z (d + 3) jX12_actCompact RX12 p R s m args meth c) : Sd Z jX12_actCompact p e R s m args below meth c (MQ below (QcS Z Rp) args s 0 0 (fun a => Z.2.2.1 < a)) 167 (w_X12_actCompact_167 (MS Z (d + 3)) (Gw Z 6 p e R s m args below meth c (MQ below (QcS Z Rp) args s 0 0 (fun a => Z.2.2.1 < a))) Rp) := by
  unfold w_X12_actCompact_167
  refine s_iload_n (k := 3) C (by decide +kernel) ?_
  exact s_iret C rfl (by decide +kernel)
set_option maxRecDepth 20000 in
theorem b_X12_actCompact_135 {Z : Zt} {d : Nat} {p : Program} {e : Env} {R : Room} {s : State} {m : MethodId} {args : Array Value} {below : List Frame} {meth : Method} {c : Code} {Rp : RT} (C : Cx Z (d + 3) jX12_actCompact RX12 p R s m args meth c) : Sd Z jX12_actCompact p e R s m args below meth c (MQ below (QcS Z Rp) args s 0 0 (fun a => Z.2.2.1 < a)) 135 (w_X12_actCompact_135 (MS Z (d + 3)) (Gw Z 6 p e R s m args below meth c (MQ below (QcS Z Rp) args s 0 0 (fun a => Z.2.2.1 < a))) Rp) := by
  unfold w_X12_actCompact_135
  refine s_iload (k := 5) C (by decide +kernel) ?_
  refine s_iconst (n := 4) C (by decide +kernel) (by decide) ?_
  refine s_icmp_ge (off := 29) (tgt := 167) C (by decide +kernel) (by decide) (b_X12_actCompact_167 C) ?_
  refine s_aload_n (k := 0) C (by decide +kernel) ?_
  refine s_iload_n (k := 1) C (by decide +kernel) ?_
  refine s_bipush (n := 20) C (by decide +kernel) (by decide) ?_
  refine s_iload (k := 5) C (by decide +kernel) ?_
  refine s_iadd C (by decide +kernel) ?_
  refine s_aload_n (k := 0) C (by decide +kernel) ?_
  refine s_iload_n (k := 1) C (by decide +kernel) ?_
  refine s_bipush (n := 16) C (by decide +kernel) (by decide) ?_
  refine s_iload (k := 5) C (by decide +kernel) ?_
  refine s_iadd C (by decide +kernel) ?_
  refine s_fnV C (j2 := jX12_of) (cl := 12) (nf := 27) rfl rfl (by decide +kernel) rfl w_6_220 w_6_222 w_p3_11 w_1_13 w_6_223 (by decide +kernel) (fun _ _ _ _ _ h => f_X12_of h) (fun _ _ _ _ _ h => r_X12_of h) ?_
  refine s_fnV C (j2 := jX12_lays) (cl := 12) (nf := 27) rfl rfl (by decide +kernel) rfl w_6_82 w_6_84 w_p3_4 w_1_13 w_6_85 (by decide +kernel) (fun _ _ _ _ _ h => f_X12_lays h) (fun _ _ _ _ _ h => r_X12_lays h) ?_
  refine s_iinc (n := 1) C (by decide +kernel) (by decide) ?_
  exact s_goto (off := (-29)) (tgt := 135) C (by decide +kernel) (by decide) (fun _ _ _ _ _ _ h => h)
set_option maxRecDepth 20000 in
theorem b_X12_actCompact_109 {Z : Zt} {d : Nat} {p : Program} {e : Env} {R : Room} {s : State} {m : MethodId} {args : Array Value} {below : List Frame} {meth : Method} {c : Code} {Rp : RT} (C : Cx Z (d + 3) jX12_actCompact RX12 p R s m args meth c) : Sd Z jX12_actCompact p e R s m args below meth c (MQ below (QcS Z Rp) args s 0 0 (fun a => Z.2.2.1 < a)) 109 (w_X12_actCompact_109 (MS Z (d + 3)) (Gw Z 6 p e R s m args below meth c (MQ below (QcS Z Rp) args s 0 0 (fun a => Z.2.2.1 < a))) Rp) := by
  unfold w_X12_actCompact_109
  refine s_fnV C (j2 := jX12_lays) (cl := 12) (nf := 27) rfl rfl (by decide +kernel) rfl w_6_82 w_6_84 w_p3_4 w_1_13 w_6_85 (by decide +kernel) (fun _ _ _ _ _ h => f_X12_lays h) (fun _ _ _ _ _ h => r_X12_lays h) ?_
  refine s_aload_n (k := 0) C (by decide +kernel) ?_
  refine s_iload_n (k := 1) C (by decide +kernel) ?_
  refine s_bipush (n := 6) C (by decide +kernel) (by decide) ?_
  refine s_aload_n (k := 0) C (by decide +kernel) ?_
  refine s_iload_n (k := 1) C (by decide +kernel) ?_
  refine s_iload_n (k := 2) C (by decide +kernel) ?_
  refine s_fnV C (j2 := jX12_termAt) (cl := 12) (nf := 27) rfl rfl (by decide +kernel) rfl w_7_23 w_7_25 w_p4_5 w_1_13 w_7_26 (by decide +kernel) (fun _ _ _ _ _ h => f_X12_termAt h) (fun _ _ _ _ _ h => r_X12_termAt h) ?_
  refine s_fnV C (j2 := jX12_lays) (cl := 12) (nf := 27) rfl rfl (by decide +kernel) rfl w_6_82 w_6_84 w_p3_4 w_1_13 w_6_85 (by decide +kernel) (fun _ _ _ _ _ h => f_X12_lays h) (fun _ _ _ _ _ h => r_X12_lays h) ?_
  refine s_aload_n (k := 0) C (by decide +kernel) ?_
  refine s_iload_n (k := 1) C (by decide +kernel) ?_
  refine s_iconst (n := 5) C (by decide +kernel) (by decide) ?_
  refine s_iload_n (k := 2) C (by decide +kernel) ?_
  refine s_fnV C (j2 := jX12_lays) (cl := 12) (nf := 27) rfl rfl (by decide +kernel) rfl w_6_82 w_6_84 w_p3_4 w_1_13 w_6_85 (by decide +kernel) (fun _ _ _ _ _ h => f_X12_lays h) (fun _ _ _ _ _ h => r_X12_lays h) ?_
  refine s_iconst (n := 0) C (by decide +kernel) (by decide) ?_
  refine s_istore (k := 5) C (by decide +kernel) ?_
  exact (fun _ _ _ _ _ _ h => h)
set_option maxRecDepth 20000 in
theorem b_X12_actCompact_105 {Z : Zt} {d : Nat} {p : Program} {e : Env} {R : Room} {s : State} {m : MethodId} {args : Array Value} {below : List Frame} {meth : Method} {c : Code} {Rp : RT} (C : Cx Z (d + 3) jX12_actCompact RX12 p R s m args meth c) : Sd Z jX12_actCompact p e R s m args below meth c (MQ below (QcS Z Rp) args s 0 0 (fun a => Z.2.2.1 < a)) 105 (w_X12_actCompact_105 (MS Z (d + 3)) (Gw Z 6 p e R s m args below meth c (MQ below (QcS Z Rp) args s 0 0 (fun a => Z.2.2.1 < a))) Rp) := by
  unfold w_X12_actCompact_105
  refine s_aload_n (k := 0) C (by decide +kernel) ?_
  refine s_getI C w_6_96 (by decide +kernel) rfl ?_
  exact (b_X12_actCompact_109 C)
set_option maxRecDepth 20000 in
theorem b_X12_actCompact_89 {Z : Zt} {d : Nat} {p : Program} {e : Env} {R : Room} {s : State} {m : MethodId} {args : Array Value} {below : List Frame} {meth : Method} {c : Code} {Rp : RT} (C : Cx Z (d + 3) jX12_actCompact RX12 p R s m args meth c) : Sd Z jX12_actCompact p e R s m args below meth c (MQ below (QcS Z Rp) args s 0 0 (fun a => Z.2.2.1 < a)) 89 (w_X12_actCompact_89 (MS Z (d + 3)) (Gw Z 6 p e R s m args below meth c (MQ below (QcS Z Rp) args s 0 0 (fun a => Z.2.2.1 < a))) Rp) := by
  unfold w_X12_actCompact_89
  refine s_fnV C (j2 := jX12_lays) (cl := 12) (nf := 27) rfl rfl (by decide +kernel) rfl w_6_82 w_6_84 w_p3_4 w_1_13 w_6_85 (by decide +kernel) (fun _ _ _ _ _ h => f_X12_lays h) (fun _ _ _ _ _ h => r_X12_lays h) ?_
  refine s_aload_n (k := 0) C (by decide +kernel) ?_
  refine s_iload_n (k := 1) C (by decide +kernel) ?_
  refine s_bipush (n := 10) C (by decide +kernel) (by decide) ?_
  refine s_iload (k := 4) C (by decide +kernel) ?_
  refine s_if_eq (off := 7) (tgt := 105) C (by decide +kernel) (by decide) (b_X12_actCompact_105 C) ?_
  refine s_iconst (n := 0) C (by decide +kernel) (by decide) ?_
  exact s_goto (off := 7) (tgt := 109) C (by decide +kernel) (by decide) (b_X12_actCompact_109 C)
set_option maxRecDepth 20000 in
theorem b_X12_actCompact_85 {Z : Zt} {d : Nat} {p : Program} {e : Env} {R : Room} {s : State} {m : MethodId} {args : Array Value} {below : List Frame} {meth : Method} {c : Code} {Rp : RT} (C : Cx Z (d + 3) jX12_actCompact RX12 p R s m args meth c) : Sd Z jX12_actCompact p e R s m args below meth c (MQ below (QcS Z Rp) args s 0 0 (fun a => Z.2.2.1 < a)) 85 (w_X12_actCompact_85 (MS Z (d + 3)) (Gw Z 6 p e R s m args below meth c (MQ below (QcS Z Rp) args s 0 0 (fun a => Z.2.2.1 < a))) Rp) := by
  unfold w_X12_actCompact_85
  refine s_aload_n (k := 0) C (by decide +kernel) ?_
  refine s_getI C w_6_95 (by decide +kernel) rfl ?_
  exact (b_X12_actCompact_89 C)
set_option maxRecDepth 20000 in
theorem b_X12_actCompact_70 {Z : Zt} {d : Nat} {p : Program} {e : Env} {R : Room} {s : State} {m : MethodId} {args : Array Value} {below : List Frame} {meth : Method} {c : Code} {Rp : RT} (C : Cx Z (d + 3) jX12_actCompact RX12 p R s m args meth c) : Sd Z jX12_actCompact p e R s m args below meth c (MQ below (QcS Z Rp) args s 0 0 (fun a => Z.2.2.1 < a)) 70 (w_X12_actCompact_70 (MS Z (d + 3)) (Gw Z 6 p e R s m args below meth c (MQ below (QcS Z Rp) args s 0 0 (fun a => Z.2.2.1 < a))) Rp) := by
  unfold w_X12_actCompact_70
  refine s_istore (k := 4) C (by decide +kernel) ?_
  refine s_aload_n (k := 0) C (by decide +kernel) ?_
  refine s_iload_n (k := 1) C (by decide +kernel) ?_
  refine s_bipush (n := 9) C (by decide +kernel) (by decide) ?_
  refine s_iload (k := 4) C (by decide +kernel) ?_
  refine s_if_eq (off := 7) (tgt := 85) C (by decide +kernel) (by decide) (b_X12_actCompact_85 C) ?_
  refine s_iconst (n := 0) C (by decide +kernel) (by decide) ?_
  exact s_goto (off := 7) (tgt := 89) C (by decide +kernel) (by decide) (b_X12_actCompact_89 C)
set_option maxRecDepth 20000 in
theorem b_X12_actCompact_69 {Z : Zt} {d : Nat} {p : Program} {e : Env} {R : Room} {s : State} {m : MethodId} {args : Array Value} {below : List Frame} {meth : Method} {c : Code} {Rp : RT} (C : Cx Z (d + 3) jX12_actCompact RX12 p R s m args meth c) : Sd Z jX12_actCompact p e R s m args below meth c (MQ below (QcS Z Rp) args s 0 0 (fun a => Z.2.2.1 < a)) 69 (w_X12_actCompact_69 (MS Z (d + 3)) (Gw Z 6 p e R s m args below meth c (MQ below (QcS Z Rp) args s 0 0 (fun a => Z.2.2.1 < a))) Rp) := by
  unfold w_X12_actCompact_69
  refine s_iconst (n := 0) C (by decide +kernel) (by decide) ?_
  exact (b_X12_actCompact_70 C)
set_option maxRecDepth 20000 in
theorem b_X12_actCompact_42 {Z : Zt} {d : Nat} {p : Program} {e : Env} {R : Room} {s : State} {m : MethodId} {args : Array Value} {below : List Frame} {meth : Method} {c : Code} {Rp : RT} (C : Cx Z (d + 3) jX12_actCompact RX12 p R s m args meth c) : Sd Z jX12_actCompact p e R s m args below meth c (MQ below (QcS Z Rp) args s 0 0 (fun a => Z.2.2.1 < a)) 42 (w_X12_actCompact_42 (MS Z (d + 3)) (Gw Z 6 p e R s m args below meth c (MQ below (QcS Z Rp) args s 0 0 (fun a => Z.2.2.1 < a))) Rp) := by
  unfold w_X12_actCompact_42
  refine s_aload_n (k := 0) C (by decide +kernel) ?_
  refine s_iload_n (k := 1) C (by decide +kernel) ?_
  refine s_iload_n (k := 2) C (by decide +kernel) ?_
  refine s_fnV C (j2 := jX12_laysMembersUpTo) (cl := 12) (nf := 27) rfl rfl (by decide +kernel) rfl w_6_224 w_6_226 w_p3_12 w_1_13 w_6_227 (by decide +kernel) (fun _ _ _ _ _ h => f_X12_laysMembersUpTo h) (fun _ _ _ _ _ h => r_X12_laysMembersUpTo h) ?_
  refine s_aload_n (k := 0) C (by decide +kernel) ?_
  refine s_getI C w_6_98 (by decide +kernel) rfl ?_
  refine s_if_ne (off := 17) (tgt := 69) C (by decide +kernel) (by decide) (b_X12_actCompact_69 C) ?_
  refine s_aload_n (k := 0) C (by decide +kernel) ?_
  refine s_iload_n (k := 1) C (by decide +kernel) ?_
  refine s_bipush (n := 9) C (by decide +kernel) (by decide) ?_
  refine s_fnV C (j2 := jX12_of) (cl := 12) (nf := 27) rfl rfl (by decide +kernel) rfl w_6_220 w_6_222 w_p3_11 w_1_13 w_6_223 (by decide +kernel) (fun _ _ _ _ _ h => f_X12_of h) (fun _ _ _ _ _ h => r_X12_of h) ?_
  refine s_if_ne (off := 7) (tgt := 69) C (by decide +kernel) (by decide) (b_X12_actCompact_69 C) ?_
  refine s_iconst (n := 1) C (by decide +kernel) (by decide) ?_
  exact s_goto (off := 4) (tgt := 70) C (by decide +kernel) (by decide) (b_X12_actCompact_70 C)
set_option maxRecDepth 20000 in
theorem b_X12_actCompact_39 {Z : Zt} {d : Nat} {p : Program} {e : Env} {R : Room} {s : State} {m : MethodId} {args : Array Value} {below : List Frame} {meth : Method} {c : Code} {Rp : RT} (C : Cx Z (d + 3) jX12_actCompact RX12 p R s m args meth c) : Sd Z jX12_actCompact p e R s m args below meth c (MQ below (QcS Z Rp) args s 0 0 (fun a => Z.2.2.1 < a)) 39 (w_X12_actCompact_39 (MS Z (d + 3)) (Gw Z 6 p e R s m args below meth c (MQ below (QcS Z Rp) args s 0 0 (fun a => Z.2.2.1 < a))) Rp) := by
  unfold w_X12_actCompact_39
  refine s_bipush (n := (-5)) C (by decide +kernel) (by decide) ?_
  exact s_iret C rfl (by decide +kernel)
set_option maxRecDepth 20000 in
theorem b_X12_actCompact_10 {Z : Zt} {d : Nat} {p : Program} {e : Env} {R : Room} {s : State} {m : MethodId} {args : Array Value} {below : List Frame} {meth : Method} {c : Code} {Rp : RT} (C : Cx Z (d + 3) jX12_actCompact RX12 p R s m args meth c) : Sd Z jX12_actCompact p e R s m args below meth c (MQ below (QcS Z Rp) args s 0 0 (fun a => Z.2.2.1 < a)) 10 (w_X12_actCompact_10 (MS Z (d + 3)) (Gw Z 6 p e R s m args below meth c (MQ below (QcS Z Rp) args s 0 0 (fun a => Z.2.2.1 < a))) Rp) := by
  unfold w_X12_actCompact_10
  refine s_aload_n (k := 0) C (by decide +kernel) ?_
  refine s_iload_n (k := 1) C (by decide +kernel) ?_
  refine s_bipush (n := 7) C (by decide +kernel) (by decide) ?_
  refine s_fnV C (j2 := jX12_of) (cl := 12) (nf := 27) rfl rfl (by decide +kernel) rfl w_6_220 w_6_222 w_p3_11 w_1_13 w_6_223 (by decide +kernel) (fun _ _ _ _ _ h => f_X12_of h) (fun _ _ _ _ _ h => r_X12_of h) ?_
  refine s_istore_n (k := 2) C (by decide +kernel) ?_
  refine s_iload_n (k := 2) C (by decide +kernel) ?_
  refine s_aload_n (k := 0) C (by decide +kernel) ?_
  refine s_iload_n (k := 1) C (by decide +kernel) ?_
  refine s_iconst (n := 5) C (by decide +kernel) (by decide) ?_
  refine s_fnV C (j2 := jX12_of) (cl := 12) (nf := 27) rfl rfl (by decide +kernel) rfl w_6_220 w_6_222 w_p3_11 w_1_13 w_6_223 (by decide +kernel) (fun _ _ _ _ _ h => f_X12_of h) (fun _ _ _ _ _ h => r_X12_of h) ?_
  refine s_isub C (by decide +kernel) ?_
  refine s_istore_n (k := 3) C (by decide +kernel) ?_
  refine s_aload_n (k := 0) C (by decide +kernel) ?_
  refine s_iload_n (k := 1) C (by decide +kernel) ?_
  refine s_fnV C (j2 := jX12_isUp) (cl := 12) (nf := 27) rfl rfl (by decide +kernel) rfl w_6_232 w_6_234 w_p3_14 w_1_13 w_6_235 (by decide +kernel) (fun _ _ _ _ _ h => f_X12_isUp h) (fun _ _ _ _ _ h => r_X12_isUp h) ?_
  refine s_if_eq (off := 7) (tgt := 39) C (by decide +kernel) (by decide) (b_X12_actCompact_39 C) ?_
  refine s_iload_n (k := 3) C (by decide +kernel) ?_
  refine s_if_ne (off := 6) (tgt := 42) C (by decide +kernel) (by decide) (b_X12_actCompact_42 C) ?_
  exact (b_X12_actCompact_39 C)
set_option maxRecDepth 20000 in
theorem b_X12_actCompact_0 {Z : Zt} {d : Nat} {p : Program} {e : Env} {R : Room} {s : State} {m : MethodId} {args : Array Value} {below : List Frame} {meth : Method} {c : Code} {Rp : RT} (C : Cx Z (d + 3) jX12_actCompact RX12 p R s m args meth c) : Sd Z jX12_actCompact p e R s m args below meth c (MQ below (QcS Z Rp) args s 0 0 (fun a => Z.2.2.1 < a)) 0 (w_X12_actCompact_0 (MS Z (d + 3)) (Gw Z 6 p e R s m args below meth c (MQ below (QcS Z Rp) args s 0 0 (fun a => Z.2.2.1 < a))) Rp) := by
  unfold w_X12_actCompact_0
  refine s_iload_n (k := 1) C (by decide +kernel) ?_
  refine s_fnS C (j2 := jX12_isStore) (by decide +kernel) rfl w_6_208 w_6_209 w_1_13 w_6_210 (by decide +kernel) (fun _ _ _ _ _ h => f_X12_isStore h) ?_
  refine s_if_ne (off := 6) (tgt := 10) C (by decide +kernel) (by decide) (b_X12_actCompact_10 C) ?_
  refine s_bipush (n := (-2)) C (by decide +kernel) (by decide) ?_
  exact s_iret C rfl (by decide +kernel)
theorem ms_X12_actCompact {Z : Zt} {d : Nat} {S : Sh} {μ : Mi} {ρ : Mr} {Rp : RT} (a0 : Nat) (x1 : Int32) (h : ∀ G : Nat → PT, (∀ (L st : List Value) (S : Sh) (q : Nat × Nat) (μ : Mi) (ρ : Mr), w_X12_actCompact_135 (MS Z (d + 3)) G Rp L st S q μ ρ → G 135 L st S q μ ρ) → w_X12_actCompact_0 (MS Z (d + 3)) G Rp [.ref a0, .int x1, .null, .null, .null, .null] [] S (0, 0) μ ρ) : MS Z (d + 4) jX12_actCompact [.ref a0, .int x1] S μ ρ Rp :=
  MS_of [.ref a0, .int x1, .null, .null, .null, .null] (by decide +kernel) rfl rfl (Nat.le_of_ble_eq_true rfl) rfl (fun p e R s m args below meth c C => b_X12_actCompact_0 C _ _ _ _ _ _ (h _ (b_X12_actCompact_135 C)))
def F_X12_actCompact : FT := fun As S μ ρ k => match As with
  | [.ref a, .int s] => a = 2737 ∧ RS S ρ ∧ good (μ 2738) ∧ ∀ (t : T4) (g : Rw), k (some (.int (aCompact (μ 2738) s).1)) (M4 μ g t (aCompact (μ 2738) s).2)
  | _ => False
theorem r_X12_actCompact {As S μ ρ k} (h : F_X12_actCompact As S μ ρ k) : ∃ a As', As = Value.ref a :: As' ∧ S.2 a = (12, 27) := by
  unfold F_X12_actCompact at h
  split at h
  · exact ⟨_, _, rfl, by rw [h.1]; exact h.2.1.1⟩
  · exact h.elim
set_option maxHeartbeats 1000000 in
theorem f_X12_actCompact {Z : Zt} {d : Nat} {As : List Value} {S : Sh} {μ : Mi} {ρ : Mr} {Rp : RT} (h : F_X12_actCompact As S μ ρ (fun r μ' => Rp r S μ' ρ)) : MS Z (d + 4) jX12_actCompact As S μ ρ Rp := by
  unfold F_X12_actCompact at h
  split at h
  · rename_i a s
    obtain ⟨rfl, hS, h⟩ := h
    have hS0 := hS
    unfold RS at hS
    obtain ⟨hg, h⟩ := h
    obtain ⟨g0, t0, h0⟩ := M4_self μ
    rw [h0]
    generalize hA : μ 2738 = A at *
    refine ms_X12_actCompact _ _ (fun G g135 => ?_)
    unfold aCompact at h
    simp only [w_X12_actCompact_0, tAload, tIload, nth, tGetI, tGetR, tConst, tLconst, tBin, tUn, tI2l, tAld, tAldR, tAlen, tIast, tBast, tZast, tAast, tIret, tZret, tVret, tAret, tIf, tIf2, tGoto, tIstore, tAstore, sset, tIinc, tDup, tDup2, tPop, tPutI, tPutZ, tPutR, tCallV, tCallS, popN, tFn, tCopy, tMax, tMin, tSw, swc, tRem, tObjI, Option.toList, List.nil_append, List.cons_append, okR, true_and, and_true, true_or, or_true, Nat.zero_le, ne_eq, not_false_eq_true, Nat.reduceEqDiff, F_X12_isStore, b2_z, Decidable.not_not]
    refine ⟨fun c => ?_, fun c => ?_⟩
    · rw [if_neg (not_not_intro c)] at h
      obtain ⟨s, rfl, hs0, -, hs⟩ := rg_ex (lo := 0) (hi := 4) c
      have hrs := rg_T (lo := 0) (hi := 4) (n := s) (by omega) (by omega) hs0
      have hs5 : s < 5 := by omega
      have hst := good_st hg hs5
      rw [nI_clamp hs0] at h
      have i5 : (514 : Int32) * nI s + 5 = nI (514 * s + 5) := ixs 5 5 rfl
      have b5 : inb (nI (514 * s + 5)) 13548 := inb_nI (by omega) (by decide)
      have i6 : (514 : Int32) * nI s + 6 = nI (514 * s + 6) := ixs 6 6 rfl
      have b6 : inb (nI (514 * s + 6)) 13548 := inb_nI (by omega) (by decide)
      have i7 : (514 : Int32) * nI s + 7 = nI (514 * s + 7) := ixs 7 7 rfl
      have b7 : inb (nI (514 * s + 7)) 13548 := inb_nI (by omega) (by decide)
      have i9 : (514 : Int32) * nI s + 9 = nI (514 * s + 9) := ixs 9 9 rfl
      have b9 : inb (nI (514 * s + 9)) 13548 := inb_nI (by omega) (by decide)
      have i10 : (514 : Int32) * nI s + 10 = nI (514 * s + 10) := ixs 10 10 rfl
      have b10 : inb (nI (514 * s + 10)) 13548 := inb_nI (by omega) (by decide)
      have bad : ¬ canCompact A s → ∀ L, w_X12_actCompact_39 (MS Z (d + 3)) G Rp L [] S (0, 0) (M4 μ g0 t0 A) ρ := by
        intro c L
        simp only [w_X12_actCompact_39, tAload, tIload, nth, tGetI, tGetR, tConst, tLconst, tBin, tUn, tI2l, tAld, tAldR, tAlen, tIast, tBast, tZast, tAast, tIret, tZret, tVret, tAret, tIf, tIf2, tGoto, tIstore, tAstore, sset, tIinc, tDup, tDup2, tPop, tPutI, tPutZ, tPutR, tCallV, tCallS, popN, tFn, tCopy, tMax, tMin, tSw, swc, tRem, tObjI, Option.toList, List.nil_append, List.cons_append, okR, true_and, and_true, true_or, or_true, Nat.zero_le, ne_eq, not_false_eq_true, Nat.reduceEqDiff]
        have := h t0 g0
        rw [if_pos c] at this
        exact this
      simp only [w_X12_actCompact_10, tAload, tIload, nth, tGetI, tGetR, tConst, tLconst, tBin, tUn, tI2l, tAld, tAldR, tAlen, tIast, tBast, tZast, tAast, tIret, tZret, tVret, tAret, tIf, tIf2, tGoto, tIstore, tAstore, sset, tIinc, tDup, tDup2, tPop, tPutI, tPutZ, tPutR, tCallV, tCallS, popN, tFn, tCopy, tMax, tMin, tSw, swc, tRem, tObjI, Option.toList, List.nil_append, List.cons_append, okR, true_and, and_true, true_or, or_true, Nat.zero_le, ne_eq, not_false_eq_true, Nat.reduceEqDiff, F_X12_of, F_X12_isUp, hS0, hrs, b2_z, Decidable.not_not, M4_row, i5, b5, i7, b7]
      simp (disch := omega) only [nI_clamp]
      refine ⟨fun c2 => bad (fun z => c2 z.1) _, fun c2 => ⟨fun c3 => ?_, fun c3 => bad (fun z => z.2 c3) _⟩⟩
      rw [if_neg (not_not_intro ⟨c2, c3⟩)] at h
      have hag := hst.1.2.1
      generalize hcf : qCfg A s (A (514 * s + 7)).toNatClampNeg = cf
      -- the cells behind
      have cells : ∀ (B : Rw) (L4 v5 : Value), B = qCompact0 A s → ∀ n k, n + k = 4 → G 135 [.ref 2737, .int (nI s), .int (A (514 * s + 7)), .int (A (514 * s + 7) - A (514 * s + 5)), L4, .int (nI k)] [] S (0, 0) (M4 μ g0 cf (cpF B B (514 * s + 16) (514 * s + 20) k)) ρ := by
        intro B L4 v5 hB n
        induction n with
        | zero =>
          intro k hk
          obtain rfl : k = 4 := by omega
          refine g135 _ _ _ _ _ _ ?_
          simp only [w_X12_actCompact_135, w_X12_actCompact_167, tAload, tIload, nth, tGetI, tGetR, tConst, tLconst, tBin, tUn, tI2l, tAld, tAldR, tAlen, tIast, tBast, tZast, tAast, tIret, tZret, tVret, tAret, tIf, tIf2, tGoto, tIstore, tAstore, sset, tIinc, tDup, tDup2, tPop, tPutI, tPutZ, tPutR, tCallV, tCallS, popN, tFn, tCopy, tMax, tMin, tSw, swc, tRem, tObjI, Option.toList, List.nil_append, List.cons_append, okR, true_and, and_true, true_or, or_true, Nat.zero_le, ne_eq, not_false_eq_true, Nat.reduceEqDiff]
          refine ⟨fun _ => ?_, fun c => absurd (by decide) c⟩
          rw [hB]
          exact h cf g0
        | succ n ih =>
          intro k hk
          have hk4 : k < 4 := by omega
          refine g135 _ _ _ _ _ _ ?_
          simp only [w_X12_actCompact_135, tAload, tIload, nth, tGetI, tGetR, tConst, tLconst, tBin, tUn, tI2l, tAld, tAldR, tAlen, tIast, tBast, tZast, tAast, tIret, tZret, tVret, tAret, tIf, tIf2, tGoto, tIstore, tAstore, sset, tIinc, tDup, tDup2, tPop, tPutI, tPutZ, tPutR, tCallV, tCallS, popN, tFn, tCopy, tMax, tMin, tSw, swc, tRem, tObjI, Option.toList, List.nil_append, List.cons_append, okR, true_and, and_true, true_or, or_true, Nat.zero_le, ne_eq, not_false_eq_true, Nat.reduceEqDiff, F_X12_of, F_X12_lays, hS0, M4_row, M4_upF]
          rw [nad' 16 16 rfl, nad' 20 20 rfl]
          simp (disch := omega) only [ixs (16 + k) _ rfl, ixs (20 + k) _ rfl, nI_clamp, nI_inb]
          refine ⟨fun z => absurd z (lt4' hk4), fun _ => ⟨by omega, by omega, ?_⟩⟩
          have := ih (k + 1) (by omega)
          rw [← cp_s (by omega)] at this
          rw [nI_1, ← Nat.add_assoc, ← Nat.add_assoc]
          exact this
      have tail : ∀ (x y : Int32) (L4 v5 : Value), x = (if cf.2.2.2 = 0 ∧ A (514 * s + 9) = 0 then 0 else cf.1) → y = (if cf.2.2.2 = 0 ∧ A (514 * s + 9) = 0 then 0 else cf.2.1) → w_X12_actCompact_109 (MS Z (d + 3)) G Rp [.ref 2737, .int (nI s), .int (A (514 * s + 7)), .int (A (514 * s + 7) - A (514 * s + 5)), L4, v5] [.int y, .int 10, .int (nI s), .ref 2737] S (0, 0) (M4 μ g0 cf (up A (514 * s + 9) x)) ρ := by
        intro x y L4 v5 hx hy
        simp only [w_X12_actCompact_109, tAload, tIload, nth, tGetI, tGetR, tConst, tLconst, tBin, tUn, tI2l, tAld, tAldR, tAlen, tIast, tBast, tZast, tAast, tIret, tZret, tVret, tAret, tIf, tIf2, tGoto, tIstore, tAstore, sset, tIinc, tDup, tDup2, tPop, tPutI, tPutZ, tPutR, tCallV, tCallS, popN, tFn, tCopy, tMax, tMin, tSw, swc, tRem, tObjI, Option.toList, List.nil_append, List.cons_append, okR, true_and, and_true, true_or, or_true, Nat.zero_le, ne_eq, not_false_eq_true, Nat.reduceEqDiff, F_X12_lays, F_X12_termAt, hS0, hrs, M4_row, M4_upF, i10, b10, i6, b6, i5, b5]
        simp (disch := omega) only [nI_clamp]
        have e4 : up (up A (514 * s + 9) x) (514 * s + 10) y (514 * s + 4) = A (514 * s + 4) := by rw [up_ne (by omega), up_ne (by omega)]
        have e5 : up (up A (514 * s + 9) x) (514 * s + 10) y (514 * s + 5) = A (514 * s + 5) := by rw [up_ne (by omega), up_ne (by omega)]
        rw [e4, e5]
        refine ⟨hst.1.1.2.1, hst.1.1.2.2.1, ?_⟩
        have := cells _ L4 v5 (show up (up (up (up A (514 * s + 9) x) (514 * s + 10) y) (514 * s + 6) (qTermAt (up (up A (514 * s + 9) x) (514 * s + 10) y) s (A (514 * s + 7)))) (514 * s + 5) (A (514 * s + 7)) = qCompact0 A s from by
          unfold qCompact0
          simp only [hcf]
          rw [← hx, ← hy]) 4 0 rfl
        rw [cp_0] at this
        exact this
      simp only [w_X12_actCompact_42, tAload, tIload, nth, tGetI, tGetR, tConst, tLconst, tBin, tUn, tI2l, tAld, tAldR, tAlen, tIast, tBast, tZast, tAast, tIret, tZret, tVret, tAret, tIf, tIf2, tGoto, tIstore, tAstore, sset, tIinc, tDup, tDup2, tPop, tPutI, tPutZ, tPutR, tCallV, tCallS, popN, tFn, tCopy, tMax, tMin, tSw, swc, tRem, tObjI, Option.toList, List.nil_append, List.cons_append, okR, true_and, and_true, true_or, or_true, Nat.zero_le, ne_eq, not_false_eq_true, Nat.reduceEqDiff, F_X12_laysMembersUpTo, F_X12_of, hS0, hS, hrs, M4_row, M4_setM, M4_11, i9, b9]
      simp (disch := omega) only [nI_clamp]
      rw [hcf]
      have other : ¬ (cf.2.2.2 = 0 ∧ A (514 * s + 9) = 0) → ∀ v4 v5, w_X12_actCompact_69 (MS Z (d + 3)) G Rp [.ref 2737, .int (nI s), .int (A (514 * s + 7)), .int (A (514 * s + 7) - A (514 * s + 5)), v4, v5] [] S (0, 0) (M4 μ g0 cf A) ρ := by
        intro c v4 v5
        simp only [w_X12_actCompact_69, w_X12_actCompact_70, w_X12_actCompact_85, w_X12_actCompact_89, w_X12_actCompact_105, tAload, tIload, nth, tGetI, tGetR, tConst, tLconst, tBin, tUn, tI2l, tAld, tAldR, tAlen, tIast, tBast, tZast, tAast, tIret, tZret, tVret, tAret, tIf, tIf2, tGoto, tIstore, tAstore, sset, tIinc, tDup, tDup2, tPop, tPutI, tPutZ, tPutR, tCallV, tCallS, popN, tFn, tCopy, tMax, tMin, tSw, swc, tRem, tObjI, Option.toList, List.nil_append, List.cons_append, okR, true_and, and_true, true_or, or_true, Nat.zero_le, ne_eq, not_false_eq_true, Nat.reduceEqDiff, F_X12_lays, hS0, hS, M4_row, M4_upF, M4_8, M4_9, i9, b9]
        simp (disch := omega) only [nI_clamp]
        exact ⟨fun _ => ⟨fun _ => tail _ _ _ _ (by rw [if_neg c]) (by rw [if_neg c]), fun z => absurd trivial z⟩, fun z => absurd trivial z⟩
      refine ⟨hag, hst.1.1.2.2.1, fun c4 => other (fun z => c4 z.1) _ _, fun c4 => ⟨fun c5 => other (fun z => c5 z.2) _ _, fun c5 => ?_⟩⟩
      have c6 : cf.2.2.2 = 0 ∧ A (514 * s + 9) = 0 := ⟨Decidable.not_not.mp c4, Decidable.not_not.mp c5⟩
      simp only [w_X12_actCompact_70, w_X12_actCompact_85, w_X12_actCompact_89, w_X12_actCompact_105, tAload, tIload, nth, tGetI, tGetR, tConst, tLconst, tBin, tUn, tI2l, tAld, tAldR, tAlen, tIast, tBast, tZast, tAast, tIret, tZret, tVret, tAret, tIf, tIf2, tGoto, tIstore, tAstore, sset, tIinc, tDup, tDup2, tPop, tPutI, tPutZ, tPutR, tCallV, tCallS, popN, tFn, tCopy, tMax, tMin, tSw, swc, tRem, tObjI, Option.toList, List.nil_append, List.cons_append, okR, true_and, and_true, true_or, or_true, Nat.zero_le, ne_eq, not_false_eq_true, Nat.reduceEqDiff, F_X12_lays, hS0, hS, M4_row, M4_upF, M4_8, M4_9, i9, b9]
      simp (disch := omega) only [nI_clamp]
      exact ⟨fun z => absurd z (by decide), fun _ => ⟨fun z => absurd z (by decide), fun _ => tail _ _ _ _ (by rw [if_pos c6]) (by rw [if_pos c6])⟩⟩
    · have := h t0 g0
      rw [if_pos c] at this
      exact this
  · exact h.elim
def w_X12_actStop_90 (M : CT) (G : Nat → PT) (Rp : RT) : PT := tIload 2 <| tIret Rp
def w_X12_actStop_61 (M : CT) (G : Nat → PT) (Rp : RT) : PT := tIload 3 <| tConst 4 <| tIf2 (fun x y => y ≤ x) (w_X12_actStop_90 M G Rp) <| tAload 0 <| tIload 1 <| tConst 16 <| tIload 3 <| tBin (fun x y => x + y) <| tAload 0 <| tIload 1 <| tConst 20 <| tIload 3 <| tBin (fun x y => x + y) <| tFn 3 F_X12_of <| tFn 4 F_X12_lays <| tIinc 3 1 <| tGoto (G 61)
def w_X12_actStop_21 (M : CT) (G : Nat → PT) (Rp : RT) : PT := tAload 0 <| tIload 1 <| tConst 3 <| tFn 3 F_X12_of <| tIstore 2 <| tAload 0 <| tIload 1 <| tConst 0 <| tConst 0 <| tFn 4 F_X12_lays <| tAload 0 <| tIload 1 <| tConst 0 <| tFn 3 F_X12_plays <| tAload 0 <| tIload 1 <| tFn 2 F_X12_readsNothing <| tAload 0 <| tIload 1 <| tConst 7 <| tAload 0 <| tIload 1 <| tConst 5 <| tFn 3 F_X12_of <| tFn 4 F_X12_lays <| tConst 0 <| tIstore 3 <| G 61
def w_X12_actStop_10 (M : CT) (G : Nat → PT) (Rp : RT) : PT := tAload 0 <| tIload 1 <| tFn 2 F_X12_isUp <| tIf (fun x => x ≠ 0) (w_X12_actStop_21 M G Rp) <| tConst (-5) <| tIret Rp
def w_X12_actStop_0 (M : CT) (G : Nat → PT) (Rp : RT) : PT := tIload 1 <| tFn 1 F_X12_isStore <| tIf (fun x => x ≠ 0) (w_X12_actStop_10 M G Rp) <| tConst (-2) <| tIret Rp
set_option maxRecDepth 20000 in
theorem b_X12_actStop_90 {Z : Zt} {d : Nat} {p : Program} {e : Env} {R : Room} {s : State} {m : MethodId} {args : Array Value} {below : List Frame} {meth : Method} {c : Code} {Rp : RT} (C : Cx Z (d + 3) jX12_actStop RX12 p R s m args meth c) : Sd Z jX12_actStop p e R s m args below meth c (MQ below (QcS Z Rp) args s 0 0 (fun a => Z.2.2.1 < a)) 90 (w_X12_actStop_90 (MS Z (d + 3)) (Gw Z 4 p e R s m args below meth c (MQ below (QcS Z Rp) args s 0 0 (fun a => Z.2.2.1 < a))) Rp) := by
  unfold w_X12_actStop_90
  refine s_iload_n (k := 2) C (by decide +kernel) ?_
  exact s_iret C rfl (by decide +kernel)
set_option maxRecDepth 20000 in
theorem b_X12_actStop_61 {Z : Zt} {d : Nat} {p : Program} {e : Env} {R : Room} {s : State} {m : MethodId} {args : Array Value} {below : List Frame} {meth : Method} {c : Code} {Rp : RT} (C : Cx Z (d + 3) jX12_actStop RX12 p R s m args meth c) : Sd Z jX12_actStop p e R s m args below meth c (MQ below (QcS Z Rp) args s 0 0 (fun a => Z.2.2.1 < a)) 61 (w_X12_actStop_61 (MS Z (d + 3)) (Gw Z 4 p e R s m args below meth c (MQ below (QcS Z Rp) args s 0 0 (fun a => Z.2.2.1 < a))) Rp) := by
  unfold w_X12_actStop_61
  refine s_iload_n (k := 3) C (by decide +kernel) ?_
  refine s_iconst (n := 4) C (by decide +kernel) (by decide) ?_
  refine s_icmp_ge (off := 27) (tgt := 90) C (by decide +kernel) (by decide) (b_X12_actStop_90 C) ?_
  refine s_aload_n (k := 0) C (by decide +kernel) ?_
  refine s_iload_n (k := 1) C (by decide +kernel) ?_
  refine s_bipush (n := 16) C (by decide +kernel) (by decide) ?_
  refine s_iload_n (k := 3) C (by decide +kernel) ?_
  refine s_iadd C (by decide +kernel) ?_
  refine s_aload_n (k := 0) C (by decide +kernel) ?_
  refine s_iload_n (k := 1) C (by decide +kernel) ?_
  refine s_bipush (n := 20) C (by decide +kernel) (by decide) ?_
  refine s_iload_n (k := 3) C (by decide +kernel) ?_
  refine s_iadd C (by decide +kernel) ?_
  refine s_fnV C (j2 := jX12_of) (cl := 12) (nf := 27) rfl rfl (by decide +kernel) rfl w_6_220 w_6_222 w_p3_11 w_1_13 w_6_223 (by decide +kernel) (fun _ _ _ _ _ h => f_X12_of h) (fun _ _ _ _ _ h => r_X12_of h) ?_
  refine s_fnV C (j2 := jX12_lays) (cl := 12) (nf := 27) rfl rfl (by decide +kernel) rfl w_6_82 w_6_84 w_p3_4 w_1_13 w_6_85 (by decide +kernel) (fun _ _ _ _ _ h => f_X12_lays h) (fun _ _ _ _ _ h => r_X12_lays h) ?_
  refine s_iinc (n := 1) C (by decide +kernel) (by decide) ?_
  exact s_goto (off := (-26)) (tgt := 61) C (by decide +kernel) (by decide) (fun _ _ _ _ _ _ h => h)
set_option maxRecDepth 20000 in
theorem b_X12_actStop_21 {Z : Zt} {d : Nat} {p : Program} {e : Env} {R : Room} {s : State} {m : MethodId} {args : Array Value} {below : List Frame} {meth : Method} {c : Code} {Rp : RT} (C : Cx Z (d + 3) jX12_actStop RX12 p R s m args meth c) : Sd Z jX12_actStop p e R s m args below meth c (MQ below (QcS Z Rp) args s 0 0 (fun a => Z.2.2.1 < a)) 21 (w_X12_actStop_21 (MS Z (d + 3)) (Gw Z 4 p e R s m args below meth c (MQ below (QcS Z Rp) args s 0 0 (fun a => Z.2.2.1 < a))) Rp) := by
  unfold w_X12_actStop_21
  refine s_aload_n (k := 0) C (by decide +kernel) ?_
  refine s_iload_n (k := 1) C (by decide +kernel) ?_
  refine s_iconst (n := 3) C (by decide +kernel) (by decide) ?_
  refine s_fnV C (j2 := jX12_of) (cl := 12) (nf := 27) rfl rfl (by decide +kernel) rfl w_6_220 w_6_222 w_p3_11 w_1_13 w_6_223 (by decide +kernel) (fun _ _ _ _ _ h => f_X12_of h) (fun _ _ _ _ _ h => r_X12_of h) ?_
  refine s_istore_n (k := 2) C (by decide +kernel) ?_
  refine s_aload_n (k := 0) C (by decide +kernel) ?_
  refine s_iload_n (k := 1) C (by decide +kernel) ?_
  refine s_iconst (n := 0) C (by decide +kernel) (by decide) ?_
  refine s_iconst (n := 0) C (by decide +kernel) (by decide) ?_
  refine s_fnV C (j2 := jX12_lays) (cl := 12) (nf := 27) rfl rfl (by decide +kernel) rfl w_6_82 w_6_84 w_p3_4 w_1_13 w_6_85 (by decide +kernel) (fun _ _ _ _ _ h => f_X12_lays h) (fun _ _ _ _ _ h => r_X12_lays h) ?_
  refine s_aload_n (k := 0) C (by decide +kernel) ?_
  refine s_iload_n (k := 1) C (by decide +kernel) ?_
  refine s_iconst (n := 0) C (by decide +kernel) (by decide) ?_
  refine s_fnV C (j2 := jX12_plays) (cl := 12) (nf := 27) rfl rfl (by decide +kernel) rfl w_7_11 w_7_13 w_p4_2 w_1_13 w_7_14 (by decide +kernel) (fun _ _ _ _ _ h => f_X12_plays h) (fun _ _ _ _ _ h => r_X12_plays h) ?_
  refine s_aload_n (k := 0) C (by decide +kernel) ?_
  refine s_iload_n (k := 1) C (by decide +kernel) ?_
  refine s_fnV C (j2 := jX12_readsNothing) (cl := 12) (nf := 27) rfl rfl (by decide +kernel) rfl w_7_15 w_7_17 w_p4_3 w_1_13 w_7_18 (by decide +kernel) (fun _ _ _ _ _ h => f_X12_readsNothing h) (fun _ _ _ _ _ h => r_X12_readsNothing h) ?_
  refine s_aload_n (k := 0) C (by decide +kernel) ?_
  refine s_iload_n (k := 1) C (by decide +kernel) ?_
  refine s_bipush (n := 7) C (by decide +kernel) (by decide) ?_
  refine s_aload_n (k := 0) C (by decide +kernel) ?_
  refine s_iload_n (k := 1) C (by decide +kernel) ?_
  refine s_iconst (n := 5) C (by decide +kernel) (by decide) ?_
  refine s_fnV C (j2 := jX12_of) (cl := 12) (nf := 27) rfl rfl (by decide +kernel) rfl w_6_220 w_6_222 w_p3_11 w_1_13 w_6_223 (by decide +kernel) (fun _ _ _ _ _ h => f_X12_of h) (fun _ _ _ _ _ h => r_X12_of h) ?_
  refine s_fnV C (j2 := jX12_lays) (cl := 12) (nf := 27) rfl rfl (by decide +kernel) rfl w_6_82 w_6_84 w_p3_4 w_1_13 w_6_85 (by decide +kernel) (fun _ _ _ _ _ h => f_X12_lays h) (fun _ _ _ _ _ h => r_X12_lays h) ?_
  refine s_iconst (n := 0) C (by decide +kernel) (by decide) ?_
  refine s_istore_n (k := 3) C (by decide +kernel) ?_
  exact (fun _ _ _ _ _ _ h => h)
set_option maxRecDepth 20000 in
theorem b_X12_actStop_10 {Z : Zt} {d : Nat} {p : Program} {e : Env} {R : Room} {s : State} {m : MethodId} {args : Array Value} {below : List Frame} {meth : Method} {c : Code} {Rp : RT} (C : Cx Z (d + 3) jX12_actStop RX12 p R s m args meth c) : Sd Z jX12_actStop p e R s m args below meth c (MQ below (QcS Z Rp) args s 0 0 (fun a => Z.2.2.1 < a)) 10 (w_X12_actStop_10 (MS Z (d + 3)) (Gw Z 4 p e R s m args below meth c (MQ below (QcS Z Rp) args s 0 0 (fun a => Z.2.2.1 < a))) Rp) := by
  unfold w_X12_actStop_10
  refine s_aload_n (k := 0) C (by decide +kernel) ?_
  refine s_iload_n (k := 1) C (by decide +kernel) ?_
  refine s_fnV C (j2 := jX12_isUp) (cl := 12) (nf := 27) rfl rfl (by decide +kernel) rfl w_6_232 w_6_234 w_p3_14 w_1_13 w_6_235 (by decide +kernel) (fun _ _ _ _ _ h => f_X12_isUp h) (fun _ _ _ _ _ h => r_X12_isUp h) ?_
  refine s_if_ne (off := 6) (tgt := 21) C (by decide +kernel) (by decide) (b_X12_actStop_21 C) ?_
  refine s_bipush (n := (-5)) C (by decide +kernel) (by decide) ?_
  exact s_iret C rfl (by decide +kernel)
set_option maxRecDepth 20000 in
theorem b_X12_actStop_0 {Z : Zt} {d : Nat} {p : Program} {e : Env} {R : Room} {s : State} {m : MethodId} {args : Array Value} {below : List Frame} {meth : Method} {c : Code} {Rp : RT} (C : Cx Z (d + 3) jX12_actStop RX12 p R s m args meth c) : Sd Z jX12_actStop p e R s m args below meth c (MQ below (QcS Z Rp) args s 0 0 (fun a => Z.2.2.1 < a)) 0 (w_X12_actStop_0 (MS Z (d + 3)) (Gw Z 4 p e R s m args below meth c (MQ below (QcS Z Rp) args s 0 0 (fun a => Z.2.2.1 < a))) Rp) := by
  unfold w_X12_actStop_0
  refine s_iload_n (k := 1) C (by decide +kernel) ?_
  refine s_fnS C (j2 := jX12_isStore) (by decide +kernel) rfl w_6_208 w_6_209 w_1_13 w_6_210 (by decide +kernel) (fun _ _ _ _ _ h => f_X12_isStore h) ?_
  refine s_if_ne (off := 6) (tgt := 10) C (by decide +kernel) (by decide) (b_X12_actStop_10 C) ?_
  refine s_bipush (n := (-2)) C (by decide +kernel) (by decide) ?_
  exact s_iret C rfl (by decide +kernel)
theorem ms_X12_actStop {Z : Zt} {d : Nat} {S : Sh} {μ : Mi} {ρ : Mr} {Rp : RT} (a0 : Nat) (x1 : Int32) (h : ∀ G : Nat → PT, (∀ (L st : List Value) (S : Sh) (q : Nat × Nat) (μ : Mi) (ρ : Mr), w_X12_actStop_61 (MS Z (d + 3)) G Rp L st S q μ ρ → G 61 L st S q μ ρ) → w_X12_actStop_0 (MS Z (d + 3)) G Rp [.ref a0, .int x1, .null, .null] [] S (0, 0) μ ρ) : MS Z (d + 4) jX12_actStop [.ref a0, .int x1] S μ ρ Rp :=
  MS_of [.ref a0, .int x1, .null, .null] (by decide +kernel) rfl rfl (Nat.le_of_ble_eq_true rfl) rfl (fun p e R s m args below meth c C => b_X12_actStop_0 C _ _ _ _ _ _ (h _ (b_X12_actStop_61 C)))
def F_X12_actStop : FT := fun As S μ ρ k => match As with
  | [.ref a, .int s] => a = 2737 ∧ RS S ρ ∧ good (μ 2738) ∧ ∀ (t : T4) (g : Rw), k (some (.int (aStop (μ 2738) s).1)) (M4 μ g t (aStop (μ 2738) s).2)
  | _ => False
theorem r_X12_actStop {As S μ ρ k} (h : F_X12_actStop As S μ ρ k) : ∃ a As', As = Value.ref a :: As' ∧ S.2 a = (12, 27) := by
  unfold F_X12_actStop at h
  split at h
  · exact ⟨_, _, rfl, by rw [h.1]; exact h.2.1.1⟩
  · exact h.elim
set_option maxHeartbeats 1000000 in
theorem f_X12_actStop {Z : Zt} {d : Nat} {As : List Value} {S : Sh} {μ : Mi} {ρ : Mr} {Rp : RT} (h : F_X12_actStop As S μ ρ (fun r μ' => Rp r S μ' ρ)) : MS Z (d + 4) jX12_actStop As S μ ρ Rp := by
  unfold F_X12_actStop at h
  split at h
  · rename_i a s
    obtain ⟨rfl, hS, h⟩ := h
    have hS0 := hS
    unfold RS at hS
    obtain ⟨hg, h⟩ := h
    obtain ⟨g0, t0, h0⟩ := M4_self μ
    rw [h0]
    generalize hA : μ 2738 = A at *
    refine ms_X12_actStop _ _ (fun G g61 => ?_)
    unfold aStop at h
    simp only [w_X12_actStop_0, tAload, tIload, nth, tGetI, tGetR, tConst, tLconst, tBin, tUn, tI2l, tAld, tAldR, tAlen, tIast, tBast, tZast, tAast, tIret, tZret, tVret, tAret, tIf, tIf2, tGoto, tIstore, tAstore, sset, tIinc, tDup, tDup2, tPop, tPutI, tPutZ, tPutR, tCallV, tCallS, popN, tFn, tCopy, tMax, tMin, tSw, swc, tRem, tObjI, Option.toList, List.nil_append, List.cons_append, okR, true_and, and_true, true_or, or_true, Nat.zero_le, ne_eq, not_false_eq_true, Nat.reduceEqDiff, F_X12_isStore, b2_z, Decidable.not_not]
    refine ⟨fun c => ?_, fun c => ?_⟩
    · rw [if_neg (not_not_intro c)] at h
      obtain ⟨s, rfl, hs0, -, hs⟩ := rg_ex (lo := 0) (hi := 4) c
      have hrs := rg_T (lo := 0) (hi := 4) (n := s) (by omega) (by omega) hs0
      have hs5 : s < 5 := by omega
      have hst := good_st hg hs5
      rw [nI_clamp hs0] at h
      have i3 : (514 : Int32) * nI s + 3 = nI (514 * s + 3) := ixs 3 3 rfl
      have b3 : inb (nI (514 * s + 3)) 13548 := inb_nI (by omega) (by decide)
      have i5 : (514 : Int32) * nI s + 5 = nI (514 * s + 5) := ixs 5 5 rfl
      have b5 : inb (nI (514 * s + 5)) 13548 := inb_nI (by omega) (by decide)
      have i7 : (514 : Int32) * nI s + 7 = nI (514 * s + 7) := ixs 7 7 rfl
      have b7 : inb (nI (514 * s + 7)) 13548 := inb_nI (by omega) (by decide)
      have i0 : (514 : Int32) * nI s + 0 = nI (514 * s) := ixs 0 0 rfl
      have b0 : inb (nI (514 * s)) 13548 := inb_nI (by omega) (by decide)
      simp only [w_X12_actStop_10, w_X12_actStop_21, tAload, tIload, nth, tGetI, tGetR, tConst, tLconst, tBin, tUn, tI2l, tAld, tAldR, tAlen, tIast, tBast, tZast, tAast, tIret, tZret, tVret, tAret, tIf, tIf2, tGoto, tIstore, tAstore, sset, tIinc, tDup, tDup2, tPop, tPutI, tPutZ, tPutR, tCallV, tCallS, popN, tFn, tCopy, tMax, tMin, tSw, swc, tRem, tObjI, Option.toList, List.nil_append, List.cons_append, okR, true_and, and_true, true_or, or_true, Nat.zero_le, ne_eq, not_false_eq_true, Nat.reduceEqDiff, F_X12_isUp, F_X12_of, F_X12_lays, F_X12_plays, F_X12_readsNothing, hS0, hrs, b2_z, Decidable.not_not, M4_row, M4_upF, i0, b0, i3, b3, i5, b5, i7, b7]
      simp (disch := omega) only [nI_clamp]
      refine ⟨fun c2 => ?_, fun c2 => ?_⟩
      · rw [if_neg (not_not_intro c2)] at h
        have e0 : up (qReadsNothing (qPlays (up A (514 * s) 0) s 0) s) (514 * s + 7) (qReadsNothing (qPlays (up A (514 * s) 0) s 0) s (514 * s + 5)) = qStop0 A s := rfl
        rw [e0]
        have cells : ∀ n k, n + k = 4 → G 61 [.ref 2737, .int (nI s), .int (A (514 * s + 3)), .int (nI k)] [] S (0, 0) (M4 μ g0 t0 (cpF (qStop0 A s) (qStop0 A s) (514 * s + 20) (514 * s + 16) k)) ρ := by
          intro n
          induction n with
          | zero =>
            intro k hk
            obtain rfl : k = 4 := by omega
            refine g61 _ _ _ _ _ _ ?_
            simp only [w_X12_actStop_61, w_X12_actStop_90, tAload, tIload, nth, tGetI, tGetR, tConst, tLconst, tBin, tUn, tI2l, tAld, tAldR, tAlen, tIast, tBast, tZast, tAast, tIret, tZret, tVret, tAret, tIf, tIf2, tGoto, tIstore, tAstore, sset, tIinc, tDup, tDup2, tPop, tPutI, tPutZ, tPutR, tCallV, tCallS, popN, tFn, tCopy, tMax, tMin, tSw, swc, tRem, tObjI, Option.toList, List.nil_append, List.cons_append, okR, true_and, and_true, true_or, or_true, Nat.zero_le, ne_eq, not_false_eq_true, Nat.reduceEqDiff]
            exact ⟨fun _ => h t0 g0, fun c => absurd (by decide) c⟩
          | succ n ih =>
            intro k hk
            have hk4 : k < 4 := by omega
            refine g61 _ _ _ _ _ _ ?_
            simp only [w_X12_actStop_61, tAload, tIload, nth, tGetI, tGetR, tConst, tLconst, tBin, tUn, tI2l, tAld, tAldR, tAlen, tIast, tBast, tZast, tAast, tIret, tZret, tVret, tAret, tIf, tIf2, tGoto, tIstore, tAstore, sset, tIinc, tDup, tDup2, tPop, tPutI, tPutZ, tPutR, tCallV, tCallS, popN, tFn, tCopy, tMax, tMin, tSw, swc, tRem, tObjI, Option.toList, List.nil_append, List.cons_append, okR, true_and, and_true, true_or, or_true, Nat.zero_le, ne_eq, not_false_eq_true, Nat.reduceEqDiff, F_X12_of, F_X12_lays, hS0, M4_row, M4_upF]
            rw [nad' 16 16 rfl, nad' 20 20 rfl]
            simp (disch := omega) only [ixs (16 + k) _ rfl, ixs (20 + k) _ rfl, nI_clamp, nI_inb]
            refine ⟨fun z => absurd z (lt4' hk4), fun _ => ⟨by omega, by omega, ?_⟩⟩
            have := ih (k + 1) (by omega)
            rw [← cp_s (by omega)] at this
            rw [nI_1, ← Nat.add_assoc, ← Nat.add_assoc]
            exact this
        have := cells 4 0 rfl
        rw [cp_0] at this
        exact this
      · have := h t0 g0
        rw [if_pos c2] at this
        exact this
    · have := h t0 g0
      rw [if_pos c] at this
      exact this
  · exact h.elim
def zrK (A : Rw) (k : Nat) : Rw := fun i => if i < k then 0 else A i
theorem zrK_s {A : Rw} {k : Nat} : up (zrK A k) k 0 = zrK A (k + 1) := by
  funext i
  unfold up zrK
  by_cases h : i = k
  · rw [if_pos h, if_pos (by omega)]
  · rw [if_neg h]
    by_cases h2 : i < k
    · rw [if_pos h2, if_pos (by omega)]
    · rw [if_neg h2, if_neg (by omega)]
def w_X12_laysAll_49 (M : CT) (G : Nat → PT) (Rp : RT) : PT := tAload 0 <| tGetR 12 27 1 <| tConst 4513 <| tConst 33554431 <| tIast <| tAload 0 <| tGetR 12 27 1 <| tConst 4514 <| tIload 1 <| tIast <| tVret Rp
def w_X12_laysAll_24 (M : CT) (G : Nat → PT) (Rp : RT) : PT := tIload 2 <| tConst 5 <| tIf2 (fun x y => y ≤ x) (w_X12_laysAll_49 M G Rp) <| tAload 0 <| tIload 2 <| tConst 0 <| tConst 1 <| tFn 4 F_X12_lays <| tAload 0 <| tIload 2 <| tConst 2 <| tConst (-1) <| tFn 4 F_X12_lays <| tIinc 2 1 <| tGoto (G 24)
def w_X12_laysAll_22 (M : CT) (G : Nat → PT) (Rp : RT) : PT := tConst 0 <| tIstore 2 <| G 24
def w_X12_laysAll_2 (M : CT) (G : Nat → PT) (Rp : RT) : PT := tIload 2 <| tConst 4516 <| tIf2 (fun x y => y ≤ x) (w_X12_laysAll_22 M G Rp) <| tAload 0 <| tGetR 12 27 1 <| tIload 2 <| tConst 0 <| tIast <| tIinc 2 1 <| tGoto (G 2)
def w_X12_laysAll_0 (M : CT) (G : Nat → PT) (Rp : RT) : PT := tConst 0 <| tIstore 2 <| G 2
set_option maxRecDepth 20000 in
theorem b_X12_laysAll_49 {Z : Zt} {d : Nat} {p : Program} {e : Env} {R : Room} {s : State} {m : MethodId} {args : Array Value} {below : List Frame} {meth : Method} {c : Code} {Rp : RT} (C : Cx Z (d + 1) jX12_laysAll RX12 p R s m args meth c) : Sd Z jX12_laysAll p e R s m args below meth c (MQ below (QcS Z Rp) args s 0 0 (fun a => Z.2.2.1 < a)) 49 (w_X12_laysAll_49 (MS Z (d + 1)) (Gw Z 3 p e R s m args below meth c (MQ below (QcS Z Rp) args s 0 0 (fun a => Z.2.2.1 < a))) Rp) := by
  unfold w_X12_laysAll_49
  refine s_aload_n (k := 0) C (by decide +kernel) ?_
  refine s_getR C w_6_88 (by decide +kernel) rfl ?_
  refine s_sipush (n := 4513) C (by decide +kernel) (by decide) ?_
  refine s_ldc C w_6_86 (by decide +kernel) ?_
  refine s_iast C (by decide +kernel) ?_
  refine s_aload_n (k := 0) C (by decide +kernel) ?_
  refine s_getR C w_6_88 (by decide +kernel) rfl ?_
  refine s_sipush (n := 4514) C (by decide +kernel) (by decide) ?_
  refine s_iload_n (k := 1) C (by decide +kernel) ?_
  refine s_iast C (by decide +kernel) ?_
  exact s_vret C rfl (by decide +kernel)
set_option maxRecDepth 20000 in
theorem b_X12_laysAll_24 {Z : Zt} {d : Nat} {p : Program} {e : Env} {R : Room} {s : State} {m : MethodId} {args : Array Value} {below : List Frame} {meth : Method} {c : Code} {Rp : RT} (C : Cx Z (d + 1) jX12_laysAll RX12 p R s m args meth c) : Sd Z jX12_laysAll p e R s m args below meth c (MQ below (QcS Z Rp) args s 0 0 (fun a => Z.2.2.1 < a)) 24 (w_X12_laysAll_24 (MS Z (d + 1)) (Gw Z 3 p e R s m args below meth c (MQ below (QcS Z Rp) args s 0 0 (fun a => Z.2.2.1 < a))) Rp) := by
  unfold w_X12_laysAll_24
  refine s_iload_n (k := 2) C (by decide +kernel) ?_
  refine s_iconst (n := 5) C (by decide +kernel) (by decide) ?_
  refine s_icmp_ge (off := 23) (tgt := 49) C (by decide +kernel) (by decide) (b_X12_laysAll_49 C) ?_
  refine s_aload_n (k := 0) C (by decide +kernel) ?_
  refine s_iload_n (k := 2) C (by decide +kernel) ?_
  refine s_iconst (n := 0) C (by decide +kernel) (by decide) ?_
  refine s_iconst (n := 1) C (by decide +kernel) (by decide) ?_
  refine s_fnV C (j2 := jX12_lays) (cl := 12) (nf := 27) rfl rfl (by decide +kernel) rfl w_6_82 w_6_84 w_p3_4 w_1_13 w_6_85 (by decide +kernel) (fun _ _ _ _ _ h => f_X12_lays h) (fun _ _ _ _ _ h => r_X12_lays h) ?_
  refine s_aload_n (k := 0) C (by decide +kernel) ?_
  refine s_iload_n (k := 2) C (by decide +kernel) ?_
  refine s_iconst (n := 2) C (by decide +kernel) (by decide) ?_
  refine s_iconst (n := (-1)) C (by decide +kernel) (by decide) ?_
  refine s_fnV C (j2 := jX12_lays) (cl := 12) (nf := 27) rfl rfl (by decide +kernel) rfl w_6_82 w_6_84 w_p3_4 w_1_13 w_6_85 (by decide +kernel) (fun _ _ _ _ _ h => f_X12_lays h) (fun _ _ _ _ _ h => r_X12_lays h) ?_
  refine s_iinc (n := 1) C (by decide +kernel) (by decide) ?_
  exact s_goto (off := (-22)) (tgt := 24) C (by decide +kernel) (by decide) (fun _ _ _ _ _ _ h => h)
set_option maxRecDepth 20000 in
theorem b_X12_laysAll_22 {Z : Zt} {d : Nat} {p : Program} {e : Env} {R : Room} {s : State} {m : MethodId} {args : Array Value} {below : List Frame} {meth : Method} {c : Code} {Rp : RT} (C : Cx Z (d + 1) jX12_laysAll RX12 p R s m args meth c) : Sd Z jX12_laysAll p e R s m args below meth c (MQ below (QcS Z Rp) args s 0 0 (fun a => Z.2.2.1 < a)) 22 (w_X12_laysAll_22 (MS Z (d + 1)) (Gw Z 3 p e R s m args below meth c (MQ below (QcS Z Rp) args s 0 0 (fun a => Z.2.2.1 < a))) Rp) := by
  unfold w_X12_laysAll_22
  refine s_iconst (n := 0) C (by decide +kernel) (by decide) ?_
  refine s_istore_n (k := 2) C (by decide +kernel) ?_
  exact (fun _ _ _ _ _ _ h => h)
set_option maxRecDepth 20000 in
theorem b_X12_laysAll_2 {Z : Zt} {d : Nat} {p : Program} {e : Env} {R : Room} {s : State} {m : MethodId} {args : Array Value} {below : List Frame} {meth : Method} {c : Code} {Rp : RT} (C : Cx Z (d + 1) jX12_laysAll RX12 p R s m args meth c) : Sd Z jX12_laysAll p e R s m args below meth c (MQ below (QcS Z Rp) args s 0 0 (fun a => Z.2.2.1 < a)) 2 (w_X12_laysAll_2 (MS Z (d + 1)) (Gw Z 3 p e R s m args below meth c (MQ below (QcS Z Rp) args s 0 0 (fun a => Z.2.2.1 < a))) Rp) := by
  unfold w_X12_laysAll_2
  refine s_iload_n (k := 2) C (by decide +kernel) ?_
  refine s_sipush (n := 4516) C (by decide +kernel) (by decide) ?_
  refine s_icmp_ge (off := 16) (tgt := 22) C (by decide +kernel) (by decide) (b_X12_laysAll_22 C) ?_
  refine s_aload_n (k := 0) C (by decide +kernel) ?_
  refine s_getR C w_6_88 (by decide +kernel) rfl ?_
  refine s_iload_n (k := 2) C (by decide +kernel) ?_
  refine s_iconst (n := 0) C (by decide +kernel) (by decide) ?_
  refine s_iast C (by decide +kernel) ?_
  refine s_iinc (n := 1) C (by decide +kernel) (by decide) ?_
  exact s_goto (off := (-17)) (tgt := 2) C (by decide +kernel) (by decide) (fun _ _ _ _ _ _ h => h)
set_option maxRecDepth 20000 in
theorem b_X12_laysAll_0 {Z : Zt} {d : Nat} {p : Program} {e : Env} {R : Room} {s : State} {m : MethodId} {args : Array Value} {below : List Frame} {meth : Method} {c : Code} {Rp : RT} (C : Cx Z (d + 1) jX12_laysAll RX12 p R s m args meth c) : Sd Z jX12_laysAll p e R s m args below meth c (MQ below (QcS Z Rp) args s 0 0 (fun a => Z.2.2.1 < a)) 0 (w_X12_laysAll_0 (MS Z (d + 1)) (Gw Z 3 p e R s m args below meth c (MQ below (QcS Z Rp) args s 0 0 (fun a => Z.2.2.1 < a))) Rp) := by
  unfold w_X12_laysAll_0
  refine s_iconst (n := 0) C (by decide +kernel) (by decide) ?_
  refine s_istore_n (k := 2) C (by decide +kernel) ?_
  exact (fun _ _ _ _ _ _ h => h)
theorem ms_X12_laysAll {Z : Zt} {d : Nat} {S : Sh} {μ : Mi} {ρ : Mr} {Rp : RT} (a0 : Nat) (x1 : Int32) (h : ∀ G : Nat → PT, (∀ (L st : List Value) (S : Sh) (q : Nat × Nat) (μ : Mi) (ρ : Mr), w_X12_laysAll_2 (MS Z (d + 1)) G Rp L st S q μ ρ → G 2 L st S q μ ρ) → (∀ (L st : List Value) (S : Sh) (q : Nat × Nat) (μ : Mi) (ρ : Mr), w_X12_laysAll_24 (MS Z (d + 1)) G Rp L st S q μ ρ → G 24 L st S q μ ρ) → w_X12_laysAll_0 (MS Z (d + 1)) G Rp [.ref a0, .int x1, .null] [] S (0, 0) μ ρ) : MS Z (d + 2) jX12_laysAll [.ref a0, .int x1] S μ ρ Rp :=
  MS_of [.ref a0, .int x1, .null] (by decide +kernel) rfl rfl (Nat.le_of_ble_eq_true rfl) rfl (fun p e R s m args below meth c C => b_X12_laysAll_0 C _ _ _ _ _ _ (h _ (b_X12_laysAll_2 C) (b_X12_laysAll_24 C)))
def F_X12_laysAll : FT := fun As S μ ρ k => match As with
  | [.ref a, .int m] => a = 2737 ∧ RS S ρ ∧ k none (upF μ 2738 (qInit (μ 2738) m))
  | _ => False
theorem r_X12_laysAll {As S μ ρ k} (h : F_X12_laysAll As S μ ρ k) : ∃ a As', As = Value.ref a :: As' ∧ S.2 a = (12, 27) := by
  unfold F_X12_laysAll at h
  split at h
  · exact ⟨_, _, rfl, by rw [h.1]; exact h.2.1.1⟩
  · exact h.elim
set_option maxHeartbeats 1000000 in
theorem f_X12_laysAll {Z : Zt} {d : Nat} {As : List Value} {S : Sh} {μ : Mi} {ρ : Mr} {Rp : RT} (h : F_X12_laysAll As S μ ρ (fun r μ' => Rp r S μ' ρ)) : MS Z (d + 2) jX12_laysAll As S μ ρ Rp := by
  unfold F_X12_laysAll at h
  split at h
  · rename_i a m
    obtain ⟨rfl, hS, h⟩ := h
    have hS0 := hS
    unfold RS at hS
    refine ms_X12_laysAll _ _ (fun G g2 g24 => ?_)
    have i13 : inb 4513 13548 := inb_nI (k := 4513) (by decide) (by decide)
    have i14 : inb 4514 13548 := inb_nI (k := 4514) (by decide) (by decide)
    have two : ∀ (s : Nat) (B : Rw), s < 5 → G 24 [.ref 2737, .int m, .int (nI (s + 1))] [] S (0, 0) (upF μ 2738 (in1 B s)) ρ → G 24 [.ref 2737, .int m, .int (nI s)] [] S (0, 0) (upF μ 2738 B) ρ := by
      intro s B hs hG
      refine g24 _ _ _ _ _ _ ?_
      have i0 : (514 : Int32) * nI s + 0 = nI (514 * s) := ixs 0 0 rfl
      have b0 : inb (nI (514 * s)) 13548 := inb_nI (by omega) (by decide)
      have i2 : (514 : Int32) * nI s + 2 = nI (514 * s + 2) := ixs 2 2 rfl
      have b2' : inb (nI (514 * s + 2)) 13548 := inb_nI (by omega) (by decide)
      simp only [w_X12_laysAll_24, tAload, tIload, nth, tGetI, tGetR, tConst, tLconst, tBin, tUn, tI2l, tAld, tAldR, tAlen, tIast, tBast, tZast, tAast, tIret, tZret, tVret, tAret, tIf, tIf2, tGoto, tIstore, tAstore, sset, tIinc, tDup, tDup2, tPop, tPutI, tPutZ, tPutR, tCallV, tCallS, popN, tFn, tCopy, tMax, tMin, tSw, swc, tRem, tObjI, Option.toList, List.nil_append, List.cons_append, okR, true_and, and_true, true_or, or_true, Nat.zero_le, ne_eq, not_false_eq_true, Nat.reduceEqDiff, F_X12_lays, hS0, upF_same, upF_upF, i0, b0, i2, b2', nI_1]
      simp (disch := omega) only [nI_clamp]
      exact ⟨fun hc => absurd hc (lt5' s hs), fun _ => hG⟩
    have fin : ∀ B : Rw, B = zr0 (μ 2738) → G 24 [.ref 2737, .int m, .int (nI 0)] [] S (0, 0) (upF μ 2738 B) ρ := by
      intro B hB
      refine two 0 _ (by decide) (two 1 _ (by decide) (two 2 _ (by decide) (two 3 _ (by decide) (two 4 _ (by decide) ?_))))
      refine g24 _ _ _ _ _ _ ?_
      simp only [w_X12_laysAll_24, w_X12_laysAll_49, tAload, tIload, nth, tGetI, tGetR, tConst, tLconst, tBin, tUn, tI2l, tAld, tAldR, tAlen, tIast, tBast, tZast, tAast, tIret, tZret, tVret, tAret, tIf, tIf2, tGoto, tIstore, tAstore, sset, tIinc, tDup, tDup2, tPop, tPutI, tPutZ, tPutR, tCallV, tCallS, popN, tFn, tCopy, tMax, tMin, tSw, swc, tRem, tObjI, Option.toList, List.nil_append, List.cons_append, okR, true_and, and_true, true_or, or_true, Nat.zero_le, ne_eq, not_false_eq_true, Nat.reduceEqDiff, hS, upF_same, upF_upF, upI_upF, i13, i14, cl_4513, cl_4514]
      refine ⟨fun _ => ?_, fun hc => absurd (by decide) hc⟩
      rw [hB]
      exact h
    have loop : ∀ n k : Nat, n + k = 4516 → G 2 [.ref 2737, .int m, .int (nI k)] [] S (0, 0) (upF μ 2738 (zrK (μ 2738) k)) ρ := by
      intro n
      induction n with
      | zero =>
        intro k hk
        obtain rfl : k = 4516 := by omega
        refine g2 _ _ _ _ _ _ ?_
        simp only [w_X12_laysAll_2, w_X12_laysAll_22, tAload, tIload, nth, tGetI, tGetR, tConst, tLconst, tBin, tUn, tI2l, tAld, tAldR, tAlen, tIast, tBast, tZast, tAast, tIret, tZret, tVret, tAret, tIf, tIf2, tGoto, tIstore, tAstore, sset, tIinc, tDup, tDup2, tPop, tPutI, tPutZ, tPutR, tCallV, tCallS, popN, tFn, tCopy, tMax, tMin, tSw, swc, tRem, tObjI, Option.toList, List.nil_append, List.cons_append, okR, true_and, and_true, true_or, or_true, Nat.zero_le, ne_eq, not_false_eq_true, Nat.reduceEqDiff]
        exact ⟨fun _ => fin _ rfl, fun c => absurd (by decide) c⟩
      | succ n ih =>
        intro k hk
        refine g2 _ _ _ _ _ _ ?_
        simp only [w_X12_laysAll_2, tAload, tIload, nth, tGetI, tGetR, tConst, tLconst, tBin, tUn, tI2l, tAld, tAldR, tAlen, tIast, tBast, tZast, tAast, tIret, tZret, tVret, tAret, tIf, tIf2, tGoto, tIstore, tAstore, sset, tIinc, tDup, tDup2, tPop, tPutI, tPutZ, tPutR, tCallV, tCallS, popN, tFn, tCopy, tMax, tMin, tSw, swc, tRem, tObjI, Option.toList, List.nil_append, List.cons_append, okR, true_and, and_true, true_or, or_true, Nat.zero_le, ne_eq, not_false_eq_true, Nat.reduceEqDiff, hS, upF_same, upF_upF, upI_upF, nI_1]
        simp (disch := omega) only [nI_clamp, nI_inb]
        have lt : ¬ (4516 : Int32) ≤ nI k := by rw [show (4516 : Int32) = nI 4516 from rfl, nI_leI (by decide) (by omega)]; omega
        refine ⟨fun z => absurd z lt, fun _ => ⟨by omega, ?_⟩⟩
        have := ih (k + 1) (by omega)
        rw [← zrK_s] at this
        exact this
    simp only [w_X12_laysAll_0, tAload, tIload, nth, tGetI, tGetR, tConst, tLconst, tBin, tUn, tI2l, tAld, tAldR, tAlen, tIast, tBast, tZast, tAast, tIret, tZret, tVret, tAret, tIf, tIf2, tGoto, tIstore, tAstore, sset, tIinc, tDup, tDup2, tPop, tPutI, tPutZ, tPutR, tCallV, tCallS, popN, tFn, tCopy, tMax, tMin, tSw, swc, tRem, tObjI, Option.toList, List.nil_append, List.cons_append, okR, true_and, and_true, true_or, or_true, Nat.zero_le, ne_eq, not_false_eq_true, Nat.reduceEqDiff]
    have := loop 4516 0 rfl
    have e : zrK (μ 2738) 0 = μ 2738 := by funext i; unfold zrK; rw [if_neg (by omega)]
    rw [e, upF_id] at this
    exact this
  · exact h.elim
def w_X12_begins_0 (M : CT) (G : Nat → PT) (Rp : RT) : PT := tAload 0 <| tGetR 12 27 1 <| tConst 0 <| tAload 0 <| tGetR 12 27 4 <| tConst 0 <| tConst 4516 <| tFn 5 F_X12_copies <| tVret Rp
set_option maxRecDepth 20000 in
theorem b_X12_begins_0 {Z : Zt} {d : Nat} {p : Program} {e : Env} {R : Room} {s : State} {m : MethodId} {args : Array Value} {below : List Frame} {meth : Method} {c : Code} {Rp : RT} (C : Cx Z (d + 1) jX12_begins RX12 p R s m args meth c) : Sd Z jX12_begins p e R s m args below meth c (MQ below (QcS Z Rp) args s 0 0 (fun a => Z.2.2.1 < a)) 0 (w_X12_begins_0 (MS Z (d + 1)) (Gw Z 1 p e R s m args below meth c (MQ below (QcS Z Rp) args s 0 0 (fun a => Z.2.2.1 < a))) Rp) := by
  unfold w_X12_begins_0
  refine s_aload_n (k := 0) C (by decide +kernel) ?_
  refine s_getR C w_6_88 (by decide +kernel) rfl ?_
  refine s_iconst (n := 0) C (by decide +kernel) (by decide) ?_
  refine s_aload_n (k := 0) C (by decide +kernel) ?_
  refine s_getR C w_6_91 (by decide +kernel) rfl ?_
  refine s_iconst (n := 0) C (by decide +kernel) (by decide) ?_
  refine s_sipush (n := 4516) C (by decide +kernel) (by decide) ?_
  refine s_fnS C (j2 := jX12_copies) (by decide +kernel) rfl w_6_182 w_6_183 w_1_13 w_6_184 (by decide +kernel) (fun _ _ _ _ _ h => f_X12_copies h) ?_
  exact s_vret C rfl (by decide +kernel)
theorem ms_X12_begins {Z : Zt} {d : Nat} {S : Sh} {μ : Mi} {ρ : Mr} {Rp : RT} (a0 : Nat) (h : ∀ G : Nat → PT, w_X12_begins_0 (MS Z (d + 1)) G Rp [.ref a0] [] S (0, 0) μ ρ) : MS Z (d + 2) jX12_begins [.ref a0] S μ ρ Rp :=
  MS_of [.ref a0] (by decide +kernel) rfl rfl (Nat.le_of_ble_eq_true rfl) rfl (fun p e R s m args below meth c C => b_X12_begins_0 C _ _ _ _ _ _ (h _ ))
def F_X12_begins : FT := fun As S μ ρ k => match As with
  | [.ref a] => a = 2737 ∧ RS S ρ ∧ k none (upF μ 2741 (cpF (μ 2738) (μ 2741) 0 0 4516))
  | _ => False
theorem r_X12_begins {As S μ ρ k} (h : F_X12_begins As S μ ρ k) : ∃ a As', As = Value.ref a :: As' ∧ S.2 a = (12, 27) := by
  unfold F_X12_begins at h
  split at h
  · exact ⟨_, _, rfl, by rw [h.1]; exact h.2.1.1⟩
  · exact h.elim
set_option maxHeartbeats 1000000 in
theorem f_X12_begins {Z : Zt} {d : Nat} {As : List Value} {S : Sh} {μ : Mi} {ρ : Mr} {Rp : RT} (h : F_X12_begins As S μ ρ (fun r μ' => Rp r S μ' ρ)) : MS Z (d + 2) jX12_begins As S μ ρ Rp := by
  unfold F_X12_begins at h
  split at h
  · rename_i a
    obtain ⟨rfl, hS, h⟩ := h
    have hS0 := hS
    unfold RS at hS
    refine ms_X12_begins _ (fun G => ?_)
    simp only [w_X12_begins_0, tAload, tIload, nth, tGetI, tGetR, tConst, tLconst, tBin, tUn, tI2l, tAld, tAldR, tAlen, tIast, tBast, tZast, tAast, tIret, tZret, tVret, tAret, tIf, tIf2, tGoto, tIstore, tAstore, sset, tIinc, tDup, tDup2, tPop, tPutI, tPutZ, tPutR, tCallV, tCallS, popN, tFn, tCopy, tMax, tMin, tSw, swc, tRem, tObjI, Option.toList, List.nil_append, List.cons_append, okR, true_and, and_true, true_or, or_true, Nat.zero_le, ne_eq, not_false_eq_true, Nat.reduceEqDiff, F_X12_copies, hS, cl_0, cl_4516]
    exact ⟨by decide, by decide, by decide, by decide, by decide, by decide, by decide, h⟩
  · exact h.elim
