/-! ===== the reference: what it tells ===== -/
def M6 (μ : Mi) : Mi := upI μ 2737 0 0
theorem M6_out {μ : Mi} {a : Nat} (h : a ≠ 2737) : M6 μ a = μ a := by unfold M6; rw [upI_upF, upF_ne h]
theorem M6_row {μ : Mi} : M6 μ 2738 = μ 2738 := M6_out (by decide)
theorem M6_f {μ : Mi} {f : Nat} (h : f ≠ 0) : M6 μ 2737 f = μ 2737 f := by unfold M6; rw [upI_upF, upF_same, up_ne h]
theorem RQ_0 {μ : Mi} : RQ μ (M6 μ) (μ 2738) (μ 2739) (μ 2737 6) :=
  ⟨fun a ha => M6_out (by omega), M6_row, M6_out (by decide), M6_f (by decide), M6_out (by decide), M6_out (by decide), M6_out (by decide), fun f h1 h2 h3 h4 => M6_f (by omega)⟩
theorem RQ_4 {μ : Mi} {g : Rw} {t : T4} {A : Rw} : RQ μ (M4 (M6 μ) g t A) A (μ 2739) (μ 2737 6) := by
  refine ⟨fun a ha => ?_, M4_row, ?_, ?_, ?_, ?_, ?_, fun f h1 h2 h3 h4 => ?_⟩
  · rw [M4_out (by omega) (by omega) (by omega)]; exact M6_out (by omega)
  · rw [M4_out (by decide) (by decide) (by decide)]; exact M6_out (by decide)
  · rw [M4_f (by decide)]; exact M6_f (by decide)
  · rw [M4_out (by decide) (by decide) (by decide)]; exact M6_out (by decide)
  · rw [M4_out (by decide) (by decide) (by decide)]; exact M6_out (by decide)
  · rw [M4_out (by decide) (by decide) (by decide)]; exact M6_out (by decide)
  · rw [M4_f (by omega)]; exact M6_f (by omega)
theorem M4_of_setM {μ : Mi} {t : T4} : setM μ t = M4 μ (μ 2744) t (μ 2738) := by
  show setM μ t = upF (setM (upF μ 2744 (μ 2744)) t) 2738 (μ 2738)
  rw [upF_id]
  have := upF_id (μ := setM μ t) (a := 2738)
  rw [setM_row] at this
  exact this.symm
theorem M4_of_M3 {μ : Mi} {t : T4} {A : Rw} : M3 μ t A = M4 μ (μ 2744) t A := by
  show M3 μ t A = M3 (upF μ 2744 (μ 2744)) t A
  rw [upF_id]
theorem RQ_s {μ : Mi} {t : T4} : RQ μ (setM (M6 μ) t) (μ 2738) (μ 2739) (μ 2737 6) := by
  rw [M4_of_setM, M6_row]; exact RQ_4
def vTold (A : Rw) (s : Nat) (w : Int32) : Int32 :=
  if w = 0 ∨ w = 1 ∨ w = 2 ∨ w = 3 ∨ w = 4 then A (514 * s + w.toNatClampNeg) else if w = 5 then qTermAt A s (A (514 * s + 4)) else if w = 6 then A (514 * s + 5) else if w = 7 then A (514 * s + 6) else if w = 8 then A (514 * s + 7) else if w = 9 then (qMem A s).1 else if w = 10 then (qMem A s).2.1 else if w = 11 then A (514 * s + 8) else if w = 12 then A (514 * s + 11) else
  if w = 13 then (if A (514 * s + 11) = 0 then -1 else A (514 * s + 12)) else if w = 14 then A (514 * s + 13) else if w = 15 then A (514 * s + 14) else A (514 * s + 15)
def w_X12_told_190 (M : CT) (G : Nat → PT) (Rp : RT) : PT := tAload 0 <| tIload 1 <| tConst 15 <| tFn 3 F_X12_of <| tIret Rp
def w_X12_told_182 (M : CT) (G : Nat → PT) (Rp : RT) : PT := tAload 0 <| tIload 1 <| tConst 14 <| tFn 3 F_X12_of <| tIret Rp
def w_X12_told_174 (M : CT) (G : Nat → PT) (Rp : RT) : PT := tAload 0 <| tIload 1 <| tConst 13 <| tFn 3 F_X12_of <| tIret Rp
def w_X12_told_173 (M : CT) (G : Nat → PT) (Rp : RT) : PT := tIret Rp
def w_X12_told_166 (M : CT) (G : Nat → PT) (Rp : RT) : PT := tAload 0 <| tIload 1 <| tConst 12 <| tFn 3 F_X12_of <| w_X12_told_173 M G Rp
def w_X12_told_152 (M : CT) (G : Nat → PT) (Rp : RT) : PT := tAload 0 <| tIload 1 <| tConst 11 <| tFn 3 F_X12_of <| tIf (fun x => x ≠ 0) (w_X12_told_166 M G Rp) <| tConst (-1) <| tGoto (w_X12_told_173 M G Rp)
def w_X12_told_144 (M : CT) (G : Nat → PT) (Rp : RT) : PT := tAload 0 <| tIload 1 <| tConst 11 <| tFn 3 F_X12_of <| tIret Rp
def w_X12_told_136 (M : CT) (G : Nat → PT) (Rp : RT) : PT := tAload 0 <| tIload 1 <| tConst 8 <| tFn 3 F_X12_of <| tIret Rp
def w_X12_told_131 (M : CT) (G : Nat → PT) (Rp : RT) : PT := tAload 0 <| tGetI 12 27 9 <| tIret Rp
def w_X12_told_126 (M : CT) (G : Nat → PT) (Rp : RT) : PT := tAload 0 <| tGetI 12 27 8 <| tIret Rp
def w_X12_told_118 (M : CT) (G : Nat → PT) (Rp : RT) : PT := tAload 0 <| tIload 1 <| tConst 7 <| tFn 3 F_X12_of <| tIret Rp
def w_X12_told_110 (M : CT) (G : Nat → PT) (Rp : RT) : PT := tAload 0 <| tIload 1 <| tConst 6 <| tFn 3 F_X12_of <| tIret Rp
def w_X12_told_103 (M : CT) (G : Nat → PT) (Rp : RT) : PT := tAload 0 <| tIload 1 <| tConst 5 <| tFn 3 F_X12_of <| tIret Rp
def w_X12_told_91 (M : CT) (G : Nat → PT) (Rp : RT) : PT := tAload 0 <| tIload 1 <| tAload 0 <| tIload 1 <| tConst 4 <| tFn 3 F_X12_of <| tFn 3 F_X12_termAt <| tIret Rp
def w_X12_told_84 (M : CT) (G : Nat → PT) (Rp : RT) : PT := tAload 0 <| tIload 1 <| tIload 2 <| tFn 3 F_X12_of <| tIret Rp
def w_X12_told_0 (M : CT) (G : Nat → PT) (Rp : RT) : PT := tAload 0 <| tIload 1 <| tFn 2 F_X12_laysMembers <| tIload 2 <| tSw [(0, w_X12_told_84 M G Rp), (1, w_X12_told_84 M G Rp), (2, w_X12_told_84 M G Rp), (3, w_X12_told_84 M G Rp), (4, w_X12_told_84 M G Rp), (5, w_X12_told_91 M G Rp), (6, w_X12_told_103 M G Rp), (7, w_X12_told_110 M G Rp), (8, w_X12_told_118 M G Rp), (9, w_X12_told_126 M G Rp), (10, w_X12_told_131 M G Rp), (11, w_X12_told_136 M G Rp), (12, w_X12_told_144 M G Rp), (13, w_X12_told_152 M G Rp), (14, w_X12_told_174 M G Rp), (15, w_X12_told_182 M G Rp)] (w_X12_told_190 M G Rp)
set_option maxRecDepth 20000 in
theorem b_X12_told_190 {Z : Zt} {d : Nat} {p : Program} {e : Env} {R : Room} {s : State} {m : MethodId} {args : Array Value} {below : List Frame} {meth : Method} {c : Code} {Rp : RT} (C : Cx Z (d + 4) jX12_told RX12 p R s m args meth c) : Sd Z jX12_told p e R s m args below meth c (MQ below (QcS Z Rp) args s 0 0 (fun a => Z.2.2.1 < a)) 190 (w_X12_told_190 (MS Z (d + 4)) (Gw Z 3 p e R s m args below meth c (MQ below (QcS Z Rp) args s 0 0 (fun a => Z.2.2.1 < a))) Rp) := by
  unfold w_X12_told_190
  refine s_aload_n (k := 0) C (by decide +kernel) ?_
  refine s_iload_n (k := 1) C (by decide +kernel) ?_
  refine s_bipush (n := 15) C (by decide +kernel) (by decide) ?_
  refine s_fnV C (j2 := jX12_of) (cl := 12) (nf := 27) rfl rfl (by decide +kernel) rfl w_6_220 w_6_222 w_p3_11 w_1_13 w_6_223 (by decide +kernel) (fun _ _ _ _ _ h => f_X12_of h) (fun _ _ _ _ _ h => r_X12_of h) ?_
  exact s_iret C rfl (by decide +kernel)
set_option maxRecDepth 20000 in
theorem b_X12_told_182 {Z : Zt} {d : Nat} {p : Program} {e : Env} {R : Room} {s : State} {m : MethodId} {args : Array Value} {below : List Frame} {meth : Method} {c : Code} {Rp : RT} (C : Cx Z (d + 4) jX12_told RX12 p R s m args meth c) : Sd Z jX12_told p e R s m args below meth c (MQ below (QcS Z Rp) args s 0 0 (fun a => Z.2.2.1 < a)) 182 (w_X12_told_182 (MS Z (d + 4)) (Gw Z 3 p e R s m args below meth c (MQ below (QcS Z Rp) args s 0 0 (fun a => Z.2.2.1 < a))) Rp) := by
  unfold w_X12_told_182
  refine s_aload_n (k := 0) C (by decide +kernel) ?_
  refine s_iload_n (k := 1) C (by decide +kernel) ?_
  refine s_bipush (n := 14) C (by decide +kernel) (by decide) ?_
  refine s_fnV C (j2 := jX12_of) (cl := 12) (nf := 27) rfl rfl (by decide +kernel) rfl w_6_220 w_6_222 w_p3_11 w_1_13 w_6_223 (by decide +kernel) (fun _ _ _ _ _ h => f_X12_of h) (fun _ _ _ _ _ h => r_X12_of h) ?_
  exact s_iret C rfl (by decide +kernel)
set_option maxRecDepth 20000 in
theorem b_X12_told_174 {Z : Zt} {d : Nat} {p : Program} {e : Env} {R : Room} {s : State} {m : MethodId} {args : Array Value} {below : List Frame} {meth : Method} {c : Code} {Rp : RT} (C : Cx Z (d + 4) jX12_told RX12 p R s m args meth c) : Sd Z jX12_told p e R s m args below meth c (MQ below (QcS Z Rp) args s 0 0 (fun a => Z.2.2.1 < a)) 174 (w_X12_told_174 (MS Z (d + 4)) (Gw Z 3 p e R s m args below meth c (MQ below (QcS Z Rp) args s 0 0 (fun a => Z.2.2.1 < a))) Rp) := by
  unfold w_X12_told_174
  refine s_aload_n (k := 0) C (by decide +kernel) ?_
  refine s_iload_n (k := 1) C (by decide +kernel) ?_
  refine s_bipush (n := 13) C (by decide +kernel) (by decide) ?_
  refine s_fnV C (j2 := jX12_of) (cl := 12) (nf := 27) rfl rfl (by decide +kernel) rfl w_6_220 w_6_222 w_p3_11 w_1_13 w_6_223 (by decide +kernel) (fun _ _ _ _ _ h => f_X12_of h) (fun _ _ _ _ _ h => r_X12_of h) ?_
  exact s_iret C rfl (by decide +kernel)
set_option maxRecDepth 20000 in
theorem b_X12_told_173 {Z : Zt} {d : Nat} {p : Program} {e : Env} {R : Room} {s : State} {m : MethodId} {args : Array Value} {below : List Frame} {meth : Method} {c : Code} {Rp : RT} (C : Cx Z (d + 4) jX12_told RX12 p R s m args meth c) : Sd Z jX12_told p e R s m args below meth c (MQ below (QcS Z Rp) args s 0 0 (fun a => Z.2.2.1 < a)) 173 (w_X12_told_173 (MS Z (d + 4)) (Gw Z 3 p e R s m args below meth c (MQ below (QcS Z Rp) args s 0 0 (fun a => Z.2.2.1 < a))) Rp) := by
  unfold w_X12_told_173
  exact s_iret C rfl (by decide +kernel)
set_option maxRecDepth 20000 in
theorem b_X12_told_166 {Z : Zt} {d : Nat} {p : Program} {e : Env} {R : Room} {s : State} {m : MethodId} {args : Array Value} {below : List Frame} {meth : Method} {c : Code} {Rp : RT} (C : Cx Z (d + 4) jX12_told RX12 p R s m args meth c) : Sd Z jX12_told p e R s m args below meth c (MQ below (QcS Z Rp) args s 0 0 (fun a => Z.2.2.1 < a)) 166 (w_X12_told_166 (MS Z (d + 4)) (Gw Z 3 p e R s m args below meth c (MQ below (QcS Z Rp) args s 0 0 (fun a => Z.2.2.1 < a))) Rp) := by
  unfold w_X12_told_166
  refine s_aload_n (k := 0) C (by decide +kernel) ?_
  refine s_iload_n (k := 1) C (by decide +kernel) ?_
  refine s_bipush (n := 12) C (by decide +kernel) (by decide) ?_
  refine s_fnV C (j2 := jX12_of) (cl := 12) (nf := 27) rfl rfl (by decide +kernel) rfl w_6_220 w_6_222 w_p3_11 w_1_13 w_6_223 (by decide +kernel) (fun _ _ _ _ _ h => f_X12_of h) (fun _ _ _ _ _ h => r_X12_of h) ?_
  exact (b_X12_told_173 C)
set_option maxRecDepth 20000 in
theorem b_X12_told_152 {Z : Zt} {d : Nat} {p : Program} {e : Env} {R : Room} {s : State} {m : MethodId} {args : Array Value} {below : List Frame} {meth : Method} {c : Code} {Rp : RT} (C : Cx Z (d + 4) jX12_told RX12 p R s m args meth c) : Sd Z jX12_told p e R s m args below meth c (MQ below (QcS Z Rp) args s 0 0 (fun a => Z.2.2.1 < a)) 152 (w_X12_told_152 (MS Z (d + 4)) (Gw Z 3 p e R s m args below meth c (MQ below (QcS Z Rp) args s 0 0 (fun a => Z.2.2.1 < a))) Rp) := by
  unfold w_X12_told_152
  refine s_aload_n (k := 0) C (by decide +kernel) ?_
  refine s_iload_n (k := 1) C (by decide +kernel) ?_
  refine s_bipush (n := 11) C (by decide +kernel) (by decide) ?_
  refine s_fnV C (j2 := jX12_of) (cl := 12) (nf := 27) rfl rfl (by decide +kernel) rfl w_6_220 w_6_222 w_p3_11 w_1_13 w_6_223 (by decide +kernel) (fun _ _ _ _ _ h => f_X12_of h) (fun _ _ _ _ _ h => r_X12_of h) ?_
  refine s_if_ne (off := 7) (tgt := 166) C (by decide +kernel) (by decide) (b_X12_told_166 C) ?_
  refine s_iconst (n := (-1)) C (by decide +kernel) (by decide) ?_
  exact s_goto (off := 10) (tgt := 173) C (by decide +kernel) (by decide) (b_X12_told_173 C)
set_option maxRecDepth 20000 in
theorem b_X12_told_144 {Z : Zt} {d : Nat} {p : Program} {e : Env} {R : Room} {s : State} {m : MethodId} {args : Array Value} {below : List Frame} {meth : Method} {c : Code} {Rp : RT} (C : Cx Z (d + 4) jX12_told RX12 p R s m args meth c) : Sd Z jX12_told p e R s m args below meth c (MQ below (QcS Z Rp) args s 0 0 (fun a => Z.2.2.1 < a)) 144 (w_X12_told_144 (MS Z (d + 4)) (Gw Z 3 p e R s m args below meth c (MQ below (QcS Z Rp) args s 0 0 (fun a => Z.2.2.1 < a))) Rp) := by
  unfold w_X12_told_144
  refine s_aload_n (k := 0) C (by decide +kernel) ?_
  refine s_iload_n (k := 1) C (by decide +kernel) ?_
  refine s_bipush (n := 11) C (by decide +kernel) (by decide) ?_
  refine s_fnV C (j2 := jX12_of) (cl := 12) (nf := 27) rfl rfl (by decide +kernel) rfl w_6_220 w_6_222 w_p3_11 w_1_13 w_6_223 (by decide +kernel) (fun _ _ _ _ _ h => f_X12_of h) (fun _ _ _ _ _ h => r_X12_of h) ?_
  exact s_iret C rfl (by decide +kernel)
set_option maxRecDepth 20000 in
theorem b_X12_told_136 {Z : Zt} {d : Nat} {p : Program} {e : Env} {R : Room} {s : State} {m : MethodId} {args : Array Value} {below : List Frame} {meth : Method} {c : Code} {Rp : RT} (C : Cx Z (d + 4) jX12_told RX12 p R s m args meth c) : Sd Z jX12_told p e R s m args below meth c (MQ below (QcS Z Rp) args s 0 0 (fun a => Z.2.2.1 < a)) 136 (w_X12_told_136 (MS Z (d + 4)) (Gw Z 3 p e R s m args below meth c (MQ below (QcS Z Rp) args s 0 0 (fun a => Z.2.2.1 < a))) Rp) := by
  unfold w_X12_told_136
  refine s_aload_n (k := 0) C (by decide +kernel) ?_
  refine s_iload_n (k := 1) C (by decide +kernel) ?_
  refine s_bipush (n := 8) C (by decide +kernel) (by decide) ?_
  refine s_fnV C (j2 := jX12_of) (cl := 12) (nf := 27) rfl rfl (by decide +kernel) rfl w_6_220 w_6_222 w_p3_11 w_1_13 w_6_223 (by decide +kernel) (fun _ _ _ _ _ h => f_X12_of h) (fun _ _ _ _ _ h => r_X12_of h) ?_
  exact s_iret C rfl (by decide +kernel)
set_option maxRecDepth 20000 in
theorem b_X12_told_131 {Z : Zt} {d : Nat} {p : Program} {e : Env} {R : Room} {s : State} {m : MethodId} {args : Array Value} {below : List Frame} {meth : Method} {c : Code} {Rp : RT} (C : Cx Z (d + 4) jX12_told RX12 p R s m args meth c) : Sd Z jX12_told p e R s m args below meth c (MQ below (QcS Z Rp) args s 0 0 (fun a => Z.2.2.1 < a)) 131 (w_X12_told_131 (MS Z (d + 4)) (Gw Z 3 p e R s m args below meth c (MQ below (QcS Z Rp) args s 0 0 (fun a => Z.2.2.1 < a))) Rp) := by
  unfold w_X12_told_131
  refine s_aload_n (k := 0) C (by decide +kernel) ?_
  refine s_getI C w_6_96 (by decide +kernel) rfl ?_
  exact s_iret C rfl (by decide +kernel)
set_option maxRecDepth 20000 in
theorem b_X12_told_126 {Z : Zt} {d : Nat} {p : Program} {e : Env} {R : Room} {s : State} {m : MethodId} {args : Array Value} {below : List Frame} {meth : Method} {c : Code} {Rp : RT} (C : Cx Z (d + 4) jX12_told RX12 p R s m args meth c) : Sd Z jX12_told p e R s m args below meth c (MQ below (QcS Z Rp) args s 0 0 (fun a => Z.2.2.1 < a)) 126 (w_X12_told_126 (MS Z (d + 4)) (Gw Z 3 p e R s m args below meth c (MQ below (QcS Z Rp) args s 0 0 (fun a => Z.2.2.1 < a))) Rp) := by
  unfold w_X12_told_126
  refine s_aload_n (k := 0) C (by decide +kernel) ?_
  refine s_getI C w_6_95 (by decide +kernel) rfl ?_
  exact s_iret C rfl (by decide +kernel)
set_option maxRecDepth 20000 in
theorem b_X12_told_118 {Z : Zt} {d : Nat} {p : Program} {e : Env} {R : Room} {s : State} {m : MethodId} {args : Array Value} {below : List Frame} {meth : Method} {c : Code} {Rp : RT} (C : Cx Z (d + 4) jX12_told RX12 p R s m args meth c) : Sd Z jX12_told p e R s m args below meth c (MQ below (QcS Z Rp) args s 0 0 (fun a => Z.2.2.1 < a)) 118 (w_X12_told_118 (MS Z (d + 4)) (Gw Z 3 p e R s m args below meth c (MQ below (QcS Z Rp) args s 0 0 (fun a => Z.2.2.1 < a))) Rp) := by
  unfold w_X12_told_118
  refine s_aload_n (k := 0) C (by decide +kernel) ?_
  refine s_iload_n (k := 1) C (by decide +kernel) ?_
  refine s_bipush (n := 7) C (by decide +kernel) (by decide) ?_
  refine s_fnV C (j2 := jX12_of) (cl := 12) (nf := 27) rfl rfl (by decide +kernel) rfl w_6_220 w_6_222 w_p3_11 w_1_13 w_6_223 (by decide +kernel) (fun _ _ _ _ _ h => f_X12_of h) (fun _ _ _ _ _ h => r_X12_of h) ?_
  exact s_iret C rfl (by decide +kernel)
set_option maxRecDepth 20000 in
theorem b_X12_told_110 {Z : Zt} {d : Nat} {p : Program} {e : Env} {R : Room} {s : State} {m : MethodId} {args : Array Value} {below : List Frame} {meth : Method} {c : Code} {Rp : RT} (C : Cx Z (d + 4) jX12_told RX12 p R s m args meth c) : Sd Z jX12_told p e R s m args below meth c (MQ below (QcS Z Rp) args s 0 0 (fun a => Z.2.2.1 < a)) 110 (w_X12_told_110 (MS Z (d + 4)) (Gw Z 3 p e R s m args below meth c (MQ below (QcS Z Rp) args s 0 0 (fun a => Z.2.2.1 < a))) Rp) := by
  unfold w_X12_told_110
  refine s_aload_n (k := 0) C (by decide +kernel) ?_
  refine s_iload_n (k := 1) C (by decide +kernel) ?_
  refine s_bipush (n := 6) C (by decide +kernel) (by decide) ?_
  refine s_fnV C (j2 := jX12_of) (cl := 12) (nf := 27) rfl rfl (by decide +kernel) rfl w_6_220 w_6_222 w_p3_11 w_1_13 w_6_223 (by decide +kernel) (fun _ _ _ _ _ h => f_X12_of h) (fun _ _ _ _ _ h => r_X12_of h) ?_
  exact s_iret C rfl (by decide +kernel)
set_option maxRecDepth 20000 in
theorem b_X12_told_103 {Z : Zt} {d : Nat} {p : Program} {e : Env} {R : Room} {s : State} {m : MethodId} {args : Array Value} {below : List Frame} {meth : Method} {c : Code} {Rp : RT} (C : Cx Z (d + 4) jX12_told RX12 p R s m args meth c) : Sd Z jX12_told p e R s m args below meth c (MQ below (QcS Z Rp) args s 0 0 (fun a => Z.2.2.1 < a)) 103 (w_X12_told_103 (MS Z (d + 4)) (Gw Z 3 p e R s m args below meth c (MQ below (QcS Z Rp) args s 0 0 (fun a => Z.2.2.1 < a))) Rp) := by
  unfold w_X12_told_103
  refine s_aload_n (k := 0) C (by decide +kernel) ?_
  refine s_iload_n (k := 1) C (by decide +kernel) ?_
  refine s_iconst (n := 5) C (by decide +kernel) (by decide) ?_
  refine s_fnV C (j2 := jX12_of) (cl := 12) (nf := 27) rfl rfl (by decide +kernel) rfl w_6_220 w_6_222 w_p3_11 w_1_13 w_6_223 (by decide +kernel) (fun _ _ _ _ _ h => f_X12_of h) (fun _ _ _ _ _ h => r_X12_of h) ?_
  exact s_iret C rfl (by decide +kernel)
set_option maxRecDepth 20000 in
theorem b_X12_told_91 {Z : Zt} {d : Nat} {p : Program} {e : Env} {R : Room} {s : State} {m : MethodId} {args : Array Value} {below : List Frame} {meth : Method} {c : Code} {Rp : RT} (C : Cx Z (d + 4) jX12_told RX12 p R s m args meth c) : Sd Z jX12_told p e R s m args below meth c (MQ below (QcS Z Rp) args s 0 0 (fun a => Z.2.2.1 < a)) 91 (w_X12_told_91 (MS Z (d + 4)) (Gw Z 3 p e R s m args below meth c (MQ below (QcS Z Rp) args s 0 0 (fun a => Z.2.2.1 < a))) Rp) := by
  unfold w_X12_told_91
  refine s_aload_n (k := 0) C (by decide +kernel) ?_
  refine s_iload_n (k := 1) C (by decide +kernel) ?_
  refine s_aload_n (k := 0) C (by decide +kernel) ?_
  refine s_iload_n (k := 1) C (by decide +kernel) ?_
  refine s_iconst (n := 4) C (by decide +kernel) (by decide) ?_
  refine s_fnV C (j2 := jX12_of) (cl := 12) (nf := 27) rfl rfl (by decide +kernel) rfl w_6_220 w_6_222 w_p3_11 w_1_13 w_6_223 (by decide +kernel) (fun _ _ _ _ _ h => f_X12_of h) (fun _ _ _ _ _ h => r_X12_of h) ?_
  refine s_fnV C (j2 := jX12_termAt) (cl := 12) (nf := 27) rfl rfl (by decide +kernel) rfl w_7_23 w_7_25 w_p4_5 w_1_13 w_7_26 (by decide +kernel) (fun _ _ _ _ _ h => f_X12_termAt h) (fun _ _ _ _ _ h => r_X12_termAt h) ?_
  exact s_iret C rfl (by decide +kernel)
set_option maxRecDepth 20000 in
theorem b_X12_told_84 {Z : Zt} {d : Nat} {p : Program} {e : Env} {R : Room} {s : State} {m : MethodId} {args : Array Value} {below : List Frame} {meth : Method} {c : Code} {Rp : RT} (C : Cx Z (d + 4) jX12_told RX12 p R s m args meth c) : Sd Z jX12_told p e R s m args below meth c (MQ below (QcS Z Rp) args s 0 0 (fun a => Z.2.2.1 < a)) 84 (w_X12_told_84 (MS Z (d + 4)) (Gw Z 3 p e R s m args below meth c (MQ below (QcS Z Rp) args s 0 0 (fun a => Z.2.2.1 < a))) Rp) := by
  unfold w_X12_told_84
  refine s_aload_n (k := 0) C (by decide +kernel) ?_
  refine s_iload_n (k := 1) C (by decide +kernel) ?_
  refine s_iload_n (k := 2) C (by decide +kernel) ?_
  refine s_fnV C (j2 := jX12_of) (cl := 12) (nf := 27) rfl rfl (by decide +kernel) rfl w_6_220 w_6_222 w_p3_11 w_1_13 w_6_223 (by decide +kernel) (fun _ _ _ _ _ h => f_X12_of h) (fun _ _ _ _ _ h => r_X12_of h) ?_
  exact s_iret C rfl (by decide +kernel)
set_option maxRecDepth 20000 in
theorem b_X12_told_0 {Z : Zt} {d : Nat} {p : Program} {e : Env} {R : Room} {s : State} {m : MethodId} {args : Array Value} {below : List Frame} {meth : Method} {c : Code} {Rp : RT} (C : Cx Z (d + 4) jX12_told RX12 p R s m args meth c) : Sd Z jX12_told p e R s m args below meth c (MQ below (QcS Z Rp) args s 0 0 (fun a => Z.2.2.1 < a)) 0 (w_X12_told_0 (MS Z (d + 4)) (Gw Z 3 p e R s m args below meth c (MQ below (QcS Z Rp) args s 0 0 (fun a => Z.2.2.1 < a))) Rp) := by
  unfold w_X12_told_0
  refine s_aload_n (k := 0) C (by decide +kernel) ?_
  refine s_iload_n (k := 1) C (by decide +kernel) ?_
  refine s_fnV C (j2 := jX12_laysMembers) (cl := 12) (nf := 27) rfl rfl (by decide +kernel) rfl w_6_216 w_6_218 w_p3_10 w_1_13 w_6_219 (by decide +kernel) (fun _ _ _ _ _ h => f_X12_laysMembers h) (fun _ _ _ _ _ h => r_X12_laysMembers h) ?_
  refine s_iload_n (k := 2) C (by decide +kernel) ?_
  refine s_tsw (df := 184) (lo := 0) (hi := 15) (offs := #[78, 78, 78, 78, 78, 85, 97, 104, 112, 120, 125, 130, 138, 146, 168, 176]) (len := 78) (tgt := 190) C (by decide +kernel) (by decide) (b_X12_told_190 C) (fun i r h => ?_) (fun x h => tsw_out 16 x (fun q hq => ?_))
  · match i, h with
    | 0, h => cases h; dsimp only; exact ⟨by decide, by decide, 78, 84, by rfl, by decide, (b_X12_told_84 C)⟩
    | 1, h => cases h; dsimp only; exact ⟨by decide, by decide, 78, 84, by rfl, by decide, (b_X12_told_84 C)⟩
    | 2, h => cases h; dsimp only; exact ⟨by decide, by decide, 78, 84, by rfl, by decide, (b_X12_told_84 C)⟩
    | 3, h => cases h; dsimp only; exact ⟨by decide, by decide, 78, 84, by rfl, by decide, (b_X12_told_84 C)⟩
    | 4, h => cases h; dsimp only; exact ⟨by decide, by decide, 78, 84, by rfl, by decide, (b_X12_told_84 C)⟩
    | 5, h => cases h; dsimp only; exact ⟨by decide, by decide, 85, 91, by rfl, by decide, (b_X12_told_91 C)⟩
    | 6, h => cases h; dsimp only; exact ⟨by decide, by decide, 97, 103, by rfl, by decide, (b_X12_told_103 C)⟩
    | 7, h => cases h; dsimp only; exact ⟨by decide, by decide, 104, 110, by rfl, by decide, (b_X12_told_110 C)⟩
    | 8, h => cases h; dsimp only; exact ⟨by decide, by decide, 112, 118, by rfl, by decide, (b_X12_told_118 C)⟩
    | 9, h => cases h; dsimp only; exact ⟨by decide, by decide, 120, 126, by rfl, by decide, (b_X12_told_126 C)⟩
    | 10, h => cases h; dsimp only; exact ⟨by decide, by decide, 125, 131, by rfl, by decide, (b_X12_told_131 C)⟩
    | 11, h => cases h; dsimp only; exact ⟨by decide, by decide, 130, 136, by rfl, by decide, (b_X12_told_136 C)⟩
    | 12, h => cases h; dsimp only; exact ⟨by decide, by decide, 138, 144, by rfl, by decide, (b_X12_told_144 C)⟩
    | 13, h => cases h; dsimp only; exact ⟨by decide, by decide, 146, 152, by rfl, by decide, (b_X12_told_152 C)⟩
    | 14, h => cases h; dsimp only; exact ⟨by decide, by decide, 168, 174, by rfl, by decide, (b_X12_told_174 C)⟩
    | 15, h => cases h; dsimp only; exact ⟨by decide, by decide, 176, 182, by rfl, by decide, (b_X12_told_182 C)⟩
    | q + 16, h => simp at h
  · match q, hq with
    | 0, _ => exact h _ (List.mem_of_getElem? (i := 0) rfl)
    | 1, _ => exact h _ (List.mem_of_getElem? (i := 1) rfl)
    | 2, _ => exact h _ (List.mem_of_getElem? (i := 2) rfl)
    | 3, _ => exact h _ (List.mem_of_getElem? (i := 3) rfl)
    | 4, _ => exact h _ (List.mem_of_getElem? (i := 4) rfl)
    | 5, _ => exact h _ (List.mem_of_getElem? (i := 5) rfl)
    | 6, _ => exact h _ (List.mem_of_getElem? (i := 6) rfl)
    | 7, _ => exact h _ (List.mem_of_getElem? (i := 7) rfl)
    | 8, _ => exact h _ (List.mem_of_getElem? (i := 8) rfl)
    | 9, _ => exact h _ (List.mem_of_getElem? (i := 9) rfl)
    | 10, _ => exact h _ (List.mem_of_getElem? (i := 10) rfl)
    | 11, _ => exact h _ (List.mem_of_getElem? (i := 11) rfl)
    | 12, _ => exact h _ (List.mem_of_getElem? (i := 12) rfl)
    | 13, _ => exact h _ (List.mem_of_getElem? (i := 13) rfl)
    | 14, _ => exact h _ (List.mem_of_getElem? (i := 14) rfl)
    | 15, _ => exact h _ (List.mem_of_getElem? (i := 15) rfl)
    | q + 16, hq => exact absurd hq (by omega)
theorem ms_X12_told {Z : Zt} {d : Nat} {S : Sh} {μ : Mi} {ρ : Mr} {Rp : RT} (a0 : Nat) (x1 : Int32) (x2 : Int32) (h : ∀ G : Nat → PT, w_X12_told_0 (MS Z (d + 4)) G Rp [.ref a0, .int x1, .int x2] [] S (0, 0) μ ρ) : MS Z (d + 5) jX12_told [.ref a0, .int x1, .int x2] S μ ρ Rp :=
  MS_of [.ref a0, .int x1, .int x2] (by decide +kernel) rfl rfl (Nat.le_of_ble_eq_true rfl) rfl (fun p e R s m args below meth c C => b_X12_told_0 C _ _ _ _ _ _ (h _ ))
def F_X12_told : FT := fun As S μ ρ k => match As with
  | [.ref a, .int s, .int w] => a = 2737 ∧ RS S ρ ∧ rg s 0 4 ∧ bsOK (μ 2738) s.toNatClampNeg ∧ k (some (.int (vTold (μ 2738) s.toNatClampNeg w))) (setM μ (qMem (μ 2738) s.toNatClampNeg))
  | _ => False
theorem r_X12_told {As S μ ρ k} (h : F_X12_told As S μ ρ k) : ∃ a As', As = Value.ref a :: As' ∧ S.2 a = (12, 27) := by
  unfold F_X12_told at h
  split at h
  · exact ⟨_, _, rfl, by rw [h.1]; exact h.2.1.1⟩
  · exact h.elim
set_option maxHeartbeats 1000000 in
theorem f_X12_told {Z : Zt} {d : Nat} {As : List Value} {S : Sh} {μ : Mi} {ρ : Mr} {Rp : RT} (h : F_X12_told As S μ ρ (fun r μ' => Rp r S μ' ρ)) : MS Z (d + 5) jX12_told As S μ ρ Rp := by
  unfold F_X12_told at h
  split at h
  · rename_i a s w
    obtain ⟨rfl, hS, h⟩ := h
    have hS0 := hS
    unfold RS at hS
    obtain ⟨h1, h2, h⟩ := h
    obtain ⟨s, rfl, hs0, -, hs⟩ := rg_ex h1
    have hrs := rg_T (lo := 0) (hi := 4) (n := s) (by omega) (by omega) hs0
    simp (disch := omega) only [nI_clamp] at h h2
    obtain ⟨k1, k2, k3⟩ := h2
    have i4 : (514 : Int32) * nI s + 4 = nI (514 * s + 4) := ixs 4 4 rfl
    have b4 : inb (nI (514 * s + 4)) 13548 := inb_nI (by omega) (by decide)
    have i5 : (514 : Int32) * nI s + 5 = nI (514 * s + 5) := ixs 5 5 rfl
    have b5 : inb (nI (514 * s + 5)) 13548 := inb_nI (by omega) (by decide)
    have i6 : (514 : Int32) * nI s + 6 = nI (514 * s + 6) := ixs 6 6 rfl
    have b6 : inb (nI (514 * s + 6)) 13548 := inb_nI (by omega) (by decide)
    have i7 : (514 : Int32) * nI s + 7 = nI (514 * s + 7) := ixs 7 7 rfl
    have b7 : inb (nI (514 * s + 7)) 13548 := inb_nI (by omega) (by decide)
    have i8 : (514 : Int32) * nI s + 8 = nI (514 * s + 8) := ixs 8 8 rfl
    have b8 : inb (nI (514 * s + 8)) 13548 := inb_nI (by omega) (by decide)
    have i11 : (514 : Int32) * nI s + 11 = nI (514 * s + 11) := ixs 11 11 rfl
    have b11 : inb (nI (514 * s + 11)) 13548 := inb_nI (by omega) (by decide)
    have i12 : (514 : Int32) * nI s + 12 = nI (514 * s + 12) := ixs 12 12 rfl
    have b12 : inb (nI (514 * s + 12)) 13548 := inb_nI (by omega) (by decide)
    have i13 : (514 : Int32) * nI s + 13 = nI (514 * s + 13) := ixs 13 13 rfl
    have b13 : inb (nI (514 * s + 13)) 13548 := inb_nI (by omega) (by decide)
    have i14 : (514 : Int32) * nI s + 14 = nI (514 * s + 14) := ixs 14 14 rfl
    have b14 : inb (nI (514 * s + 14)) 13548 := inb_nI (by omega) (by decide)
    have i15 : (514 : Int32) * nI s + 15 = nI (514 * s + 15) := ixs 15 15 rfl
    have b15 : inb (nI (514 * s + 15)) 13548 := inb_nI (by omega) (by decide)
    refine ms_X12_told _ _ _ (fun G => ?_)
    unfold vTold at h
    have T0 : (w = 0 ∨ w = 1 ∨ w = 2 ∨ w = 3 ∨ w = 4) → w_X12_told_84 (MS Z (d + 4)) G Rp [.ref 2737, .int (nI s), .int w] [] S (0, 0) (setM μ (qMem (μ 2738) s)) ρ := by
      intro c
      rw [if_pos c] at h
      have hw : ∃ n : Nat, w = nI n ∧ n < 5 := by
        rcases c with c | c | c | c | c
        · exact ⟨0, c, by decide⟩
        · exact ⟨1, c, by decide⟩
        · exact ⟨2, c, by decide⟩
        · exact ⟨3, c, by decide⟩
        · exact ⟨4, c, by decide⟩
      obtain ⟨n, rfl, hn⟩ := hw
      simp only [w_X12_told_84, tAload, tIload, nth, tGetI, tGetR, tConst, tLconst, tBin, tUn, tI2l, tAld, tAldR, tAlen, tIast, tBast, tZast, tAast, tIret, tZret, tVret, tAret, tIf, tIf2, tGoto, tIstore, tAstore, sset, tIinc, tDup, tDup2, tPop, tPutI, tPutZ, tPutR, tCallV, tCallS, popN, tFn, tCopy, tMax, tMin, tSw, swc, tRem, tObjI, Option.toList, List.nil_append, List.cons_append, okR, true_and, and_true, true_or, or_true, Nat.zero_le, ne_eq, not_false_eq_true, Nat.reduceEqDiff, F_X12_of, hS0, setM_row, ixs n _ rfl]
      simp (disch := omega) only [nI_clamp, nI_inb] at h ⊢
      exact ⟨by omega, h⟩
    simp only [w_X12_told_0, w_X12_told_91, w_X12_told_103, w_X12_told_110, w_X12_told_118, w_X12_told_126, w_X12_told_131, w_X12_told_136, w_X12_told_144, w_X12_told_152, w_X12_told_166, w_X12_told_173, w_X12_told_174, w_X12_told_182, w_X12_told_190, tAload, tIload, nth, tGetI, tGetR, tConst, tLconst, tBin, tUn, tI2l, tAld, tAldR, tAlen, tIast, tBast, tZast, tAast, tIret, tZret, tVret, tAret, tIf, tIf2, tGoto, tIstore, tAstore, sset, tIinc, tDup, tDup2, tPop, tPutI, tPutZ, tPutR, tCallV, tCallS, popN, tFn, tCopy, tMax, tMin, tSw, swc, tRem, tObjI, Option.toList, List.nil_append, List.cons_append, okR, true_and, and_true, true_or, or_true, Nat.zero_le, ne_eq, not_false_eq_true, Nat.reduceEqDiff, F_X12_laysMembers, F_X12_of, F_X12_termAt, hS0, hS, hrs, setM_row, setM_8, setM_9, i4, b4, i5, b5, i6, b6, i7, b7, i8, b8, i11, b11, i12, b12, i13, b13, i14, b14, i15, b15]
    simp (disch := omega) only [nI_clamp]
    refine ⟨k2, k3, fun c0 => T0 (Or.inl c0), fun n0 => ⟨fun c1 => T0 (Or.inr (Or.inl c1)), fun n1 => ⟨fun c2 => T0 (Or.inr (Or.inr (Or.inl c2))), fun n2 => ⟨fun c3 => T0 (Or.inr (Or.inr (Or.inr (Or.inl c3)))), fun n3 => ⟨fun c4 => T0 (Or.inr (Or.inr (Or.inr (Or.inr c4)))), fun n4 => ?_⟩⟩⟩⟩⟩
    rw [if_neg (fun z => by rcases z with z | z | z | z | z; exact n0 z; exact n1 z; exact n2 z; exact n3 z; exact n4 z)] at h
    refine ⟨fun c => ⟨k2, k3, ?_⟩, fun n5 => ⟨fun c => ?_, fun n6 => ⟨fun c => ?_, fun n7 => ⟨fun c => ?_, fun n8 => ⟨fun c => ?_, fun n9 => ⟨fun c => ?_, fun n10 => ⟨fun c => ?_, fun n11 => ⟨fun c => ?_, fun n12 => ⟨fun c => ⟨fun c2 => ?_, fun c2 => ?_⟩, fun n13 => ⟨fun c => ?_, fun n14 => ⟨fun c => ?_, fun n15 => ?_⟩⟩⟩⟩⟩⟩⟩⟩⟩⟩⟩
    · rw [if_pos c] at h; exact h
    · rw [if_neg n5, if_pos c] at h; exact h
    · rw [if_neg n5, if_neg n6, if_pos c] at h; exact h
    · rw [if_neg n5, if_neg n6, if_neg n7, if_pos c] at h; exact h
    · rw [if_neg n5, if_neg n6, if_neg n7, if_neg n8, if_pos c] at h; exact h
    · rw [if_neg n5, if_neg n6, if_neg n7, if_neg n8, if_neg n9, if_pos c] at h; exact h
    · rw [if_neg n5, if_neg n6, if_neg n7, if_neg n8, if_neg n9, if_neg n10, if_pos c] at h; exact h
    · rw [if_neg n5, if_neg n6, if_neg n7, if_neg n8, if_neg n9, if_neg n10, if_neg n11, if_pos c] at h; exact h
    · rw [if_neg n5, if_neg n6, if_neg n7, if_neg n8, if_neg n9, if_neg n10, if_neg n11, if_neg n12, if_pos c, if_neg c2] at h; exact h
    · rw [if_neg n5, if_neg n6, if_neg n7, if_neg n8, if_neg n9, if_neg n10, if_neg n11, if_neg n12, if_pos c, if_pos (Decidable.not_not.mp c2)] at h; exact h
    · rw [if_neg n5, if_neg n6, if_neg n7, if_neg n8, if_neg n9, if_neg n10, if_neg n11, if_neg n12, if_neg n13, if_pos c] at h; exact h
    · rw [if_neg n5, if_neg n6, if_neg n7, if_neg n8, if_neg n9, if_neg n10, if_neg n11, if_neg n12, if_neg n13, if_neg n14, if_pos c] at h; exact h
    · rw [if_neg n5, if_neg n6, if_neg n7, if_neg n8, if_neg n9, if_neg n10, if_neg n11, if_neg n12, if_neg n13, if_neg n14, if_neg n15] at h; exact h
  · exact h.elim
theorem good_bs {A : Rw} (h : good A) {s : Nat} (hs : s < 5) : bsOK A s := by have := good_st h hs; exact ⟨this.1.1.1, this.1.1.2.1, this.1.1.2.2.1⟩
theorem il_16 : Int64.toInt 16 = 16 := by decide
theorem il_3 : Int64.toInt 3 = 3 := by decide
theorem il_8 : Int64.toInt 8 = 8 := by decide
theorem il_120 : Int64.toInt 120 = 120 := by decide
theorem e6 {μ : Mi} : upI μ 2737 0 0 = M6 μ := rfl
def vStore (A : Rw) (s w : Int32) : Int32 := if ¬ (rgd s 0 4 ∧ rgd w 0 16) then -2 else vTold A s.toNatClampNeg w
def w_X12_store_35 (M : CT) (G : Nat → PT) (Rp : RT) : PT := tIret Rp
def w_X12_store_33 (M : CT) (G : Nat → PT) (Rp : RT) : PT := tConst (-2) <| w_X12_store_35 M G Rp
def w_X12_store_0 (M : CT) (G : Nat → PT) (Rp : RT) : PT := tAload 0 <| tConst 0 <| tPutI 12 27 0 <| tIload 1 <| tFn 1 F_X12_isStore <| tIf (fun x => x = 0) (w_X12_store_33 M G Rp) <| tIload 2 <| tI2l <| tLconst 0 <| tLconst 16 <| tFn 3 F_X12_within <| tIf (fun x => x = 0) (w_X12_store_33 M G Rp) <| tAload 0 <| tIload 1 <| tIload 2 <| tFn 3 F_X12_told <| tGoto (w_X12_store_35 M G Rp)
set_option maxRecDepth 20000 in
theorem b_X12_store_35 {Z : Zt} {d : Nat} {p : Program} {e : Env} {R : Room} {s : State} {m : MethodId} {args : Array Value} {below : List Frame} {meth : Method} {c : Code} {Rp : RT} (C : Cx Z (d + 5) jX12_store RX12 p R s m args meth c) : Sd Z jX12_store p e R s m args below meth c (MQ below (QcS Z Rp) args s 0 0 (fun a => Z.2.2.1 < a)) 35 (w_X12_store_35 (MS Z (d + 5)) (Gw Z 3 p e R s m args below meth c (MQ below (QcS Z Rp) args s 0 0 (fun a => Z.2.2.1 < a))) Rp) := by
  unfold w_X12_store_35
  exact s_iret C rfl (by decide +kernel)
set_option maxRecDepth 20000 in
theorem b_X12_store_33 {Z : Zt} {d : Nat} {p : Program} {e : Env} {R : Room} {s : State} {m : MethodId} {args : Array Value} {below : List Frame} {meth : Method} {c : Code} {Rp : RT} (C : Cx Z (d + 5) jX12_store RX12 p R s m args meth c) : Sd Z jX12_store p e R s m args below meth c (MQ below (QcS Z Rp) args s 0 0 (fun a => Z.2.2.1 < a)) 33 (w_X12_store_33 (MS Z (d + 5)) (Gw Z 3 p e R s m args below meth c (MQ below (QcS Z Rp) args s 0 0 (fun a => Z.2.2.1 < a))) Rp) := by
  unfold w_X12_store_33
  refine s_bipush (n := (-2)) C (by decide +kernel) (by decide) ?_
  exact (b_X12_store_35 C)
set_option maxRecDepth 20000 in
theorem b_X12_store_0 {Z : Zt} {d : Nat} {p : Program} {e : Env} {R : Room} {s : State} {m : MethodId} {args : Array Value} {below : List Frame} {meth : Method} {c : Code} {Rp : RT} (C : Cx Z (d + 5) jX12_store RX12 p R s m args meth c) : Sd Z jX12_store p e R s m args below meth c (MQ below (QcS Z Rp) args s 0 0 (fun a => Z.2.2.1 < a)) 0 (w_X12_store_0 (MS Z (d + 5)) (Gw Z 3 p e R s m args below meth c (MQ below (QcS Z Rp) args s 0 0 (fun a => Z.2.2.1 < a))) Rp) := by
  unfold w_X12_store_0
  refine s_aload_n (k := 0) C (by decide +kernel) ?_
  refine s_iconst (n := 0) C (by decide +kernel) (by decide) ?_
  refine s_putI C w_6_87 (by decide +kernel) rfl (Or.inl rfl) ?_
  refine s_iload_n (k := 1) C (by decide +kernel) ?_
  refine s_fnS C (j2 := jX12_isStore) (by decide +kernel) rfl w_6_208 w_6_209 w_1_13 w_6_210 (by decide +kernel) (fun _ _ _ _ _ h => f_X12_isStore h) ?_
  refine s_if_eq (off := 24) (tgt := 33) C (by decide +kernel) (by decide) (b_X12_store_33 C) ?_
  refine s_iload_n (k := 2) C (by decide +kernel) ?_
  refine s_i2l C (by decide +kernel) ?_
  refine s_lconst (n := 0) C (by decide +kernel) (by decide) ?_
  refine s_ldc2 C w_8_97 (by decide +kernel) ?_
  refine s_fnS C (j2 := jX12_within) (by decide +kernel) rfl w_6_175 w_6_176 w_1_13 w_6_177 (by decide +kernel) (fun _ _ _ _ _ h => f_X12_within h) ?_
  refine s_if_eq (off := 12) (tgt := 33) C (by decide +kernel) (by decide) (b_X12_store_33 C) ?_
  refine s_aload_n (k := 0) C (by decide +kernel) ?_
  refine s_iload_n (k := 1) C (by decide +kernel) ?_
  refine s_iload_n (k := 2) C (by decide +kernel) ?_
  refine s_fnV C (j2 := jX12_told) (cl := 12) (nf := 27) rfl rfl (by decide +kernel) rfl w_8_98 w_8_100 w_p7_12 w_1_13 w_8_101 (by decide +kernel) (fun _ _ _ _ _ h => f_X12_told h) (fun _ _ _ _ _ h => r_X12_told h) ?_
  exact s_goto (off := 5) (tgt := 35) C (by decide +kernel) (by decide) (b_X12_store_35 C)
theorem ms_X12_store {Z : Zt} {d : Nat} {S : Sh} {μ : Mi} {ρ : Mr} {Rp : RT} (a0 : Nat) (x1 : Int32) (x2 : Int32) (h : ∀ G : Nat → PT, w_X12_store_0 (MS Z (d + 5)) G Rp [.ref a0, .int x1, .int x2] [] S (0, 0) μ ρ) : MS Z (d + 6) jX12_store [.ref a0, .int x1, .int x2] S μ ρ Rp :=
  MS_of [.ref a0, .int x1, .int x2] (by decide +kernel) rfl rfl (Nat.le_of_ble_eq_true rfl) rfl (fun p e R s m args below meth c C => b_X12_store_0 C _ _ _ _ _ _ (h _ ))
def F_X12_store : FT := fun As S μ ρ k => match As with
  | [.ref a, .int s, .int w] => a = 2737 ∧ RS S ρ ∧ good (μ 2738) ∧ ∀ μ', RQ μ μ' (μ 2738) (μ 2739) (μ 2737 6) → k (some (.int (vStore (μ 2738) s w))) μ'
  | _ => False
theorem r_X12_store {As S μ ρ k} (h : F_X12_store As S μ ρ k) : ∃ a As', As = Value.ref a :: As' ∧ S.2 a = (12, 27) := by
  unfold F_X12_store at h
  split at h
  · exact ⟨_, _, rfl, by rw [h.1]; exact h.2.1.1⟩
  · exact h.elim
set_option maxHeartbeats 1000000 in
theorem f_X12_store {Z : Zt} {d : Nat} {As : List Value} {S : Sh} {μ : Mi} {ρ : Mr} {Rp : RT} (h : F_X12_store As S μ ρ (fun r μ' => Rp r S μ' ρ)) : MS Z (d + 6) jX12_store As S μ ρ Rp := by
  unfold F_X12_store at h
  split at h
  · rename_i a s w
    obtain ⟨rfl, hS, h⟩ := h
    have hS0 := hS
    unfold RS at hS
    obtain ⟨hg, h⟩ := h
    refine ms_X12_store _ _ _ (fun G => ?_)
    unfold vStore at h
    have bad : ¬ (rgd s 0 4 ∧ rgd w 0 16) → Rp (some (.int (-2))) S (M6 μ) ρ := by
      intro c
      have := h _ RQ_0
      rw [if_pos c] at this
      exact this
    simp only [w_X12_store_0, w_X12_store_33, w_X12_store_35, tAload, tIload, nth, tGetI, tGetR, tConst, tLconst, tBin, tUn, tI2l, tAld, tAldR, tAlen, tIast, tBast, tZast, tAast, tIret, tZret, tVret, tAret, tIf, tIf2, tGoto, tIstore, tAstore, sset, tIinc, tDup, tDup2, tPop, tPutI, tPutZ, tPutR, tCallV, tCallS, popN, tFn, tCopy, tMax, tMin, tSw, swc, tRem, tObjI, Option.toList, List.nil_append, List.cons_append, okR, true_and, and_true, true_or, or_true, Nat.zero_le, ne_eq, not_false_eq_true, Nat.reduceEqDiff, F_X12_isStore, F_X12_within, F_X12_told, hS0, hS, e6, M6_row, b2_z, Decidable.not_not, l_leC, l_geC, il_0, il_16]
    refine ⟨fun c => bad (fun z => c z.1), fun c => ⟨fun c2 => bad (fun z => c2 z.2), fun c2 => ⟨c, ?_, ?_⟩⟩⟩
    · obtain ⟨s, rfl, hs0, -, hs⟩ := rg_ex (lo := 0) (hi := 4) c
      rw [nI_clamp hs0]
      exact good_bs hg (by omega)
    · have := h _ (RQ_s (t := qMem (μ 2738) s.toNatClampNeg))
      rw [if_neg (not_not_intro ⟨c, c2⟩)] at this
      exact this
  · exact h.elim
def vCell (A : Rw) (s c : Int32) : Int32 := if ¬ (rgd s 0 4 ∧ rgd c 0 3) then -2147483648 else A (514 * s.toNatClampNeg + 16 + c.toNatClampNeg)
def w_X12_cell_34 (M : CT) (G : Nat → PT) (Rp : RT) : PT := tIret Rp
def w_X12_cell_31 (M : CT) (G : Nat → PT) (Rp : RT) : PT := tConst (-2147483648) <| w_X12_cell_34 M G Rp
def w_X12_cell_0 (M : CT) (G : Nat → PT) (Rp : RT) : PT := tAload 0 <| tConst 0 <| tPutI 12 27 0 <| tIload 1 <| tFn 1 F_X12_isStore <| tIf (fun x => x = 0) (w_X12_cell_31 M G Rp) <| tIload 2 <| tFn 1 F_X12_isCell <| tIf (fun x => x = 0) (w_X12_cell_31 M G Rp) <| tAload 0 <| tIload 1 <| tConst 16 <| tIload 2 <| tBin (fun x y => x + y) <| tFn 3 F_X12_of <| tGoto (w_X12_cell_34 M G Rp)
set_option maxRecDepth 20000 in
theorem b_X12_cell_34 {Z : Zt} {d : Nat} {p : Program} {e : Env} {R : Room} {s : State} {m : MethodId} {args : Array Value} {below : List Frame} {meth : Method} {c : Code} {Rp : RT} (C : Cx Z (d + 2) jX12_cell RX12 p R s m args meth c) : Sd Z jX12_cell p e R s m args below meth c (MQ below (QcS Z Rp) args s 0 0 (fun a => Z.2.2.1 < a)) 34 (w_X12_cell_34 (MS Z (d + 2)) (Gw Z 3 p e R s m args below meth c (MQ below (QcS Z Rp) args s 0 0 (fun a => Z.2.2.1 < a))) Rp) := by
  unfold w_X12_cell_34
  exact s_iret C rfl (by decide +kernel)
set_option maxRecDepth 20000 in
theorem b_X12_cell_31 {Z : Zt} {d : Nat} {p : Program} {e : Env} {R : Room} {s : State} {m : MethodId} {args : Array Value} {below : List Frame} {meth : Method} {c : Code} {Rp : RT} (C : Cx Z (d + 2) jX12_cell RX12 p R s m args meth c) : Sd Z jX12_cell p e R s m args below meth c (MQ below (QcS Z Rp) args s 0 0 (fun a => Z.2.2.1 < a)) 31 (w_X12_cell_31 (MS Z (d + 2)) (Gw Z 3 p e R s m args below meth c (MQ below (QcS Z Rp) args s 0 0 (fun a => Z.2.2.1 < a))) Rp) := by
  unfold w_X12_cell_31
  refine s_ldcw C w_8_106 (by decide +kernel) ?_
  exact (b_X12_cell_34 C)
set_option maxRecDepth 20000 in
theorem b_X12_cell_0 {Z : Zt} {d : Nat} {p : Program} {e : Env} {R : Room} {s : State} {m : MethodId} {args : Array Value} {below : List Frame} {meth : Method} {c : Code} {Rp : RT} (C : Cx Z (d + 2) jX12_cell RX12 p R s m args meth c) : Sd Z jX12_cell p e R s m args below meth c (MQ below (QcS Z Rp) args s 0 0 (fun a => Z.2.2.1 < a)) 0 (w_X12_cell_0 (MS Z (d + 2)) (Gw Z 3 p e R s m args below meth c (MQ below (QcS Z Rp) args s 0 0 (fun a => Z.2.2.1 < a))) Rp) := by
  unfold w_X12_cell_0
  refine s_aload_n (k := 0) C (by decide +kernel) ?_
  refine s_iconst (n := 0) C (by decide +kernel) (by decide) ?_
  refine s_putI C w_6_87 (by decide +kernel) rfl (Or.inl rfl) ?_
  refine s_iload_n (k := 1) C (by decide +kernel) ?_
  refine s_fnS C (j2 := jX12_isStore) (by decide +kernel) rfl w_6_208 w_6_209 w_1_13 w_6_210 (by decide +kernel) (fun _ _ _ _ _ h => f_X12_isStore h) ?_
  refine s_if_eq (off := 22) (tgt := 31) C (by decide +kernel) (by decide) (b_X12_cell_31 C) ?_
  refine s_iload_n (k := 2) C (by decide +kernel) ?_
  refine s_fnS C (j2 := jX12_isCell) (by decide +kernel) rfl w_7_90 w_7_91 w_1_13 w_7_92 (by decide +kernel) (fun _ _ _ _ _ h => f_X12_isCell h) ?_
  refine s_if_eq (off := 15) (tgt := 31) C (by decide +kernel) (by decide) (b_X12_cell_31 C) ?_
  refine s_aload_n (k := 0) C (by decide +kernel) ?_
  refine s_iload_n (k := 1) C (by decide +kernel) ?_
  refine s_bipush (n := 16) C (by decide +kernel) (by decide) ?_
  refine s_iload_n (k := 2) C (by decide +kernel) ?_
  refine s_iadd C (by decide +kernel) ?_
  refine s_fnV C (j2 := jX12_of) (cl := 12) (nf := 27) rfl rfl (by decide +kernel) rfl w_6_220 w_6_222 w_p3_11 w_1_13 w_6_223 (by decide +kernel) (fun _ _ _ _ _ h => f_X12_of h) (fun _ _ _ _ _ h => r_X12_of h) ?_
  exact s_goto (off := 6) (tgt := 34) C (by decide +kernel) (by decide) (b_X12_cell_34 C)
theorem ms_X12_cell {Z : Zt} {d : Nat} {S : Sh} {μ : Mi} {ρ : Mr} {Rp : RT} (a0 : Nat) (x1 : Int32) (x2 : Int32) (h : ∀ G : Nat → PT, w_X12_cell_0 (MS Z (d + 2)) G Rp [.ref a0, .int x1, .int x2] [] S (0, 0) μ ρ) : MS Z (d + 3) jX12_cell [.ref a0, .int x1, .int x2] S μ ρ Rp :=
  MS_of [.ref a0, .int x1, .int x2] (by decide +kernel) rfl rfl (Nat.le_of_ble_eq_true rfl) rfl (fun p e R s m args below meth c C => b_X12_cell_0 C _ _ _ _ _ _ (h _ ))
def F_X12_cell : FT := fun As S μ ρ k => match As with
  | [.ref a, .int s, .int x] => a = 2737 ∧ RS S ρ ∧ good (μ 2738) ∧ ∀ μ', RQ μ μ' (μ 2738) (μ 2739) (μ 2737 6) → k (some (.int (vCell (μ 2738) s x))) μ'
  | _ => False
theorem r_X12_cell {As S μ ρ k} (h : F_X12_cell As S μ ρ k) : ∃ a As', As = Value.ref a :: As' ∧ S.2 a = (12, 27) := by
  unfold F_X12_cell at h
  split at h
  · exact ⟨_, _, rfl, by rw [h.1]; exact h.2.1.1⟩
  · exact h.elim
set_option maxHeartbeats 1000000 in
theorem f_X12_cell {Z : Zt} {d : Nat} {As : List Value} {S : Sh} {μ : Mi} {ρ : Mr} {Rp : RT} (h : F_X12_cell As S μ ρ (fun r μ' => Rp r S μ' ρ)) : MS Z (d + 3) jX12_cell As S μ ρ Rp := by
  unfold F_X12_cell at h
  split at h
  · rename_i a s x
    obtain ⟨rfl, hS, h⟩ := h
    have hS0 := hS
    unfold RS at hS
    obtain ⟨hg, h⟩ := h
    refine ms_X12_cell _ _ _ (fun G => ?_)
    unfold vCell at h
    have bad : ¬ (rgd s 0 4 ∧ rgd x 0 3) → Rp (some (.int (-2147483648))) S (M6 μ) ρ := by
      intro c
      have := h _ RQ_0
      rw [if_pos c] at this
      exact this
    simp only [w_X12_cell_0, w_X12_cell_31, w_X12_cell_34, tAload, tIload, nth, tGetI, tGetR, tConst, tLconst, tBin, tUn, tI2l, tAld, tAldR, tAlen, tIast, tBast, tZast, tAast, tIret, tZret, tVret, tAret, tIf, tIf2, tGoto, tIstore, tAstore, sset, tIinc, tDup, tDup2, tPop, tPutI, tPutZ, tPutR, tCallV, tCallS, popN, tFn, tCopy, tMax, tMin, tSw, swc, tRem, tObjI, Option.toList, List.nil_append, List.cons_append, okR, true_and, and_true, true_or, or_true, Nat.zero_le, ne_eq, not_false_eq_true, Nat.reduceEqDiff, F_X12_isStore, F_X12_isCell, F_X12_of, hS0, hS, e6, M6_row, b2_z, Decidable.not_not]
    refine ⟨fun c => bad (fun z => c z.1), fun c => ⟨fun c2 => bad (fun z => c2 z.2), fun c2 => ?_⟩⟩
    rw [if_neg (not_not_intro ⟨c, c2⟩)] at h
    obtain ⟨s, rfl, hs0, -, hs⟩ := rg_ex (lo := 0) (hi := 4) c
    obtain ⟨x, rfl, hx0, -, hx⟩ := rg_ex (lo := 0) (hi := 3) c2
    rw [nI_clamp hs0, nI_clamp hx0] at h
    rw [nad' 16 16 rfl, ixs (16 + x) _ rfl]
    simp (disch := omega) only [nI_clamp, nI_inb]
    rw [← Nat.add_assoc]
    exact ⟨by omega, h _ RQ_0⟩
  · exact h.elim
def vEntry (A : Rw) (s p w : Int32) : Int32 := if ¬ (rgd s 0 4 ∧ rgd w 0 3 ∧ (A (514 * s.toNatClampNeg + 5)).toInt < p.toInt ∧ p.toInt ≤ (A (514 * s.toNatClampNeg + 4)).toInt) then -1000 else A (514 * s.toNatClampNeg + 30 + 4 * p.toNatClampNeg + w.toNatClampNeg)
def w_X12_entry_46 (M : CT) (G : Nat → PT) (Rp : RT) : PT := tIret Rp
def w_X12_entry_43 (M : CT) (G : Nat → PT) (Rp : RT) : PT := tConst (-1000) <| w_X12_entry_46 M G Rp
def w_X12_entry_0 (M : CT) (G : Nat → PT) (Rp : RT) : PT := tAload 0 <| tConst 0 <| tPutI 12 27 0 <| tIload 1 <| tFn 1 F_X12_isStore <| tIf (fun x => x = 0) (w_X12_entry_43 M G Rp) <| tIload 3 <| tI2l <| tLconst 0 <| tLconst 3 <| tFn 3 F_X12_within <| tIf (fun x => x = 0) (w_X12_entry_43 M G Rp) <| tAload 0 <| tIload 1 <| tIload 2 <| tFn 3 F_X12_isInLog <| tIf (fun x => x = 0) (w_X12_entry_43 M G Rp) <| tAload 0 <| tIload 1 <| tIload 2 <| tIload 3 <| tFn 4 F_X12_ofEntry <| tGoto (w_X12_entry_46 M G Rp)
set_option maxRecDepth 20000 in
theorem b_X12_entry_46 {Z : Zt} {d : Nat} {p : Program} {e : Env} {R : Room} {s : State} {m : MethodId} {args : Array Value} {below : List Frame} {meth : Method} {c : Code} {Rp : RT} (C : Cx Z (d + 2) jX12_entry RX12 p R s m args meth c) : Sd Z jX12_entry p e R s m args below meth c (MQ below (QcS Z Rp) args s 0 0 (fun a => Z.2.2.1 < a)) 46 (w_X12_entry_46 (MS Z (d + 2)) (Gw Z 4 p e R s m args below meth c (MQ below (QcS Z Rp) args s 0 0 (fun a => Z.2.2.1 < a))) Rp) := by
  unfold w_X12_entry_46
  exact s_iret C rfl (by decide +kernel)
set_option maxRecDepth 20000 in
theorem b_X12_entry_43 {Z : Zt} {d : Nat} {p : Program} {e : Env} {R : Room} {s : State} {m : MethodId} {args : Array Value} {below : List Frame} {meth : Method} {c : Code} {Rp : RT} (C : Cx Z (d + 2) jX12_entry RX12 p R s m args meth c) : Sd Z jX12_entry p e R s m args below meth c (MQ below (QcS Z Rp) args s 0 0 (fun a => Z.2.2.1 < a)) 43 (w_X12_entry_43 (MS Z (d + 2)) (Gw Z 4 p e R s m args below meth c (MQ below (QcS Z Rp) args s 0 0 (fun a => Z.2.2.1 < a))) Rp) := by
  unfold w_X12_entry_43
  refine s_sipush (n := (-1000)) C (by decide +kernel) (by decide) ?_
  exact (b_X12_entry_46 C)
set_option maxRecDepth 20000 in
theorem b_X12_entry_0 {Z : Zt} {d : Nat} {p : Program} {e : Env} {R : Room} {s : State} {m : MethodId} {args : Array Value} {below : List Frame} {meth : Method} {c : Code} {Rp : RT} (C : Cx Z (d + 2) jX12_entry RX12 p R s m args meth c) : Sd Z jX12_entry p e R s m args below meth c (MQ below (QcS Z Rp) args s 0 0 (fun a => Z.2.2.1 < a)) 0 (w_X12_entry_0 (MS Z (d + 2)) (Gw Z 4 p e R s m args below meth c (MQ below (QcS Z Rp) args s 0 0 (fun a => Z.2.2.1 < a))) Rp) := by
  unfold w_X12_entry_0
  refine s_aload_n (k := 0) C (by decide +kernel) ?_
  refine s_iconst (n := 0) C (by decide +kernel) (by decide) ?_
  refine s_putI C w_6_87 (by decide +kernel) rfl (Or.inl rfl) ?_
  refine s_iload_n (k := 1) C (by decide +kernel) ?_
  refine s_fnS C (j2 := jX12_isStore) (by decide +kernel) rfl w_6_208 w_6_209 w_1_13 w_6_210 (by decide +kernel) (fun _ _ _ _ _ h => f_X12_isStore h) ?_
  refine s_if_eq (off := 34) (tgt := 43) C (by decide +kernel) (by decide) (b_X12_entry_43 C) ?_
  refine s_iload_n (k := 3) C (by decide +kernel) ?_
  refine s_i2l C (by decide +kernel) ?_
  refine s_lconst (n := 0) C (by decide +kernel) (by decide) ?_
  refine s_ldc2 C w_7_93 (by decide +kernel) ?_
  refine s_fnS C (j2 := jX12_within) (by decide +kernel) rfl w_6_175 w_6_176 w_1_13 w_6_177 (by decide +kernel) (fun _ _ _ _ _ h => f_X12_within h) ?_
  refine s_if_eq (off := 22) (tgt := 43) C (by decide +kernel) (by decide) (b_X12_entry_43 C) ?_
  refine s_aload_n (k := 0) C (by decide +kernel) ?_
  refine s_iload_n (k := 1) C (by decide +kernel) ?_
  refine s_iload_n (k := 2) C (by decide +kernel) ?_
  refine s_fnV C (j2 := jX12_isInLog) (cl := 12) (nf := 27) rfl rfl (by decide +kernel) rfl w_8_111 w_8_113 w_p7_13 w_1_13 w_8_114 (by decide +kernel) (fun _ _ _ _ _ h => f_X12_isInLog h) (fun _ _ _ _ _ h => r_X12_isInLog h) ?_
  refine s_if_eq (off := 13) (tgt := 43) C (by decide +kernel) (by decide) (b_X12_entry_43 C) ?_
  refine s_aload_n (k := 0) C (by decide +kernel) ?_
  refine s_iload_n (k := 1) C (by decide +kernel) ?_
  refine s_iload_n (k := 2) C (by decide +kernel) ?_
  refine s_iload_n (k := 3) C (by decide +kernel) ?_
  refine s_fnV C (j2 := jX12_ofEntry) (cl := 12) (nf := 27) rfl rfl (by decide +kernel) rfl w_6_228 w_6_230 w_p3_13 w_1_13 w_6_231 (by decide +kernel) (fun _ _ _ _ _ h => f_X12_ofEntry h) (fun _ _ _ _ _ h => r_X12_ofEntry h) ?_
  exact s_goto (off := 6) (tgt := 46) C (by decide +kernel) (by decide) (b_X12_entry_46 C)
theorem ms_X12_entry {Z : Zt} {d : Nat} {S : Sh} {μ : Mi} {ρ : Mr} {Rp : RT} (a0 : Nat) (x1 : Int32) (x2 : Int32) (x3 : Int32) (h : ∀ G : Nat → PT, w_X12_entry_0 (MS Z (d + 2)) G Rp [.ref a0, .int x1, .int x2, .int x3] [] S (0, 0) μ ρ) : MS Z (d + 3) jX12_entry [.ref a0, .int x1, .int x2, .int x3] S μ ρ Rp :=
  MS_of [.ref a0, .int x1, .int x2, .int x3] (by decide +kernel) rfl rfl (Nat.le_of_ble_eq_true rfl) rfl (fun p e R s m args below meth c C => b_X12_entry_0 C _ _ _ _ _ _ (h _ ))
def F_X12_entry : FT := fun As S μ ρ k => match As with
  | [.ref a, .int s, .int p, .int w] => a = 2737 ∧ RS S ρ ∧ good (μ 2738) ∧ ∀ μ', RQ μ μ' (μ 2738) (μ 2739) (μ 2737 6) → k (some (.int (vEntry (μ 2738) s p w))) μ'
  | _ => False
theorem r_X12_entry {As S μ ρ k} (h : F_X12_entry As S μ ρ k) : ∃ a As', As = Value.ref a :: As' ∧ S.2 a = (12, 27) := by
  unfold F_X12_entry at h
  split at h
  · exact ⟨_, _, rfl, by rw [h.1]; exact h.2.1.1⟩
  · exact h.elim
set_option maxHeartbeats 1000000 in
theorem f_X12_entry {Z : Zt} {d : Nat} {As : List Value} {S : Sh} {μ : Mi} {ρ : Mr} {Rp : RT} (h : F_X12_entry As S μ ρ (fun r μ' => Rp r S μ' ρ)) : MS Z (d + 3) jX12_entry As S μ ρ Rp := by
  unfold F_X12_entry at h
  split at h
  · rename_i a s p w
    obtain ⟨rfl, hS, h⟩ := h
    have hS0 := hS
    unfold RS at hS
    obtain ⟨hg, h⟩ := h
    refine ms_X12_entry _ _ _ _ (fun G => ?_)
    unfold vEntry at h
    have bad : ¬ (rgd s 0 4 ∧ rgd w 0 3 ∧ (μ 2738 (514 * s.toNatClampNeg + 5)).toInt < p.toInt ∧ p.toInt ≤ (μ 2738 (514 * s.toNatClampNeg + 4)).toInt) → Rp (some (.int (-1000))) S (M6 μ) ρ := by
      intro c
      have := h _ RQ_0
      rw [if_pos c] at this
      exact this
    simp only [w_X12_entry_0, w_X12_entry_43, w_X12_entry_46, tAload, tIload, nth, tGetI, tGetR, tConst, tLconst, tBin, tUn, tI2l, tAld, tAldR, tAlen, tIast, tBast, tZast, tAast, tIret, tZret, tVret, tAret, tIf, tIf2, tGoto, tIstore, tAstore, sset, tIinc, tDup, tDup2, tPop, tPutI, tPutZ, tPutR, tCallV, tCallS, popN, tFn, tCopy, tMax, tMin, tSw, swc, tRem, tObjI, Option.toList, List.nil_append, List.cons_append, okR, true_and, and_true, true_or, or_true, Nat.zero_le, ne_eq, not_false_eq_true, Nat.reduceEqDiff, F_X12_isStore, F_X12_within, F_X12_isInLog, F_X12_ofEntry, hS0, hS, e6, M6_row, b2_z, Decidable.not_not, l_leC, l_geC, il_0, il_3]
    refine ⟨fun c => bad (fun z => c z.1), fun c => ⟨fun c2 => bad (fun z => c2 z.2.1), fun c2 => ?_⟩⟩
    have hst : stOK (μ 2738) s.toNatClampNeg := by
      obtain ⟨s, rfl, hs0, -, hs⟩ := rg_ex (lo := 0) (hi := 4) c
      rw [nI_clamp hs0]
      exact good_st hg (by omega)
    refine ⟨c, hst.1.1.2.2.1, fun c3 => bad (fun z => c3 z.2.2), fun c3 => ⟨c, ⟨?_, ?_⟩, c2, ?_⟩⟩
    · have := hst.1.1.2.2.1.1; omega
    · have := hst.1.1.2.1.2; omega
    · have := h _ RQ_0
      rw [if_neg (not_not_intro ⟨c, c2, c3⟩)] at this
      exact this
  · exact h.elim
def vFollows (A : Rw) (l s w : Int32) : Int32 := if ¬ (rgd l 0 4 ∧ rgd s 0 4 ∧ rgd w 0 1) then -2 else if ¬ A (514 * l.toNatClampNeg + 3) = 2 then -1 else A (514 * l.toNatClampNeg + (if w = 0 then 24 else 29) + s.toNatClampNeg)
def w_X12_follows_62 (M : CT) (G : Nat → PT) (Rp : RT) : PT := tIret Rp
def w_X12_follows_61 (M : CT) (G : Nat → PT) (Rp : RT) : PT := tConst (-1) <| w_X12_follows_62 M G Rp
def w_X12_follows_53 (M : CT) (G : Nat → PT) (Rp : RT) : PT := tIload 2 <| tBin (fun x y => x + y) <| tFn 3 F_X12_of <| tGoto (w_X12_follows_62 M G Rp)
def w_X12_follows_51 (M : CT) (G : Nat → PT) (Rp : RT) : PT := tConst 29 <| w_X12_follows_53 M G Rp
def w_X12_follows_32 (M : CT) (G : Nat → PT) (Rp : RT) : PT := tAload 0 <| tIload 1 <| tFn 2 F_X12_isLeader <| tIf (fun x => x = 0) (w_X12_follows_61 M G Rp) <| tAload 0 <| tIload 1 <| tIload 3 <| tIf (fun x => x ≠ 0) (w_X12_follows_51 M G Rp) <| tConst 24 <| tGoto (w_X12_follows_53 M G Rp)
def w_X12_follows_29 (M : CT) (G : Nat → PT) (Rp : RT) : PT := tConst (-2) <| tIret Rp
def w_X12_follows_0 (M : CT) (G : Nat → PT) (Rp : RT) : PT := tAload 0 <| tConst 0 <| tPutI 12 27 0 <| tIload 1 <| tFn 1 F_X12_isStore <| tIf (fun x => x = 0) (w_X12_follows_29 M G Rp) <| tIload 2 <| tFn 1 F_X12_isStore <| tIf (fun x => x = 0) (w_X12_follows_29 M G Rp) <| tIload 3 <| tI2l <| tLconst 0 <| tLconst 1 <| tFn 3 F_X12_within <| tIf (fun x => x ≠ 0) (w_X12_follows_32 M G Rp) <| w_X12_follows_29 M G Rp
set_option maxRecDepth 20000 in
theorem b_X12_follows_62 {Z : Zt} {d : Nat} {p : Program} {e : Env} {R : Room} {s : State} {m : MethodId} {args : Array Value} {below : List Frame} {meth : Method} {c : Code} {Rp : RT} (C : Cx Z (d + 2) jX12_follows RX12 p R s m args meth c) : Sd Z jX12_follows p e R s m args below meth c (MQ below (QcS Z Rp) args s 0 0 (fun a => Z.2.2.1 < a)) 62 (w_X12_follows_62 (MS Z (d + 2)) (Gw Z 4 p e R s m args below meth c (MQ below (QcS Z Rp) args s 0 0 (fun a => Z.2.2.1 < a))) Rp) := by
  unfold w_X12_follows_62
  exact s_iret C rfl (by decide +kernel)
set_option maxRecDepth 20000 in
theorem b_X12_follows_61 {Z : Zt} {d : Nat} {p : Program} {e : Env} {R : Room} {s : State} {m : MethodId} {args : Array Value} {below : List Frame} {meth : Method} {c : Code} {Rp : RT} (C : Cx Z (d + 2) jX12_follows RX12 p R s m args meth c) : Sd Z jX12_follows p e R s m args below meth c (MQ below (QcS Z Rp) args s 0 0 (fun a => Z.2.2.1 < a)) 61 (w_X12_follows_61 (MS Z (d + 2)) (Gw Z 4 p e R s m args below meth c (MQ below (QcS Z Rp) args s 0 0 (fun a => Z.2.2.1 < a))) Rp) := by
  unfold w_X12_follows_61
  refine s_iconst (n := (-1)) C (by decide +kernel) (by decide) ?_
  exact (b_X12_follows_62 C)
set_option maxRecDepth 20000 in
theorem b_X12_follows_53 {Z : Zt} {d : Nat} {p : Program} {e : Env} {R : Room} {s : State} {m : MethodId} {args : Array Value} {below : List Frame} {meth : Method} {c : Code} {Rp : RT} (C : Cx Z (d + 2) jX12_follows RX12 p R s m args meth c) : Sd Z jX12_follows p e R s m args below meth c (MQ below (QcS Z Rp) args s 0 0 (fun a => Z.2.2.1 < a)) 53 (w_X12_follows_53 (MS Z (d + 2)) (Gw Z 4 p e R s m args below meth c (MQ below (QcS Z Rp) args s 0 0 (fun a => Z.2.2.1 < a))) Rp) := by
  unfold w_X12_follows_53
  refine s_iload_n (k := 2) C (by decide +kernel) ?_
  refine s_iadd C (by decide +kernel) ?_
  refine s_fnV C (j2 := jX12_of) (cl := 12) (nf := 27) rfl rfl (by decide +kernel) rfl w_6_220 w_6_222 w_p3_11 w_1_13 w_6_223 (by decide +kernel) (fun _ _ _ _ _ h => f_X12_of h) (fun _ _ _ _ _ h => r_X12_of h) ?_
  exact s_goto (off := 4) (tgt := 62) C (by decide +kernel) (by decide) (b_X12_follows_62 C)
set_option maxRecDepth 20000 in
theorem b_X12_follows_51 {Z : Zt} {d : Nat} {p : Program} {e : Env} {R : Room} {s : State} {m : MethodId} {args : Array Value} {below : List Frame} {meth : Method} {c : Code} {Rp : RT} (C : Cx Z (d + 2) jX12_follows RX12 p R s m args meth c) : Sd Z jX12_follows p e R s m args below meth c (MQ below (QcS Z Rp) args s 0 0 (fun a => Z.2.2.1 < a)) 51 (w_X12_follows_51 (MS Z (d + 2)) (Gw Z 4 p e R s m args below meth c (MQ below (QcS Z Rp) args s 0 0 (fun a => Z.2.2.1 < a))) Rp) := by
  unfold w_X12_follows_51
  refine s_bipush (n := 29) C (by decide +kernel) (by decide) ?_
  exact (b_X12_follows_53 C)
set_option maxRecDepth 20000 in
theorem b_X12_follows_32 {Z : Zt} {d : Nat} {p : Program} {e : Env} {R : Room} {s : State} {m : MethodId} {args : Array Value} {below : List Frame} {meth : Method} {c : Code} {Rp : RT} (C : Cx Z (d + 2) jX12_follows RX12 p R s m args meth c) : Sd Z jX12_follows p e R s m args below meth c (MQ below (QcS Z Rp) args s 0 0 (fun a => Z.2.2.1 < a)) 32 (w_X12_follows_32 (MS Z (d + 2)) (Gw Z 4 p e R s m args below meth c (MQ below (QcS Z Rp) args s 0 0 (fun a => Z.2.2.1 < a))) Rp) := by
  unfold w_X12_follows_32
  refine s_aload_n (k := 0) C (by decide +kernel) ?_
  refine s_iload_n (k := 1) C (by decide +kernel) ?_
  refine s_fnV C (j2 := jX12_isLeader) (cl := 12) (nf := 27) rfl rfl (by decide +kernel) rfl w_6_236 w_6_238 w_p3_15 w_1_13 w_6_239 (by decide +kernel) (fun _ _ _ _ _ h => f_X12_isLeader h) (fun _ _ _ _ _ h => r_X12_isLeader h) ?_
  refine s_if_eq (off := 24) (tgt := 61) C (by decide +kernel) (by decide) (b_X12_follows_61 C) ?_
  refine s_aload_n (k := 0) C (by decide +kernel) ?_
  refine s_iload_n (k := 1) C (by decide +kernel) ?_
  refine s_iload_n (k := 3) C (by decide +kernel) ?_
  refine s_if_ne (off := 8) (tgt := 51) C (by decide +kernel) (by decide) (b_X12_follows_51 C) ?_
  refine s_bipush (n := 24) C (by decide +kernel) (by decide) ?_
  exact s_goto (off := 5) (tgt := 53) C (by decide +kernel) (by decide) (b_X12_follows_53 C)
set_option maxRecDepth 20000 in
theorem b_X12_follows_29 {Z : Zt} {d : Nat} {p : Program} {e : Env} {R : Room} {s : State} {m : MethodId} {args : Array Value} {below : List Frame} {meth : Method} {c : Code} {Rp : RT} (C : Cx Z (d + 2) jX12_follows RX12 p R s m args meth c) : Sd Z jX12_follows p e R s m args below meth c (MQ below (QcS Z Rp) args s 0 0 (fun a => Z.2.2.1 < a)) 29 (w_X12_follows_29 (MS Z (d + 2)) (Gw Z 4 p e R s m args below meth c (MQ below (QcS Z Rp) args s 0 0 (fun a => Z.2.2.1 < a))) Rp) := by
  unfold w_X12_follows_29
  refine s_bipush (n := (-2)) C (by decide +kernel) (by decide) ?_
  exact s_iret C rfl (by decide +kernel)
set_option maxRecDepth 20000 in
theorem b_X12_follows_0 {Z : Zt} {d : Nat} {p : Program} {e : Env} {R : Room} {s : State} {m : MethodId} {args : Array Value} {below : List Frame} {meth : Method} {c : Code} {Rp : RT} (C : Cx Z (d + 2) jX12_follows RX12 p R s m args meth c) : Sd Z jX12_follows p e R s m args below meth c (MQ below (QcS Z Rp) args s 0 0 (fun a => Z.2.2.1 < a)) 0 (w_X12_follows_0 (MS Z (d + 2)) (Gw Z 4 p e R s m args below meth c (MQ below (QcS Z Rp) args s 0 0 (fun a => Z.2.2.1 < a))) Rp) := by
  unfold w_X12_follows_0
  refine s_aload_n (k := 0) C (by decide +kernel) ?_
  refine s_iconst (n := 0) C (by decide +kernel) (by decide) ?_
  refine s_putI C w_6_87 (by decide +kernel) rfl (Or.inl rfl) ?_
  refine s_iload_n (k := 1) C (by decide +kernel) ?_
  refine s_fnS C (j2 := jX12_isStore) (by decide +kernel) rfl w_6_208 w_6_209 w_1_13 w_6_210 (by decide +kernel) (fun _ _ _ _ _ h => f_X12_isStore h) ?_
  refine s_if_eq (off := 20) (tgt := 29) C (by decide +kernel) (by decide) (b_X12_follows_29 C) ?_
  refine s_iload_n (k := 2) C (by decide +kernel) ?_
  refine s_fnS C (j2 := jX12_isStore) (by decide +kernel) rfl w_6_208 w_6_209 w_1_13 w_6_210 (by decide +kernel) (fun _ _ _ _ _ h => f_X12_isStore h) ?_
  refine s_if_eq (off := 13) (tgt := 29) C (by decide +kernel) (by decide) (b_X12_follows_29 C) ?_
  refine s_iload_n (k := 3) C (by decide +kernel) ?_
  refine s_i2l C (by decide +kernel) ?_
  refine s_lconst (n := 0) C (by decide +kernel) (by decide) ?_
  refine s_lconst (n := 1) C (by decide +kernel) (by decide) ?_
  refine s_fnS C (j2 := jX12_within) (by decide +kernel) rfl w_6_175 w_6_176 w_1_13 w_6_177 (by decide +kernel) (fun _ _ _ _ _ h => f_X12_within h) ?_
  refine s_if_ne (off := 6) (tgt := 32) C (by decide +kernel) (by decide) (b_X12_follows_32 C) ?_
  exact (b_X12_follows_29 C)
theorem ms_X12_follows {Z : Zt} {d : Nat} {S : Sh} {μ : Mi} {ρ : Mr} {Rp : RT} (a0 : Nat) (x1 : Int32) (x2 : Int32) (x3 : Int32) (h : ∀ G : Nat → PT, w_X12_follows_0 (MS Z (d + 2)) G Rp [.ref a0, .int x1, .int x2, .int x3] [] S (0, 0) μ ρ) : MS Z (d + 3) jX12_follows [.ref a0, .int x1, .int x2, .int x3] S μ ρ Rp :=
  MS_of [.ref a0, .int x1, .int x2, .int x3] (by decide +kernel) rfl rfl (Nat.le_of_ble_eq_true rfl) rfl (fun p e R s m args below meth c C => b_X12_follows_0 C _ _ _ _ _ _ (h _ ))
def F_X12_follows : FT := fun As S μ ρ k => match As with
  | [.ref a, .int l, .int s, .int w] => a = 2737 ∧ RS S ρ ∧ good (μ 2738) ∧ ∀ μ', RQ μ μ' (μ 2738) (μ 2739) (μ 2737 6) → k (some (.int (vFollows (μ 2738) l s w))) μ'
  | _ => False
theorem r_X12_follows {As S μ ρ k} (h : F_X12_follows As S μ ρ k) : ∃ a As', As = Value.ref a :: As' ∧ S.2 a = (12, 27) := by
  unfold F_X12_follows at h
  split at h
  · exact ⟨_, _, rfl, by rw [h.1]; exact h.2.1.1⟩
  · exact h.elim
set_option maxHeartbeats 1000000 in
theorem f_X12_follows {Z : Zt} {d : Nat} {As : List Value} {S : Sh} {μ : Mi} {ρ : Mr} {Rp : RT} (h : F_X12_follows As S μ ρ (fun r μ' => Rp r S μ' ρ)) : MS Z (d + 3) jX12_follows As S μ ρ Rp := by
  unfold F_X12_follows at h
  split at h
  · rename_i a l s w
    obtain ⟨rfl, hS, h⟩ := h
    have hS0 := hS
    unfold RS at hS
    obtain ⟨hg, h⟩ := h
    refine ms_X12_follows _ _ _ _ (fun G => ?_)
    unfold vFollows at h
    have bad : ¬ (rgd l 0 4 ∧ rgd s 0 4 ∧ rgd w 0 1) → Rp (some (.int (-2))) S (M6 μ) ρ := by
      intro c
      have := h _ RQ_0
      rw [if_pos c] at this
      exact this
    simp only [w_X12_follows_0, w_X12_follows_29, tAload, tIload, nth, tGetI, tGetR, tConst, tLconst, tBin, tUn, tI2l, tAld, tAldR, tAlen, tIast, tBast, tZast, tAast, tIret, tZret, tVret, tAret, tIf, tIf2, tGoto, tIstore, tAstore, sset, tIinc, tDup, tDup2, tPop, tPutI, tPutZ, tPutR, tCallV, tCallS, popN, tFn, tCopy, tMax, tMin, tSw, swc, tRem, tObjI, Option.toList, List.nil_append, List.cons_append, okR, true_and, and_true, true_or, or_true, Nat.zero_le, ne_eq, not_false_eq_true, Nat.reduceEqDiff, F_X12_isStore, F_X12_within, hS0, hS, e6, M6_row, b2_z, Decidable.not_not, l_leC, l_geC, il_0, il_1]
    refine ⟨fun c => bad (fun z => c z.1), fun c => ⟨fun c2 => bad (fun z => c2 z.2.1), fun c2 => ⟨fun c3 => ?_, fun c3 => bad (fun z => c3 z.2.2)⟩⟩⟩
    rw [if_neg (not_not_intro ⟨c, c2, c3⟩)] at h
    obtain ⟨l, rfl, hl0, -, hl⟩ := rg_ex (lo := 0) (hi := 4) c
    obtain ⟨s, rfl, hs0, -, hs⟩ := rg_ex (lo := 0) (hi := 4) c2
    have hrl := rg_T (lo := 0) (hi := 4) (n := l) (by omega) (by omega) hl0
    rw [nI_clamp hl0, nI_clamp hs0] at h
    simp only [w_X12_follows_32, w_X12_follows_51, w_X12_follows_53, w_X12_follows_61, w_X12_follows_62, tAload, tIload, nth, tGetI, tGetR, tConst, tLconst, tBin, tUn, tI2l, tAld, tAldR, tAlen, tIast, tBast, tZast, tAast, tIret, tZret, tVret, tAret, tIf, tIf2, tGoto, tIstore, tAstore, sset, tIinc, tDup, tDup2, tPop, tPutI, tPutZ, tPutR, tCallV, tCallS, popN, tFn, tCopy, tMax, tMin, tSw, swc, tRem, tObjI, Option.toList, List.nil_append, List.cons_append, okR, true_and, and_true, true_or, or_true, Nat.zero_le, ne_eq, not_false_eq_true, Nat.reduceEqDiff, F_X12_isLeader, F_X12_of, hS0, hrl, M6_row, b2_z, Decidable.not_not]
    rw [nad' 24 24 rfl, nad' 29 29 rfl, ixs (24 + s) _ rfl, ixs (29 + s) _ rfl]
    simp (disch := omega) only [nI_clamp, nI_inb]
    have hq := h _ RQ_0
    refine ⟨fun c4 => ?_, fun c4 => ⟨fun c5 => ⟨by omega, ?_⟩, fun c5 => ⟨by omega, ?_⟩⟩⟩
    · rw [if_pos c4] at hq; exact hq
    · rw [if_neg (not_not_intro c4), if_neg c5] at hq
      rw [← Nat.add_assoc]; exact hq
    · rw [if_neg (not_not_intro c4), if_pos c5] at hq
      rw [← Nat.add_assoc]; exact hq
  · exact h.elim
def vMessage (A : Rw) (i w : Int32) : Int32 := if ¬ isMsg A i then -2 else
  if w = 0 ∨ w = 1 ∨ w = 4 ∨ w = 5 ∨ w = 6 ∨ w = 7 then A (2570 + 21 * i.toNatClampNeg + w.toNatClampNeg) else if w = 2 then A (2570 + 21 * i.toNatClampNeg + 3) else if w = 3 then A (2570 + 21 * i.toNatClampNeg + 2) else
  if w = 8 then (if A (514 * (A (2570 + 21 * i.toNatClampNeg + 1)).toNatClampNeg) = 1 ∧ (A 4513 >>> ((5 * A (2570 + 21 * i.toNatClampNeg) + A (2570 + 21 * i.toNatClampNeg + 1)) &&& 31)) &&& 1 = 1 then 1 else 0) else if w = 9 then A (2570 + 21 * i.toNatClampNeg + 8) else -2
def w_X12_message_139 (M : CT) (G : Nat → PT) (Rp : RT) : PT := tConst (-2) <| tIret Rp
def w_X12_message_131 (M : CT) (G : Nat → PT) (Rp : RT) : PT := tAload 0 <| tIload 1 <| tConst 8 <| tFn 3 F_X12_ofMessage <| tIret Rp
def w_X12_message_130 (M : CT) (G : Nat → PT) (Rp : RT) : PT := tIret Rp
def w_X12_message_129 (M : CT) (G : Nat → PT) (Rp : RT) : PT := tConst 0 <| w_X12_message_130 M G Rp
def w_X12_message_93 (M : CT) (G : Nat → PT) (Rp : RT) : PT := tAload 0 <| tAload 0 <| tIload 1 <| tConst 1 <| tFn 3 F_X12_ofMessage <| tFn 2 F_X12_isUp <| tIf (fun x => x = 0) (w_X12_message_129 M G Rp) <| tAload 0 <| tAload 0 <| tIload 1 <| tConst 0 <| tFn 3 F_X12_ofMessage <| tAload 0 <| tIload 1 <| tConst 1 <| tFn 3 F_X12_ofMessage <| tFn 3 F_X12_isLinked <| tIf (fun x => x = 0) (w_X12_message_129 M G Rp) <| tConst 1 <| tGoto (w_X12_message_130 M G Rp)
def w_X12_message_86 (M : CT) (G : Nat → PT) (Rp : RT) : PT := tAload 0 <| tIload 1 <| tConst 2 <| tFn 3 F_X12_ofMessage <| tIret Rp
def w_X12_message_79 (M : CT) (G : Nat → PT) (Rp : RT) : PT := tAload 0 <| tIload 1 <| tConst 3 <| tFn 3 F_X12_ofMessage <| tIret Rp
def w_X12_message_72 (M : CT) (G : Nat → PT) (Rp : RT) : PT := tAload 0 <| tIload 1 <| tIload 2 <| tFn 3 F_X12_ofMessage <| tIret Rp
def w_X12_message_16 (M : CT) (G : Nat → PT) (Rp : RT) : PT := tIload 2 <| tSw [(0, w_X12_message_72 M G Rp), (1, w_X12_message_72 M G Rp), (2, w_X12_message_79 M G Rp), (3, w_X12_message_86 M G Rp), (4, w_X12_message_72 M G Rp), (5, w_X12_message_72 M G Rp), (6, w_X12_message_72 M G Rp), (7, w_X12_message_72 M G Rp), (8, w_X12_message_93 M G Rp), (9, w_X12_message_131 M G Rp)] (w_X12_message_139 M G Rp)
def w_X12_message_0 (M : CT) (G : Nat → PT) (Rp : RT) : PT := tAload 0 <| tConst 0 <| tPutI 12 27 0 <| tAload 0 <| tIload 1 <| tFn 2 F_X12_isMessage <| tIf (fun x => x ≠ 0) (w_X12_message_16 M G Rp) <| tConst (-2) <| tIret Rp
set_option maxRecDepth 20000 in
theorem b_X12_message_139 {Z : Zt} {d : Nat} {p : Program} {e : Env} {R : Room} {s : State} {m : MethodId} {args : Array Value} {below : List Frame} {meth : Method} {c : Code} {Rp : RT} (C : Cx Z (d + 2) jX12_message RX12 p R s m args meth c) : Sd Z jX12_message p e R s m args below meth c (MQ below (QcS Z Rp) args s 0 0 (fun a => Z.2.2.1 < a)) 139 (w_X12_message_139 (MS Z (d + 2)) (Gw Z 3 p e R s m args below meth c (MQ below (QcS Z Rp) args s 0 0 (fun a => Z.2.2.1 < a))) Rp) := by
  unfold w_X12_message_139
  refine s_bipush (n := (-2)) C (by decide +kernel) (by decide) ?_
  exact s_iret C rfl (by decide +kernel)
set_option maxRecDepth 20000 in
theorem b_X12_message_131 {Z : Zt} {d : Nat} {p : Program} {e : Env} {R : Room} {s : State} {m : MethodId} {args : Array Value} {below : List Frame} {meth : Method} {c : Code} {Rp : RT} (C : Cx Z (d + 2) jX12_message RX12 p R s m args meth c) : Sd Z jX12_message p e R s m args below meth c (MQ below (QcS Z Rp) args s 0 0 (fun a => Z.2.2.1 < a)) 131 (w_X12_message_131 (MS Z (d + 2)) (Gw Z 3 p e R s m args below meth c (MQ below (QcS Z Rp) args s 0 0 (fun a => Z.2.2.1 < a))) Rp) := by
  unfold w_X12_message_131
  refine s_aload_n (k := 0) C (by decide +kernel) ?_
  refine s_iload_n (k := 1) C (by decide +kernel) ?_
  refine s_bipush (n := 8) C (by decide +kernel) (by decide) ?_
  refine s_fnV C (j2 := jX12_ofMessage) (cl := 12) (nf := 27) rfl rfl (by decide +kernel) rfl w_8_123 w_8_125 w_p7_14 w_1_13 w_8_126 (by decide +kernel) (fun _ _ _ _ _ h => f_X12_ofMessage h) (fun _ _ _ _ _ h => r_X12_ofMessage h) ?_
  exact s_iret C rfl (by decide +kernel)
set_option maxRecDepth 20000 in
theorem b_X12_message_130 {Z : Zt} {d : Nat} {p : Program} {e : Env} {R : Room} {s : State} {m : MethodId} {args : Array Value} {below : List Frame} {meth : Method} {c : Code} {Rp : RT} (C : Cx Z (d + 2) jX12_message RX12 p R s m args meth c) : Sd Z jX12_message p e R s m args below meth c (MQ below (QcS Z Rp) args s 0 0 (fun a => Z.2.2.1 < a)) 130 (w_X12_message_130 (MS Z (d + 2)) (Gw Z 3 p e R s m args below meth c (MQ below (QcS Z Rp) args s 0 0 (fun a => Z.2.2.1 < a))) Rp) := by
  unfold w_X12_message_130
  exact s_iret C rfl (by decide +kernel)
set_option maxRecDepth 20000 in
theorem b_X12_message_129 {Z : Zt} {d : Nat} {p : Program} {e : Env} {R : Room} {s : State} {m : MethodId} {args : Array Value} {below : List Frame} {meth : Method} {c : Code} {Rp : RT} (C : Cx Z (d + 2) jX12_message RX12 p R s m args meth c) : Sd Z jX12_message p e R s m args below meth c (MQ below (QcS Z Rp) args s 0 0 (fun a => Z.2.2.1 < a)) 129 (w_X12_message_129 (MS Z (d + 2)) (Gw Z 3 p e R s m args below meth c (MQ below (QcS Z Rp) args s 0 0 (fun a => Z.2.2.1 < a))) Rp) := by
  unfold w_X12_message_129
  refine s_iconst (n := 0) C (by decide +kernel) (by decide) ?_
  exact (b_X12_message_130 C)
set_option maxRecDepth 20000 in
theorem b_X12_message_93 {Z : Zt} {d : Nat} {p : Program} {e : Env} {R : Room} {s : State} {m : MethodId} {args : Array Value} {below : List Frame} {meth : Method} {c : Code} {Rp : RT} (C : Cx Z (d + 2) jX12_message RX12 p R s m args meth c) : Sd Z jX12_message p e R s m args below meth c (MQ below (QcS Z Rp) args s 0 0 (fun a => Z.2.2.1 < a)) 93 (w_X12_message_93 (MS Z (d + 2)) (Gw Z 3 p e R s m args below meth c (MQ below (QcS Z Rp) args s 0 0 (fun a => Z.2.2.1 < a))) Rp) := by
  unfold w_X12_message_93
  refine s_aload_n (k := 0) C (by decide +kernel) ?_
  refine s_aload_n (k := 0) C (by decide +kernel) ?_
  refine s_iload_n (k := 1) C (by decide +kernel) ?_
  refine s_iconst (n := 1) C (by decide +kernel) (by decide) ?_
  refine s_fnV C (j2 := jX12_ofMessage) (cl := 12) (nf := 27) rfl rfl (by decide +kernel) rfl w_8_123 w_8_125 w_p7_14 w_1_13 w_8_126 (by decide +kernel) (fun _ _ _ _ _ h => f_X12_ofMessage h) (fun _ _ _ _ _ h => r_X12_ofMessage h) ?_
  refine s_fnV C (j2 := jX12_isUp) (cl := 12) (nf := 27) rfl rfl (by decide +kernel) rfl w_6_232 w_6_234 w_p3_14 w_1_13 w_6_235 (by decide +kernel) (fun _ _ _ _ _ h => f_X12_isUp h) (fun _ _ _ _ _ h => r_X12_isUp h) ?_
  refine s_if_eq (off := 26) (tgt := 129) C (by decide +kernel) (by decide) (b_X12_message_129 C) ?_
  refine s_aload_n (k := 0) C (by decide +kernel) ?_
  refine s_aload_n (k := 0) C (by decide +kernel) ?_
  refine s_iload_n (k := 1) C (by decide +kernel) ?_
  refine s_iconst (n := 0) C (by decide +kernel) (by decide) ?_
  refine s_fnV C (j2 := jX12_ofMessage) (cl := 12) (nf := 27) rfl rfl (by decide +kernel) rfl w_8_123 w_8_125 w_p7_14 w_1_13 w_8_126 (by decide +kernel) (fun _ _ _ _ _ h => f_X12_ofMessage h) (fun _ _ _ _ _ h => r_X12_ofMessage h) ?_
  refine s_aload_n (k := 0) C (by decide +kernel) ?_
  refine s_iload_n (k := 1) C (by decide +kernel) ?_
  refine s_iconst (n := 1) C (by decide +kernel) (by decide) ?_
  refine s_fnV C (j2 := jX12_ofMessage) (cl := 12) (nf := 27) rfl rfl (by decide +kernel) rfl w_8_123 w_8_125 w_p7_14 w_1_13 w_8_126 (by decide +kernel) (fun _ _ _ _ _ h => f_X12_ofMessage h) (fun _ _ _ _ _ h => r_X12_ofMessage h) ?_
  refine s_fnV C (j2 := jX12_isLinked) (cl := 12) (nf := 27) rfl rfl (by decide +kernel) rfl w_7_31 w_7_33 w_p4_7 w_1_13 w_7_34 (by decide +kernel) (fun _ _ _ _ _ h => f_X12_isLinked h) (fun _ _ _ _ _ h => r_X12_isLinked h) ?_
  refine s_if_eq (off := 7) (tgt := 129) C (by decide +kernel) (by decide) (b_X12_message_129 C) ?_
  refine s_iconst (n := 1) C (by decide +kernel) (by decide) ?_
  exact s_goto (off := 4) (tgt := 130) C (by decide +kernel) (by decide) (b_X12_message_130 C)
set_option maxRecDepth 20000 in
theorem b_X12_message_86 {Z : Zt} {d : Nat} {p : Program} {e : Env} {R : Room} {s : State} {m : MethodId} {args : Array Value} {below : List Frame} {meth : Method} {c : Code} {Rp : RT} (C : Cx Z (d + 2) jX12_message RX12 p R s m args meth c) : Sd Z jX12_message p e R s m args below meth c (MQ below (QcS Z Rp) args s 0 0 (fun a => Z.2.2.1 < a)) 86 (w_X12_message_86 (MS Z (d + 2)) (Gw Z 3 p e R s m args below meth c (MQ below (QcS Z Rp) args s 0 0 (fun a => Z.2.2.1 < a))) Rp) := by
  unfold w_X12_message_86
  refine s_aload_n (k := 0) C (by decide +kernel) ?_
  refine s_iload_n (k := 1) C (by decide +kernel) ?_
  refine s_iconst (n := 2) C (by decide +kernel) (by decide) ?_
  refine s_fnV C (j2 := jX12_ofMessage) (cl := 12) (nf := 27) rfl rfl (by decide +kernel) rfl w_8_123 w_8_125 w_p7_14 w_1_13 w_8_126 (by decide +kernel) (fun _ _ _ _ _ h => f_X12_ofMessage h) (fun _ _ _ _ _ h => r_X12_ofMessage h) ?_
  exact s_iret C rfl (by decide +kernel)
set_option maxRecDepth 20000 in
theorem b_X12_message_79 {Z : Zt} {d : Nat} {p : Program} {e : Env} {R : Room} {s : State} {m : MethodId} {args : Array Value} {below : List Frame} {meth : Method} {c : Code} {Rp : RT} (C : Cx Z (d + 2) jX12_message RX12 p R s m args meth c) : Sd Z jX12_message p e R s m args below meth c (MQ below (QcS Z Rp) args s 0 0 (fun a => Z.2.2.1 < a)) 79 (w_X12_message_79 (MS Z (d + 2)) (Gw Z 3 p e R s m args below meth c (MQ below (QcS Z Rp) args s 0 0 (fun a => Z.2.2.1 < a))) Rp) := by
  unfold w_X12_message_79
  refine s_aload_n (k := 0) C (by decide +kernel) ?_
  refine s_iload_n (k := 1) C (by decide +kernel) ?_
  refine s_iconst (n := 3) C (by decide +kernel) (by decide) ?_
  refine s_fnV C (j2 := jX12_ofMessage) (cl := 12) (nf := 27) rfl rfl (by decide +kernel) rfl w_8_123 w_8_125 w_p7_14 w_1_13 w_8_126 (by decide +kernel) (fun _ _ _ _ _ h => f_X12_ofMessage h) (fun _ _ _ _ _ h => r_X12_ofMessage h) ?_
  exact s_iret C rfl (by decide +kernel)
set_option maxRecDepth 20000 in
theorem b_X12_message_72 {Z : Zt} {d : Nat} {p : Program} {e : Env} {R : Room} {s : State} {m : MethodId} {args : Array Value} {below : List Frame} {meth : Method} {c : Code} {Rp : RT} (C : Cx Z (d + 2) jX12_message RX12 p R s m args meth c) : Sd Z jX12_message p e R s m args below meth c (MQ below (QcS Z Rp) args s 0 0 (fun a => Z.2.2.1 < a)) 72 (w_X12_message_72 (MS Z (d + 2)) (Gw Z 3 p e R s m args below meth c (MQ below (QcS Z Rp) args s 0 0 (fun a => Z.2.2.1 < a))) Rp) := by
  unfold w_X12_message_72
  refine s_aload_n (k := 0) C (by decide +kernel) ?_
  refine s_iload_n (k := 1) C (by decide +kernel) ?_
  refine s_iload_n (k := 2) C (by decide +kernel) ?_
  refine s_fnV C (j2 := jX12_ofMessage) (cl := 12) (nf := 27) rfl rfl (by decide +kernel) rfl w_8_123 w_8_125 w_p7_14 w_1_13 w_8_126 (by decide +kernel) (fun _ _ _ _ _ h => f_X12_ofMessage h) (fun _ _ _ _ _ h => r_X12_ofMessage h) ?_
  exact s_iret C rfl (by decide +kernel)
set_option maxRecDepth 20000 in
theorem b_X12_message_16 {Z : Zt} {d : Nat} {p : Program} {e : Env} {R : Room} {s : State} {m : MethodId} {args : Array Value} {below : List Frame} {meth : Method} {c : Code} {Rp : RT} (C : Cx Z (d + 2) jX12_message RX12 p R s m args meth c) : Sd Z jX12_message p e R s m args below meth c (MQ below (QcS Z Rp) args s 0 0 (fun a => Z.2.2.1 < a)) 16 (w_X12_message_16 (MS Z (d + 2)) (Gw Z 3 p e R s m args below meth c (MQ below (QcS Z Rp) args s 0 0 (fun a => Z.2.2.1 < a))) Rp) := by
  unfold w_X12_message_16
  refine s_iload_n (k := 2) C (by decide +kernel) ?_
  refine s_tsw (df := 122) (lo := 0) (hi := 9) (offs := #[55, 55, 62, 69, 55, 55, 55, 55, 76, 114]) (len := 55) (tgt := 139) C (by decide +kernel) (by decide) (b_X12_message_139 C) (fun i r h => ?_) (fun x h => tsw_out 10 x (fun q hq => ?_))
  · match i, h with
    | 0, h => cases h; dsimp only; exact ⟨by decide, by decide, 55, 72, by rfl, by decide, (b_X12_message_72 C)⟩
    | 1, h => cases h; dsimp only; exact ⟨by decide, by decide, 55, 72, by rfl, by decide, (b_X12_message_72 C)⟩
    | 2, h => cases h; dsimp only; exact ⟨by decide, by decide, 62, 79, by rfl, by decide, (b_X12_message_79 C)⟩
    | 3, h => cases h; dsimp only; exact ⟨by decide, by decide, 69, 86, by rfl, by decide, (b_X12_message_86 C)⟩
    | 4, h => cases h; dsimp only; exact ⟨by decide, by decide, 55, 72, by rfl, by decide, (b_X12_message_72 C)⟩
    | 5, h => cases h; dsimp only; exact ⟨by decide, by decide, 55, 72, by rfl, by decide, (b_X12_message_72 C)⟩
    | 6, h => cases h; dsimp only; exact ⟨by decide, by decide, 55, 72, by rfl, by decide, (b_X12_message_72 C)⟩
    | 7, h => cases h; dsimp only; exact ⟨by decide, by decide, 55, 72, by rfl, by decide, (b_X12_message_72 C)⟩
    | 8, h => cases h; dsimp only; exact ⟨by decide, by decide, 76, 93, by rfl, by decide, (b_X12_message_93 C)⟩
    | 9, h => cases h; dsimp only; exact ⟨by decide, by decide, 114, 131, by rfl, by decide, (b_X12_message_131 C)⟩
    | q + 10, h => simp at h
  · match q, hq with
    | 0, _ => exact h _ (List.mem_of_getElem? (i := 0) rfl)
    | 1, _ => exact h _ (List.mem_of_getElem? (i := 1) rfl)
    | 2, _ => exact h _ (List.mem_of_getElem? (i := 2) rfl)
    | 3, _ => exact h _ (List.mem_of_getElem? (i := 3) rfl)
    | 4, _ => exact h _ (List.mem_of_getElem? (i := 4) rfl)
    | 5, _ => exact h _ (List.mem_of_getElem? (i := 5) rfl)
    | 6, _ => exact h _ (List.mem_of_getElem? (i := 6) rfl)
    | 7, _ => exact h _ (List.mem_of_getElem? (i := 7) rfl)
    | 8, _ => exact h _ (List.mem_of_getElem? (i := 8) rfl)
    | 9, _ => exact h _ (List.mem_of_getElem? (i := 9) rfl)
    | q + 10, hq => exact absurd hq (by omega)
set_option maxRecDepth 20000 in
theorem b_X12_message_0 {Z : Zt} {d : Nat} {p : Program} {e : Env} {R : Room} {s : State} {m : MethodId} {args : Array Value} {below : List Frame} {meth : Method} {c : Code} {Rp : RT} (C : Cx Z (d + 2) jX12_message RX12 p R s m args meth c) : Sd Z jX12_message p e R s m args below meth c (MQ below (QcS Z Rp) args s 0 0 (fun a => Z.2.2.1 < a)) 0 (w_X12_message_0 (MS Z (d + 2)) (Gw Z 3 p e R s m args below meth c (MQ below (QcS Z Rp) args s 0 0 (fun a => Z.2.2.1 < a))) Rp) := by
  unfold w_X12_message_0
  refine s_aload_n (k := 0) C (by decide +kernel) ?_
  refine s_iconst (n := 0) C (by decide +kernel) (by decide) ?_
  refine s_putI C w_6_87 (by decide +kernel) rfl (Or.inl rfl) ?_
  refine s_aload_n (k := 0) C (by decide +kernel) ?_
  refine s_iload_n (k := 1) C (by decide +kernel) ?_
  refine s_fnV C (j2 := jX12_isMessage) (cl := 12) (nf := 27) rfl rfl (by decide +kernel) rfl w_7_168 w_7_170 w_p5_12 w_1_13 w_7_171 (by decide +kernel) (fun _ _ _ _ _ h => f_X12_isMessage h) (fun _ _ _ _ _ h => r_X12_isMessage h) ?_
  refine s_if_ne (off := 6) (tgt := 16) C (by decide +kernel) (by decide) (b_X12_message_16 C) ?_
  refine s_bipush (n := (-2)) C (by decide +kernel) (by decide) ?_
  exact s_iret C rfl (by decide +kernel)
theorem ms_X12_message {Z : Zt} {d : Nat} {S : Sh} {μ : Mi} {ρ : Mr} {Rp : RT} (a0 : Nat) (x1 : Int32) (x2 : Int32) (h : ∀ G : Nat → PT, w_X12_message_0 (MS Z (d + 2)) G Rp [.ref a0, .int x1, .int x2] [] S (0, 0) μ ρ) : MS Z (d + 3) jX12_message [.ref a0, .int x1, .int x2] S μ ρ Rp :=
  MS_of [.ref a0, .int x1, .int x2] (by decide +kernel) rfl rfl (Nat.le_of_ble_eq_true rfl) rfl (fun p e R s m args below meth c C => b_X12_message_0 C _ _ _ _ _ _ (h _ ))
def F_X12_message : FT := fun As S μ ρ k => match As with
  | [.ref a, .int i, .int w] => a = 2737 ∧ RS S ρ ∧ good (μ 2738) ∧ ∀ μ', RQ μ μ' (μ 2738) (μ 2739) (μ 2737 6) → k (some (.int (vMessage (μ 2738) i w))) μ'
  | _ => False
theorem r_X12_message {As S μ ρ k} (h : F_X12_message As S μ ρ k) : ∃ a As', As = Value.ref a :: As' ∧ S.2 a = (12, 27) := by
  unfold F_X12_message at h
  split at h
  · exact ⟨_, _, rfl, by rw [h.1]; exact h.2.1.1⟩
  · exact h.elim
set_option maxHeartbeats 1000000 in
theorem f_X12_message {Z : Zt} {d : Nat} {As : List Value} {S : Sh} {μ : Mi} {ρ : Mr} {Rp : RT} (h : F_X12_message As S μ ρ (fun r μ' => Rp r S μ' ρ)) : MS Z (d + 3) jX12_message As S μ ρ Rp := by
  unfold F_X12_message at h
  split at h
  · rename_i a i w
    obtain ⟨rfl, hS, h⟩ := h
    have hS0 := hS
    unfold RS at hS
    obtain ⟨hg, h⟩ := h
    have hw := good_w hg
    have hq := h _ RQ_0
    unfold vMessage at hq
    generalize hA : μ 2738 = A at *
    refine ms_X12_message _ _ _ (fun G => ?_)
    simp only [w_X12_message_0, tAload, tIload, nth, tGetI, tGetR, tConst, tLconst, tBin, tUn, tI2l, tAld, tAldR, tAlen, tIast, tBast, tZast, tAast, tIret, tZret, tVret, tAret, tIf, tIf2, tGoto, tIstore, tAstore, sset, tIinc, tDup, tDup2, tPop, tPutI, tPutZ, tPutR, tCallV, tCallS, popN, tFn, tCopy, tMax, tMin, tSw, swc, tRem, tObjI, Option.toList, List.nil_append, List.cons_append, okR, true_and, and_true, true_or, or_true, Nat.zero_le, ne_eq, not_false_eq_true, Nat.reduceEqDiff, F_X12_isMessage, hS0, hS, e6, M6_row, hA, b2_z, Decidable.not_not]
    refine ⟨hw, fun c => ?_, fun c => ?_⟩
    · rw [if_neg (not_not_intro c)] at hq
      obtain ⟨n, rfl, n0, n1, n2, n3⟩ := msg_ex hw c
      have hm := (good_cm hg).2 n n2
      rw [nI_clamp n0] at hq
      have hri : rg (nI n) 0 59 = True := rg_T (by omega) (by omega) n0
      have r0 : rg 0 0 20 = True := eq_true ⟨by decide, by decide⟩
      have r1 : rg 1 0 20 = True := eq_true ⟨by decide, by decide⟩
      have r2 : rg 2 0 20 = True := eq_true ⟨by decide, by decide⟩
      have r3 : rg 3 0 20 = True := eq_true ⟨by decide, by decide⟩
      have r8 : rg 8 0 20 = True := eq_true ⟨by decide, by decide⟩
      have T0 : (w = 0 ∨ w = 1 ∨ w = 4 ∨ w = 5 ∨ w = 6 ∨ w = 7) → w_X12_message_72 (MS Z (d + 2)) G Rp [.ref 2737, .int (nI n), .int w] [] S (0, 0) (M6 μ) ρ := by
        intro c
        rw [if_pos c] at hq
        have hrw : rg w 0 20 := by rcases c with rfl | rfl | rfl | rfl | rfl | rfl <;> exact ⟨by decide, by decide⟩
        simp only [w_X12_message_72, tAload, tIload, nth, tGetI, tGetR, tConst, tLconst, tBin, tUn, tI2l, tAld, tAldR, tAlen, tIast, tBast, tZast, tAast, tIret, tZret, tVret, tAret, tIf, tIf2, tGoto, tIstore, tAstore, sset, tIinc, tDup, tDup2, tPop, tPutI, tPutZ, tPutR, tCallV, tCallS, popN, tFn, tCopy, tMax, tMin, tSw, swc, tRem, tObjI, Option.toList, List.nil_append, List.cons_append, okR, true_and, and_true, true_or, or_true, Nat.zero_le, ne_eq, not_false_eq_true, Nat.reduceEqDiff, F_X12_ofMessage, hS0, hri, M6_row, hA]
        simp (disch := omega) only [nI_clamp]
        exact ⟨hrw, hq⟩
      simp only [w_X12_message_16, w_X12_message_79, w_X12_message_86, w_X12_message_93, w_X12_message_129, w_X12_message_130, w_X12_message_131, w_X12_message_139, tAload, tIload, nth, tGetI, tGetR, tConst, tLconst, tBin, tUn, tI2l, tAld, tAldR, tAlen, tIast, tBast, tZast, tAast, tIret, tZret, tVret, tAret, tIf, tIf2, tGoto, tIstore, tAstore, sset, tIinc, tDup, tDup2, tPop, tPutI, tPutZ, tPutR, tCallV, tCallS, popN, tFn, tCopy, tMax, tMin, tSw, swc, tRem, tObjI, Option.toList, List.nil_append, List.cons_append, okR, true_and, and_true, true_or, or_true, Nat.zero_le, ne_eq, not_false_eq_true, Nat.reduceEqDiff, F_X12_ofMessage, F_X12_isUp, F_X12_isLinked, hS0, hri, r0, r1, r2, r3, r8, M6_row, hA, b2_z, Decidable.not_not, cl_0, cl_1, cl_2, cl_3, cl_8, Nat.add_zero]
      simp (disch := omega) only [nI_clamp]
      have hto : rg (A (2570 + 21 * n + 1)) 0 4 := hm.2.1
      refine ⟨fun c0 => T0 (Or.inl c0), fun n0 => ⟨fun c1 => T0 (Or.inr (Or.inl c1)), fun n1 => ⟨fun c2 => ?_, fun n2 => ⟨fun c3 => ?_, fun n3 => ⟨fun c4 => T0 (Or.inr (Or.inr (Or.inl c4))), fun n4 => ⟨fun c5 => T0 (Or.inr (Or.inr (Or.inr (Or.inl c5)))), fun n5 => ⟨fun c6 => T0 (Or.inr (Or.inr (Or.inr (Or.inr (Or.inl c6))))), fun n6 => ⟨fun c7 => T0 (Or.inr (Or.inr (Or.inr (Or.inr (Or.inr c7))))), fun n7 => ⟨fun c8 => ⟨hto, fun d1 => ?_, fun d1 => ⟨fun d2 => ?_, fun d2 => ?_⟩⟩, fun n8 => ⟨fun c9 => ?_, fun n9 => ?_⟩⟩⟩⟩⟩⟩⟩⟩⟩⟩
      · subst c2; rw [if_neg (by decide), if_pos rfl] at hq; exact hq
      · subst c3; rw [if_neg (by decide), if_neg (by decide), if_pos rfl] at hq; exact hq
      · subst c8; rw [if_neg (by decide), if_neg (by decide), if_neg (by decide), if_pos rfl, if_neg (fun z => d1 z.1)] at hq; exact hq
      · subst c8; rw [if_neg (by decide), if_neg (by decide), if_neg (by decide), if_pos rfl, if_neg (fun z => d2 z.2)] at hq; exact hq
      · subst c8; rw [if_neg (by decide), if_neg (by decide), if_neg (by decide), if_pos rfl, if_pos ⟨d1, d2⟩] at hq; exact hq
      · subst c9; rw [if_neg (by decide), if_neg (by decide), if_neg (by decide), if_neg (by decide), if_pos rfl] at hq; exact hq
      · rw [if_neg (fun z => by rcases z with z | z | z | z | z | z; exact n0 z; exact n1 z; exact n4 z; exact n5 z; exact n6 z; exact n7 z), if_neg n2, if_neg n3, if_neg n8, if_neg n9] at hq
        exact hq
    · rw [if_pos c] at hq
      exact hq
  · exact h.elim
