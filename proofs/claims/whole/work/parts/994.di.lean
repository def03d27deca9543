/-! ===== the class: an act of a script; copies ===== -/
def w_X10_act_191 (M : CT) (G : Nat → PT) (Rp : RT) : PT := tAload 0 <| tIload 2 <| tFn 2 F_X10_takesCare <| tIret Rp
def w_X10_act_185 (M : CT) (G : Nat → PT) (Rp : RT) : PT := tAload 0 <| tIload 2 <| tFn2 2 F_X10_settles <| tIret Rp
def w_X10_act_179 (M : CT) (G : Nat → PT) (Rp : RT) : PT := tAload 0 <| tIload 2 <| tFn 2 F_X10_doubles <| tIret Rp
def w_X10_act_173 (M : CT) (G : Nat → PT) (Rp : RT) : PT := tAload 0 <| tIload 2 <| tFn2 2 F_X10_loses <| tIret Rp
def w_X10_act_167 (M : CT) (G : Nat → PT) (Rp : RT) : PT := tAload 0 <| tIload 2 <| tFn2 2 F_X10_comes <| tIret Rp
def w_X10_act_159 (M : CT) (G : Nat → PT) (Rp : RT) : PT := tAload 0 <| tIload 2 <| tIload 3 <| tConst 1 <| tFn 4 F_X10_links <| tIret Rp
def w_X10_act_151 (M : CT) (G : Nat → PT) (Rp : RT) : PT := tAload 0 <| tIload 2 <| tIload 3 <| tConst 0 <| tFn 4 F_X10_links <| tIret Rp
def w_X10_act_145 (M : CT) (G : Nat → PT) (Rp : RT) : PT := tAload 0 <| tIload 2 <| tFn 2 F_X10_starts <| tIret Rp
def w_X10_act_139 (M : CT) (G : Nat → PT) (Rp : RT) : PT := tAload 0 <| tIload 2 <| tFn 2 F_X10_stops <| tIret Rp
def w_X10_act_133 (M : CT) (G : Nat → PT) (Rp : RT) : PT := tAload 0 <| tIload 2 <| tFn 2 F_X10_compacts <| tIret Rp
def w_X10_act_126 (M : CT) (G : Nat → PT) (Rp : RT) : PT := tAload 0 <| tIload 2 <| tIload 3 <| tFn 3 F_X10_changes <| tIret Rp
def w_X10_act_119 (M : CT) (G : Nat → PT) (Rp : RT) : PT := tAload 0 <| tIload 2 <| tIload 3 <| tFn 3 F_X10_hands <| tIret Rp
def w_X10_act_112 (M : CT) (G : Nat → PT) (Rp : RT) : PT := tAload 0 <| tIload 2 <| tIload 3 <| tFn 3 F_X10_reads <| tIret Rp
def w_X10_act_102 (M : CT) (G : Nat → PT) (Rp : RT) : PT := tAload 0 <| tIload 2 <| tConst 2 <| tIload 3 <| tIload 4 <| tFn 5 F_X10_proposes <| tIret Rp
def w_X10_act_92 (M : CT) (G : Nat → PT) (Rp : RT) : PT := tAload 0 <| tIload 2 <| tConst 1 <| tIload 3 <| tIload 4 <| tFn 5 F_X10_proposes <| tIret Rp
def w_X10_act_86 (M : CT) (G : Nat → PT) (Rp : RT) : PT := tAload 0 <| tIload 2 <| tFn 2 F_X10_beats <| tIret Rp
def w_X10_act_80 (M : CT) (G : Nat → PT) (Rp : RT) : PT := tAload 0 <| tIload 2 <| tFn 2 F_X10_timesOut <| tIret Rp
def w_X10_act_0 (M : CT) (G : Nat → PT) (Rp : RT) : PT := tIload 1 <| tSw [(0, w_X10_act_80 M G Rp), (1, w_X10_act_86 M G Rp), (2, w_X10_act_92 M G Rp), (3, w_X10_act_102 M G Rp), (4, w_X10_act_112 M G Rp), (5, w_X10_act_119 M G Rp), (6, w_X10_act_126 M G Rp), (7, w_X10_act_133 M G Rp), (8, w_X10_act_139 M G Rp), (9, w_X10_act_145 M G Rp), (10, w_X10_act_151 M G Rp), (11, w_X10_act_159 M G Rp), (12, w_X10_act_167 M G Rp), (13, w_X10_act_173 M G Rp), (14, w_X10_act_179 M G Rp), (15, w_X10_act_185 M G Rp)] (w_X10_act_191 M G Rp)
set_option maxRecDepth 20000 in
theorem b_X10_act_191 {Z : Zt} {d : Nat} {p : Program} {e : Env} {R : Room} {s : State} {m : MethodId} {args : Array Value} {below : List Frame} {meth : Method} {c : Code} {Rp : RT} (C : Cx Z (d + 6) jX10_act RX10 p R s m args meth c) : Sd Z jX10_act p e R s m args below meth c (MQ below (QcS Z Rp) args s 0 0 (fun a => Z.2.2.1 < a)) 191 (w_X10_act_191 (MS Z (d + 6)) (Gw Z 5 p e R s m args below meth c (MQ below (QcS Z Rp) args s 0 0 (fun a => Z.2.2.1 < a))) Rp) := by
  unfold w_X10_act_191
  refine s_aload_n (k := 0) C (by decide +kernel) ?_
  refine s_iload_n (k := 2) C (by decide +kernel) ?_
  refine s_fnV C (j2 := jX10_takesCare) (cl := 10) (nf := 6) rfl rfl (by decide +kernel) rfl w_5_77 w_3_91 w_3_92 w_1_2 w_3_93 (by decide +kernel) (fun _ _ _ _ _ h => f_X10_takesCare h) (fun _ _ _ _ _ h => r_X10_takesCare h) ?_
  exact s_iret C rfl (by decide +kernel)
set_option maxRecDepth 20000 in
theorem b_X10_act_185 {Z : Zt} {d : Nat} {p : Program} {e : Env} {R : Room} {s : State} {m : MethodId} {args : Array Value} {below : List Frame} {meth : Method} {c : Code} {Rp : RT} (C : Cx Z (d + 6) jX10_act RX10 p R s m args meth c) : Sd Z jX10_act p e R s m args below meth c (MQ below (QcS Z Rp) args s 0 0 (fun a => Z.2.2.1 < a)) 185 (w_X10_act_185 (MS Z (d + 6)) (Gw Z 5 p e R s m args below meth c (MQ below (QcS Z Rp) args s 0 0 (fun a => Z.2.2.1 < a))) Rp) := by
  unfold w_X10_act_185
  refine s_aload_n (k := 0) C (by decide +kernel) ?_
  refine s_iload_n (k := 2) C (by decide +kernel) ?_
  refine s_fnV2 C (j2 := jX10_settles) (cl := 10) (nf := 6) rfl rfl (by decide +kernel) rfl w_5_76 w_4_160 w_4_161 w_1_2 w_4_162 (by decide +kernel) (fun _ _ _ _ _ h => f_X10_settles h) (fun _ _ _ _ _ h => r_X10_settles h) ?_
  exact s_iret C rfl (by decide +kernel)
set_option maxRecDepth 20000 in
theorem b_X10_act_179 {Z : Zt} {d : Nat} {p : Program} {e : Env} {R : Room} {s : State} {m : MethodId} {args : Array Value} {below : List Frame} {meth : Method} {c : Code} {Rp : RT} (C : Cx Z (d + 6) jX10_act RX10 p R s m args meth c) : Sd Z jX10_act p e R s m args below meth c (MQ below (QcS Z Rp) args s 0 0 (fun a => Z.2.2.1 < a)) 179 (w_X10_act_179 (MS Z (d + 6)) (Gw Z 5 p e R s m args below meth c (MQ below (QcS Z Rp) args s 0 0 (fun a => Z.2.2.1 < a))) Rp) := by
  unfold w_X10_act_179
  refine s_aload_n (k := 0) C (by decide +kernel) ?_
  refine s_iload_n (k := 2) C (by decide +kernel) ?_
  refine s_fnV C (j2 := jX10_doubles) (cl := 10) (nf := 6) rfl rfl (by decide +kernel) rfl w_5_75 w_4_151 w_4_152 w_1_2 w_4_153 (by decide +kernel) (fun _ _ _ _ _ h => f_X10_doubles h) (fun _ _ _ _ _ h => r_X10_doubles h) ?_
  exact s_iret C rfl (by decide +kernel)
set_option maxRecDepth 20000 in
theorem b_X10_act_173 {Z : Zt} {d : Nat} {p : Program} {e : Env} {R : Room} {s : State} {m : MethodId} {args : Array Value} {below : List Frame} {meth : Method} {c : Code} {Rp : RT} (C : Cx Z (d + 6) jX10_act RX10 p R s m args meth c) : Sd Z jX10_act p e R s m args below meth c (MQ below (QcS Z Rp) args s 0 0 (fun a => Z.2.2.1 < a)) 173 (w_X10_act_173 (MS Z (d + 6)) (Gw Z 5 p e R s m args below meth c (MQ below (QcS Z Rp) args s 0 0 (fun a => Z.2.2.1 < a))) Rp) := by
  unfold w_X10_act_173
  refine s_aload_n (k := 0) C (by decide +kernel) ?_
  refine s_iload_n (k := 2) C (by decide +kernel) ?_
  refine s_fnV2 C (j2 := jX10_loses) (cl := 10) (nf := 6) rfl rfl (by decide +kernel) rfl w_5_74 w_4_143 w_4_144 w_1_2 w_4_145 (by decide +kernel) (fun _ _ _ _ _ h => f_X10_loses h) (fun _ _ _ _ _ h => r_X10_loses h) ?_
  exact s_iret C rfl (by decide +kernel)
set_option maxRecDepth 20000 in
theorem b_X10_act_167 {Z : Zt} {d : Nat} {p : Program} {e : Env} {R : Room} {s : State} {m : MethodId} {args : Array Value} {below : List Frame} {meth : Method} {c : Code} {Rp : RT} (C : Cx Z (d + 6) jX10_act RX10 p R s m args meth c) : Sd Z jX10_act p e R s m args below meth c (MQ below (QcS Z Rp) args s 0 0 (fun a => Z.2.2.1 < a)) 167 (w_X10_act_167 (MS Z (d + 6)) (Gw Z 5 p e R s m args below meth c (MQ below (QcS Z Rp) args s 0 0 (fun a => Z.2.2.1 < a))) Rp) := by
  unfold w_X10_act_167
  refine s_aload_n (k := 0) C (by decide +kernel) ?_
  refine s_iload_n (k := 2) C (by decide +kernel) ?_
  refine s_fnV2 C (j2 := jX10_comes) (cl := 10) (nf := 6) rfl rfl (by decide +kernel) rfl w_5_73 w_4_60 w_4_61 w_1_2 w_4_62 (by decide +kernel) (fun _ _ _ _ _ h => f_X10_comes h) (fun _ _ _ _ _ h => r_X10_comes h) ?_
  exact s_iret C rfl (by decide +kernel)
set_option maxRecDepth 20000 in
theorem b_X10_act_159 {Z : Zt} {d : Nat} {p : Program} {e : Env} {R : Room} {s : State} {m : MethodId} {args : Array Value} {below : List Frame} {meth : Method} {c : Code} {Rp : RT} (C : Cx Z (d + 6) jX10_act RX10 p R s m args meth c) : Sd Z jX10_act p e R s m args below meth c (MQ below (QcS Z Rp) args s 0 0 (fun a => Z.2.2.1 < a)) 159 (w_X10_act_159 (MS Z (d + 6)) (Gw Z 5 p e R s m args below meth c (MQ below (QcS Z Rp) args s 0 0 (fun a => Z.2.2.1 < a))) Rp) := by
  unfold w_X10_act_159
  refine s_aload_n (k := 0) C (by decide +kernel) ?_
  refine s_iload_n (k := 2) C (by decide +kernel) ?_
  refine s_iload_n (k := 3) C (by decide +kernel) ?_
  refine s_iconst (n := 1) C (by decide +kernel) (by decide) ?_
  refine s_fnV C (j2 := jX10_links) (cl := 10) (nf := 6) rfl rfl (by decide +kernel) rfl w_5_72 w_4_44 w_4_45 w_1_2 w_4_46 (by decide +kernel) (fun _ _ _ _ _ h => f_X10_links h) (fun _ _ _ _ _ h => r_X10_links h) ?_
  exact s_iret C rfl (by decide +kernel)
set_option maxRecDepth 20000 in
theorem b_X10_act_151 {Z : Zt} {d : Nat} {p : Program} {e : Env} {R : Room} {s : State} {m : MethodId} {args : Array Value} {below : List Frame} {meth : Method} {c : Code} {Rp : RT} (C : Cx Z (d + 6) jX10_act RX10 p R s m args meth c) : Sd Z jX10_act p e R s m args below meth c (MQ below (QcS Z Rp) args s 0 0 (fun a => Z.2.2.1 < a)) 151 (w_X10_act_151 (MS Z (d + 6)) (Gw Z 5 p e R s m args below meth c (MQ below (QcS Z Rp) args s 0 0 (fun a => Z.2.2.1 < a))) Rp) := by
  unfold w_X10_act_151
  refine s_aload_n (k := 0) C (by decide +kernel) ?_
  refine s_iload_n (k := 2) C (by decide +kernel) ?_
  refine s_iload_n (k := 3) C (by decide +kernel) ?_
  refine s_iconst (n := 0) C (by decide +kernel) (by decide) ?_
  refine s_fnV C (j2 := jX10_links) (cl := 10) (nf := 6) rfl rfl (by decide +kernel) rfl w_5_72 w_4_44 w_4_45 w_1_2 w_4_46 (by decide +kernel) (fun _ _ _ _ _ h => f_X10_links h) (fun _ _ _ _ _ h => r_X10_links h) ?_
  exact s_iret C rfl (by decide +kernel)
set_option maxRecDepth 20000 in
theorem b_X10_act_145 {Z : Zt} {d : Nat} {p : Program} {e : Env} {R : Room} {s : State} {m : MethodId} {args : Array Value} {below : List Frame} {meth : Method} {c : Code} {Rp : RT} (C : Cx Z (d + 6) jX10_act RX10 p R s m args meth c) : Sd Z jX10_act p e R s m args below meth c (MQ below (QcS Z Rp) args s 0 0 (fun a => Z.2.2.1 < a)) 145 (w_X10_act_145 (MS Z (d + 6)) (Gw Z 5 p e R s m args below meth c (MQ below (QcS Z Rp) args s 0 0 (fun a => Z.2.2.1 < a))) Rp) := by
  unfold w_X10_act_145
  refine s_aload_n (k := 0) C (by decide +kernel) ?_
  refine s_iload_n (k := 2) C (by decide +kernel) ?_
  refine s_fnV C (j2 := jX10_starts) (cl := 10) (nf := 6) rfl rfl (by decide +kernel) rfl w_5_71 w_4_36 w_4_37 w_1_2 w_4_38 (by decide +kernel) (fun _ _ _ _ _ h => f_X10_starts h) (fun _ _ _ _ _ h => r_X10_starts h) ?_
  exact s_iret C rfl (by decide +kernel)
set_option maxRecDepth 20000 in
theorem b_X10_act_139 {Z : Zt} {d : Nat} {p : Program} {e : Env} {R : Room} {s : State} {m : MethodId} {args : Array Value} {below : List Frame} {meth : Method} {c : Code} {Rp : RT} (C : Cx Z (d + 6) jX10_act RX10 p R s m args meth c) : Sd Z jX10_act p e R s m args below meth c (MQ below (QcS Z Rp) args s 0 0 (fun a => Z.2.2.1 < a)) 139 (w_X10_act_139 (MS Z (d + 6)) (Gw Z 5 p e R s m args below meth c (MQ below (QcS Z Rp) args s 0 0 (fun a => Z.2.2.1 < a))) Rp) := by
  unfold w_X10_act_139
  refine s_aload_n (k := 0) C (by decide +kernel) ?_
  refine s_iload_n (k := 2) C (by decide +kernel) ?_
  refine s_fnV C (j2 := jX10_stops) (cl := 10) (nf := 6) rfl rfl (by decide +kernel) rfl w_5_70 w_4_23 w_4_24 w_1_2 w_4_25 (by decide +kernel) (fun _ _ _ _ _ h => f_X10_stops h) (fun _ _ _ _ _ h => r_X10_stops h) ?_
  exact s_iret C rfl (by decide +kernel)
set_option maxRecDepth 20000 in
theorem b_X10_act_133 {Z : Zt} {d : Nat} {p : Program} {e : Env} {R : Room} {s : State} {m : MethodId} {args : Array Value} {below : List Frame} {meth : Method} {c : Code} {Rp : RT} (C : Cx Z (d + 6) jX10_act RX10 p R s m args meth c) : Sd Z jX10_act p e R s m args below meth c (MQ below (QcS Z Rp) args s 0 0 (fun a => Z.2.2.1 < a)) 133 (w_X10_act_133 (MS Z (d + 6)) (Gw Z 5 p e R s m args below meth c (MQ below (QcS Z Rp) args s 0 0 (fun a => Z.2.2.1 < a))) Rp) := by
  unfold w_X10_act_133
  refine s_aload_n (k := 0) C (by decide +kernel) ?_
  refine s_iload_n (k := 2) C (by decide +kernel) ?_
  refine s_fnV C (j2 := jX10_compacts) (cl := 10) (nf := 6) rfl rfl (by decide +kernel) rfl w_5_69 w_4_10 w_4_11 w_1_2 w_4_12 (by decide +kernel) (fun _ _ _ _ _ h => f_X10_compacts h) (fun _ _ _ _ _ h => r_X10_compacts h) ?_
  exact s_iret C rfl (by decide +kernel)
set_option maxRecDepth 20000 in
theorem b_X10_act_126 {Z : Zt} {d : Nat} {p : Program} {e : Env} {R : Room} {s : State} {m : MethodId} {args : Array Value} {below : List Frame} {meth : Method} {c : Code} {Rp : RT} (C : Cx Z (d + 6) jX10_act RX10 p R s m args meth c) : Sd Z jX10_act p e R s m args below meth c (MQ below (QcS Z Rp) args s 0 0 (fun a => Z.2.2.1 < a)) 126 (w_X10_act_126 (MS Z (d + 6)) (Gw Z 5 p e R s m args below meth c (MQ below (QcS Z Rp) args s 0 0 (fun a => Z.2.2.1 < a))) Rp) := by
  unfold w_X10_act_126
  refine s_aload_n (k := 0) C (by decide +kernel) ?_
  refine s_iload_n (k := 2) C (by decide +kernel) ?_
  refine s_iload_n (k := 3) C (by decide +kernel) ?_
  refine s_fnV C (j2 := jX10_changes) (cl := 10) (nf := 6) rfl rfl (by decide +kernel) rfl w_5_68 w_4_2 w_4_3 w_1_2 w_4_4 (by decide +kernel) (fun _ _ _ _ _ h => f_X10_changes h) (fun _ _ _ _ _ h => r_X10_changes h) ?_
  exact s_iret C rfl (by decide +kernel)
set_option maxRecDepth 20000 in
theorem b_X10_act_119 {Z : Zt} {d : Nat} {p : Program} {e : Env} {R : Room} {s : State} {m : MethodId} {args : Array Value} {below : List Frame} {meth : Method} {c : Code} {Rp : RT} (C : Cx Z (d + 6) jX10_act RX10 p R s m args meth c) : Sd Z jX10_act p e R s m args below meth c (MQ below (QcS Z Rp) args s 0 0 (fun a => Z.2.2.1 < a)) 119 (w_X10_act_119 (MS Z (d + 6)) (Gw Z 5 p e R s m args below meth c (MQ below (QcS Z Rp) args s 0 0 (fun a => Z.2.2.1 < a))) Rp) := by
  unfold w_X10_act_119
  refine s_aload_n (k := 0) C (by decide +kernel) ?_
  refine s_iload_n (k := 2) C (by decide +kernel) ?_
  refine s_iload_n (k := 3) C (by decide +kernel) ?_
  refine s_fnV C (j2 := jX10_hands) (cl := 10) (nf := 6) rfl rfl (by decide +kernel) rfl w_5_67 w_3_234 w_3_235 w_1_2 w_3_236 (by decide +kernel) (fun _ _ _ _ _ h => f_X10_hands h) (fun _ _ _ _ _ h => r_X10_hands h) ?_
  exact s_iret C rfl (by decide +kernel)
set_option maxRecDepth 20000 in
theorem b_X10_act_112 {Z : Zt} {d : Nat} {p : Program} {e : Env} {R : Room} {s : State} {m : MethodId} {args : Array Value} {below : List Frame} {meth : Method} {c : Code} {Rp : RT} (C : Cx Z (d + 6) jX10_act RX10 p R s m args meth c) : Sd Z jX10_act p e R s m args below meth c (MQ below (QcS Z Rp) args s 0 0 (fun a => Z.2.2.1 < a)) 112 (w_X10_act_112 (MS Z (d + 6)) (Gw Z 5 p e R s m args below meth c (MQ below (QcS Z Rp) args s 0 0 (fun a => Z.2.2.1 < a))) Rp) := by
  unfold w_X10_act_112
  refine s_aload_n (k := 0) C (by decide +kernel) ?_
  refine s_iload_n (k := 2) C (by decide +kernel) ?_
  refine s_iload_n (k := 3) C (by decide +kernel) ?_
  refine s_fnV C (j2 := jX10_reads) (cl := 10) (nf := 6) rfl rfl (by decide +kernel) rfl w_5_66 w_3_222 w_3_223 w_1_2 w_3_224 (by decide +kernel) (fun _ _ _ _ _ h => f_X10_reads h) (fun _ _ _ _ _ h => r_X10_reads h) ?_
  exact s_iret C rfl (by decide +kernel)
set_option maxRecDepth 20000 in
theorem b_X10_act_102 {Z : Zt} {d : Nat} {p : Program} {e : Env} {R : Room} {s : State} {m : MethodId} {args : Array Value} {below : List Frame} {meth : Method} {c : Code} {Rp : RT} (C : Cx Z (d + 6) jX10_act RX10 p R s m args meth c) : Sd Z jX10_act p e R s m args below meth c (MQ below (QcS Z Rp) args s 0 0 (fun a => Z.2.2.1 < a)) 102 (w_X10_act_102 (MS Z (d + 6)) (Gw Z 5 p e R s m args below meth c (MQ below (QcS Z Rp) args s 0 0 (fun a => Z.2.2.1 < a))) Rp) := by
  unfold w_X10_act_102
  refine s_aload_n (k := 0) C (by decide +kernel) ?_
  refine s_iload_n (k := 2) C (by decide +kernel) ?_
  refine s_iconst (n := 2) C (by decide +kernel) (by decide) ?_
  refine s_iload_n (k := 3) C (by decide +kernel) ?_
  refine s_iload (k := 4) C (by decide +kernel) ?_
  refine s_fnV C (j2 := jX10_proposes) (cl := 10) (nf := 6) rfl rfl (by decide +kernel) rfl w_5_65 w_3_207 w_3_208 w_1_2 w_3_209 (by decide +kernel) (fun _ _ _ _ _ h => f_X10_proposes h) (fun _ _ _ _ _ h => r_X10_proposes h) ?_
  exact s_iret C rfl (by decide +kernel)
set_option maxRecDepth 20000 in
theorem b_X10_act_92 {Z : Zt} {d : Nat} {p : Program} {e : Env} {R : Room} {s : State} {m : MethodId} {args : Array Value} {below : List Frame} {meth : Method} {c : Code} {Rp : RT} (C : Cx Z (d + 6) jX10_act RX10 p R s m args meth c) : Sd Z jX10_act p e R s m args below meth c (MQ below (QcS Z Rp) args s 0 0 (fun a => Z.2.2.1 < a)) 92 (w_X10_act_92 (MS Z (d + 6)) (Gw Z 5 p e R s m args below meth c (MQ below (QcS Z Rp) args s 0 0 (fun a => Z.2.2.1 < a))) Rp) := by
  unfold w_X10_act_92
  refine s_aload_n (k := 0) C (by decide +kernel) ?_
  refine s_iload_n (k := 2) C (by decide +kernel) ?_
  refine s_iconst (n := 1) C (by decide +kernel) (by decide) ?_
  refine s_iload_n (k := 3) C (by decide +kernel) ?_
  refine s_iload (k := 4) C (by decide +kernel) ?_
  refine s_fnV C (j2 := jX10_proposes) (cl := 10) (nf := 6) rfl rfl (by decide +kernel) rfl w_5_65 w_3_207 w_3_208 w_1_2 w_3_209 (by decide +kernel) (fun _ _ _ _ _ h => f_X10_proposes h) (fun _ _ _ _ _ h => r_X10_proposes h) ?_
  exact s_iret C rfl (by decide +kernel)
set_option maxRecDepth 20000 in
theorem b_X10_act_86 {Z : Zt} {d : Nat} {p : Program} {e : Env} {R : Room} {s : State} {m : MethodId} {args : Array Value} {below : List Frame} {meth : Method} {c : Code} {Rp : RT} (C : Cx Z (d + 6) jX10_act RX10 p R s m args meth c) : Sd Z jX10_act p e R s m args below meth c (MQ below (QcS Z Rp) args s 0 0 (fun a => Z.2.2.1 < a)) 86 (w_X10_act_86 (MS Z (d + 6)) (Gw Z 5 p e R s m args below meth c (MQ below (QcS Z Rp) args s 0 0 (fun a => Z.2.2.1 < a))) Rp) := by
  unfold w_X10_act_86
  refine s_aload_n (k := 0) C (by decide +kernel) ?_
  refine s_iload_n (k := 2) C (by decide +kernel) ?_
  refine s_fnV C (j2 := jX10_beats) (cl := 10) (nf := 6) rfl rfl (by decide +kernel) rfl w_5_64 w_3_195 w_3_196 w_1_2 w_3_197 (by decide +kernel) (fun _ _ _ _ _ h => f_X10_beats h) (fun _ _ _ _ _ h => r_X10_beats h) ?_
  exact s_iret C rfl (by decide +kernel)
set_option maxRecDepth 20000 in
theorem b_X10_act_80 {Z : Zt} {d : Nat} {p : Program} {e : Env} {R : Room} {s : State} {m : MethodId} {args : Array Value} {below : List Frame} {meth : Method} {c : Code} {Rp : RT} (C : Cx Z (d + 6) jX10_act RX10 p R s m args meth c) : Sd Z jX10_act p e R s m args below meth c (MQ below (QcS Z Rp) args s 0 0 (fun a => Z.2.2.1 < a)) 80 (w_X10_act_80 (MS Z (d + 6)) (Gw Z 5 p e R s m args below meth c (MQ below (QcS Z Rp) args s 0 0 (fun a => Z.2.2.1 < a))) Rp) := by
  unfold w_X10_act_80
  refine s_aload_n (k := 0) C (by decide +kernel) ?_
  refine s_iload_n (k := 2) C (by decide +kernel) ?_
  refine s_fnV C (j2 := jX10_timesOut) (cl := 10) (nf := 6) rfl rfl (by decide +kernel) rfl w_5_63 w_3_99 w_3_100 w_1_2 w_3_101 (by decide +kernel) (fun _ _ _ _ _ h => f_X10_timesOut h) (fun _ _ _ _ _ h => r_X10_timesOut h) ?_
  exact s_iret C rfl (by decide +kernel)
set_option maxRecDepth 20000 in
theorem b_X10_act_0 {Z : Zt} {d : Nat} {p : Program} {e : Env} {R : Room} {s : State} {m : MethodId} {args : Array Value} {below : List Frame} {meth : Method} {c : Code} {Rp : RT} (C : Cx Z (d + 6) jX10_act RX10 p R s m args meth c) : Sd Z jX10_act p e R s m args below meth c (MQ below (QcS Z Rp) args s 0 0 (fun a => Z.2.2.1 < a)) 0 (w_X10_act_0 (MS Z (d + 6)) (Gw Z 5 p e R s m args below meth c (MQ below (QcS Z Rp) args s 0 0 (fun a => Z.2.2.1 < a))) Rp) := by
  unfold w_X10_act_0
  refine s_iload_n (k := 1) C (by decide +kernel) ?_
  refine s_tsw (df := 190) (lo := 0) (hi := 15) (offs := #[79, 85, 91, 101, 111, 118, 125, 132, 138, 144, 150, 158, 166, 172, 178, 184]) (len := 79) (tgt := 191) C (by decide +kernel) (by decide) (b_X10_act_191 C) (fun i r h => ?_) (fun x h => tsw_out 16 x (fun q hq => ?_))
  · match i, h with
    | 0, h => cases h; dsimp only; exact ⟨by decide, by decide, 79, 80, by rfl, by decide, (b_X10_act_80 C)⟩
    | 1, h => cases h; dsimp only; exact ⟨by decide, by decide, 85, 86, by rfl, by decide, (b_X10_act_86 C)⟩
    | 2, h => cases h; dsimp only; exact ⟨by decide, by decide, 91, 92, by rfl, by decide, (b_X10_act_92 C)⟩
    | 3, h => cases h; dsimp only; exact ⟨by decide, by decide, 101, 102, by rfl, by decide, (b_X10_act_102 C)⟩
    | 4, h => cases h; dsimp only; exact ⟨by decide, by decide, 111, 112, by rfl, by decide, (b_X10_act_112 C)⟩
    | 5, h => cases h; dsimp only; exact ⟨by decide, by decide, 118, 119, by rfl, by decide, (b_X10_act_119 C)⟩
    | 6, h => cases h; dsimp only; exact ⟨by decide, by decide, 125, 126, by rfl, by decide, (b_X10_act_126 C)⟩
    | 7, h => cases h; dsimp only; exact ⟨by decide, by decide, 132, 133, by rfl, by decide, (b_X10_act_133 C)⟩
    | 8, h => cases h; dsimp only; exact ⟨by decide, by decide, 138, 139, by rfl, by decide, (b_X10_act_139 C)⟩
    | 9, h => cases h; dsimp only; exact ⟨by decide, by decide, 144, 145, by rfl, by decide, (b_X10_act_145 C)⟩
    | 10, h => cases h; dsimp only; exact ⟨by decide, by decide, 150, 151, by rfl, by decide, (b_X10_act_151 C)⟩
    | 11, h => cases h; dsimp only; exact ⟨by decide, by decide, 158, 159, by rfl, by decide, (b_X10_act_159 C)⟩
    | 12, h => cases h; dsimp only; exact ⟨by decide, by decide, 166, 167, by rfl, by decide, (b_X10_act_167 C)⟩
    | 13, h => cases h; dsimp only; exact ⟨by decide, by decide, 172, 173, by rfl, by decide, (b_X10_act_173 C)⟩
    | 14, h => cases h; dsimp only; exact ⟨by decide, by decide, 178, 179, by rfl, by decide, (b_X10_act_179 C)⟩
    | 15, h => cases h; dsimp only; exact ⟨by decide, by decide, 184, 185, by rfl, by decide, (b_X10_act_185 C)⟩
    | q + 16, h => simp at h
  · match q, hq with
    | 0, _ => exact h _ (List.mem_of_getElem? (i := 0) rfl)
    | 1, _ => exact h _ (List.mem_of_getElem? (i := 1) rfl)
    | 2, _ => exact h _ (List.mem_of_getElem? (i := 2) rfl)
    | 3, _ => exact h _ (List.mem_of_getElem? (i := 3) rfl)
    | 4, _ => exact h _ (List.mem_of_getElem? (i := 4) rfl)
    | 5, _ => exact h _ (List.mem_of_getElem? (i := 5) rfl)
    | 6, _ => exact h _ (List.mem_of_getElem? (i := 6) rfl)
    | 7, _ => exact h _ (List.mem_of_getElem? (i := 7) rfl)
    | 8, _ => exact h _ (List.mem_of_getElem? (i := 8) rfl)
    | 9, _ => exact h _ (List.mem_of_getElem? (i := 9) rfl)
    | 10, _ => exact h _ (List.mem_of_getElem? (i := 10) rfl)
    | 11, _ => exact h _ (List.mem_of_getElem? (i := 11) rfl)
    | 12, _ => exact h _ (List.mem_of_getElem? (i := 12) rfl)
    | 13, _ => exact h _ (List.mem_of_getElem? (i := 13) rfl)
    | 14, _ => exact h _ (List.mem_of_getElem? (i := 14) rfl)
    | 15, _ => exact h _ (List.mem_of_getElem? (i := 15) rfl)
    | q + 16, hq => exact absurd hq (by omega)
theorem ms_X10_act {Z : Zt} {d : Nat} {S : Sh} {μ : Mi} {ρ : Mr} {Rp : RT} (a0 : Nat) (x1 : Int32) (x2 : Int32) (x3 : Int32) (x4 : Int32) (h : ∀ G : Nat → PT, w_X10_act_0 (MS Z (d + 6)) G Rp [.ref a0, .int x1, .int x2, .int x3, .int x4] [] S (0, 0) μ ρ) : MS Z (d + 7) jX10_act [.ref a0, .int x1, .int x2, .int x3, .int x4] S μ ρ Rp :=
  MS_of [.ref a0, .int x1, .int x2, .int x3, .int x4] (by decide +kernel) rfl rfl (Nat.le_of_ble_eq_true rfl) rfl (fun p e R s m args below meth c C => b_X10_act_0 C _ _ _ _ _ _ (h _ ))
def F_X10_act : FT2 := fun As S μ ρ k => match As with
  | [.ref a, .int op, .int x, .int y, .int z] => S.2 a = (10, 6) ∧ ∃ (A t : Rw), RR A a S μ ρ ∧ Gd A ∧ t 0 = x ∧ t 1 = y ∧ t 2 = z ∧ ∀ (μ' : Mi) (ρ' : Mr), RR (aDo A op t).2 a S μ' ρ' → Ot a μ μ' → Orf a ρ ρ' → k (some (.int (aDo A op t).1)) μ' ρ'
  | _ => False
theorem r_X10_act {As S μ ρ k} (h : F_X10_act As S μ ρ k) : ∃ a As', As = Value.ref a :: As' ∧ S.2 a = (10, 6) := by
  unfold F_X10_act at h
  split at h
  · exact ⟨_, _, rfl, h.1⟩
  · exact h.elim
set_option maxHeartbeats 1000000 in
theorem f_X10_act {Z : Zt} {d : Nat} {As : List Value} {S : Sh} {μ : Mi} {ρ : Mr} {Rp : RT} (h : F_X10_act As S μ ρ (fun r μ' ρ' => Rp r S μ' ρ')) : MS Z (d + 7) jX10_act As S μ ρ Rp := by
  unfold F_X10_act at h
  split at h
  · rename_i a op x y z
    obtain ⟨a, hNa⟩ : ∃ n : Nat, n = a := ⟨a, rfl⟩
    subst hNa
    obtain ⟨h1, A, t, hR, hG, rfl, rfl, rfl, h⟩ := h
    refine ms_X10_act _ _ _ _ _ (fun G => ?_)
    unfold aDo at h
    simp only [w_X10_act_0, w_X10_act_80, w_X10_act_86, w_X10_act_92, w_X10_act_102, w_X10_act_112, w_X10_act_119, w_X10_act_126, w_X10_act_133, w_X10_act_139, w_X10_act_145, w_X10_act_151, w_X10_act_159, w_X10_act_167, w_X10_act_173, w_X10_act_179, w_X10_act_185, w_X10_act_191, tAload, tIload, nth, tGetI, tGetR, tConst, tLconst, tBin, tUn, tI2l, tAld, tAldR, tAlen, tIast, tBast, tZast, tAast, tIret, tZret, tVret, tAret, tIf, tIf2, tGoto, tIstore, tAstore, sset, tIinc, tDup, tDup2, tPop, tPutI, tPutZ, tPutR, tCallV, tCallS, popN, tFn, tCopy, tMax, tMin, tSw, swc, tRem, tObjI, Option.toList, List.nil_append, List.cons_append, okR, true_and, and_true, true_or, or_true, Nat.zero_le, ne_eq, not_false_eq_true, Nat.reduceEqDiff, tFn2, F_X10_timesOut, F_X10_beats, F_X10_proposes, F_X10_reads, F_X10_hands, F_X10_changes, F_X10_compacts, F_X10_stops, F_X10_starts, F_X10_links, F_X10_comes, F_X10_loses, F_X10_doubles, F_X10_settles, F_X10_takesCare, h1]
    exact ⟨fun c0 => ⟨A, hR, hG, fun μ' r o => by rw [if_pos c0] at h; exact h μ' ρ r o (fun _ _ => rfl)⟩, fun n0 => ⟨fun c1 => ⟨A, hR, hG, fun μ' r o => by rw [if_neg n0, if_pos c1] at h; exact h μ' ρ r o (fun _ _ => rfl)⟩, fun n1 => ⟨fun c2 => ⟨A, hR, hG, fun μ' r o => by rw [if_neg n0, if_neg n1, if_pos c2] at h; exact h μ' ρ r o (fun _ _ => rfl)⟩, fun n2 => ⟨fun c3 => ⟨A, hR, hG, fun μ' r o => by rw [if_neg n0, if_neg n1, if_neg n2, if_pos c3] at h; exact h μ' ρ r o (fun _ _ => rfl)⟩, fun n3 => ⟨fun c4 => ⟨A, hR, hG, fun μ' r o => by rw [if_neg n0, if_neg n1, if_neg n2, if_neg n3, if_pos c4] at h; exact h μ' ρ r o (fun _ _ => rfl)⟩, fun n4 => ⟨fun c5 => ⟨A, hR, hG, fun μ' r o => by rw [if_neg n0, if_neg n1, if_neg n2, if_neg n3, if_neg n4, if_pos c5] at h; exact h μ' ρ r o (fun _ _ => rfl)⟩, fun n5 => ⟨fun c6 => ⟨A, hR, hG, fun μ' r o => by rw [if_neg n0, if_neg n1, if_neg n2, if_neg n3, if_neg n4, if_neg n5, if_pos c6] at h; exact h μ' ρ r o (fun _ _ => rfl)⟩, fun n6 => ⟨fun c7 => ⟨A, hR, hG, fun μ' r o => by rw [if_neg n0, if_neg n1, if_neg n2, if_neg n3, if_neg n4, if_neg n5, if_neg n6, if_pos c7] at h; exact h μ' ρ r o (fun _ _ => rfl)⟩, fun n7 => ⟨fun c8 => ⟨A, hR, hG, fun μ' r o => by rw [if_neg n0, if_neg n1, if_neg n2, if_neg n3, if_neg n4, if_neg n5, if_neg n6, if_neg n7, if_pos c8] at h; exact h μ' ρ r o (fun _ _ => rfl)⟩, fun n8 => ⟨fun c9 => ⟨A, hR, hG, fun μ' r o => by rw [if_neg n0, if_neg n1, if_neg n2, if_neg n3, if_neg n4, if_neg n5, if_neg n6, if_neg n7, if_neg n8, if_pos c9] at h; exact h μ' ρ r o (fun _ _ => rfl)⟩, fun n9 => ⟨fun c10 => ⟨A, hR, hG, fun μ' r o => by rw [if_neg n0, if_neg n1, if_neg n2, if_neg n3, if_neg n4, if_neg n5, if_neg n6, if_neg n7, if_neg n8, if_neg n9, if_pos c10] at h; exact h μ' ρ r o (fun _ _ => rfl)⟩, fun n10 => ⟨fun c11 => ⟨A, hR, hG, fun μ' r o => by rw [if_neg n0, if_neg n1, if_neg n2, if_neg n3, if_neg n4, if_neg n5, if_neg n6, if_neg n7, if_neg n8, if_neg n9, if_neg n10, if_pos c11] at h; exact h μ' ρ r o (fun _ _ => rfl)⟩, fun n11 => ⟨fun c12 => ⟨A, hR, hG, fun μ' ρ' r o p => by rw [if_neg n0, if_neg n1, if_neg n2, if_neg n3, if_neg n4, if_neg n5, if_neg n6, if_neg n7, if_neg n8, if_neg n9, if_neg n10, if_neg n11, if_pos c12] at h; exact h μ' ρ' r o p⟩, fun n12 => ⟨fun c13 => ⟨A, hR, hG, fun μ' ρ' r o p => by rw [if_neg n0, if_neg n1, if_neg n2, if_neg n3, if_neg n4, if_neg n5, if_neg n6, if_neg n7, if_neg n8, if_neg n9, if_neg n10, if_neg n11, if_neg n12, if_pos c13] at h; exact h μ' ρ' r o p⟩, fun n13 => ⟨fun c14 => ⟨A, hR, hG, fun μ' r o => by rw [if_neg n0, if_neg n1, if_neg n2, if_neg n3, if_neg n4, if_neg n5, if_neg n6, if_neg n7, if_neg n8, if_neg n9, if_neg n10, if_neg n11, if_neg n12, if_neg n13, if_pos c14] at h; exact h μ' ρ r o (fun _ _ => rfl)⟩, fun n14 => ⟨fun c15 => ⟨A, hR, hG, fun μ' ρ' r o p => by rw [if_neg n0, if_neg n1, if_neg n2, if_neg n3, if_neg n4, if_neg n5, if_neg n6, if_neg n7, if_neg n8, if_neg n9, if_neg n10, if_neg n11, if_neg n12, if_neg n13, if_neg n14, if_pos c15] at h; exact h μ' ρ' r o p⟩, fun n15 => ⟨A, hR, hG, fun μ' r o => by rw [if_neg n0, if_neg n1, if_neg n2, if_neg n3, if_neg n4, if_neg n5, if_neg n6, if_neg n7, if_neg n8, if_neg n9, if_neg n10, if_neg n11, if_neg n12, if_neg n13, if_neg n14, if_neg n15] at h; exact h μ' ρ r o (fun _ _ => rfl)⟩⟩⟩⟩⟩⟩⟩⟩⟩⟩⟩⟩⟩⟩⟩⟩⟩
  · exact h.elim
def apn (a b : Nat) : Prop := a ≠ b
def kp1 (a : Nat) (μ μ' : Mi) : Prop := ∀ y : Nat, y ≠ a → μ' y = μ y
def w_X5_copyFrom_0 (M : CT) (G : Nat → PT) (Rp : RT) : PT := tAload 0 <| tAload 1 <| tGetI 5 4 0 <| tPutI 5 4 0 <| tAload 0 <| tAload 1 <| tGetI 5 4 1 <| tPutI 5 4 1 <| tAload 0 <| tAload 1 <| tGetI 5 4 2 <| tPutI 5 4 2 <| tAload 0 <| tAload 1 <| tGetI 5 4 3 <| tPutI 5 4 3 <| tVret Rp
set_option maxRecDepth 20000 in
theorem b_X5_copyFrom_0 {Z : Zt} {d : Nat} {p : Program} {e : Env} {R : Room} {s : State} {m : MethodId} {args : Array Value} {below : List Frame} {meth : Method} {c : Code} {Rp : RT} (C : Cx Z d jX5_copyFrom RX5 p R s m args meth c) : Sd Z jX5_copyFrom p e R s m args below meth c (MQ below (QcS Z Rp) args s 0 0 (fun a => Z.2.2.1 < a)) 0 (w_X5_copyFrom_0 (MS Z d) (Gw Z 2 p e R s m args below meth c (MQ below (QcS Z Rp) args s 0 0 (fun a => Z.2.2.1 < a))) Rp) := by
  unfold w_X5_copyFrom_0
  refine s_aload_n (k := 0) C (by decide +kernel) ?_
  refine s_aload_n (k := 1) C (by decide +kernel) ?_
  refine s_getI C w_1_194 (by decide +kernel) rfl ?_
  refine s_putI C w_1_194 (by decide +kernel) rfl (Or.inl rfl) ?_
  refine s_aload_n (k := 0) C (by decide +kernel) ?_
  refine s_aload_n (k := 1) C (by decide +kernel) ?_
  refine s_getI C w_1_198 (by decide +kernel) rfl ?_
  refine s_putI C w_1_198 (by decide +kernel) rfl (Or.inl rfl) ?_
  refine s_aload_n (k := 0) C (by decide +kernel) ?_
  refine s_aload_n (k := 1) C (by decide +kernel) ?_
  refine s_getI C w_1_202 (by decide +kernel) rfl ?_
  refine s_putI C w_1_202 (by decide +kernel) rfl (Or.inl rfl) ?_
  refine s_aload_n (k := 0) C (by decide +kernel) ?_
  refine s_aload_n (k := 1) C (by decide +kernel) ?_
  refine s_getI C w_1_206 (by decide +kernel) rfl ?_
  refine s_putI C w_1_206 (by decide +kernel) rfl (Or.inl rfl) ?_
  exact s_vret C rfl (by decide +kernel)
theorem ms_X5_copyFrom {Z : Zt} {d : Nat} {S : Sh} {μ : Mi} {ρ : Mr} {Rp : RT} (a0 : Nat) (a1 : Nat) (h : ∀ G : Nat → PT, w_X5_copyFrom_0 (MS Z d) G Rp [.ref a0, .ref a1] [] S (0, 0) μ ρ) : MS Z (d + 1) jX5_copyFrom [.ref a0, .ref a1] S μ ρ Rp :=
  MS_of [.ref a0, .ref a1] (by decide +kernel) rfl rfl (Nat.le_of_ble_eq_true rfl) rfl (fun p e R s m args below meth c C => b_X5_copyFrom_0 C _ _ _ _ _ _ (h _ ))
def F_X5_copyFrom : FT := fun As S μ ρ k => match As with
  | [.ref a, .ref b] => S.2 a = (5, 4) ∧ S.2 b = (5, 4) ∧ apn a b ∧ ∀ μ', (∀ i, i < 4 → μ' a i = μ b i) → kp1 a μ μ' → k none μ'
  | _ => False
theorem r_X5_copyFrom {As S μ ρ k} (h : F_X5_copyFrom As S μ ρ k) : ∃ a As', As = Value.ref a :: As' ∧ S.2 a = (5, 4) := by
  unfold F_X5_copyFrom at h
  split at h
  · exact ⟨_, _, rfl, h.1⟩
  · exact h.elim
set_option maxHeartbeats 1000000 in
theorem f_X5_copyFrom {Z : Zt} {d : Nat} {As : List Value} {S : Sh} {μ : Mi} {ρ : Mr} {Rp : RT} (h : F_X5_copyFrom As S μ ρ (fun r μ' => Rp r S μ' ρ)) : MS Z (d + 1) jX5_copyFrom As S μ ρ Rp := by
  unfold F_X5_copyFrom at h
  split at h
  · rename_i a b
    obtain ⟨a, hNa⟩ : ∃ n : Nat, n = a := ⟨a, rfl⟩
    subst hNa
    obtain ⟨b, hNb⟩ : ∃ n : Nat, n = b := ⟨b, rfl⟩
    subst hNb
    obtain ⟨h1, h2, hp, h⟩ := h
    unfold apn at hp
    refine ms_X5_copyFrom _ _ (fun G => ?_)
    simp only [w_X5_copyFrom_0, tAload, tIload, nth, tGetI, tGetR, tConst, tLconst, tBin, tUn, tI2l, tAld, tAldR, tAlen, tIast, tBast, tZast, tAast, tIret, tZret, tVret, tAret, tIf, tIf2, tGoto, tIstore, tAstore, sset, tIinc, tDup, tDup2, tPop, tPutI, tPutZ, tPutR, tCallV, tCallS, popN, tFn, tCopy, tMax, tMin, tSw, swc, tRem, tObjI, Option.toList, List.nil_append, List.cons_append, okR, true_and, and_true, true_or, or_true, Nat.zero_le, ne_eq, not_false_eq_true, Nat.reduceEqDiff, h1, h2]
    simp (disch := omega) only [upI_ne]
    refine h _ (fun i hi => ?_) (fun y y1 => ?_)
    · rcases (by omega : i = 0 ∨ i = 1 ∨ i = 2 ∨ i = 3) with z | z | z | z <;> subst z <;> simp (disch := omega) only [upI_k, upI_at]
    · rw [upI_ne y1, upI_ne y1, upI_ne y1, upI_ne y1]
  · exact h.elim
def w_X6_copyFrom_0 (M : CT) (G : Nat → PT) (Rp : RT) : PT := tAload 0 <| tAload 1 <| tGetI 6 5 0 <| tPutI 6 5 0 <| tAload 0 <| tAload 1 <| tGetI 6 5 1 <| tPutI 6 5 1 <| tAload 0 <| tAload 1 <| tGetI 6 5 2 <| tPutI 6 5 2 <| tAload 0 <| tAload 1 <| tGetI 6 5 3 <| tPutI 6 5 3 <| tAload 1 <| tGetR 6 5 4 <| tConst 0 <| tAload 0 <| tGetR 6 5 4 <| tConst 0 <| tConst 4 <| tCopy <| tVret Rp
set_option maxRecDepth 20000 in
theorem b_X6_copyFrom_0 {Z : Zt} {d : Nat} {p : Program} {e : Env} {R : Room} {s : State} {m : MethodId} {args : Array Value} {below : List Frame} {meth : Method} {c : Code} {Rp : RT} (C : Cx Z d jX6_copyFrom RX6 p R s m args meth c) : Sd Z jX6_copyFrom p e R s m args below meth c (MQ below (QcS Z Rp) args s 0 0 (fun a => Z.2.2.1 < a)) 0 (w_X6_copyFrom_0 (MS Z d) (Gw Z 2 p e R s m args below meth c (MQ below (QcS Z Rp) args s 0 0 (fun a => Z.2.2.1 < a))) Rp) := by
  unfold w_X6_copyFrom_0
  refine s_aload_n (k := 0) C (by decide +kernel) ?_
  refine s_aload_n (k := 1) C (by decide +kernel) ?_
  refine s_getI C w_1_160 (by decide +kernel) rfl ?_
  refine s_putI C w_1_160 (by decide +kernel) rfl (Or.inl rfl) ?_
  refine s_aload_n (k := 0) C (by decide +kernel) ?_
  refine s_aload_n (k := 1) C (by decide +kernel) ?_
  refine s_getI C w_1_164 (by decide +kernel) rfl ?_
  refine s_putI C w_1_164 (by decide +kernel) rfl (Or.inl rfl) ?_
  refine s_aload_n (k := 0) C (by decide +kernel) ?_
  refine s_aload_n (k := 1) C (by decide +kernel) ?_
  refine s_getI C w_1_168 (by decide +kernel) rfl ?_
  refine s_putI C w_1_168 (by decide +kernel) rfl (Or.inl rfl) ?_
  refine s_aload_n (k := 0) C (by decide +kernel) ?_
  refine s_aload_n (k := 1) C (by decide +kernel) ?_
  refine s_getI C w_1_171 (by decide +kernel) rfl ?_
  refine s_putI C w_1_171 (by decide +kernel) rfl (Or.inl rfl) ?_
  refine s_aload_n (k := 1) C (by decide +kernel) ?_
  refine s_getR C w_1_174 (by decide +kernel) rfl ?_
  refine s_iconst (n := 0) C (by decide +kernel) (by decide) ?_
  refine s_aload_n (k := 0) C (by decide +kernel) ?_
  refine s_getR C w_1_174 (by decide +kernel) rfl ?_
  refine s_iconst (n := 0) C (by decide +kernel) (by decide) ?_
  refine s_iconst (n := 4) C (by decide +kernel) (by decide) ?_
  refine s_copy C w_3_51 w_3_46 w_3_45 w_1_14 (by decide +kernel) ?_
  exact s_vret C rfl (by decide +kernel)
theorem ms_X6_copyFrom {Z : Zt} {d : Nat} {S : Sh} {μ : Mi} {ρ : Mr} {Rp : RT} (a0 : Nat) (a1 : Nat) (h : ∀ G : Nat → PT, w_X6_copyFrom_0 (MS Z d) G Rp [.ref a0, .ref a1] [] S (0, 0) μ ρ) : MS Z (d + 1) jX6_copyFrom [.ref a0, .ref a1] S μ ρ Rp :=
  MS_of [.ref a0, .ref a1] (by decide +kernel) rfl rfl (Nat.le_of_ble_eq_true rfl) rfl (fun p e R s m args below meth c C => b_X6_copyFrom_0 C _ _ _ _ _ _ (h _ ))
def F_X6_copyFrom : FT := fun As S μ ρ k => match As with
  | [.ref a, .ref b] => S.2 a = (6, 5) ∧ S.2 (a + 1) = (20, 4) ∧ ρ a 4 = a + 1 ∧ S.2 b = (6, 5) ∧ S.2 (b + 1) = (20, 4) ∧ ρ b 4 = b + 1 ∧ ap2 a b ∧ ∀ μ', (∀ i, i < 4 → μ' a i = μ b i) → (∀ i, i < 4 → μ' (a + 1) i = μ (b + 1) i) → kp2 a (a + 1) μ μ' → k none μ'
  | _ => False
theorem r_X6_copyFrom {As S μ ρ k} (h : F_X6_copyFrom As S μ ρ k) : ∃ a As', As = Value.ref a :: As' ∧ S.2 a = (6, 5) := by
  unfold F_X6_copyFrom at h
  split at h
  · exact ⟨_, _, rfl, h.1⟩
  · exact h.elim
set_option maxHeartbeats 1000000 in
theorem f_X6_copyFrom {Z : Zt} {d : Nat} {As : List Value} {S : Sh} {μ : Mi} {ρ : Mr} {Rp : RT} (h : F_X6_copyFrom As S μ ρ (fun r μ' => Rp r S μ' ρ)) : MS Z (d + 1) jX6_copyFrom As S μ ρ Rp := by
  unfold F_X6_copyFrom at h
  split at h
  · rename_i a b
    obtain ⟨a, hNa⟩ : ∃ n : Nat, n = a := ⟨a, rfl⟩
    subst hNa
    obtain ⟨b, hNb⟩ : ∃ n : Nat, n = b := ⟨b, rfl⟩
    subst hNb
    obtain ⟨h1, h2, h3, h4, h5, h6, hp, h⟩ := h
    unfold ap2 at hp
    refine ms_X6_copyFrom _ _ (fun G => ?_)
    simp only [w_X6_copyFrom_0, tAload, tIload, nth, tGetI, tGetR, tConst, tLconst, tBin, tUn, tI2l, tAld, tAldR, tAlen, tIast, tBast, tZast, tAast, tIret, tZret, tVret, tAret, tIf, tIf2, tGoto, tIstore, tAstore, sset, tIinc, tDup, tDup2, tPop, tPutI, tPutZ, tPutR, tCallV, tCallS, popN, tFn, tCopy, tMax, tMin, tSw, swc, tRem, tObjI, Option.toList, List.nil_append, List.cons_append, okR, true_and, and_true, true_or, or_true, Nat.zero_le, ne_eq, not_false_eq_true, Nat.reduceEqDiff, h1, h2, h3, h4, h5, h6]
    simp (disch := omega) only [upI_ne]
    refine ⟨by decide, by decide, by decide, by decide, by decide, h _ (fun i hi => ?_) (fun i hi => ?_) (fun y y1 y2 => ?_)⟩
    · rw [upF_ne (by omega)]
      rcases (by omega : i = 0 ∨ i = 1 ∨ i = 2 ∨ i = 3) with z | z | z | z <;> subst z <;> simp (disch := omega) only [upI_k, upI_at]
    · rw [upF_same, show (0 : Int32).toNatClampNeg = 0 from rfl, show (4 : Int32).toNatClampNeg = 4 from rfl, cpy_at hi, Nat.zero_add]
    · rw [upF_ne y2, upI_ne y1, upI_ne y1, upI_ne y1, upI_ne y1]
  · exact h.elim
/-- a store's rows are another's -/
def cpS (a b : Nat) (μ μ' : Mi) : Prop := (∀ i, 1 ≤ i → i < 12 → μ' a i = μ b i) ∧ (∀ i, i < 121 → μ' (a + 1) i = μ (b + 1) i) ∧ (∀ i, i < 4 → μ' (a + 2) i = μ (b + 2) i) ∧ (∀ i, i < 5 → μ' (a + 3) i = μ (b + 3) i) ∧ (∀ i, i < 5 → μ' (a + 4) i = μ (b + 4) i) ∧ (∀ i, i < 4 → μ' (a + 5) i = μ (b + 5) i) ∧ (∀ i, i < 4 → μ' (a + 6) i = μ (b + 6) i) ∧ (∀ i, i < 4 → μ' (a + 7) i = μ (b + 7) i) ∧ μ' a 0 = μ a 0
def ap8 (a b : Nat) : Prop := a + 8 ≤ b ∨ b + 8 ≤ a
def Fm8 (a : Nat) (μ μ' : Mi) : Prop := ∀ y : Nat, (y < a ∨ a + 8 ≤ y) → μ' y = μ y
def w_X7_copyFrom_134 (M : CT) (G : Nat → PT) (Rp : RT) : PT := tAload 1 <| tGetR 7 18 15 <| tConst 0 <| tAload 0 <| tGetR 7 18 15 <| tConst 0 <| tConst 5 <| tCopy <| tAload 0 <| tGetR 7 18 16 <| tAload 1 <| tGetR 7 18 16 <| tFn 2 F_X6_copyFrom <| tAload 0 <| tGetR 7 18 17 <| tAload 1 <| tGetR 7 18 17 <| tFn 2 F_X5_copyFrom <| tVret Rp
def w_X7_copyFrom_0 (M : CT) (G : Nat → PT) (Rp : RT) : PT := tAload 0 <| tAload 1 <| tGetI 7 18 1 <| tPutZ 7 18 1 <| tAload 0 <| tAload 1 <| tGetI 7 18 2 <| tPutI 7 18 2 <| tAload 0 <| tAload 1 <| tGetI 7 18 3 <| tPutI 7 18 3 <| tAload 0 <| tAload 1 <| tGetI 7 18 4 <| tPutI 7 18 4 <| tAload 0 <| tAload 1 <| tGetI 7 18 5 <| tPutI 7 18 5 <| tAload 0 <| tAload 1 <| tGetI 7 18 6 <| tPutI 7 18 6 <| tAload 0 <| tAload 1 <| tGetI 7 18 7 <| tPutI 7 18 7 <| tAload 0 <| tAload 1 <| tGetI 7 18 8 <| tPutI 7 18 8 <| tAload 0 <| tAload 1 <| tGetI 7 18 9 <| tPutI 7 18 9 <| tAload 0 <| tAload 1 <| tGetI 7 18 10 <| tPutI 7 18 10 <| tAload 0 <| tAload 1 <| tGetI 7 18 11 <| tPutI 7 18 11 <| tAload 1 <| tGetR 7 18 12 <| tConst 0 <| tAload 0 <| tGetR 7 18 12 <| tConst 0 <| tAload 0 <| tGetR 7 18 12 <| tAlen <| tCopy <| tAload 1 <| tGetR 7 18 13 <| tConst 0 <| tAload 0 <| tGetR 7 18 13 <| tConst 0 <| tConst 4 <| tCopy <| tAload 1 <| tGetR 7 18 14 <| tConst 0 <| tAload 0 <| tGetR 7 18 14 <| tConst 0 <| tConst 5 <| tCopy <| w_X7_copyFrom_134 M G Rp
set_option maxRecDepth 20000 in
theorem b_X7_copyFrom_134 {Z : Zt} {d : Nat} {p : Program} {e : Env} {R : Room} {s : State} {m : MethodId} {args : Array Value} {below : List Frame} {meth : Method} {c : Code} {Rp : RT} (C : Cx Z (d + 1) jX7_copyFrom RX7 p R s m args meth c) : Sd Z jX7_copyFrom p e R s m args below meth c (MQ below (QcS Z Rp) args s 0 0 (fun a => Z.2.2.1 < a)) 134 (w_X7_copyFrom_134 (MS Z (d + 1)) (Gw Z 2 p e R s m args below meth c (MQ below (QcS Z Rp) args s 0 0 (fun a => Z.2.2.1 < a))) Rp) := by
  unfold w_X7_copyFrom_134
  refine s_aload_n (k := 1) C (by decide +kernel) ?_
  refine s_getR C w_2_29 (by decide +kernel) rfl ?_
  refine s_iconst (n := 0) C (by decide +kernel) (by decide) ?_
  refine s_aload_n (k := 0) C (by decide +kernel) ?_
  refine s_getR C w_2_29 (by decide +kernel) rfl ?_
  refine s_iconst (n := 0) C (by decide +kernel) (by decide) ?_
  refine s_iconst (n := 5) C (by decide +kernel) (by decide) ?_
  refine s_copy C w_3_44 w_3_46 w_3_45 w_1_14 (by decide +kernel) ?_
  refine s_aload_n (k := 0) C (by decide +kernel) ?_
  refine s_getR C w_2_32 (by decide +kernel) rfl ?_
  refine s_aload_n (k := 1) C (by decide +kernel) ?_
  refine s_getR C w_2_32 (by decide +kernel) rfl ?_
  refine s_fnV C (j2 := jX6_copyFrom) (cl := 6) (nf := 5) rfl rfl (by decide +kernel) rfl w_3_47 w_3_48 w_3_49 w_1_6 w_3_50 (by decide +kernel) (fun _ _ _ _ _ h => f_X6_copyFrom h) (fun _ _ _ _ _ h => r_X6_copyFrom h) ?_
  refine s_aload_n (k := 0) C (by decide +kernel) ?_
  refine s_getR C w_2_35 (by decide +kernel) rfl ?_
  refine s_aload_n (k := 1) C (by decide +kernel) ?_
  refine s_getR C w_2_35 (by decide +kernel) rfl ?_
  refine s_fnV C (j2 := jX5_copyFrom) (cl := 5) (nf := 4) rfl rfl (by decide +kernel) rfl w_3_52 w_3_53 w_3_54 w_1_7 w_3_55 (by decide +kernel) (fun _ _ _ _ _ h => f_X5_copyFrom h) (fun _ _ _ _ _ h => r_X5_copyFrom h) ?_
  exact s_vret C rfl (by decide +kernel)
set_option maxRecDepth 20000 in
theorem b_X7_copyFrom_0 {Z : Zt} {d : Nat} {p : Program} {e : Env} {R : Room} {s : State} {m : MethodId} {args : Array Value} {below : List Frame} {meth : Method} {c : Code} {Rp : RT} (C : Cx Z (d + 1) jX7_copyFrom RX7 p R s m args meth c) : Sd Z jX7_copyFrom p e R s m args below meth c (MQ below (QcS Z Rp) args s 0 0 (fun a => Z.2.2.1 < a)) 0 (w_X7_copyFrom_0 (MS Z (d + 1)) (Gw Z 2 p e R s m args below meth c (MQ below (QcS Z Rp) args s 0 0 (fun a => Z.2.2.1 < a))) Rp) := by
  unfold w_X7_copyFrom_0
  refine s_aload_n (k := 0) C (by decide +kernel) ?_
  refine s_aload_n (k := 1) C (by decide +kernel) ?_
  refine s_getI C w_1_222 (by decide +kernel) rfl ?_
  refine s_putZ C w_1_222 (by decide +kernel) rfl (Or.inl rfl) ?_
  refine s_aload_n (k := 0) C (by decide +kernel) ?_
  refine s_aload_n (k := 1) C (by decide +kernel) ?_
  refine s_getI C w_1_225 (by decide +kernel) rfl ?_
  refine s_putI C w_1_225 (by decide +kernel) rfl (Or.inl rfl) ?_
  refine s_aload_n (k := 0) C (by decide +kernel) ?_
  refine s_aload_n (k := 1) C (by decide +kernel) ?_
  refine s_getI C w_1_228 (by decide +kernel) rfl ?_
  refine s_putI C w_1_228 (by decide +kernel) rfl (Or.inl rfl) ?_
  refine s_aload_n (k := 0) C (by decide +kernel) ?_
  refine s_aload_n (k := 1) C (by decide +kernel) ?_
  refine s_getI C w_1_231 (by decide +kernel) rfl ?_
  refine s_putI C w_1_231 (by decide +kernel) rfl (Or.inl rfl) ?_
  refine s_aload_n (k := 0) C (by decide +kernel) ?_
  refine s_aload_n (k := 1) C (by decide +kernel) ?_
  refine s_getI C w_1_236 (by decide +kernel) rfl ?_
  refine s_putI C w_1_236 (by decide +kernel) rfl (Or.inl rfl) ?_
  refine s_aload_n (k := 0) C (by decide +kernel) ?_
  refine s_aload_n (k := 1) C (by decide +kernel) ?_
  refine s_getI C w_1_239 (by decide +kernel) rfl ?_
  refine s_putI C w_1_239 (by decide +kernel) rfl (Or.inl rfl) ?_
  refine s_aload_n (k := 0) C (by decide +kernel) ?_
  refine s_aload_n (k := 1) C (by decide +kernel) ?_
  refine s_getI C w_2_2 (by decide +kernel) rfl ?_
  refine s_putI C w_2_2 (by decide +kernel) rfl (Or.inl rfl) ?_
  refine s_aload_n (k := 0) C (by decide +kernel) ?_
  refine s_aload_n (k := 1) C (by decide +kernel) ?_
  refine s_getI C w_2_6 (by decide +kernel) rfl ?_
  refine s_putI C w_2_6 (by decide +kernel) rfl (Or.inl rfl) ?_
  refine s_aload_n (k := 0) C (by decide +kernel) ?_
  refine s_aload_n (k := 1) C (by decide +kernel) ?_
  refine s_getI C w_2_10 (by decide +kernel) rfl ?_
  refine s_putI C w_2_10 (by decide +kernel) rfl (Or.inl rfl) ?_
  refine s_aload_n (k := 0) C (by decide +kernel) ?_
  refine s_aload_n (k := 1) C (by decide +kernel) ?_
  refine s_getI C w_2_13 (by decide +kernel) rfl ?_
  refine s_putI C w_2_13 (by decide +kernel) rfl (Or.inl rfl) ?_
  refine s_aload_n (k := 0) C (by decide +kernel) ?_
  refine s_aload_n (k := 1) C (by decide +kernel) ?_
  refine s_getI C w_2_17 (by decide +kernel) rfl ?_
  refine s_putI C w_2_17 (by decide +kernel) rfl (Or.inl rfl) ?_
  refine s_aload_n (k := 1) C (by decide +kernel) ?_
  refine s_getR C w_2_20 (by decide +kernel) rfl ?_
  refine s_iconst (n := 0) C (by decide +kernel) (by decide) ?_
  refine s_aload_n (k := 0) C (by decide +kernel) ?_
  refine s_getR C w_2_20 (by decide +kernel) rfl ?_
  refine s_iconst (n := 0) C (by decide +kernel) (by decide) ?_
  refine s_aload_n (k := 0) C (by decide +kernel) ?_
  refine s_getR C w_2_20 (by decide +kernel) rfl ?_
  refine s_alen C (by decide +kernel) ?_
  refine s_copy C w_3_44 w_3_46 w_3_45 w_1_14 (by decide +kernel) ?_
  refine s_aload_n (k := 1) C (by decide +kernel) ?_
  refine s_getR C w_2_23 (by decide +kernel) rfl ?_
  refine s_iconst (n := 0) C (by decide +kernel) (by decide) ?_
  refine s_aload_n (k := 0) C (by decide +kernel) ?_
  refine s_getR C w_2_23 (by decide +kernel) rfl ?_
  refine s_iconst (n := 0) C (by decide +kernel) (by decide) ?_
  refine s_iconst (n := 4) C (by decide +kernel) (by decide) ?_
  refine s_copy C w_3_44 w_3_46 w_3_45 w_1_14 (by decide +kernel) ?_
  refine s_aload_n (k := 1) C (by decide +kernel) ?_
  refine s_getR C w_2_26 (by decide +kernel) rfl ?_
  refine s_iconst (n := 0) C (by decide +kernel) (by decide) ?_
  refine s_aload_n (k := 0) C (by decide +kernel) ?_
  refine s_getR C w_2_26 (by decide +kernel) rfl ?_
  refine s_iconst (n := 0) C (by decide +kernel) (by decide) ?_
  refine s_iconst (n := 5) C (by decide +kernel) (by decide) ?_
  refine s_copy C w_3_44 w_3_46 w_3_45 w_1_14 (by decide +kernel) ?_
  exact (b_X7_copyFrom_134 C)
theorem ms_X7_copyFrom {Z : Zt} {d : Nat} {S : Sh} {μ : Mi} {ρ : Mr} {Rp : RT} (a0 : Nat) (a1 : Nat) (h : ∀ G : Nat → PT, w_X7_copyFrom_0 (MS Z (d + 1)) G Rp [.ref a0, .ref a1] [] S (0, 0) μ ρ) : MS Z (d + 2) jX7_copyFrom [.ref a0, .ref a1] S μ ρ Rp :=
  MS_of [.ref a0, .ref a1] (by decide +kernel) rfl rfl (Nat.le_of_ble_eq_true rfl) rfl (fun p e R s m args below meth c C => b_X7_copyFrom_0 C _ _ _ _ _ _ (h _ ))
def F_X7_copyFrom : FT := fun As S μ ρ k => match As with
  | [.ref a, .ref b] => S.2 a = (7, 18) ∧ StS S ρ a ∧ S.2 b = (7, 18) ∧ StS S ρ b ∧ ap8 a b ∧ (μ b 1 = 0 ∨ μ b 1 = 1) ∧ ∀ μ', cpS a b μ μ' → Fm8 a μ μ' → k none μ'
  | _ => False
theorem r_X7_copyFrom {As S μ ρ k} (h : F_X7_copyFrom As S μ ρ k) : ∃ a As', As = Value.ref a :: As' ∧ S.2 a = (7, 18) := by
  unfold F_X7_copyFrom at h
  split at h
  · exact ⟨_, _, rfl, h.1⟩
  · exact h.elim
set_option maxHeartbeats 1000000 in
theorem f_X7_copyFrom {Z : Zt} {d : Nat} {As : List Value} {S : Sh} {μ : Mi} {ρ : Mr} {Rp : RT} (h : F_X7_copyFrom As S μ ρ (fun r μ' => Rp r S μ' ρ)) : MS Z (d + 2) jX7_copyFrom As S μ ρ Rp := by
  unfold F_X7_copyFrom at h
  split at h
  · rename_i a b
    obtain ⟨a, hNa⟩ : ∃ n : Nat, n = a := ⟨a, rfl⟩
    subst hNa
    obtain ⟨b, hNb⟩ : ∃ n : Nat, n = b := ⟨b, rfl⟩
    subst hNb
    obtain ⟨h1, h2, h3, h4, hp, hu, h⟩ := h
    unfold ap8 at hp
    unfold StS at h2 h4
    refine ms_X7_copyFrom _ _ (fun G => ?_)
    have key : ∀ ν : Mi, (∀ i, 1 ≤ i → i < 12 → ν a i = μ b i) → ν a 0 = μ a 0 → (∀ i, i < 121 → ν (a + 1) i = μ (b + 1) i) → (∀ i, i < 4 → ν (a + 2) i = μ (b + 2) i) → (∀ i, i < 5 → ν (a + 3) i = μ (b + 3) i) → (∀ y : Nat, y ≠ a → y ≠ a + 1 → y ≠ a + 2 → y ≠ a + 3 → ν y = μ y) → w_X7_copyFrom_134 (MS Z (d + 1)) G Rp [.ref a, .ref b] [] S (0, 0) ν ρ := by
      intro ν k0 k00 k1 k2 k3 k4
      simp only [w_X7_copyFrom_134, tAload, tIload, nth, tGetI, tGetR, tConst, tLconst, tBin, tUn, tI2l, tAld, tAldR, tAlen, tIast, tBast, tZast, tAast, tIret, tZret, tVret, tAret, tIf, tIf2, tGoto, tIstore, tAstore, sset, tIinc, tDup, tDup2, tPop, tPutI, tPutZ, tPutR, tCallV, tCallS, popN, tFn, tCopy, tMax, tMin, tSw, swc, tRem, tObjI, Option.toList, List.nil_append, List.cons_append, okR, true_and, and_true, true_or, or_true, Nat.zero_le, ne_eq, not_false_eq_true, Nat.reduceEqDiff, F_X6_copyFrom, F_X5_copyFrom, h1, h2, h3, h4]
      refine ⟨by decide, by decide, by decide, by decide, by decide, by unfold ap2; omega, fun μ1 q1 q2 q3 => ⟨by unfold apn; omega, fun μ2 p1 p2 => h μ2 ⟨fun i i1 i2 => ?_, fun i hi => ?_, fun i hi => ?_, fun i hi => ?_, fun i hi => ?_, fun i hi => ?_, fun i hi => ?_, fun i hi => ?_, ?_⟩ (fun y hy => ?_)⟩⟩
      · rw [p2 _ (by omega), q3 _ (by omega) (by omega), upF_ne (by omega)]; exact k0 i i1 i2
      · rw [p2 _ (by omega), q3 _ (by omega) (by omega), upF_ne (by omega)]; exact k1 i hi
      · rw [p2 _ (by omega), q3 _ (by omega) (by omega), upF_ne (by omega)]; exact k2 i hi
      · rw [p2 _ (by omega), q3 _ (by omega) (by omega), upF_ne (by omega)]; exact k3 i hi
      · rw [p2 _ (by omega), q3 _ (by omega) (by omega), upF_same, show (0 : Int32).toNatClampNeg = 0 from rfl, show (5 : Int32).toNatClampNeg = 5 from rfl, cpy_at hi, Nat.zero_add, k4 _ (by omega) (by omega) (by omega) (by omega)]
      · rw [p2 _ (by omega), q1 i hi, upF_ne (by omega), k4 _ (by omega) (by omega) (by omega) (by omega)]
      · rw [p2 _ (by omega), q2 i hi, upF_ne (by omega), k4 _ (by omega) (by omega) (by omega) (by omega)]
      · rw [p1 i hi, q3 _ (by omega) (by omega), upF_ne (by omega), k4 _ (by omega) (by omega) (by omega) (by omega)]
      · rw [p2 _ (by omega), q3 _ (by omega) (by omega), upF_ne (by omega)]; exact k00
      · rw [p2 _ (by omega), q3 _ (by omega) (by omega), upF_ne (by omega), k4 _ (by omega) (by omega) (by omega) (by omega)]
    simp only [w_X7_copyFrom_0, tAload, tIload, nth, tGetI, tGetR, tConst, tLconst, tBin, tUn, tI2l, tAld, tAldR, tAlen, tIast, tBast, tZast, tAast, tIret, tZret, tVret, tAret, tIf, tIf2, tGoto, tIstore, tAstore, sset, tIinc, tDup, tDup2, tPop, tPutI, tPutZ, tPutR, tCallV, tCallS, popN, tFn, tCopy, tMax, tMin, tSw, swc, tRem, tObjI, Option.toList, List.nil_append, List.cons_append, okR, true_and, and_true, true_or, or_true, Nat.zero_le, ne_eq, not_false_eq_true, Nat.reduceEqDiff, h1, h2, h3, h4]
    simp (disch := omega) only [upI_ne, upF_ne]
    have z0 : (0 : Int32).toNatClampNeg = 0 := rfl
    have z121 : (Int32.ofNat 121).toNatClampNeg = 121 := by decide
    have z4 : (4 : Int32).toNatClampNeg = 4 := rfl
    have z5 : (5 : Int32).toNatClampNeg = 5 := rfl
    simp only [z0, z121, z4, z5]
    refine ⟨hu, by decide, by decide, by decide, by decide, by decide, by decide, by decide, by decide, by decide, by decide, by decide, by decide, by decide, by decide, by decide, by decide, key _ (fun i i1 i2 => ?_) ?_ (fun i hi => ?_) (fun i hi => ?_) (fun i hi => ?_) (fun y y1 y2 y3 y4 => ?_)⟩
    · rw [upF_ne (by omega), upF_ne (by omega), upF_ne (by omega)]
      rcases (by omega : i = 1 ∨ i = 2 ∨ i = 3 ∨ i = 4 ∨ i = 5 ∨ i = 6 ∨ i = 7 ∨ i = 8 ∨ i = 9 ∨ i = 10 ∨ i = 11) with z | z | z | z | z | z | z | z | z | z | z <;> subst z <;> simp (disch := omega) only [upI_k, upI_at]
    · rw [upF_ne (by omega), upF_ne (by omega), upF_ne (by omega)]
      simp (disch := omega) only [upI_k]
    · rw [upF_ne (by omega), upF_ne (by omega), upF_same, cpy_at hi, Nat.zero_add]
    · rw [upF_ne (by omega), upF_same, cpy_at hi, Nat.zero_add]
    · rw [upF_same, cpy_at hi, Nat.zero_add]
    · rw [upF_ne y4, upF_ne y3, upF_ne y2]
      simp (disch := omega) only [upI_ne]
  · exact h.elim
/-- what is alike of one world is alike of its copy -/
theorem St_copy {A : Rw} {s x y : Nat} {μ μ' : Mi} (h : St A s y μ) (hc : cpS x y μ μ') (hi : μ x 0 = nI s) : St A s x μ' := by
  obtain ⟨h1, h2, h3, h5, h6⟩ := h
  obtain ⟨c0, c1, c2, c3, c4, c5, c6, c7, c8⟩ := hc
  refine ⟨?_, h2, ⟨?_, ?_, ?_⟩, ?_, ?_⟩
  · unfold StA at *
    rw [c8, hi, c0 1 (by omega) (by omega), c0 2 (by omega) (by omega), c0 3 (by omega) (by omega), c0 4 (by omega) (by omega), c0 5 (by omega) (by omega), c0 6 (by omega) (by omega), c0 7 (by omega) (by omega), c0 8 (by omega) (by omega), c5 0 (by omega), c5 1 (by omega), c5 3 (by omega), c7 0 (by omega), c7 1 (by omega), c7 2 (by omega), c7 3 (by omega)]
    exact ⟨rfl, h1.2⟩
  · intro i hi; rw [c2 i hi]; exact h3.1 i hi
  · intro i hi; rw [c6 i hi]; exact h3.2.1 i hi
  · rw [c5 2 (by omega)]; exact h3.2.2
  · intro p p1 p2
    have hp : p < 121 := by
      obtain ⟨l, l1, l2, -, l3⟩ := rg_ex h2.2.1
      rw [l1, nI_clamp l2] at p2
      omega
    rw [c1 p hp]
    exact h5 p p1 p2
  · unfold StQ at *
    rw [c0 9 (by omega) (by omega), c0 10 (by omega) (by omega), c0 11 (by omega) (by omega)]
    exact h6
